theorem dX0_init_0 : decode cX0_init 0 = .ok (.aload_n 0, 1) := by decide +kernel
theorem dX0_init_1 : decode cX0_init 1 = .ok (.iload_n 1, 1) := by decide +kernel
theorem dX0_init_2 : decode cX0_init 2 = .ok (.iload_n 2, 1) := by decide +kernel
theorem dX0_init_3 : decode cX0_init 3 = .ok (.invokespecial 1, 3) := by decide +kernel
theorem dX0_init_6 : decode cX0_init 6 = .ok (.return_, 1) := by decide +kernel
theorem dX0_kind_0 : decode cX0_kind 0 = .ok (.iconst 1, 1) := by decide +kernel
theorem dX0_kind_1 : decode cX0_kind 1 = .ok (.ireturn, 1) := by decide +kernel
theorem dX0_minutes_0 : decode cX0_minutes 0 = .ok (.aload_n 0, 1) := by decide +kernel
theorem dX0_minutes_1 : decode cX0_minutes 1 = .ok (.invokespecial 7, 3) := by decide +kernel
theorem dX0_minutes_4 : decode cX0_minutes 4 = .ok (.iconst 2, 1) := by decide +kernel
theorem dX0_minutes_5 : decode cX0_minutes 5 = .ok (.idiv, 1) := by decide +kernel
theorem dX0_minutes_6 : decode cX0_minutes 6 = .ok (.iconst 1, 1) := by decide +kernel
theorem dX0_minutes_7 : decode cX0_minutes 7 = .ok (.iadd, 1) := by decide +kernel
theorem dX0_minutes_8 : decode cX0_minutes 8 = .ok (.ireturn, 1) := by decide +kernel
theorem dX0_needs_0 : decode cX0_needs 0 = .ok (.aload_n 1, 1) := by decide +kernel
theorem dX0_needs_1 : decode cX0_needs 1 = .ok (.bipush 20, 2) := by decide +kernel
theorem dX0_needs_3 : decode cX0_needs 3 = .ok (.invokevirtual 11, 3) := by decide +kernel
theorem dX0_needs_6 : decode cX0_needs 6 = .ok (.ifCond .eq 17, 3) := by decide +kernel
theorem dX0_needs_9 : decode cX0_needs 9 = .ok (.aload_n 0, 1) := by decide +kernel
theorem dX0_needs_10 : decode cX0_needs 10 = .ok (.aload_n 1, 1) := by decide +kernel
theorem dX0_needs_11 : decode cX0_needs 11 = .ok (.iload_n 2, 1) := by decide +kernel
theorem dX0_needs_12 : decode cX0_needs 12 = .ok (.invokespecial 17, 3) := by decide +kernel
theorem dX0_needs_15 : decode cX0_needs 15 = .ok (.aload_n 0, 1) := by decide +kernel
theorem dX0_needs_16 : decode cX0_needs 16 = .ok (.getfield 21, 3) := by decide +kernel
theorem dX0_needs_19 : decode cX0_needs 19 = .ok (.isub, 1) := by decide +kernel
theorem dX0_needs_20 : decode cX0_needs 20 = .ok (.goto 4, 3) := by decide +kernel
theorem dX0_needs_23 : decode cX0_needs 23 = .ok (.iconst 0, 1) := by decide +kernel
theorem dX0_needs_24 : decode cX0_needs 24 = .ok (.ireturn, 1) := by decide +kernel
theorem dX1_init_0 : decode cX1_init 0 = .ok (.aload_n 0, 1) := by decide +kernel
theorem dX1_init_1 : decode cX1_init 1 = .ok (.iload_n 1, 1) := by decide +kernel
theorem dX1_init_2 : decode cX1_init 2 = .ok (.iload_n 2, 1) := by decide +kernel
theorem dX1_init_3 : decode cX1_init 3 = .ok (.invokespecial 1, 3) := by decide +kernel
theorem dX1_init_6 : decode cX1_init 6 = .ok (.return_, 1) := by decide +kernel
theorem dX1_kind_0 : decode cX1_kind 0 = .ok (.iconst 4, 1) := by decide +kernel
theorem dX1_kind_1 : decode cX1_kind 1 = .ok (.ireturn, 1) := by decide +kernel
theorem dX1_alone_0 : decode cX1_alone 0 = .ok (.iconst 1, 1) := by decide +kernel
theorem dX1_alone_1 : decode cX1_alone 1 = .ok (.ireturn, 1) := by decide +kernel
theorem dX1_sings_0 : decode cX1_sings 0 = .ok (.aload_n 1, 1) := by decide +kernel
theorem dX1_sings_1 : decode cX1_sings 1 = .ok (.bipush 40, 2) := by decide +kernel
theorem dX1_sings_3 : decode cX1_sings 3 = .ok (.invokevirtual 7, 3) := by decide +kernel
theorem dX1_sings_6 : decode cX1_sings 6 = .ok (.ifCond .eq 14, 3) := by decide +kernel
theorem dX1_sings_9 : decode cX1_sings 9 = .ok (.iconst 0, 1) := by decide +kernel
theorem dX1_sings_10 : decode cX1_sings 10 = .ok (.aload_n 0, 1) := by decide +kernel
theorem dX1_sings_11 : decode cX1_sings 11 = .ok (.aload_n 1, 1) := by decide +kernel
theorem dX1_sings_12 : decode cX1_sings 12 = .ok (.iload_n 2, 1) := by decide +kernel
theorem dX1_sings_13 : decode cX1_sings 13 = .ok (.invokespecial 13, 3) := by decide +kernel
theorem dX1_sings_16 : decode cX1_sings 16 = .ok (.isub, 1) := by decide +kernel
theorem dX1_sings_17 : decode cX1_sings 17 = .ok (.goto 4, 3) := by decide +kernel
theorem dX1_sings_20 : decode cX1_sings 20 = .ok (.iconst 0, 1) := by decide +kernel
theorem dX1_sings_21 : decode cX1_sings 21 = .ok (.ireturn, 1) := by decide +kernel
theorem dX1_needs_0 : decode cX1_needs 0 = .ok (.aload_n 1, 1) := by decide +kernel
theorem dX1_needs_1 : decode cX1_needs 1 = .ok (.bipush 41, 2) := by decide +kernel
theorem dX1_needs_3 : decode cX1_needs 3 = .ok (.invokevirtual 7, 3) := by decide +kernel
theorem dX1_needs_6 : decode cX1_needs 6 = .ok (.ifCond .eq 22, 3) := by decide +kernel
theorem dX1_needs_9 : decode cX1_needs 9 = .ok (.aload_n 0, 1) := by decide +kernel
theorem dX1_needs_10 : decode cX1_needs 10 = .ok (.aload_n 1, 1) := by decide +kernel
theorem dX1_needs_11 : decode cX1_needs 11 = .ok (.iload_n 2, 1) := by decide +kernel
theorem dX1_needs_12 : decode cX1_needs 12 = .ok (.invokespecial 17, 3) := by decide +kernel
theorem dX1_needs_15 : decode cX1_needs 15 = .ok (.aload_n 0, 1) := by decide +kernel
theorem dX1_needs_16 : decode cX1_needs 16 = .ok (.aload_n 1, 1) := by decide +kernel
theorem dX1_needs_17 : decode cX1_needs 17 = .ok (.aload_n 0, 1) := by decide +kernel
theorem dX1_needs_18 : decode cX1_needs 18 = .ok (.getfield 20, 3) := by decide +kernel
theorem dX1_needs_21 : decode cX1_needs 21 = .ok (.invokevirtual 26, 3) := by decide +kernel
theorem dX1_needs_24 : decode cX1_needs 24 = .ok (.iadd, 1) := by decide +kernel
theorem dX1_needs_25 : decode cX1_needs 25 = .ok (.goto 4, 3) := by decide +kernel
theorem dX1_needs_28 : decode cX1_needs 28 = .ok (.iconst 0, 1) := by decide +kernel
theorem dX1_needs_29 : decode cX1_needs 29 = .ok (.ireturn, 1) := by decide +kernel
theorem dX2_init_0 : decode cX2_init 0 = .ok (.aload_n 0, 1) := by decide +kernel
theorem dX2_init_1 : decode cX2_init 1 = .ok (.iload_n 1, 1) := by decide +kernel
theorem dX2_init_2 : decode cX2_init 2 = .ok (.iload_n 2, 1) := by decide +kernel
theorem dX2_init_3 : decode cX2_init 3 = .ok (.invokespecial 1, 3) := by decide +kernel
theorem dX2_init_6 : decode cX2_init 6 = .ok (.return_, 1) := by decide +kernel
theorem dX2_kind_0 : decode cX2_kind 0 = .ok (.iconst 2, 1) := by decide +kernel
theorem dX2_kind_1 : decode cX2_kind 1 = .ok (.ireturn, 1) := by decide +kernel
theorem dX2_minutes_0 : decode cX2_minutes 0 = .ok (.aload_n 0, 1) := by decide +kernel
theorem dX2_minutes_1 : decode cX2_minutes 1 = .ok (.invokespecial 7, 3) := by decide +kernel
theorem dX2_minutes_4 : decode cX2_minutes 4 = .ok (.iconst 5, 1) := by decide +kernel
theorem dX2_minutes_5 : decode cX2_minutes 5 = .ok (.iadd, 1) := by decide +kernel
theorem dX2_minutes_6 : decode cX2_minutes 6 = .ok (.ireturn, 1) := by decide +kernel
theorem dX2_sings_0 : decode cX2_sings 0 = .ok (.aload_n 1, 1) := by decide +kernel
theorem dX2_sings_1 : decode cX2_sings 1 = .ok (.bipush 30, 2) := by decide +kernel
theorem dX2_sings_3 : decode cX2_sings 3 = .ok (.invokevirtual 11, 3) := by decide +kernel
theorem dX2_sings_6 : decode cX2_sings 6 = .ok (.ifCond .eq 14, 3) := by decide +kernel
theorem dX2_sings_9 : decode cX2_sings 9 = .ok (.aload_n 0, 1) := by decide +kernel
theorem dX2_sings_10 : decode cX2_sings 10 = .ok (.aload_n 1, 1) := by decide +kernel
theorem dX2_sings_11 : decode cX2_sings 11 = .ok (.iload_n 2, 1) := by decide +kernel
theorem dX2_sings_12 : decode cX2_sings 12 = .ok (.invokespecial 17, 3) := by decide +kernel
theorem dX2_sings_15 : decode cX2_sings 15 = .ok (.iconst 3, 1) := by decide +kernel
theorem dX2_sings_16 : decode cX2_sings 16 = .ok (.imul, 1) := by decide +kernel
theorem dX2_sings_17 : decode cX2_sings 17 = .ok (.goto 4, 3) := by decide +kernel
theorem dX2_sings_20 : decode cX2_sings 20 = .ok (.iconst 0, 1) := by decide +kernel
theorem dX2_sings_21 : decode cX2_sings 21 = .ok (.ireturn, 1) := by decide +kernel
theorem dX2_tells_0 : decode cX2_tells 0 = .ok (.aload_n 1, 1) := by decide +kernel
theorem dX2_tells_1 : decode cX2_tells 1 = .ok (.bipush 31, 2) := by decide +kernel
theorem dX2_tells_3 : decode cX2_tells 3 = .ok (.invokevirtual 11, 3) := by decide +kernel
theorem dX2_tells_6 : decode cX2_tells 6 = .ok (.ifCond .eq 22, 3) := by decide +kernel
theorem dX2_tells_9 : decode cX2_tells 9 = .ok (.aload_n 0, 1) := by decide +kernel
theorem dX2_tells_10 : decode cX2_tells 10 = .ok (.aload_n 1, 1) := by decide +kernel
theorem dX2_tells_11 : decode cX2_tells 11 = .ok (.iload_n 2, 1) := by decide +kernel
theorem dX2_tells_12 : decode cX2_tells 12 = .ok (.invokespecial 21, 3) := by decide +kernel
theorem dX2_tells_15 : decode cX2_tells 15 = .ok (.aload_n 0, 1) := by decide +kernel
theorem dX2_tells_16 : decode cX2_tells 16 = .ok (.aload_n 1, 1) := by decide +kernel
theorem dX2_tells_17 : decode cX2_tells 17 = .ok (.aload_n 0, 1) := by decide +kernel
theorem dX2_tells_18 : decode cX2_tells 18 = .ok (.getfield 24, 3) := by decide +kernel
theorem dX2_tells_21 : decode cX2_tells 21 = .ok (.invokevirtual 30, 3) := by decide +kernel
theorem dX2_tells_24 : decode cX2_tells 24 = .ok (.iadd, 1) := by decide +kernel
theorem dX2_tells_25 : decode cX2_tells 25 = .ok (.goto 4, 3) := by decide +kernel
theorem dX2_tells_28 : decode cX2_tells 28 = .ok (.iconst 0, 1) := by decide +kernel
theorem dX2_tells_29 : decode cX2_tells 29 = .ok (.ireturn, 1) := by decide +kernel
theorem dX3_init_0 : decode cX3_init 0 = .ok (.aload_n 0, 1) := by decide +kernel
theorem dX3_init_1 : decode cX3_init 1 = .ok (.invokespecial 3, 3) := by decide +kernel
theorem dX3_init_4 : decode cX3_init 4 = .ok (.aload_n 0, 1) := by decide +kernel
theorem dX3_init_5 : decode cX3_init 5 = .ok (.bipush 18, 2) := by decide +kernel
theorem dX3_init_7 : decode cX3_init 7 = .ok (.newarray .int, 2) := by decide +kernel
theorem dX3_init_9 : decode cX3_init 9 = .ok (.putfield 9, 3) := by decide +kernel
theorem dX3_init_12 : decode cX3_init 12 = .ok (.aload_n 0, 1) := by decide +kernel
theorem dX3_init_13 : decode cX3_init 13 = .ok (.bipush 92, 2) := by decide +kernel
theorem dX3_init_15 : decode cX3_init 15 = .ok (.newarray .int, 2) := by decide +kernel
theorem dX3_init_17 : decode cX3_init 17 = .ok (.putfield 15, 3) := by decide +kernel
theorem dX3_init_20 : decode cX3_init 20 = .ok (.aload_n 0, 1) := by decide +kernel
theorem dX3_init_21 : decode cX3_init 21 = .ok (.sipush 256, 3) := by decide +kernel
theorem dX3_init_24 : decode cX3_init 24 = .ok (.newarray .int, 2) := by decide +kernel
theorem dX3_init_26 : decode cX3_init 26 = .ok (.putfield 18, 3) := by decide +kernel
theorem dX3_init_29 : decode cX3_init 29 = .ok (.aload_n 0, 1) := by decide +kernel
theorem dX3_init_30 : decode cX3_init 30 = .ok (.sipush 256, 3) := by decide +kernel
theorem dX3_init_33 : decode cX3_init 33 = .ok (.newarray .int, 2) := by decide +kernel
theorem dX3_init_35 : decode cX3_init 35 = .ok (.putfield 21, 3) := by decide +kernel
theorem dX3_init_38 : decode cX3_init 38 = .ok (.aload_n 0, 1) := by decide +kernel
theorem dX3_init_39 : decode cX3_init 39 = .ok (.sipush 256, 3) := by decide +kernel
theorem dX3_init_42 : decode cX3_init 42 = .ok (.newarray .int, 2) := by decide +kernel
theorem dX3_init_44 : decode cX3_init 44 = .ok (.putfield 24, 3) := by decide +kernel
theorem dX3_init_47 : decode cX3_init 47 = .ok (.aload_n 0, 1) := by decide +kernel
theorem dX3_init_48 : decode cX3_init 48 = .ok (.sipush 256, 3) := by decide +kernel
theorem dX3_init_51 : decode cX3_init 51 = .ok (.newarray .int, 2) := by decide +kernel
theorem dX3_init_53 : decode cX3_init 53 = .ok (.putfield 27, 3) := by decide +kernel
theorem dX3_init_56 : decode cX3_init 56 = .ok (.aload_n 0, 1) := by decide +kernel
theorem dX3_init_57 : decode cX3_init 57 = .ok (.sipush 256, 3) := by decide +kernel
theorem dX3_init_60 : decode cX3_init 60 = .ok (.newarray .int, 2) := by decide +kernel
theorem dX3_init_62 : decode cX3_init 62 = .ok (.putfield 30, 3) := by decide +kernel
theorem dX3_init_65 : decode cX3_init 65 = .ok (.aload_n 0, 1) := by decide +kernel
theorem dX3_init_66 : decode cX3_init 66 = .ok (.sipush 256, 3) := by decide +kernel
theorem dX3_init_69 : decode cX3_init 69 = .ok (.newarray .int, 2) := by decide +kernel
theorem dX3_init_71 : decode cX3_init 71 = .ok (.putfield 33, 3) := by decide +kernel
theorem dX3_init_74 : decode cX3_init 74 = .ok (.aload_n 0, 1) := by decide +kernel
theorem dX3_init_75 : decode cX3_init 75 = .ok (.sipush 256, 3) := by decide +kernel
theorem dX3_init_78 : decode cX3_init 78 = .ok (.newarray .int, 2) := by decide +kernel
theorem dX3_init_80 : decode cX3_init 80 = .ok (.putfield 36, 3) := by decide +kernel
theorem dX3_init_83 : decode cX3_init 83 = .ok (.aload_n 0, 1) := by decide +kernel
theorem dX3_init_84 : decode cX3_init 84 = .ok (.bipush 8, 2) := by decide +kernel
theorem dX3_init_86 : decode cX3_init 86 = .ok (.newarray .int, 2) := by decide +kernel
theorem dX3_init_88 : decode cX3_init 88 = .ok (.putfield 39, 3) := by decide +kernel
theorem dX3_init_91 : decode cX3_init 91 = .ok (.aload_n 0, 1) := by decide +kernel
theorem dX3_init_92 : decode cX3_init 92 = .ok (.bipush 8, 2) := by decide +kernel
theorem dX3_init_94 : decode cX3_init 94 = .ok (.newarray .int, 2) := by decide +kernel
theorem dX3_init_96 : decode cX3_init 96 = .ok (.putfield 42, 3) := by decide +kernel
theorem dX3_init_99 : decode cX3_init 99 = .ok (.return_, 1) := by decide +kernel
theorem dX3_ask_0 : decode cX3_ask 0 = .ok (.aload_n 0, 1) := by decide +kernel
theorem dX3_ask_1 : decode cX3_ask 1 = .ok (.aload_n 1, 1) := by decide +kernel
theorem dX3_ask_2 : decode cX3_ask 2 = .ok (.invokevirtual 45, 3) := by decide +kernel
theorem dX3_ask_5 : decode cX3_ask 5 = .ok (.putfield 51, 3) := by decide +kernel
theorem dX3_ask_8 : decode cX3_ask 8 = .ok (.aload_n 0, 1) := by decide +kernel
theorem dX3_ask_9 : decode cX3_ask 9 = .ok (.aload_n 1, 1) := by decide +kernel
theorem dX3_ask_10 : decode cX3_ask 10 = .ok (.invokevirtual 55, 3) := by decide +kernel
theorem dX3_ask_13 : decode cX3_ask 13 = .ok (.putfield 58, 3) := by decide +kernel
theorem dX3_ask_16 : decode cX3_ask 16 = .ok (.aload_n 0, 1) := by decide +kernel
theorem dX3_ask_17 : decode cX3_ask 17 = .ok (.bipush 16, 2) := by decide +kernel
theorem dX3_ask_19 : decode cX3_ask 19 = .ok (.iload 4, 2) := by decide +kernel
theorem dX3_ask_21 : decode cX3_ask 21 = .ok (.invokevirtual 61, 3) := by decide +kernel
theorem dX3_ask_24 : decode cX3_ask 24 = .ok (.aload_n 0, 1) := by decide +kernel
theorem dX3_ask_25 : decode cX3_ask 25 = .ok (.bipush 17, 2) := by decide +kernel
theorem dX3_ask_27 : decode cX3_ask 27 = .ok (.aload_n 0, 1) := by decide +kernel
theorem dX3_ask_28 : decode cX3_ask 28 = .ok (.getfield 58, 3) := by decide +kernel
theorem dX3_ask_31 : decode cX3_ask 31 = .ok (.invokevirtual 61, 3) := by decide +kernel
theorem dX3_ask_34 : decode cX3_ask 34 = .ok (.ior, 1) := by decide +kernel
theorem dX3_ask_35 : decode cX3_ask 35 = .ok (.istore 5, 2) := by decide +kernel
theorem dX3_ask_37 : decode cX3_ask 37 = .ok (.iconst 0, 1) := by decide +kernel
theorem dX3_ask_38 : decode cX3_ask 38 = .ok (.istore 6, 2) := by decide +kernel
theorem dX3_ask_40 : decode cX3_ask 40 = .ok (.iload 6, 2) := by decide +kernel
theorem dX3_ask_42 : decode cX3_ask 42 = .ok (.bipush 8, 2) := by decide +kernel
theorem dX3_ask_44 : decode cX3_ask 44 = .ok (.if_icmp .ge 121, 3) := by decide +kernel
theorem dX3_ask_47 : decode cX3_ask 47 = .ok (.aload_n 1, 1) := by decide +kernel
theorem dX3_ask_48 : decode cX3_ask 48 = .ok (.iload 6, 2) := by decide +kernel
theorem dX3_ask_50 : decode cX3_ask 50 = .ok (.invokevirtual 65, 3) := by decide +kernel
theorem dX3_ask_53 : decode cX3_ask 53 = .ok (.astore 7, 2) := by decide +kernel
theorem dX3_ask_55 : decode cX3_ask 55 = .ok (.aload 7, 2) := by decide +kernel
theorem dX3_ask_57 : decode cX3_ask 57 = .ok (.ifnull 15, 3) := by decide +kernel
theorem dX3_ask_60 : decode cX3_ask 60 = .ok (.aload 7, 2) := by decide +kernel
theorem dX3_ask_62 : decode cX3_ask 62 = .ok (.getfield 69, 3) := by decide +kernel
theorem dX3_ask_65 : decode cX3_ask 65 = .ok (.ifCond .eq 7, 3) := by decide +kernel
theorem dX3_ask_68 : decode cX3_ask 68 = .ok (.iconst 1, 1) := by decide +kernel
theorem dX3_ask_69 : decode cX3_ask 69 = .ok (.goto 4, 3) := by decide +kernel
theorem dX3_ask_72 : decode cX3_ask 72 = .ok (.iconst 0, 1) := by decide +kernel
theorem dX3_ask_73 : decode cX3_ask 73 = .ok (.istore 8, 2) := by decide +kernel
theorem dX3_ask_75 : decode cX3_ask 75 = .ok (.iload 8, 2) := by decide +kernel
theorem dX3_ask_77 : decode cX3_ask 77 = .ok (.ifCond .eq 17, 3) := by decide +kernel
theorem dX3_ask_80 : decode cX3_ask 80 = .ok (.iload_n 2, 1) := by decide +kernel
theorem dX3_ask_81 : decode cX3_ask 81 = .ok (.iload 6, 2) := by decide +kernel
theorem dX3_ask_83 : decode cX3_ask 83 = .ok (.ishr, 1) := by decide +kernel
theorem dX3_ask_84 : decode cX3_ask 84 = .ok (.iconst 1, 1) := by decide +kernel
theorem dX3_ask_85 : decode cX3_ask 85 = .ok (.iand, 1) := by decide +kernel
theorem dX3_ask_86 : decode cX3_ask 86 = .ok (.iconst 1, 1) := by decide +kernel
theorem dX3_ask_87 : decode cX3_ask 87 = .ok (.if_icmp .ne 7, 3) := by decide +kernel
theorem dX3_ask_90 : decode cX3_ask 90 = .ok (.iconst 1, 1) := by decide +kernel
theorem dX3_ask_91 : decode cX3_ask 91 = .ok (.goto 4, 3) := by decide +kernel
theorem dX3_ask_94 : decode cX3_ask 94 = .ok (.iconst 0, 1) := by decide +kernel
theorem dX3_ask_95 : decode cX3_ask 95 = .ok (.istore 9, 2) := by decide +kernel
theorem dX3_ask_97 : decode cX3_ask 97 = .ok (.iload 5, 2) := by decide +kernel
theorem dX3_ask_99 : decode cX3_ask 99 = .ok (.aload_n 0, 1) := by decide +kernel
theorem dX3_ask_100 : decode cX3_ask 100 = .ok (.iload 6, 2) := by decide +kernel
theorem dX3_ask_102 : decode cX3_ask 102 = .ok (.iload 8, 2) := by decide +kernel
theorem dX3_ask_104 : decode cX3_ask 104 = .ok (.ifCond .eq 11, 3) := by decide +kernel
theorem dX3_ask_107 : decode cX3_ask 107 = .ok (.aload 7, 2) := by decide +kernel
theorem dX3_ask_109 : decode cX3_ask 109 = .ok (.invokevirtual 74, 3) := by decide +kernel
theorem dX3_ask_112 : decode cX3_ask 112 = .ok (.goto 4, 3) := by decide +kernel
theorem dX3_ask_115 : decode cX3_ask 115 = .ok (.iconst 0, 1) := by decide +kernel
theorem dX3_ask_116 : decode cX3_ask 116 = .ok (.invokevirtual 61, 3) := by decide +kernel
theorem dX3_ask_119 : decode cX3_ask 119 = .ok (.ior, 1) := by decide +kernel
theorem dX3_ask_120 : decode cX3_ask 120 = .ok (.istore 5, 2) := by decide +kernel
theorem dX3_ask_122 : decode cX3_ask 122 = .ok (.iload 5, 2) := by decide +kernel
theorem dX3_ask_124 : decode cX3_ask 124 = .ok (.aload_n 0, 1) := by decide +kernel
theorem dX3_ask_125 : decode cX3_ask 125 = .ok (.bipush 8, 2) := by decide +kernel
theorem dX3_ask_127 : decode cX3_ask 127 = .ok (.iload 6, 2) := by decide +kernel
theorem dX3_ask_129 : decode cX3_ask 129 = .ok (.iadd, 1) := by decide +kernel
theorem dX3_ask_130 : decode cX3_ask 130 = .ok (.iload 9, 2) := by decide +kernel
theorem dX3_ask_132 : decode cX3_ask 132 = .ok (.ifCond .ne 7, 3) := by decide +kernel
theorem dX3_ask_135 : decode cX3_ask 135 = .ok (.iconst (-1), 1) := by decide +kernel
theorem dX3_ask_136 : decode cX3_ask 136 = .ok (.goto 17, 3) := by decide +kernel
theorem dX3_ask_139 : decode cX3_ask 139 = .ok (.iload_n 3, 1) := by decide +kernel
theorem dX3_ask_140 : decode cX3_ask 140 = .ok (.iconst (-1), 1) := by decide +kernel
theorem dX3_ask_141 : decode cX3_ask 141 = .ok (.if_icmp .ne 11, 3) := by decide +kernel
theorem dX3_ask_144 : decode cX3_ask 144 = .ok (.aload 7, 2) := by decide +kernel
theorem dX3_ask_146 : decode cX3_ask 146 = .ok (.getfield 76, 3) := by decide +kernel
theorem dX3_ask_149 : decode cX3_ask 149 = .ok (.goto 4, 3) := by decide +kernel
theorem dX3_ask_152 : decode cX3_ask 152 = .ok (.iload_n 3, 1) := by decide +kernel
theorem dX3_ask_153 : decode cX3_ask 153 = .ok (.invokevirtual 61, 3) := by decide +kernel
theorem dX3_ask_156 : decode cX3_ask 156 = .ok (.ior, 1) := by decide +kernel
theorem dX3_ask_157 : decode cX3_ask 157 = .ok (.istore 5, 2) := by decide +kernel
theorem dX3_ask_159 : decode cX3_ask 159 = .ok (.iinc 6 1, 3) := by decide +kernel
theorem dX3_ask_162 : decode cX3_ask 162 = .ok (.goto (-122), 3) := by decide +kernel
theorem dX3_ask_165 : decode cX3_ask 165 = .ok (.iload 5, 2) := by decide +kernel
theorem dX3_ask_167 : decode cX3_ask 167 = .ok (.ifCond .eq 9, 3) := by decide +kernel
theorem dX3_ask_170 : decode cX3_ask 170 = .ok (.aload_n 0, 1) := by decide +kernel
theorem dX3_ask_171 : decode cX3_ask 171 = .ok (.iload 4, 2) := by decide +kernel
theorem dX3_ask_173 : decode cX3_ask 173 = .ok (.invokevirtual 79, 3) := by decide +kernel
theorem dX3_ask_176 : decode cX3_ask 176 = .ok (.return_, 1) := by decide +kernel
theorem dX3_note_0 : decode cX3_note 0 = .ok (.aload_n 0, 1) := by decide +kernel
theorem dX3_note_1 : decode cX3_note 1 = .ok (.getfield 9, 3) := by decide +kernel
theorem dX3_note_4 : decode cX3_note 4 = .ok (.iload_n 1, 1) := by decide +kernel
theorem dX3_note_5 : decode cX3_note 5 = .ok (.iaload, 1) := by decide +kernel
theorem dX3_note_6 : decode cX3_note 6 = .ok (.iload_n 2, 1) := by decide +kernel
theorem dX3_note_7 : decode cX3_note 7 = .ok (.if_icmp .eq 7, 3) := by decide +kernel
theorem dX3_note_10 : decode cX3_note 10 = .ok (.iconst 1, 1) := by decide +kernel
theorem dX3_note_11 : decode cX3_note 11 = .ok (.goto 4, 3) := by decide +kernel
theorem dX3_note_14 : decode cX3_note 14 = .ok (.iconst 0, 1) := by decide +kernel
theorem dX3_note_15 : decode cX3_note 15 = .ok (.istore_n 3, 1) := by decide +kernel
theorem dX3_note_16 : decode cX3_note 16 = .ok (.aload_n 0, 1) := by decide +kernel
theorem dX3_note_17 : decode cX3_note 17 = .ok (.getfield 9, 3) := by decide +kernel
theorem dX3_note_20 : decode cX3_note 20 = .ok (.iload_n 1, 1) := by decide +kernel
theorem dX3_note_21 : decode cX3_note 21 = .ok (.iload_n 2, 1) := by decide +kernel
theorem dX3_note_22 : decode cX3_note 22 = .ok (.iastore, 1) := by decide +kernel
theorem dX3_note_23 : decode cX3_note 23 = .ok (.iload_n 3, 1) := by decide +kernel
theorem dX3_note_24 : decode cX3_note 24 = .ok (.ireturn, 1) := by decide +kernel
theorem dX3_reckon_0 : decode cX3_reckon 0 = .ok (.aload_n 0, 1) := by decide +kernel
theorem dX3_reckon_1 : decode cX3_reckon 1 = .ok (.invokevirtual 83, 3) := by decide +kernel
theorem dX3_reckon_4 : decode cX3_reckon 4 = .ok (.iconst 0, 1) := by decide +kernel
theorem dX3_reckon_5 : decode cX3_reckon 5 = .ok (.istore_n 2, 1) := by decide +kernel
theorem dX3_reckon_6 : decode cX3_reckon 6 = .ok (.iload_n 2, 1) := by decide +kernel
theorem dX3_reckon_7 : decode cX3_reckon 7 = .ok (.sipush 255, 3) := by decide +kernel
theorem dX3_reckon_10 : decode cX3_reckon 10 = .ok (.if_icmp .gt 26, 3) := by decide +kernel
theorem dX3_reckon_13 : decode cX3_reckon 13 = .ok (.iload_n 2, 1) := by decide +kernel
theorem dX3_reckon_14 : decode cX3_reckon 14 = .ok (.aload_n 0, 1) := by decide +kernel
theorem dX3_reckon_15 : decode cX3_reckon 15 = .ok (.getfield 51, 3) := by decide +kernel
theorem dX3_reckon_18 : decode cX3_reckon 18 = .ok (.iconst (-1), 1) := by decide +kernel
theorem dX3_reckon_19 : decode cX3_reckon 19 = .ok (.ixor, 1) := by decide +kernel
theorem dX3_reckon_20 : decode cX3_reckon 20 = .ok (.iand, 1) := by decide +kernel
theorem dX3_reckon_21 : decode cX3_reckon 21 = .ok (.ifCond .ne 9, 3) := by decide +kernel
theorem dX3_reckon_24 : decode cX3_reckon 24 = .ok (.aload_n 0, 1) := by decide +kernel
theorem dX3_reckon_25 : decode cX3_reckon 25 = .ok (.iload_n 2, 1) := by decide +kernel
theorem dX3_reckon_26 : decode cX3_reckon 26 = .ok (.iload_n 1, 1) := by decide +kernel
theorem dX3_reckon_27 : decode cX3_reckon 27 = .ok (.invokevirtual 86, 3) := by decide +kernel
theorem dX3_reckon_30 : decode cX3_reckon 30 = .ok (.iinc 2 1, 3) := by decide +kernel
theorem dX3_reckon_33 : decode cX3_reckon 33 = .ok (.goto (-27), 3) := by decide +kernel
theorem dX3_reckon_36 : decode cX3_reckon 36 = .ok (.return_, 1) := by decide +kernel
theorem dX3_listSongs_0 : decode cX3_listSongs 0 = .ok (.aload_n 0, 1) := by decide +kernel
theorem dX3_listSongs_1 : decode cX3_listSongs 1 = .ok (.iconst 0, 1) := by decide +kernel
theorem dX3_listSongs_2 : decode cX3_listSongs 2 = .ok (.putfield 90, 3) := by decide +kernel
theorem dX3_listSongs_5 : decode cX3_listSongs 5 = .ok (.iconst 1, 1) := by decide +kernel
theorem dX3_listSongs_6 : decode cX3_listSongs 6 = .ok (.istore_n 1, 1) := by decide +kernel
theorem dX3_listSongs_7 : decode cX3_listSongs 7 = .ok (.iload_n 1, 1) := by decide +kernel
theorem dX3_listSongs_8 : decode cX3_listSongs 8 = .ok (.sipush 255, 3) := by decide +kernel
theorem dX3_listSongs_11 : decode cX3_listSongs 11 = .ok (.if_icmp .gt 105, 3) := by decide +kernel
theorem dX3_listSongs_14 : decode cX3_listSongs 14 = .ok (.iload_n 1, 1) := by decide +kernel
theorem dX3_listSongs_15 : decode cX3_listSongs 15 = .ok (.aload_n 0, 1) := by decide +kernel
theorem dX3_listSongs_16 : decode cX3_listSongs 16 = .ok (.getfield 51, 3) := by decide +kernel
theorem dX3_listSongs_19 : decode cX3_listSongs 19 = .ok (.iconst (-1), 1) := by decide +kernel
theorem dX3_listSongs_20 : decode cX3_listSongs 20 = .ok (.ixor, 1) := by decide +kernel
theorem dX3_listSongs_21 : decode cX3_listSongs 21 = .ok (.iand, 1) := by decide +kernel
theorem dX3_listSongs_22 : decode cX3_listSongs 22 = .ok (.ifCond .ne 88, 3) := by decide +kernel
theorem dX3_listSongs_25 : decode cX3_listSongs 25 = .ok (.iload_n 1, 1) := by decide +kernel
theorem dX3_listSongs_26 : decode cX3_listSongs 26 = .ok (.invokestatic 93, 3) := by decide +kernel
theorem dX3_listSongs_29 : decode cX3_listSongs 29 = .ok (.istore_n 2, 1) := by decide +kernel
theorem dX3_listSongs_30 : decode cX3_listSongs 30 = .ok (.aload_n 0, 1) := by decide +kernel
theorem dX3_listSongs_31 : decode cX3_listSongs 31 = .ok (.getfield 18, 3) := by decide +kernel
theorem dX3_listSongs_34 : decode cX3_listSongs 34 = .ok (.iload_n 1, 1) := by decide +kernel
theorem dX3_listSongs_35 : decode cX3_listSongs 35 = .ok (.aload_n 0, 1) := by decide +kernel
theorem dX3_listSongs_36 : decode cX3_listSongs 36 = .ok (.getfield 18, 3) := by decide +kernel
theorem dX3_listSongs_39 : decode cX3_listSongs 39 = .ok (.iload_n 1, 1) := by decide +kernel
theorem dX3_listSongs_40 : decode cX3_listSongs 40 = .ok (.iconst 1, 1) := by decide +kernel
theorem dX3_listSongs_41 : decode cX3_listSongs 41 = .ok (.iload_n 2, 1) := by decide +kernel
theorem dX3_listSongs_42 : decode cX3_listSongs 42 = .ok (.ishl, 1) := by decide +kernel
theorem dX3_listSongs_43 : decode cX3_listSongs 43 = .ok (.iconst (-1), 1) := by decide +kernel
theorem dX3_listSongs_44 : decode cX3_listSongs 44 = .ok (.ixor, 1) := by decide +kernel
theorem dX3_listSongs_45 : decode cX3_listSongs 45 = .ok (.iand, 1) := by decide +kernel
theorem dX3_listSongs_46 : decode cX3_listSongs 46 = .ok (.iaload, 1) := by decide +kernel
theorem dX3_listSongs_47 : decode cX3_listSongs 47 = .ok (.aload_n 0, 1) := by decide +kernel
theorem dX3_listSongs_48 : decode cX3_listSongs 48 = .ok (.getfield 9, 3) := by decide +kernel
theorem dX3_listSongs_51 : decode cX3_listSongs 51 = .ok (.iload_n 2, 1) := by decide +kernel
theorem dX3_listSongs_52 : decode cX3_listSongs 52 = .ok (.iaload, 1) := by decide +kernel
theorem dX3_listSongs_53 : decode cX3_listSongs 53 = .ok (.invokestatic 99, 3) := by decide +kernel
theorem dX3_listSongs_56 : decode cX3_listSongs 56 = .ok (.iastore, 1) := by decide +kernel
theorem dX3_listSongs_57 : decode cX3_listSongs 57 = .ok (.aload_n 0, 1) := by decide +kernel
theorem dX3_listSongs_58 : decode cX3_listSongs 58 = .ok (.iload_n 1, 1) := by decide +kernel
theorem dX3_listSongs_59 : decode cX3_listSongs 59 = .ok (.invokevirtual 105, 3) := by decide +kernel
theorem dX3_listSongs_62 : decode cX3_listSongs 62 = .ok (.ifCond .eq 48, 3) := by decide +kernel
theorem dX3_listSongs_65 : decode cX3_listSongs 65 = .ok (.aload_n 0, 1) := by decide +kernel
theorem dX3_listSongs_66 : decode cX3_listSongs 66 = .ok (.getfield 90, 3) := by decide +kernel
theorem dX3_listSongs_69 : decode cX3_listSongs 69 = .ok (.bipush 92, 2) := by decide +kernel
theorem dX3_listSongs_71 : decode cX3_listSongs 71 = .ok (.if_icmp .ge 39, 3) := by decide +kernel
theorem dX3_listSongs_74 : decode cX3_listSongs 74 = .ok (.aload_n 0, 1) := by decide +kernel
theorem dX3_listSongs_75 : decode cX3_listSongs 75 = .ok (.getfield 21, 3) := by decide +kernel
theorem dX3_listSongs_78 : decode cX3_listSongs 78 = .ok (.iload_n 1, 1) := by decide +kernel
theorem dX3_listSongs_79 : decode cX3_listSongs 79 = .ok (.aload_n 0, 1) := by decide +kernel
theorem dX3_listSongs_80 : decode cX3_listSongs 80 = .ok (.aload_n 0, 1) := by decide +kernel
theorem dX3_listSongs_81 : decode cX3_listSongs 81 = .ok (.getfield 18, 3) := by decide +kernel
theorem dX3_listSongs_84 : decode cX3_listSongs 84 = .ok (.iload_n 1, 1) := by decide +kernel
theorem dX3_listSongs_85 : decode cX3_listSongs 85 = .ok (.iaload, 1) := by decide +kernel
theorem dX3_listSongs_86 : decode cX3_listSongs 86 = .ok (.invokevirtual 109, 3) := by decide +kernel
theorem dX3_listSongs_89 : decode cX3_listSongs 89 = .ok (.iastore, 1) := by decide +kernel
theorem dX3_listSongs_90 : decode cX3_listSongs 90 = .ok (.aload_n 0, 1) := by decide +kernel
theorem dX3_listSongs_91 : decode cX3_listSongs 91 = .ok (.getfield 15, 3) := by decide +kernel
theorem dX3_listSongs_94 : decode cX3_listSongs 94 = .ok (.aload_n 0, 1) := by decide +kernel
theorem dX3_listSongs_95 : decode cX3_listSongs 95 = .ok (.getfield 90, 3) := by decide +kernel
theorem dX3_listSongs_98 : decode cX3_listSongs 98 = .ok (.iload_n 1, 1) := by decide +kernel
theorem dX3_listSongs_99 : decode cX3_listSongs 99 = .ok (.iastore, 1) := by decide +kernel
theorem dX3_listSongs_100 : decode cX3_listSongs 100 = .ok (.aload_n 0, 1) := by decide +kernel
theorem dX3_listSongs_101 : decode cX3_listSongs 101 = .ok (.dup, 1) := by decide +kernel
theorem dX3_listSongs_102 : decode cX3_listSongs 102 = .ok (.getfield 90, 3) := by decide +kernel
theorem dX3_listSongs_105 : decode cX3_listSongs 105 = .ok (.iconst 1, 1) := by decide +kernel
theorem dX3_listSongs_106 : decode cX3_listSongs 106 = .ok (.iadd, 1) := by decide +kernel
theorem dX3_listSongs_107 : decode cX3_listSongs 107 = .ok (.putfield 90, 3) := by decide +kernel
theorem dX3_listSongs_110 : decode cX3_listSongs 110 = .ok (.iinc 1 1, 3) := by decide +kernel
theorem dX3_listSongs_113 : decode cX3_listSongs 113 = .ok (.goto (-106), 3) := by decide +kernel
theorem dX3_listSongs_116 : decode cX3_listSongs 116 = .ok (.return_, 1) := by decide +kernel
theorem dX3_isSungTo_0 : decode cX3_isSungTo 0 = .ok (.iload_n 1, 1) := by decide +kernel
theorem dX3_isSungTo_1 : decode cX3_isSungTo 1 = .ok (.invokestatic 112, 3) := by decide +kernel
theorem dX3_isSungTo_4 : decode cX3_isSungTo 4 = .ok (.istore_n 2, 1) := by decide +kernel
theorem dX3_isSungTo_5 : decode cX3_isSungTo 5 = .ok (.iload_n 2, 1) := by decide +kernel
theorem dX3_isSungTo_6 : decode cX3_isSungTo 6 = .ok (.iconst 1, 1) := by decide +kernel
theorem dX3_isSungTo_7 : decode cX3_isSungTo 7 = .ok (.if_icmp .eq 17, 3) := by decide +kernel
theorem dX3_isSungTo_10 : decode cX3_isSungTo 10 = .ok (.iload_n 2, 1) := by decide +kernel
theorem dX3_isSungTo_11 : decode cX3_isSungTo 11 = .ok (.iconst 3, 1) := by decide +kernel
theorem dX3_isSungTo_12 : decode cX3_isSungTo 12 = .ok (.if_icmp .gt 16, 3) := by decide +kernel
theorem dX3_isSungTo_15 : decode cX3_isSungTo 15 = .ok (.iload_n 1, 1) := by decide +kernel
theorem dX3_isSungTo_16 : decode cX3_isSungTo 16 = .ok (.aload_n 0, 1) := by decide +kernel
theorem dX3_isSungTo_17 : decode cX3_isSungTo 17 = .ok (.getfield 58, 3) := by decide +kernel
theorem dX3_isSungTo_20 : decode cX3_isSungTo 20 = .ok (.iand, 1) := by decide +kernel
theorem dX3_isSungTo_21 : decode cX3_isSungTo 21 = .ok (.ifCond .ne 7, 3) := by decide +kernel
theorem dX3_isSungTo_24 : decode cX3_isSungTo 24 = .ok (.iconst 1, 1) := by decide +kernel
theorem dX3_isSungTo_25 : decode cX3_isSungTo 25 = .ok (.goto 4, 3) := by decide +kernel
theorem dX3_isSungTo_28 : decode cX3_isSungTo 28 = .ok (.iconst 0, 1) := by decide +kernel
theorem dX3_isSungTo_29 : decode cX3_isSungTo 29 = .ok (.ireturn, 1) := by decide +kernel
theorem dX3_ableFor_0 : decode cX3_ableFor 0 = .ok (.iconst 0, 1) := by decide +kernel
theorem dX3_ableFor_1 : decode cX3_ableFor 1 = .ok (.istore_n 2, 1) := by decide +kernel
theorem dX3_ableFor_2 : decode cX3_ableFor 2 = .ok (.iconst 0, 1) := by decide +kernel
theorem dX3_ableFor_3 : decode cX3_ableFor 3 = .ok (.istore_n 3, 1) := by decide +kernel
theorem dX3_ableFor_4 : decode cX3_ableFor 4 = .ok (.iload_n 3, 1) := by decide +kernel
theorem dX3_ableFor_5 : decode cX3_ableFor 5 = .ok (.bipush 8, 2) := by decide +kernel
theorem dX3_ableFor_7 : decode cX3_ableFor 7 = .ok (.if_icmp .ge 28, 3) := by decide +kernel
theorem dX3_ableFor_10 : decode cX3_ableFor 10 = .ok (.aload_n 0, 1) := by decide +kernel
theorem dX3_ableFor_11 : decode cX3_ableFor 11 = .ok (.getfield 9, 3) := by decide +kernel
theorem dX3_ableFor_14 : decode cX3_ableFor 14 = .ok (.bipush 8, 2) := by decide +kernel
theorem dX3_ableFor_16 : decode cX3_ableFor 16 = .ok (.iload_n 3, 1) := by decide +kernel
theorem dX3_ableFor_17 : decode cX3_ableFor 17 = .ok (.iadd, 1) := by decide +kernel
theorem dX3_ableFor_18 : decode cX3_ableFor 18 = .ok (.iaload, 1) := by decide +kernel
theorem dX3_ableFor_19 : decode cX3_ableFor 19 = .ok (.iload_n 1, 1) := by decide +kernel
theorem dX3_ableFor_20 : decode cX3_ableFor 20 = .ok (.if_icmp .lt 9, 3) := by decide +kernel
theorem dX3_ableFor_23 : decode cX3_ableFor 23 = .ok (.iload_n 2, 1) := by decide +kernel
theorem dX3_ableFor_24 : decode cX3_ableFor 24 = .ok (.iconst 1, 1) := by decide +kernel
theorem dX3_ableFor_25 : decode cX3_ableFor 25 = .ok (.iload_n 3, 1) := by decide +kernel
theorem dX3_ableFor_26 : decode cX3_ableFor 26 = .ok (.ishl, 1) := by decide +kernel
theorem dX3_ableFor_27 : decode cX3_ableFor 27 = .ok (.ior, 1) := by decide +kernel
theorem dX3_ableFor_28 : decode cX3_ableFor 28 = .ok (.istore_n 2, 1) := by decide +kernel
theorem dX3_ableFor_29 : decode cX3_ableFor 29 = .ok (.iinc 3 1, 3) := by decide +kernel
theorem dX3_ableFor_32 : decode cX3_ableFor 32 = .ok (.goto (-28), 3) := by decide +kernel
theorem dX3_ableFor_35 : decode cX3_ableFor 35 = .ok (.iload_n 2, 1) := by decide +kernel
theorem dX3_ableFor_36 : decode cX3_ableFor 36 = .ok (.ireturn, 1) := by decide +kernel
theorem dX3_reckonSet_0 : decode cX3_reckonSet 0 = .ok (.iload_n 1, 1) := by decide +kernel
theorem dX3_reckonSet_1 : decode cX3_reckonSet 1 = .ok (.invokestatic 115, 3) := by decide +kernel
theorem dX3_reckonSet_4 : decode cX3_reckonSet 4 = .ok (.ifCond .eq 17, 3) := by decide +kernel
theorem dX3_reckonSet_7 : decode cX3_reckonSet 7 = .ok (.iload_n 1, 1) := by decide +kernel
theorem dX3_reckonSet_8 : decode cX3_reckonSet 8 = .ok (.ifCond .eq 9, 3) := by decide +kernel
theorem dX3_reckonSet_11 : decode cX3_reckonSet 11 = .ok (.iload_n 1, 1) := by decide +kernel
theorem dX3_reckonSet_12 : decode cX3_reckonSet 12 = .ok (.iload_n 2, 1) := by decide +kernel
theorem dX3_reckonSet_13 : decode cX3_reckonSet 13 = .ok (.iand, 1) := by decide +kernel
theorem dX3_reckonSet_14 : decode cX3_reckonSet 14 = .ok (.ifCond .eq 7, 3) := by decide +kernel
theorem dX3_reckonSet_17 : decode cX3_reckonSet 17 = .ok (.iconst 1, 1) := by decide +kernel
theorem dX3_reckonSet_18 : decode cX3_reckonSet 18 = .ok (.goto 4, 3) := by decide +kernel
theorem dX3_reckonSet_21 : decode cX3_reckonSet 21 = .ok (.iconst 0, 1) := by decide +kernel
theorem dX3_reckonSet_22 : decode cX3_reckonSet 22 = .ok (.istore_n 3, 1) := by decide +kernel
theorem dX3_reckonSet_23 : decode cX3_reckonSet 23 = .ok (.aload_n 0, 1) := by decide +kernel
theorem dX3_reckonSet_24 : decode cX3_reckonSet 24 = .ok (.getfield 24, 3) := by decide +kernel
theorem dX3_reckonSet_27 : decode cX3_reckonSet 27 = .ok (.iload_n 1, 1) := by decide +kernel
theorem dX3_reckonSet_28 : decode cX3_reckonSet 28 = .ok (.iload_n 3, 1) := by decide +kernel
theorem dX3_reckonSet_29 : decode cX3_reckonSet 29 = .ok (.ifCond .eq 7, 3) := by decide +kernel
theorem dX3_reckonSet_32 : decode cX3_reckonSet 32 = .ok (.iconst 0, 1) := by decide +kernel
theorem dX3_reckonSet_33 : decode cX3_reckonSet 33 = .ok (.goto 5, 3) := by decide +kernel
theorem dX3_reckonSet_36 : decode cX3_reckonSet 36 = .ok (.ldc 118, 2) := by decide +kernel
theorem dX3_reckonSet_38 : decode cX3_reckonSet 38 = .ok (.iastore, 1) := by decide +kernel
theorem dX3_reckonSet_39 : decode cX3_reckonSet 39 = .ok (.aload_n 0, 1) := by decide +kernel
theorem dX3_reckonSet_40 : decode cX3_reckonSet 40 = .ok (.getfield 27, 3) := by decide +kernel
theorem dX3_reckonSet_43 : decode cX3_reckonSet 43 = .ok (.iload_n 1, 1) := by decide +kernel
theorem dX3_reckonSet_44 : decode cX3_reckonSet 44 = .ok (.iconst 0, 1) := by decide +kernel
theorem dX3_reckonSet_45 : decode cX3_reckonSet 45 = .ok (.iastore, 1) := by decide +kernel
theorem dX3_reckonSet_46 : decode cX3_reckonSet 46 = .ok (.aload_n 0, 1) := by decide +kernel
theorem dX3_reckonSet_47 : decode cX3_reckonSet 47 = .ok (.getfield 30, 3) := by decide +kernel
theorem dX3_reckonSet_50 : decode cX3_reckonSet 50 = .ok (.iload_n 1, 1) := by decide +kernel
theorem dX3_reckonSet_51 : decode cX3_reckonSet 51 = .ok (.iload_n 3, 1) := by decide +kernel
theorem dX3_reckonSet_52 : decode cX3_reckonSet 52 = .ok (.ifCond .eq 7, 3) := by decide +kernel
theorem dX3_reckonSet_55 : decode cX3_reckonSet 55 = .ok (.iconst 1, 1) := by decide +kernel
theorem dX3_reckonSet_56 : decode cX3_reckonSet 56 = .ok (.goto 4, 3) := by decide +kernel
theorem dX3_reckonSet_59 : decode cX3_reckonSet 59 = .ok (.iconst 0, 1) := by decide +kernel
theorem dX3_reckonSet_60 : decode cX3_reckonSet 60 = .ok (.iastore, 1) := by decide +kernel
theorem dX3_reckonSet_61 : decode cX3_reckonSet 61 = .ok (.aload_n 0, 1) := by decide +kernel
theorem dX3_reckonSet_62 : decode cX3_reckonSet 62 = .ok (.getfield 33, 3) := by decide +kernel
theorem dX3_reckonSet_65 : decode cX3_reckonSet 65 = .ok (.iload_n 1, 1) := by decide +kernel
theorem dX3_reckonSet_66 : decode cX3_reckonSet 66 = .ok (.iload_n 3, 1) := by decide +kernel
theorem dX3_reckonSet_67 : decode cX3_reckonSet 67 = .ok (.ifCond .eq 7, 3) := by decide +kernel
theorem dX3_reckonSet_70 : decode cX3_reckonSet 70 = .ok (.iload_n 1, 1) := by decide +kernel
theorem dX3_reckonSet_71 : decode cX3_reckonSet 71 = .ok (.goto 4, 3) := by decide +kernel
theorem dX3_reckonSet_74 : decode cX3_reckonSet 74 = .ok (.iconst 0, 1) := by decide +kernel
theorem dX3_reckonSet_75 : decode cX3_reckonSet 75 = .ok (.iastore, 1) := by decide +kernel
theorem dX3_reckonSet_76 : decode cX3_reckonSet 76 = .ok (.aload_n 0, 1) := by decide +kernel
theorem dX3_reckonSet_77 : decode cX3_reckonSet 77 = .ok (.getfield 36, 3) := by decide +kernel
theorem dX3_reckonSet_80 : decode cX3_reckonSet 80 = .ok (.iload_n 1, 1) := by decide +kernel
theorem dX3_reckonSet_81 : decode cX3_reckonSet 81 = .ok (.aload_n 0, 1) := by decide +kernel
theorem dX3_reckonSet_82 : decode cX3_reckonSet 82 = .ok (.getfield 33, 3) := by decide +kernel
theorem dX3_reckonSet_85 : decode cX3_reckonSet 85 = .ok (.iload_n 1, 1) := by decide +kernel
theorem dX3_reckonSet_86 : decode cX3_reckonSet 86 = .ok (.iaload, 1) := by decide +kernel
theorem dX3_reckonSet_87 : decode cX3_reckonSet 87 = .ok (.iastore, 1) := by decide +kernel
theorem dX3_reckonSet_88 : decode cX3_reckonSet 88 = .ok (.iload_n 1, 1) := by decide +kernel
theorem dX3_reckonSet_89 : decode cX3_reckonSet 89 = .ok (.invokestatic 115, 3) := by decide +kernel
theorem dX3_reckonSet_92 : decode cX3_reckonSet 92 = .ok (.ifCond .eq 4, 3) := by decide +kernel
theorem dX3_reckonSet_95 : decode cX3_reckonSet 95 = .ok (.return_, 1) := by decide +kernel
theorem dX3_reckonSet_96 : decode cX3_reckonSet 96 = .ok (.iconst 0, 1) := by decide +kernel
theorem dX3_reckonSet_97 : decode cX3_reckonSet 97 = .ok (.istore 4, 2) := by decide +kernel
theorem dX3_reckonSet_99 : decode cX3_reckonSet 99 = .ok (.iload 4, 2) := by decide +kernel
theorem dX3_reckonSet_101 : decode cX3_reckonSet 101 = .ok (.aload_n 0, 1) := by decide +kernel
theorem dX3_reckonSet_102 : decode cX3_reckonSet 102 = .ok (.getfield 90, 3) := by decide +kernel
theorem dX3_reckonSet_105 : decode cX3_reckonSet 105 = .ok (.if_icmp .ge 46, 3) := by decide +kernel
theorem dX3_reckonSet_108 : decode cX3_reckonSet 108 = .ok (.aload_n 0, 1) := by decide +kernel
theorem dX3_reckonSet_109 : decode cX3_reckonSet 109 = .ok (.getfield 15, 3) := by decide +kernel
theorem dX3_reckonSet_112 : decode cX3_reckonSet 112 = .ok (.iload 4, 2) := by decide +kernel
theorem dX3_reckonSet_114 : decode cX3_reckonSet 114 = .ok (.iaload, 1) := by decide +kernel
theorem dX3_reckonSet_115 : decode cX3_reckonSet 115 = .ok (.iload_n 1, 1) := by decide +kernel
theorem dX3_reckonSet_116 : decode cX3_reckonSet 116 = .ok (.if_icmp .ge 35, 3) := by decide +kernel
theorem dX3_reckonSet_119 : decode cX3_reckonSet 119 = .ok (.aload_n 0, 1) := by decide +kernel
theorem dX3_reckonSet_120 : decode cX3_reckonSet 120 = .ok (.getfield 15, 3) := by decide +kernel
theorem dX3_reckonSet_123 : decode cX3_reckonSet 123 = .ok (.iload 4, 2) := by decide +kernel
theorem dX3_reckonSet_125 : decode cX3_reckonSet 125 = .ok (.iaload, 1) := by decide +kernel
theorem dX3_reckonSet_126 : decode cX3_reckonSet 126 = .ok (.iload_n 1, 1) := by decide +kernel
theorem dX3_reckonSet_127 : decode cX3_reckonSet 127 = .ok (.iconst (-1), 1) := by decide +kernel
theorem dX3_reckonSet_128 : decode cX3_reckonSet 128 = .ok (.ixor, 1) := by decide +kernel
theorem dX3_reckonSet_129 : decode cX3_reckonSet 129 = .ok (.iand, 1) := by decide +kernel
theorem dX3_reckonSet_130 : decode cX3_reckonSet 130 = .ok (.ifCond .ne 15, 3) := by decide +kernel
theorem dX3_reckonSet_133 : decode cX3_reckonSet 133 = .ok (.aload_n 0, 1) := by decide +kernel
theorem dX3_reckonSet_134 : decode cX3_reckonSet 134 = .ok (.iload_n 1, 1) := by decide +kernel
theorem dX3_reckonSet_135 : decode cX3_reckonSet 135 = .ok (.aload_n 0, 1) := by decide +kernel
theorem dX3_reckonSet_136 : decode cX3_reckonSet 136 = .ok (.getfield 15, 3) := by decide +kernel
theorem dX3_reckonSet_139 : decode cX3_reckonSet 139 = .ok (.iload 4, 2) := by decide +kernel
theorem dX3_reckonSet_141 : decode cX3_reckonSet 141 = .ok (.iaload, 1) := by decide +kernel
theorem dX3_reckonSet_142 : decode cX3_reckonSet 142 = .ok (.invokevirtual 119, 3) := by decide +kernel
theorem dX3_reckonSet_145 : decode cX3_reckonSet 145 = .ok (.iinc 4 1, 3) := by decide +kernel
theorem dX3_reckonSet_148 : decode cX3_reckonSet 148 = .ok (.goto (-49), 3) := by decide +kernel
theorem dX3_reckonSet_151 : decode cX3_reckonSet 151 = .ok (.return_, 1) := by decide +kernel
theorem dX3_weigh_0 : decode cX3_weigh 0 = .ok (.iload_n 1, 1) := by decide +kernel
theorem dX3_weigh_1 : decode cX3_weigh 1 = .ok (.iload_n 2, 1) := by decide +kernel
theorem dX3_weigh_2 : decode cX3_weigh 2 = .ok (.iconst (-1), 1) := by decide +kernel
theorem dX3_weigh_3 : decode cX3_weigh 3 = .ok (.ixor, 1) := by decide +kernel
theorem dX3_weigh_4 : decode cX3_weigh 4 = .ok (.iand, 1) := by decide +kernel
theorem dX3_weigh_5 : decode cX3_weigh 5 = .ok (.istore_n 3, 1) := by decide +kernel
theorem dX3_weigh_6 : decode cX3_weigh 6 = .ok (.aload_n 0, 1) := by decide +kernel
theorem dX3_weigh_7 : decode cX3_weigh 7 = .ok (.getfield 21, 3) := by decide +kernel
theorem dX3_weigh_10 : decode cX3_weigh 10 = .ok (.iload_n 2, 1) := by decide +kernel
theorem dX3_weigh_11 : decode cX3_weigh 11 = .ok (.iaload, 1) := by decide +kernel
theorem dX3_weigh_12 : decode cX3_weigh 12 = .ok (.iload_n 3, 1) := by decide +kernel
theorem dX3_weigh_13 : decode cX3_weigh 13 = .ok (.iand, 1) := by decide +kernel
theorem dX3_weigh_14 : decode cX3_weigh 14 = .ok (.invokestatic 112, 3) := by decide +kernel
theorem dX3_weigh_17 : decode cX3_weigh 17 = .ok (.istore 4, 2) := by decide +kernel
theorem dX3_weigh_19 : decode cX3_weigh 19 = .ok (.iload 4, 2) := by decide +kernel
theorem dX3_weigh_21 : decode cX3_weigh 21 = .ok (.ifCond .eq 14, 3) := by decide +kernel
theorem dX3_weigh_24 : decode cX3_weigh 24 = .ok (.aload_n 0, 1) := by decide +kernel
theorem dX3_weigh_25 : decode cX3_weigh 25 = .ok (.getfield 24, 3) := by decide +kernel
theorem dX3_weigh_28 : decode cX3_weigh 28 = .ok (.iload_n 3, 1) := by decide +kernel
theorem dX3_weigh_29 : decode cX3_weigh 29 = .ok (.iaload, 1) := by decide +kernel
theorem dX3_weigh_30 : decode cX3_weigh 30 = .ok (.ldc 118, 2) := by decide +kernel
theorem dX3_weigh_32 : decode cX3_weigh 32 = .ok (.if_icmp .ne 4, 3) := by decide +kernel
theorem dX3_weigh_35 : decode cX3_weigh 35 = .ok (.return_, 1) := by decide +kernel
theorem dX3_weigh_36 : decode cX3_weigh 36 = .ok (.aload_n 0, 1) := by decide +kernel
theorem dX3_weigh_37 : decode cX3_weigh 37 = .ok (.getfield 36, 3) := by decide +kernel
theorem dX3_weigh_40 : decode cX3_weigh 40 = .ok (.iload_n 1, 1) := by decide +kernel
theorem dX3_weigh_41 : decode cX3_weigh 41 = .ok (.dup2, 1) := by decide +kernel
theorem dX3_weigh_42 : decode cX3_weigh 42 = .ok (.iaload, 1) := by decide +kernel
theorem dX3_weigh_43 : decode cX3_weigh 43 = .ok (.aload_n 0, 1) := by decide +kernel
theorem dX3_weigh_44 : decode cX3_weigh 44 = .ok (.getfield 36, 3) := by decide +kernel
theorem dX3_weigh_47 : decode cX3_weigh 47 = .ok (.iload_n 3, 1) := by decide +kernel
theorem dX3_weigh_48 : decode cX3_weigh 48 = .ok (.iaload, 1) := by decide +kernel
theorem dX3_weigh_49 : decode cX3_weigh 49 = .ok (.ior, 1) := by decide +kernel
theorem dX3_weigh_50 : decode cX3_weigh 50 = .ok (.iastore, 1) := by decide +kernel
theorem dX3_weigh_51 : decode cX3_weigh 51 = .ok (.aload_n 0, 1) := by decide +kernel
theorem dX3_weigh_52 : decode cX3_weigh 52 = .ok (.getfield 18, 3) := by decide +kernel
theorem dX3_weigh_55 : decode cX3_weigh 55 = .ok (.iload_n 2, 1) := by decide +kernel
theorem dX3_weigh_56 : decode cX3_weigh 56 = .ok (.iaload, 1) := by decide +kernel
theorem dX3_weigh_57 : decode cX3_weigh 57 = .ok (.aload_n 0, 1) := by decide +kernel
theorem dX3_weigh_58 : decode cX3_weigh 58 = .ok (.getfield 24, 3) := by decide +kernel
theorem dX3_weigh_61 : decode cX3_weigh 61 = .ok (.iload_n 3, 1) := by decide +kernel
theorem dX3_weigh_62 : decode cX3_weigh 62 = .ok (.iaload, 1) := by decide +kernel
theorem dX3_weigh_63 : decode cX3_weigh 63 = .ok (.iadd, 1) := by decide +kernel
theorem dX3_weigh_64 : decode cX3_weigh 64 = .ok (.istore 5, 2) := by decide +kernel
theorem dX3_weigh_66 : decode cX3_weigh 66 = .ok (.iload 5, 2) := by decide +kernel
theorem dX3_weigh_68 : decode cX3_weigh 68 = .ok (.aload_n 0, 1) := by decide +kernel
theorem dX3_weigh_69 : decode cX3_weigh 69 = .ok (.getfield 24, 3) := by decide +kernel
theorem dX3_weigh_72 : decode cX3_weigh 72 = .ok (.iload_n 1, 1) := by decide +kernel
theorem dX3_weigh_73 : decode cX3_weigh 73 = .ok (.iaload, 1) := by decide +kernel
theorem dX3_weigh_74 : decode cX3_weigh 74 = .ok (.if_icmp .le 4, 3) := by decide +kernel
theorem dX3_weigh_77 : decode cX3_weigh 77 = .ok (.return_, 1) := by decide +kernel
theorem dX3_weigh_78 : decode cX3_weigh 78 = .ok (.iload 5, 2) := by decide +kernel
theorem dX3_weigh_80 : decode cX3_weigh 80 = .ok (.aload_n 0, 1) := by decide +kernel
theorem dX3_weigh_81 : decode cX3_weigh 81 = .ok (.getfield 24, 3) := by decide +kernel
theorem dX3_weigh_84 : decode cX3_weigh 84 = .ok (.iload_n 1, 1) := by decide +kernel
theorem dX3_weigh_85 : decode cX3_weigh 85 = .ok (.iaload, 1) := by decide +kernel
theorem dX3_weigh_86 : decode cX3_weigh 86 = .ok (.if_icmp .ge 33, 3) := by decide +kernel
theorem dX3_weigh_89 : decode cX3_weigh 89 = .ok (.aload_n 0, 1) := by decide +kernel
theorem dX3_weigh_90 : decode cX3_weigh 90 = .ok (.getfield 24, 3) := by decide +kernel
theorem dX3_weigh_93 : decode cX3_weigh 93 = .ok (.iload_n 1, 1) := by decide +kernel
theorem dX3_weigh_94 : decode cX3_weigh 94 = .ok (.iload 5, 2) := by decide +kernel
theorem dX3_weigh_96 : decode cX3_weigh 96 = .ok (.iastore, 1) := by decide +kernel
theorem dX3_weigh_97 : decode cX3_weigh 97 = .ok (.aload_n 0, 1) := by decide +kernel
theorem dX3_weigh_98 : decode cX3_weigh 98 = .ok (.getfield 27, 3) := by decide +kernel
theorem dX3_weigh_101 : decode cX3_weigh 101 = .ok (.iload_n 1, 1) := by decide +kernel
theorem dX3_weigh_102 : decode cX3_weigh 102 = .ok (.bipush 8, 2) := by decide +kernel
theorem dX3_weigh_104 : decode cX3_weigh 104 = .ok (.iastore, 1) := by decide +kernel
theorem dX3_weigh_105 : decode cX3_weigh 105 = .ok (.aload_n 0, 1) := by decide +kernel
theorem dX3_weigh_106 : decode cX3_weigh 106 = .ok (.getfield 30, 3) := by decide +kernel
theorem dX3_weigh_109 : decode cX3_weigh 109 = .ok (.iload_n 1, 1) := by decide +kernel
theorem dX3_weigh_110 : decode cX3_weigh 110 = .ok (.iconst 0, 1) := by decide +kernel
theorem dX3_weigh_111 : decode cX3_weigh 111 = .ok (.iastore, 1) := by decide +kernel
theorem dX3_weigh_112 : decode cX3_weigh 112 = .ok (.aload_n 0, 1) := by decide +kernel
theorem dX3_weigh_113 : decode cX3_weigh 113 = .ok (.getfield 33, 3) := by decide +kernel
theorem dX3_weigh_116 : decode cX3_weigh 116 = .ok (.iload_n 1, 1) := by decide +kernel
theorem dX3_weigh_117 : decode cX3_weigh 117 = .ok (.iconst 0, 1) := by decide +kernel
theorem dX3_weigh_118 : decode cX3_weigh 118 = .ok (.iastore, 1) := by decide +kernel
theorem dX3_weigh_119 : decode cX3_weigh 119 = .ok (.aload_n 0, 1) := by decide +kernel
theorem dX3_weigh_120 : decode cX3_weigh 120 = .ok (.getfield 27, 3) := by decide +kernel
theorem dX3_weigh_123 : decode cX3_weigh 123 = .ok (.iload_n 1, 1) := by decide +kernel
theorem dX3_weigh_124 : decode cX3_weigh 124 = .ok (.aload_n 0, 1) := by decide +kernel
theorem dX3_weigh_125 : decode cX3_weigh 125 = .ok (.getfield 27, 3) := by decide +kernel
theorem dX3_weigh_128 : decode cX3_weigh 128 = .ok (.iload_n 1, 1) := by decide +kernel
theorem dX3_weigh_129 : decode cX3_weigh 129 = .ok (.iaload, 1) := by decide +kernel
theorem dX3_weigh_130 : decode cX3_weigh 130 = .ok (.aload_n 0, 1) := by decide +kernel
theorem dX3_weigh_131 : decode cX3_weigh 131 = .ok (.getfield 27, 3) := by decide +kernel
theorem dX3_weigh_134 : decode cX3_weigh 134 = .ok (.iload_n 3, 1) := by decide +kernel
theorem dX3_weigh_135 : decode cX3_weigh 135 = .ok (.iaload, 1) := by decide +kernel
theorem dX3_weigh_136 : decode cX3_weigh 136 = .ok (.iconst 1, 1) := by decide +kernel
theorem dX3_weigh_137 : decode cX3_weigh 137 = .ok (.iadd, 1) := by decide +kernel
theorem dX3_weigh_138 : decode cX3_weigh 138 = .ok (.invokestatic 122, 3) := by decide +kernel
theorem dX3_weigh_141 : decode cX3_weigh 141 = .ok (.iastore, 1) := by decide +kernel
theorem dX3_weigh_142 : decode cX3_weigh 142 = .ok (.aload_n 0, 1) := by decide +kernel
theorem dX3_weigh_143 : decode cX3_weigh 143 = .ok (.getfield 30, 3) := by decide +kernel
theorem dX3_weigh_146 : decode cX3_weigh 146 = .ok (.iload_n 1, 1) := by decide +kernel
theorem dX3_weigh_147 : decode cX3_weigh 147 = .ok (.ldc 118, 2) := by decide +kernel
theorem dX3_weigh_149 : decode cX3_weigh 149 = .ok (.aload_n 0, 1) := by decide +kernel
theorem dX3_weigh_150 : decode cX3_weigh 150 = .ok (.getfield 30, 3) := by decide +kernel
theorem dX3_weigh_153 : decode cX3_weigh 153 = .ok (.iload_n 1, 1) := by decide +kernel
theorem dX3_weigh_154 : decode cX3_weigh 154 = .ok (.iaload, 1) := by decide +kernel
theorem dX3_weigh_155 : decode cX3_weigh 155 = .ok (.iload 4, 2) := by decide +kernel
theorem dX3_weigh_157 : decode cX3_weigh 157 = .ok (.aload_n 0, 1) := by decide +kernel
theorem dX3_weigh_158 : decode cX3_weigh 158 = .ok (.getfield 30, 3) := by decide +kernel
theorem dX3_weigh_161 : decode cX3_weigh 161 = .ok (.iload_n 3, 1) := by decide +kernel
theorem dX3_weigh_162 : decode cX3_weigh 162 = .ok (.iaload, 1) := by decide +kernel
theorem dX3_weigh_163 : decode cX3_weigh 163 = .ok (.imul, 1) := by decide +kernel
theorem dX3_weigh_164 : decode cX3_weigh 164 = .ok (.iadd, 1) := by decide +kernel
theorem dX3_weigh_165 : decode cX3_weigh 165 = .ok (.invokestatic 122, 3) := by decide +kernel
theorem dX3_weigh_168 : decode cX3_weigh 168 = .ok (.iastore, 1) := by decide +kernel
theorem dX3_weigh_169 : decode cX3_weigh 169 = .ok (.aload_n 0, 1) := by decide +kernel
theorem dX3_weigh_170 : decode cX3_weigh 170 = .ok (.getfield 33, 3) := by decide +kernel
theorem dX3_weigh_173 : decode cX3_weigh 173 = .ok (.iload_n 1, 1) := by decide +kernel
theorem dX3_weigh_174 : decode cX3_weigh 174 = .ok (.dup2, 1) := by decide +kernel
theorem dX3_weigh_175 : decode cX3_weigh 175 = .ok (.iaload, 1) := by decide +kernel
theorem dX3_weigh_176 : decode cX3_weigh 176 = .ok (.aload_n 0, 1) := by decide +kernel
theorem dX3_weigh_177 : decode cX3_weigh 177 = .ok (.getfield 33, 3) := by decide +kernel
theorem dX3_weigh_180 : decode cX3_weigh 180 = .ok (.iload_n 3, 1) := by decide +kernel
theorem dX3_weigh_181 : decode cX3_weigh 181 = .ok (.iaload, 1) := by decide +kernel
theorem dX3_weigh_182 : decode cX3_weigh 182 = .ok (.ior, 1) := by decide +kernel
theorem dX3_weigh_183 : decode cX3_weigh 183 = .ok (.iastore, 1) := by decide +kernel
theorem dX3_weigh_184 : decode cX3_weigh 184 = .ok (.return_, 1) := by decide +kernel
theorem dX3_leastOf_0 : decode cX3_leastOf 0 = .ok (.iload_n 1, 1) := by decide +kernel
theorem dX3_leastOf_1 : decode cX3_leastOf 1 = .ok (.aload_n 0, 1) := by decide +kernel
theorem dX3_leastOf_2 : decode cX3_leastOf 2 = .ok (.getfield 51, 3) := by decide +kernel
theorem dX3_leastOf_5 : decode cX3_leastOf 5 = .ok (.iconst (-1), 1) := by decide +kernel
theorem dX3_leastOf_6 : decode cX3_leastOf 6 = .ok (.ixor, 1) := by decide +kernel
theorem dX3_leastOf_7 : decode cX3_leastOf 7 = .ok (.iand, 1) := by decide +kernel
theorem dX3_leastOf_8 : decode cX3_leastOf 8 = .ok (.ifCond .ne 12, 3) := by decide +kernel
theorem dX3_leastOf_11 : decode cX3_leastOf 11 = .ok (.aload_n 0, 1) := by decide +kernel
theorem dX3_leastOf_12 : decode cX3_leastOf 12 = .ok (.getfield 24, 3) := by decide +kernel
theorem dX3_leastOf_15 : decode cX3_leastOf 15 = .ok (.iload_n 1, 1) := by decide +kernel
theorem dX3_leastOf_16 : decode cX3_leastOf 16 = .ok (.iaload, 1) := by decide +kernel
theorem dX3_leastOf_17 : decode cX3_leastOf 17 = .ok (.goto 5, 3) := by decide +kernel
theorem dX3_leastOf_20 : decode cX3_leastOf 20 = .ok (.ldc 118, 2) := by decide +kernel
theorem dX3_leastOf_22 : decode cX3_leastOf 22 = .ok (.istore_n 2, 1) := by decide +kernel
theorem dX3_leastOf_23 : decode cX3_leastOf 23 = .ok (.iload_n 2, 1) := by decide +kernel
theorem dX3_leastOf_24 : decode cX3_leastOf 24 = .ok (.ldc 118, 2) := by decide +kernel
theorem dX3_leastOf_26 : decode cX3_leastOf 26 = .ok (.if_icmp .ne 8, 3) := by decide +kernel
theorem dX3_leastOf_29 : decode cX3_leastOf 29 = .ok (.bipush (-3), 2) := by decide +kernel
theorem dX3_leastOf_31 : decode cX3_leastOf 31 = .ok (.goto 4, 3) := by decide +kernel
theorem dX3_leastOf_34 : decode cX3_leastOf 34 = .ok (.iload_n 2, 1) := by decide +kernel
theorem dX3_leastOf_35 : decode cX3_leastOf 35 = .ok (.ireturn, 1) := by decide +kernel
theorem dX3_waysOf_0 : decode cX3_waysOf 0 = .ok (.iload_n 1, 1) := by decide +kernel
theorem dX3_waysOf_1 : decode cX3_waysOf 1 = .ok (.aload_n 0, 1) := by decide +kernel
theorem dX3_waysOf_2 : decode cX3_waysOf 2 = .ok (.getfield 51, 3) := by decide +kernel
theorem dX3_waysOf_5 : decode cX3_waysOf 5 = .ok (.iconst (-1), 1) := by decide +kernel
theorem dX3_waysOf_6 : decode cX3_waysOf 6 = .ok (.ixor, 1) := by decide +kernel
theorem dX3_waysOf_7 : decode cX3_waysOf 7 = .ok (.iand, 1) := by decide +kernel
theorem dX3_waysOf_8 : decode cX3_waysOf 8 = .ok (.ifCond .ne 12, 3) := by decide +kernel
theorem dX3_waysOf_11 : decode cX3_waysOf 11 = .ok (.aload_n 0, 1) := by decide +kernel
theorem dX3_waysOf_12 : decode cX3_waysOf 12 = .ok (.getfield 30, 3) := by decide +kernel
theorem dX3_waysOf_15 : decode cX3_waysOf 15 = .ok (.iload_n 1, 1) := by decide +kernel
theorem dX3_waysOf_16 : decode cX3_waysOf 16 = .ok (.iaload, 1) := by decide +kernel
theorem dX3_waysOf_17 : decode cX3_waysOf 17 = .ok (.goto 4, 3) := by decide +kernel
theorem dX3_waysOf_20 : decode cX3_waysOf 20 = .ok (.iconst 0, 1) := by decide +kernel
theorem dX3_waysOf_21 : decode cX3_waysOf 21 = .ok (.ireturn, 1) := by decide +kernel
theorem dX3_lastsOf_0 : decode cX3_lastsOf 0 = .ok (.iload_n 1, 1) := by decide +kernel
theorem dX3_lastsOf_1 : decode cX3_lastsOf 1 = .ok (.aload_n 0, 1) := by decide +kernel
theorem dX3_lastsOf_2 : decode cX3_lastsOf 2 = .ok (.getfield 51, 3) := by decide +kernel
theorem dX3_lastsOf_5 : decode cX3_lastsOf 5 = .ok (.iconst (-1), 1) := by decide +kernel
theorem dX3_lastsOf_6 : decode cX3_lastsOf 6 = .ok (.ixor, 1) := by decide +kernel
theorem dX3_lastsOf_7 : decode cX3_lastsOf 7 = .ok (.iand, 1) := by decide +kernel
theorem dX3_lastsOf_8 : decode cX3_lastsOf 8 = .ok (.ifCond .ne 12, 3) := by decide +kernel
theorem dX3_lastsOf_11 : decode cX3_lastsOf 11 = .ok (.aload_n 0, 1) := by decide +kernel
theorem dX3_lastsOf_12 : decode cX3_lastsOf 12 = .ok (.getfield 33, 3) := by decide +kernel
theorem dX3_lastsOf_15 : decode cX3_lastsOf 15 = .ok (.iload_n 1, 1) := by decide +kernel
theorem dX3_lastsOf_16 : decode cX3_lastsOf 16 = .ok (.iaload, 1) := by decide +kernel
theorem dX3_lastsOf_17 : decode cX3_lastsOf 17 = .ok (.goto 4, 3) := by decide +kernel
theorem dX3_lastsOf_20 : decode cX3_lastsOf 20 = .ok (.iconst 0, 1) := by decide +kernel
theorem dX3_lastsOf_21 : decode cX3_lastsOf 21 = .ok (.ireturn, 1) := by decide +kernel
theorem dX3_endsOf_0 : decode cX3_endsOf 0 = .ok (.iload_n 1, 1) := by decide +kernel
theorem dX3_endsOf_1 : decode cX3_endsOf 1 = .ok (.aload_n 0, 1) := by decide +kernel
theorem dX3_endsOf_2 : decode cX3_endsOf 2 = .ok (.getfield 51, 3) := by decide +kernel
theorem dX3_endsOf_5 : decode cX3_endsOf 5 = .ok (.iconst (-1), 1) := by decide +kernel
theorem dX3_endsOf_6 : decode cX3_endsOf 6 = .ok (.ixor, 1) := by decide +kernel
theorem dX3_endsOf_7 : decode cX3_endsOf 7 = .ok (.iand, 1) := by decide +kernel
theorem dX3_endsOf_8 : decode cX3_endsOf 8 = .ok (.ifCond .ne 12, 3) := by decide +kernel
theorem dX3_endsOf_11 : decode cX3_endsOf 11 = .ok (.aload_n 0, 1) := by decide +kernel
theorem dX3_endsOf_12 : decode cX3_endsOf 12 = .ok (.getfield 36, 3) := by decide +kernel
theorem dX3_endsOf_15 : decode cX3_endsOf 15 = .ok (.iload_n 1, 1) := by decide +kernel
theorem dX3_endsOf_16 : decode cX3_endsOf 16 = .ok (.iaload, 1) := by decide +kernel
theorem dX3_endsOf_17 : decode cX3_endsOf 17 = .ok (.goto 4, 3) := by decide +kernel
theorem dX3_endsOf_20 : decode cX3_endsOf 20 = .ok (.iconst 0, 1) := by decide +kernel
theorem dX3_endsOf_21 : decode cX3_endsOf 21 = .ok (.ireturn, 1) := by decide +kernel
theorem dX3_layPlan_0 : decode cX3_layPlan 0 = .ok (.aload_n 0, 1) := by decide +kernel
theorem dX3_layPlan_1 : decode cX3_layPlan 1 = .ok (.getfield 51, 3) := by decide +kernel
theorem dX3_layPlan_4 : decode cX3_layPlan 4 = .ok (.istore_n 1, 1) := by decide +kernel
theorem dX3_layPlan_5 : decode cX3_layPlan 5 = .ok (.aload_n 0, 1) := by decide +kernel
theorem dX3_layPlan_6 : decode cX3_layPlan 6 = .ok (.bipush 8, 2) := by decide +kernel
theorem dX3_layPlan_8 : decode cX3_layPlan 8 = .ok (.aload_n 0, 1) := by decide +kernel
theorem dX3_layPlan_9 : decode cX3_layPlan 9 = .ok (.getfield 27, 3) := by decide +kernel
theorem dX3_layPlan_12 : decode cX3_layPlan 12 = .ok (.iload_n 1, 1) := by decide +kernel
theorem dX3_layPlan_13 : decode cX3_layPlan 13 = .ok (.iaload, 1) := by decide +kernel
theorem dX3_layPlan_14 : decode cX3_layPlan 14 = .ok (.invokestatic 122, 3) := by decide +kernel
theorem dX3_layPlan_17 : decode cX3_layPlan 17 = .ok (.putfield 125, 3) := by decide +kernel
theorem dX3_layPlan_20 : decode cX3_layPlan 20 = .ok (.iconst 0, 1) := by decide +kernel
theorem dX3_layPlan_21 : decode cX3_layPlan 21 = .ok (.istore_n 2, 1) := by decide +kernel
theorem dX3_layPlan_22 : decode cX3_layPlan 22 = .ok (.iload_n 2, 1) := by decide +kernel
theorem dX3_layPlan_23 : decode cX3_layPlan 23 = .ok (.aload_n 0, 1) := by decide +kernel
theorem dX3_layPlan_24 : decode cX3_layPlan 24 = .ok (.getfield 125, 3) := by decide +kernel
theorem dX3_layPlan_27 : decode cX3_layPlan 27 = .ok (.if_icmp .ge 26, 3) := by decide +kernel
theorem dX3_layPlan_30 : decode cX3_layPlan 30 = .ok (.aload_n 0, 1) := by decide +kernel
theorem dX3_layPlan_31 : decode cX3_layPlan 31 = .ok (.iload_n 2, 1) := by decide +kernel
theorem dX3_layPlan_32 : decode cX3_layPlan 32 = .ok (.iload_n 1, 1) := by decide +kernel
theorem dX3_layPlan_33 : decode cX3_layPlan 33 = .ok (.invokevirtual 128, 3) := by decide +kernel
theorem dX3_layPlan_36 : decode cX3_layPlan 36 = .ok (.iload_n 1, 1) := by decide +kernel
theorem dX3_layPlan_37 : decode cX3_layPlan 37 = .ok (.aload_n 0, 1) := by decide +kernel
theorem dX3_layPlan_38 : decode cX3_layPlan 38 = .ok (.getfield 42, 3) := by decide +kernel
theorem dX3_layPlan_41 : decode cX3_layPlan 41 = .ok (.iload_n 2, 1) := by decide +kernel
theorem dX3_layPlan_42 : decode cX3_layPlan 42 = .ok (.iaload, 1) := by decide +kernel
theorem dX3_layPlan_43 : decode cX3_layPlan 43 = .ok (.iconst (-1), 1) := by decide +kernel
theorem dX3_layPlan_44 : decode cX3_layPlan 44 = .ok (.ixor, 1) := by decide +kernel
theorem dX3_layPlan_45 : decode cX3_layPlan 45 = .ok (.iand, 1) := by decide +kernel
theorem dX3_layPlan_46 : decode cX3_layPlan 46 = .ok (.istore_n 1, 1) := by decide +kernel
theorem dX3_layPlan_47 : decode cX3_layPlan 47 = .ok (.iinc 2 1, 3) := by decide +kernel
theorem dX3_layPlan_50 : decode cX3_layPlan 50 = .ok (.goto (-28), 3) := by decide +kernel
theorem dX3_layPlan_53 : decode cX3_layPlan 53 = .ok (.return_, 1) := by decide +kernel
theorem dX3_laySong_0 : decode cX3_laySong 0 = .ok (.iconst 0, 1) := by decide +kernel
theorem dX3_laySong_1 : decode cX3_laySong 1 = .ok (.istore_n 3, 1) := by decide +kernel
theorem dX3_laySong_2 : decode cX3_laySong 2 = .ok (.iload_n 3, 1) := by decide +kernel
theorem dX3_laySong_3 : decode cX3_laySong 3 = .ok (.bipush 8, 2) := by decide +kernel
theorem dX3_laySong_5 : decode cX3_laySong 5 = .ok (.if_icmp .ge 75, 3) := by decide +kernel
theorem dX3_laySong_8 : decode cX3_laySong 8 = .ok (.iconst 0, 1) := by decide +kernel
theorem dX3_laySong_9 : decode cX3_laySong 9 = .ok (.istore 4, 2) := by decide +kernel
theorem dX3_laySong_11 : decode cX3_laySong 11 = .ok (.iload 4, 2) := by decide +kernel
theorem dX3_laySong_13 : decode cX3_laySong 13 = .ok (.aload_n 0, 1) := by decide +kernel
theorem dX3_laySong_14 : decode cX3_laySong 14 = .ok (.getfield 90, 3) := by decide +kernel
theorem dX3_laySong_17 : decode cX3_laySong 17 = .ok (.if_icmp .ge 57, 3) := by decide +kernel
theorem dX3_laySong_20 : decode cX3_laySong 20 = .ok (.aload_n 0, 1) := by decide +kernel
theorem dX3_laySong_21 : decode cX3_laySong 21 = .ok (.getfield 15, 3) := by decide +kernel
theorem dX3_laySong_24 : decode cX3_laySong 24 = .ok (.iload 4, 2) := by decide +kernel
theorem dX3_laySong_26 : decode cX3_laySong 26 = .ok (.iaload, 1) := by decide +kernel
theorem dX3_laySong_27 : decode cX3_laySong 27 = .ok (.iload_n 2, 1) := by decide +kernel
theorem dX3_laySong_28 : decode cX3_laySong 28 = .ok (.if_icmp .ge 46, 3) := by decide +kernel
theorem dX3_laySong_31 : decode cX3_laySong 31 = .ok (.aload_n 0, 1) := by decide +kernel
theorem dX3_laySong_32 : decode cX3_laySong 32 = .ok (.iload_n 2, 1) := by decide +kernel
theorem dX3_laySong_33 : decode cX3_laySong 33 = .ok (.iload_n 3, 1) := by decide +kernel
theorem dX3_laySong_34 : decode cX3_laySong 34 = .ok (.aload_n 0, 1) := by decide +kernel
theorem dX3_laySong_35 : decode cX3_laySong 35 = .ok (.getfield 15, 3) := by decide +kernel
theorem dX3_laySong_38 : decode cX3_laySong 38 = .ok (.iload 4, 2) := by decide +kernel
theorem dX3_laySong_40 : decode cX3_laySong 40 = .ok (.iaload, 1) := by decide +kernel
theorem dX3_laySong_41 : decode cX3_laySong 41 = .ok (.invokevirtual 131, 3) := by decide +kernel
theorem dX3_laySong_44 : decode cX3_laySong 44 = .ok (.ifCond .eq 24, 3) := by decide +kernel
theorem dX3_laySong_47 : decode cX3_laySong 47 = .ok (.aload_n 0, 1) := by decide +kernel
theorem dX3_laySong_48 : decode cX3_laySong 48 = .ok (.getfield 39, 3) := by decide +kernel
theorem dX3_laySong_51 : decode cX3_laySong 51 = .ok (.iload_n 1, 1) := by decide +kernel
theorem dX3_laySong_52 : decode cX3_laySong 52 = .ok (.iload_n 3, 1) := by decide +kernel
theorem dX3_laySong_53 : decode cX3_laySong 53 = .ok (.iastore, 1) := by decide +kernel
theorem dX3_laySong_54 : decode cX3_laySong 54 = .ok (.aload_n 0, 1) := by decide +kernel
theorem dX3_laySong_55 : decode cX3_laySong 55 = .ok (.getfield 42, 3) := by decide +kernel
theorem dX3_laySong_58 : decode cX3_laySong 58 = .ok (.iload_n 1, 1) := by decide +kernel
theorem dX3_laySong_59 : decode cX3_laySong 59 = .ok (.aload_n 0, 1) := by decide +kernel
theorem dX3_laySong_60 : decode cX3_laySong 60 = .ok (.getfield 15, 3) := by decide +kernel
theorem dX3_laySong_63 : decode cX3_laySong 63 = .ok (.iload 4, 2) := by decide +kernel
theorem dX3_laySong_65 : decode cX3_laySong 65 = .ok (.iaload, 1) := by decide +kernel
theorem dX3_laySong_66 : decode cX3_laySong 66 = .ok (.iastore, 1) := by decide +kernel
theorem dX3_laySong_67 : decode cX3_laySong 67 = .ok (.return_, 1) := by decide +kernel
theorem dX3_laySong_68 : decode cX3_laySong 68 = .ok (.iinc 4 1, 3) := by decide +kernel
theorem dX3_laySong_71 : decode cX3_laySong 71 = .ok (.goto (-60), 3) := by decide +kernel
theorem dX3_laySong_74 : decode cX3_laySong 74 = .ok (.iinc 3 1, 3) := by decide +kernel
theorem dX3_laySong_77 : decode cX3_laySong 77 = .ok (.goto (-75), 3) := by decide +kernel
theorem dX3_laySong_80 : decode cX3_laySong 80 = .ok (.return_, 1) := by decide +kernel
theorem dX3_isBest_0 : decode cX3_isBest 0 = .ok (.iload_n 1, 1) := by decide +kernel
theorem dX3_isBest_1 : decode cX3_isBest 1 = .ok (.iload_n 3, 1) := by decide +kernel
theorem dX3_isBest_2 : decode cX3_isBest 2 = .ok (.iconst (-1), 1) := by decide +kernel
theorem dX3_isBest_3 : decode cX3_isBest 3 = .ok (.ixor, 1) := by decide +kernel
theorem dX3_isBest_4 : decode cX3_isBest 4 = .ok (.iand, 1) := by decide +kernel
theorem dX3_isBest_5 : decode cX3_isBest 5 = .ok (.istore 4, 2) := by decide +kernel
theorem dX3_isBest_7 : decode cX3_isBest 7 = .ok (.iload_n 3, 1) := by decide +kernel
theorem dX3_isBest_8 : decode cX3_isBest 8 = .ok (.iload_n 1, 1) := by decide +kernel
theorem dX3_isBest_9 : decode cX3_isBest 9 = .ok (.iconst (-1), 1) := by decide +kernel
theorem dX3_isBest_10 : decode cX3_isBest 10 = .ok (.ixor, 1) := by decide +kernel
theorem dX3_isBest_11 : decode cX3_isBest 11 = .ok (.iand, 1) := by decide +kernel
theorem dX3_isBest_12 : decode cX3_isBest 12 = .ok (.ifCond .ne 23, 3) := by decide +kernel
theorem dX3_isBest_15 : decode cX3_isBest 15 = .ok (.aload_n 0, 1) := by decide +kernel
theorem dX3_isBest_16 : decode cX3_isBest 16 = .ok (.getfield 21, 3) := by decide +kernel
theorem dX3_isBest_19 : decode cX3_isBest 19 = .ok (.iload_n 3, 1) := by decide +kernel
theorem dX3_isBest_20 : decode cX3_isBest 20 = .ok (.iaload, 1) := by decide +kernel
theorem dX3_isBest_21 : decode cX3_isBest 21 = .ok (.iload 4, 2) := by decide +kernel
theorem dX3_isBest_23 : decode cX3_isBest 23 = .ok (.iand, 1) := by decide +kernel
theorem dX3_isBest_24 : decode cX3_isBest 24 = .ok (.iconst 1, 1) := by decide +kernel
theorem dX3_isBest_25 : decode cX3_isBest 25 = .ok (.iload_n 2, 1) := by decide +kernel
theorem dX3_isBest_26 : decode cX3_isBest 26 = .ok (.ishl, 1) := by decide +kernel
theorem dX3_isBest_27 : decode cX3_isBest 27 = .ok (.iand, 1) := by decide +kernel
theorem dX3_isBest_28 : decode cX3_isBest 28 = .ok (.ifCond .eq 7, 3) := by decide +kernel
theorem dX3_isBest_31 : decode cX3_isBest 31 = .ok (.iconst 1, 1) := by decide +kernel
theorem dX3_isBest_32 : decode cX3_isBest 32 = .ok (.goto 4, 3) := by decide +kernel
theorem dX3_isBest_35 : decode cX3_isBest 35 = .ok (.iconst 0, 1) := by decide +kernel
theorem dX3_isBest_36 : decode cX3_isBest 36 = .ok (.istore 5, 2) := by decide +kernel
theorem dX3_isBest_38 : decode cX3_isBest 38 = .ok (.iload 5, 2) := by decide +kernel
theorem dX3_isBest_40 : decode cX3_isBest 40 = .ok (.ifCond .eq 48, 3) := by decide +kernel
theorem dX3_isBest_43 : decode cX3_isBest 43 = .ok (.aload_n 0, 1) := by decide +kernel
theorem dX3_isBest_44 : decode cX3_isBest 44 = .ok (.getfield 18, 3) := by decide +kernel
theorem dX3_isBest_47 : decode cX3_isBest 47 = .ok (.iload_n 3, 1) := by decide +kernel
theorem dX3_isBest_48 : decode cX3_isBest 48 = .ok (.iaload, 1) := by decide +kernel
theorem dX3_isBest_49 : decode cX3_isBest 49 = .ok (.aload_n 0, 1) := by decide +kernel
theorem dX3_isBest_50 : decode cX3_isBest 50 = .ok (.getfield 24, 3) := by decide +kernel
theorem dX3_isBest_53 : decode cX3_isBest 53 = .ok (.iload 4, 2) := by decide +kernel
theorem dX3_isBest_55 : decode cX3_isBest 55 = .ok (.iaload, 1) := by decide +kernel
theorem dX3_isBest_56 : decode cX3_isBest 56 = .ok (.iadd, 1) := by decide +kernel
theorem dX3_isBest_57 : decode cX3_isBest 57 = .ok (.aload_n 0, 1) := by decide +kernel
theorem dX3_isBest_58 : decode cX3_isBest 58 = .ok (.getfield 24, 3) := by decide +kernel
theorem dX3_isBest_61 : decode cX3_isBest 61 = .ok (.iload_n 1, 1) := by decide +kernel
theorem dX3_isBest_62 : decode cX3_isBest 62 = .ok (.iaload, 1) := by decide +kernel
theorem dX3_isBest_63 : decode cX3_isBest 63 = .ok (.if_icmp .ne 25, 3) := by decide +kernel
theorem dX3_isBest_66 : decode cX3_isBest 66 = .ok (.aload_n 0, 1) := by decide +kernel
theorem dX3_isBest_67 : decode cX3_isBest 67 = .ok (.getfield 27, 3) := by decide +kernel
theorem dX3_isBest_70 : decode cX3_isBest 70 = .ok (.iload 4, 2) := by decide +kernel
theorem dX3_isBest_72 : decode cX3_isBest 72 = .ok (.iaload, 1) := by decide +kernel
theorem dX3_isBest_73 : decode cX3_isBest 73 = .ok (.iconst 1, 1) := by decide +kernel
theorem dX3_isBest_74 : decode cX3_isBest 74 = .ok (.iadd, 1) := by decide +kernel
theorem dX3_isBest_75 : decode cX3_isBest 75 = .ok (.aload_n 0, 1) := by decide +kernel
theorem dX3_isBest_76 : decode cX3_isBest 76 = .ok (.getfield 27, 3) := by decide +kernel
theorem dX3_isBest_79 : decode cX3_isBest 79 = .ok (.iload_n 1, 1) := by decide +kernel
theorem dX3_isBest_80 : decode cX3_isBest 80 = .ok (.iaload, 1) := by decide +kernel
theorem dX3_isBest_81 : decode cX3_isBest 81 = .ok (.if_icmp .ne 7, 3) := by decide +kernel
theorem dX3_isBest_84 : decode cX3_isBest 84 = .ok (.iconst 1, 1) := by decide +kernel
theorem dX3_isBest_85 : decode cX3_isBest 85 = .ok (.goto 4, 3) := by decide +kernel
theorem dX3_isBest_88 : decode cX3_isBest 88 = .ok (.iconst 0, 1) := by decide +kernel
theorem dX3_isBest_89 : decode cX3_isBest 89 = .ok (.ireturn, 1) := by decide +kernel
theorem dX3_planLast_0 : decode cX3_planLast 0 = .ok (.aload_n 0, 1) := by decide +kernel
theorem dX3_planLast_1 : decode cX3_planLast 1 = .ok (.getfield 51, 3) := by decide +kernel
theorem dX3_planLast_4 : decode cX3_planLast 4 = .ok (.istore_n 1, 1) := by decide +kernel
theorem dX3_planLast_5 : decode cX3_planLast 5 = .ok (.iconst 0, 1) := by decide +kernel
theorem dX3_planLast_6 : decode cX3_planLast 6 = .ok (.istore_n 2, 1) := by decide +kernel
theorem dX3_planLast_7 : decode cX3_planLast 7 = .ok (.iload_n 2, 1) := by decide +kernel
theorem dX3_planLast_8 : decode cX3_planLast 8 = .ok (.aload_n 0, 1) := by decide +kernel
theorem dX3_planLast_9 : decode cX3_planLast 9 = .ok (.getfield 125, 3) := by decide +kernel
theorem dX3_planLast_12 : decode cX3_planLast 12 = .ok (.if_icmp .ge 20, 3) := by decide +kernel
theorem dX3_planLast_15 : decode cX3_planLast 15 = .ok (.iload_n 1, 1) := by decide +kernel
theorem dX3_planLast_16 : decode cX3_planLast 16 = .ok (.aload_n 0, 1) := by decide +kernel
theorem dX3_planLast_17 : decode cX3_planLast 17 = .ok (.getfield 42, 3) := by decide +kernel
theorem dX3_planLast_20 : decode cX3_planLast 20 = .ok (.iload_n 2, 1) := by decide +kernel
theorem dX3_planLast_21 : decode cX3_planLast 21 = .ok (.iaload, 1) := by decide +kernel
theorem dX3_planLast_22 : decode cX3_planLast 22 = .ok (.iconst (-1), 1) := by decide +kernel
theorem dX3_planLast_23 : decode cX3_planLast 23 = .ok (.ixor, 1) := by decide +kernel
theorem dX3_planLast_24 : decode cX3_planLast 24 = .ok (.iand, 1) := by decide +kernel
theorem dX3_planLast_25 : decode cX3_planLast 25 = .ok (.istore_n 1, 1) := by decide +kernel
theorem dX3_planLast_26 : decode cX3_planLast 26 = .ok (.iinc 2 1, 3) := by decide +kernel
theorem dX3_planLast_29 : decode cX3_planLast 29 = .ok (.goto (-22), 3) := by decide +kernel
theorem dX3_planLast_32 : decode cX3_planLast 32 = .ok (.iload_n 1, 1) := by decide +kernel
theorem dX3_planLast_33 : decode cX3_planLast 33 = .ok (.ifCond .ne 8, 3) := by decide +kernel
theorem dX3_planLast_36 : decode cX3_planLast 36 = .ok (.bipush (-9), 2) := by decide +kernel
theorem dX3_planLast_38 : decode cX3_planLast 38 = .ok (.goto 7, 3) := by decide +kernel
theorem dX3_planLast_41 : decode cX3_planLast 41 = .ok (.iload_n 1, 1) := by decide +kernel
theorem dX3_planLast_42 : decode cX3_planLast 42 = .ok (.invokestatic 93, 3) := by decide +kernel
theorem dX3_planLast_45 : decode cX3_planLast 45 = .ok (.ireturn, 1) := by decide +kernel
theorem dX4_init_0 : decode cX4_init 0 = .ok (.aload_n 0, 1) := by decide +kernel
theorem dX4_init_1 : decode cX4_init 1 = .ok (.iload_n 1, 1) := by decide +kernel
theorem dX4_init_2 : decode cX4_init 2 = .ok (.iload_n 2, 1) := by decide +kernel
theorem dX4_init_3 : decode cX4_init 3 = .ok (.invokespecial 1, 3) := by decide +kernel
theorem dX4_init_6 : decode cX4_init 6 = .ok (.return_, 1) := by decide +kernel
theorem dX4_kind_0 : decode cX4_kind 0 = .ok (.iconst 3, 1) := by decide +kernel
theorem dX4_kind_1 : decode cX4_kind 1 = .ok (.ireturn, 1) := by decide +kernel
theorem dX4_minutes_0 : decode cX4_minutes 0 = .ok (.iconst 2, 1) := by decide +kernel
theorem dX4_minutes_1 : decode cX4_minutes 1 = .ok (.aload_n 0, 1) := by decide +kernel
theorem dX4_minutes_2 : decode cX4_minutes 2 = .ok (.invokespecial 7, 3) := by decide +kernel
theorem dX4_minutes_5 : decode cX4_minutes 5 = .ok (.imul, 1) := by decide +kernel
theorem dX4_minutes_6 : decode cX4_minutes 6 = .ok (.ireturn, 1) := by decide +kernel
theorem dX4_shares_0 : decode cX4_shares 0 = .ok (.aload_n 1, 1) := by decide +kernel
theorem dX4_shares_1 : decode cX4_shares 1 = .ok (.bipush 50, 2) := by decide +kernel
theorem dX4_shares_3 : decode cX4_shares 3 = .ok (.invokevirtual 11, 3) := by decide +kernel
theorem dX4_shares_6 : decode cX4_shares 6 = .ok (.ifCond .eq 16, 3) := by decide +kernel
theorem dX4_shares_9 : decode cX4_shares 9 = .ok (.aload_n 0, 1) := by decide +kernel
theorem dX4_shares_10 : decode cX4_shares 10 = .ok (.aload_n 1, 1) := by decide +kernel
theorem dX4_shares_11 : decode cX4_shares 11 = .ok (.iload_n 2, 1) := by decide +kernel
theorem dX4_shares_12 : decode cX4_shares 12 = .ok (.iconst 2, 1) := by decide +kernel
theorem dX4_shares_13 : decode cX4_shares 13 = .ok (.iadd, 1) := by decide +kernel
theorem dX4_shares_14 : decode cX4_shares 14 = .ok (.invokespecial 17, 3) := by decide +kernel
theorem dX4_shares_17 : decode cX4_shares 17 = .ok (.iconst 1, 1) := by decide +kernel
theorem dX4_shares_18 : decode cX4_shares 18 = .ok (.ixor, 1) := by decide +kernel
theorem dX4_shares_19 : decode cX4_shares 19 = .ok (.goto 4, 3) := by decide +kernel
theorem dX4_shares_22 : decode cX4_shares 22 = .ok (.iconst 0, 1) := by decide +kernel
theorem dX4_shares_23 : decode cX4_shares 23 = .ok (.ireturn, 1) := by decide +kernel
theorem dX4_sings_0 : decode cX4_sings 0 = .ok (.aload_n 1, 1) := by decide +kernel
theorem dX4_sings_1 : decode cX4_sings 1 = .ok (.bipush 51, 2) := by decide +kernel
theorem dX4_sings_3 : decode cX4_sings 3 = .ok (.invokevirtual 11, 3) := by decide +kernel
theorem dX4_sings_6 : decode cX4_sings 6 = .ok (.ifCond .eq 17, 3) := by decide +kernel
theorem dX4_sings_9 : decode cX4_sings 9 = .ok (.aload_n 0, 1) := by decide +kernel
theorem dX4_sings_10 : decode cX4_sings 10 = .ok (.aload_n 1, 1) := by decide +kernel
theorem dX4_sings_11 : decode cX4_sings 11 = .ok (.iload_n 2, 1) := by decide +kernel
theorem dX4_sings_12 : decode cX4_sings 12 = .ok (.invokespecial 21, 3) := by decide +kernel
theorem dX4_sings_15 : decode cX4_sings 15 = .ok (.aload_n 0, 1) := by decide +kernel
theorem dX4_sings_16 : decode cX4_sings 16 = .ok (.getfield 24, 3) := by decide +kernel
theorem dX4_sings_19 : decode cX4_sings 19 = .ok (.isub, 1) := by decide +kernel
theorem dX4_sings_20 : decode cX4_sings 20 = .ok (.goto 4, 3) := by decide +kernel
theorem dX4_sings_23 : decode cX4_sings 23 = .ok (.iconst 0, 1) := by decide +kernel
theorem dX4_sings_24 : decode cX4_sings 24 = .ok (.ireturn, 1) := by decide +kernel
theorem dX5_init_0 : decode cX5_init 0 = .ok (.aload_n 0, 1) := by decide +kernel
theorem dX5_init_1 : decode cX5_init 1 = .ok (.invokespecial 1, 3) := by decide +kernel
theorem dX5_init_4 : decode cX5_init 4 = .ok (.aload_n 0, 1) := by decide +kernel
theorem dX5_init_5 : decode cX5_init 5 = .ok (.iload_n 1, 1) := by decide +kernel
theorem dX5_init_6 : decode cX5_init 6 = .ok (.putfield 7, 3) := by decide +kernel
theorem dX5_init_9 : decode cX5_init 9 = .ok (.aload_n 0, 1) := by decide +kernel
theorem dX5_init_10 : decode cX5_init 10 = .ok (.iconst 0, 1) := by decide +kernel
theorem dX5_init_11 : decode cX5_init 11 = .ok (.iload_n 2, 1) := by decide +kernel
theorem dX5_init_12 : decode cX5_init 12 = .ok (.invokestatic 13, 3) := by decide +kernel
theorem dX5_init_15 : decode cX5_init 15 = .ok (.newarray .long, 2) := by decide +kernel
theorem dX5_init_17 : decode cX5_init 17 = .ok (.putfield 19, 3) := by decide +kernel
theorem dX5_init_20 : decode cX5_init 20 = .ok (.return_, 1) := by decide +kernel
theorem dX5_has_0 : decode cX5_has 0 = .ok (.iload_n 1, 1) := by decide +kernel
theorem dX5_has_1 : decode cX5_has 1 = .ok (.ifCond .lt 16, 3) := by decide +kernel
theorem dX5_has_4 : decode cX5_has 4 = .ok (.iload_n 1, 1) := by decide +kernel
theorem dX5_has_5 : decode cX5_has 5 = .ok (.aload_n 0, 1) := by decide +kernel
theorem dX5_has_6 : decode cX5_has 6 = .ok (.getfield 19, 3) := by decide +kernel
theorem dX5_has_9 : decode cX5_has 9 = .ok (.arraylength, 1) := by decide +kernel
theorem dX5_has_10 : decode cX5_has 10 = .ok (.if_icmp .ge 7, 3) := by decide +kernel
theorem dX5_has_13 : decode cX5_has 13 = .ok (.iconst 1, 1) := by decide +kernel
theorem dX5_has_14 : decode cX5_has 14 = .ok (.goto 4, 3) := by decide +kernel
theorem dX5_has_17 : decode cX5_has 17 = .ok (.iconst 0, 1) := by decide +kernel
theorem dX5_has_18 : decode cX5_has 18 = .ok (.ireturn, 1) := by decide +kernel
theorem dX5_narrowed_0 : decode cX5_narrowed 0 = .ok (.aload_n 0, 1) := by decide +kernel
theorem dX5_narrowed_1 : decode cX5_narrowed 1 = .ok (.getfield 7, 3) := by decide +kernel
theorem dX5_narrowed_4 : decode cX5_narrowed 4 = .ok (.lookupswitch 36 #[(0, 28), (1, 32)], 28) := by decide +kernel
theorem dX5_narrowed_32 : decode cX5_narrowed 32 = .ok (.iload_n 1, 1) := by decide +kernel
theorem dX5_narrowed_33 : decode cX5_narrowed 33 = .ok (.i2b, 1) := by decide +kernel
theorem dX5_narrowed_34 : decode cX5_narrowed 34 = .ok (.i2l, 1) := by decide +kernel
theorem dX5_narrowed_35 : decode cX5_narrowed 35 = .ok (.lreturn, 1) := by decide +kernel
theorem dX5_narrowed_36 : decode cX5_narrowed 36 = .ok (.iload_n 1, 1) := by decide +kernel
theorem dX5_narrowed_37 : decode cX5_narrowed 37 = .ok (.i2s, 1) := by decide +kernel
theorem dX5_narrowed_38 : decode cX5_narrowed 38 = .ok (.i2l, 1) := by decide +kernel
theorem dX5_narrowed_39 : decode cX5_narrowed 39 = .ok (.lreturn, 1) := by decide +kernel
theorem dX5_narrowed_40 : decode cX5_narrowed 40 = .ok (.iload_n 1, 1) := by decide +kernel
theorem dX5_narrowed_41 : decode cX5_narrowed 41 = .ok (.i2l, 1) := by decide +kernel
theorem dX5_narrowed_42 : decode cX5_narrowed 42 = .ok (.lreturn, 1) := by decide +kernel
theorem dX6_init_0 : decode cX6_init 0 = .ok (.aload_n 0, 1) := by decide +kernel
theorem dX6_init_1 : decode cX6_init 1 = .ok (.invokespecial 3, 3) := by decide +kernel
theorem dX6_init_4 : decode cX6_init 4 = .ok (.aload_n 0, 1) := by decide +kernel
theorem dX6_init_5 : decode cX6_init 5 = .ok (.bipush 100, 2) := by decide +kernel
theorem dX6_init_7 : decode cX6_init 7 = .ok (.putfield 9, 3) := by decide +kernel
theorem dX6_init_10 : decode cX6_init 10 = .ok (.aload_n 0, 1) := by decide +kernel
theorem dX6_init_11 : decode cX6_init 11 = .ok (.iconst 1, 1) := by decide +kernel
theorem dX6_init_12 : decode cX6_init 12 = .ok (.putfield 15, 3) := by decide +kernel
theorem dX6_init_15 : decode cX6_init 15 = .ok (.aload_n 0, 1) := by decide +kernel
theorem dX6_init_16 : decode cX6_init 16 = .ok (.iload_n 1, 1) := by decide +kernel
theorem dX6_init_17 : decode cX6_init 17 = .ok (.putfield 19, 3) := by decide +kernel
theorem dX6_init_20 : decode cX6_init 20 = .ok (.aload_n 0, 1) := by decide +kernel
theorem dX6_init_21 : decode cX6_init 21 = .ok (.iload_n 2, 1) := by decide +kernel
theorem dX6_init_22 : decode cX6_init 22 = .ok (.putfield 22, 3) := by decide +kernel
theorem dX6_init_25 : decode cX6_init 25 = .ok (.return_, 1) := by decide +kernel
theorem dX6_kind_0 : decode cX6_kind 0 = .ok (.iconst 0, 1) := by decide +kernel
theorem dX6_kind_1 : decode cX6_kind 1 = .ok (.ireturn, 1) := by decide +kernel
theorem dX6_minutes_0 : decode cX6_minutes 0 = .ok (.aload_n 0, 1) := by decide +kernel
theorem dX6_minutes_1 : decode cX6_minutes 1 = .ok (.getfield 22, 3) := by decide +kernel
theorem dX6_minutes_4 : decode cX6_minutes 4 = .ok (.ireturn, 1) := by decide +kernel
theorem dX6_alone_0 : decode cX6_alone 0 = .ok (.iconst 0, 1) := by decide +kernel
theorem dX6_alone_1 : decode cX6_alone 1 = .ok (.ireturn, 1) := by decide +kernel
theorem dX6_pays_0 : decode cX6_pays 0 = .ok (.iconst 0, 1) := by decide +kernel
theorem dX6_pays_1 : decode cX6_pays 1 = .ok (.ireturn, 1) := by decide +kernel
theorem dX6_sings_0 : decode cX6_sings 0 = .ok (.aload_n 1, 1) := by decide +kernel
theorem dX6_sings_1 : decode cX6_sings 1 = .ok (.getfield 25, 3) := by decide +kernel
theorem dX6_sings_4 : decode cX6_sings 4 = .ok (.ifCond .eq 5, 3) := by decide +kernel
theorem dX6_sings_7 : decode cX6_sings 7 = .ok (.iconst 0, 1) := by decide +kernel
theorem dX6_sings_8 : decode cX6_sings 8 = .ok (.ireturn, 1) := by decide +kernel
theorem dX6_sings_9 : decode cX6_sings 9 = .ok (.aload_n 1, 1) := by decide +kernel
theorem dX6_sings_10 : decode cX6_sings 10 = .ok (.getfield 30, 3) := by decide +kernel
theorem dX6_sings_13 : decode cX6_sings 13 = .ok (.bipush 30, 2) := by decide +kernel
theorem dX6_sings_15 : decode cX6_sings 15 = .ok (.if_icmp .ge 21, 3) := by decide +kernel
theorem dX6_sings_18 : decode cX6_sings 18 = .ok (.aload_n 1, 1) := by decide +kernel
theorem dX6_sings_19 : decode cX6_sings 19 = .ok (.getfield 33, 3) := by decide +kernel
theorem dX6_sings_22 : decode cX6_sings 22 = .ok (.aload_n 1, 1) := by decide +kernel
theorem dX6_sings_23 : decode cX6_sings 23 = .ok (.dup, 1) := by decide +kernel
theorem dX6_sings_24 : decode cX6_sings 24 = .ok (.getfield 30, 3) := by decide +kernel
theorem dX6_sings_27 : decode cX6_sings 27 = .ok (.dup_x1, 1) := by decide +kernel
theorem dX6_sings_28 : decode cX6_sings 28 = .ok (.iconst 1, 1) := by decide +kernel
theorem dX6_sings_29 : decode cX6_sings 29 = .ok (.iadd, 1) := by decide +kernel
theorem dX6_sings_30 : decode cX6_sings 30 = .ok (.putfield 30, 3) := by decide +kernel
theorem dX6_sings_33 : decode cX6_sings 33 = .ok (.bipush 10, 2) := by decide +kernel
theorem dX6_sings_35 : decode cX6_sings 35 = .ok (.iastore, 1) := by decide +kernel
theorem dX6_sings_36 : decode cX6_sings 36 = .ok (.iload_n 2, 1) := by decide +kernel
theorem dX6_sings_37 : decode cX6_sings 37 = .ok (.aload_n 0, 1) := by decide +kernel
theorem dX6_sings_38 : decode cX6_sings 38 = .ok (.getfield 19, 3) := by decide +kernel
theorem dX6_sings_41 : decode cX6_sings 41 = .ok (.iadd, 1) := by decide +kernel
theorem dX6_sings_42 : decode cX6_sings 42 = .ok (.ireturn, 1) := by decide +kernel
theorem dX6_needs_0 : decode cX6_needs 0 = .ok (.aload_n 1, 1) := by decide +kernel
theorem dX6_needs_1 : decode cX6_needs 1 = .ok (.bipush 11, 2) := by decide +kernel
theorem dX6_needs_3 : decode cX6_needs 3 = .ok (.invokevirtual 37, 3) := by decide +kernel
theorem dX6_needs_6 : decode cX6_needs 6 = .ok (.ifCond .eq 14, 3) := by decide +kernel
theorem dX6_needs_9 : decode cX6_needs 9 = .ok (.aload_n 0, 1) := by decide +kernel
theorem dX6_needs_10 : decode cX6_needs 10 = .ok (.aload_n 1, 1) := by decide +kernel
theorem dX6_needs_11 : decode cX6_needs 11 = .ok (.iload_n 2, 1) := by decide +kernel
theorem dX6_needs_12 : decode cX6_needs 12 = .ok (.invokevirtual 41, 3) := by decide +kernel
theorem dX6_needs_15 : decode cX6_needs 15 = .ok (.iconst 2, 1) := by decide +kernel
theorem dX6_needs_16 : decode cX6_needs 16 = .ok (.imul, 1) := by decide +kernel
theorem dX6_needs_17 : decode cX6_needs 17 = .ok (.goto 4, 3) := by decide +kernel
theorem dX6_needs_20 : decode cX6_needs 20 = .ok (.iconst 0, 1) := by decide +kernel
theorem dX6_needs_21 : decode cX6_needs 21 = .ok (.ireturn, 1) := by decide +kernel
theorem dX6_shares_0 : decode cX6_shares 0 = .ok (.aload_n 1, 1) := by decide +kernel
theorem dX6_shares_1 : decode cX6_shares 1 = .ok (.bipush 12, 2) := by decide +kernel
theorem dX6_shares_3 : decode cX6_shares 3 = .ok (.invokevirtual 37, 3) := by decide +kernel
theorem dX6_shares_6 : decode cX6_shares 6 = .ok (.ifCond .eq 20, 3) := by decide +kernel
theorem dX6_shares_9 : decode cX6_shares 9 = .ok (.aload_n 1, 1) := by decide +kernel
theorem dX6_shares_10 : decode cX6_shares 10 = .ok (.iload_n 2, 1) := by decide +kernel
theorem dX6_shares_11 : decode cX6_shares 11 = .ok (.aload_n 0, 1) := by decide +kernel
theorem dX6_shares_12 : decode cX6_shares 12 = .ok (.getfield 22, 3) := by decide +kernel
theorem dX6_shares_15 : decode cX6_shares 15 = .ok (.aload_n 0, 1) := by decide +kernel
theorem dX6_shares_16 : decode cX6_shares 16 = .ok (.getfield 19, 3) := by decide +kernel
theorem dX6_shares_19 : decode cX6_shares 19 = .ok (.isub, 1) := by decide +kernel
theorem dX6_shares_20 : decode cX6_shares 20 = .ok (.invokevirtual 45, 3) := by decide +kernel
theorem dX6_shares_23 : decode cX6_shares 23 = .ok (.goto 4, 3) := by decide +kernel
theorem dX6_shares_26 : decode cX6_shares 26 = .ok (.iconst 0, 1) := by decide +kernel
theorem dX6_shares_27 : decode cX6_shares 27 = .ok (.ireturn, 1) := by decide +kernel
theorem dX6_tells_0 : decode cX6_tells 0 = .ok (.aload_n 1, 1) := by decide +kernel
theorem dX6_tells_1 : decode cX6_tells 1 = .ok (.bipush 13, 2) := by decide +kernel
theorem dX6_tells_3 : decode cX6_tells 3 = .ok (.invokevirtual 37, 3) := by decide +kernel
theorem dX6_tells_6 : decode cX6_tells 6 = .ok (.ifCond .eq 17, 3) := by decide +kernel
theorem dX6_tells_9 : decode cX6_tells 9 = .ok (.aload_n 0, 1) := by decide +kernel
theorem dX6_tells_10 : decode cX6_tells 10 = .ok (.aload_n 1, 1) := by decide +kernel
theorem dX6_tells_11 : decode cX6_tells 11 = .ok (.iload_n 2, 1) := by decide +kernel
theorem dX6_tells_12 : decode cX6_tells 12 = .ok (.invokevirtual 49, 3) := by decide +kernel
theorem dX6_tells_15 : decode cX6_tells 15 = .ok (.aload_n 0, 1) := by decide +kernel
theorem dX6_tells_16 : decode cX6_tells 16 = .ok (.getfield 22, 3) := by decide +kernel
theorem dX6_tells_19 : decode cX6_tells 19 = .ok (.ixor, 1) := by decide +kernel
theorem dX6_tells_20 : decode cX6_tells 20 = .ok (.goto 4, 3) := by decide +kernel
theorem dX6_tells_23 : decode cX6_tells 23 = .ok (.iconst 0, 1) := by decide +kernel
theorem dX6_tells_24 : decode cX6_tells 24 = .ok (.ireturn, 1) := by decide +kernel
theorem dX7_init_0 : decode cX7_init 0 = .ok (.aload_n 0, 1) := by decide +kernel
theorem dX7_init_1 : decode cX7_init 1 = .ok (.invokespecial 3, 3) := by decide +kernel
theorem dX7_init_4 : decode cX7_init 4 = .ok (.aload_n 0, 1) := by decide +kernel
theorem dX7_init_5 : decode cX7_init 5 = .ok (.sipush 200, 3) := by decide +kernel
theorem dX7_init_8 : decode cX7_init 8 = .ok (.newarray .int, 2) := by decide +kernel
theorem dX7_init_10 : decode cX7_init 10 = .ok (.putfield 9, 3) := by decide +kernel
theorem dX7_init_13 : decode cX7_init 13 = .ok (.return_, 1) := by decide +kernel
theorem dX7_append_0 : decode cX7_append 0 = .ok (.aload_n 0, 1) := by decide +kernel
theorem dX7_append_1 : decode cX7_append 1 = .ok (.getfield 15, 3) := by decide +kernel
theorem dX7_append_4 : decode cX7_append 4 = .ok (.sipush 200, 3) := by decide +kernel
theorem dX7_append_7 : decode cX7_append 7 = .ok (.if_icmp .lt 4, 3) := by decide +kernel
theorem dX7_append_10 : decode cX7_append 10 = .ok (.return_, 1) := by decide +kernel
theorem dX7_append_11 : decode cX7_append 11 = .ok (.aload_n 0, 1) := by decide +kernel
theorem dX7_append_12 : decode cX7_append 12 = .ok (.getfield 9, 3) := by decide +kernel
theorem dX7_append_15 : decode cX7_append 15 = .ok (.aload_n 0, 1) := by decide +kernel
theorem dX7_append_16 : decode cX7_append 16 = .ok (.getfield 15, 3) := by decide +kernel
theorem dX7_append_19 : decode cX7_append 19 = .ok (.iload_n 1, 1) := by decide +kernel
theorem dX7_append_20 : decode cX7_append 20 = .ok (.iastore, 1) := by decide +kernel
theorem dX7_append_21 : decode cX7_append 21 = .ok (.aload_n 0, 1) := by decide +kernel
theorem dX7_append_22 : decode cX7_append 22 = .ok (.dup, 1) := by decide +kernel
theorem dX7_append_23 : decode cX7_append 23 = .ok (.getfield 15, 3) := by decide +kernel
theorem dX7_append_26 : decode cX7_append 26 = .ok (.iconst 1, 1) := by decide +kernel
theorem dX7_append_27 : decode cX7_append 27 = .ok (.iadd, 1) := by decide +kernel
theorem dX7_append_28 : decode cX7_append 28 = .ok (.putfield 15, 3) := by decide +kernel
theorem dX7_append_31 : decode cX7_append 31 = .ok (.return_, 1) := by decide +kernel
theorem dX7_faultOf_0 : decode cX7_faultOf 0 = .ok (.aload_n 0, 1) := by decide +kernel
theorem dX7_faultOf_1 : decode cX7_faultOf 1 = .ok (.iconst 0, 1) := by decide +kernel
theorem dX7_faultOf_2 : decode cX7_faultOf 2 = .ok (.putfield 19, 3) := by decide +kernel
theorem dX7_faultOf_5 : decode cX7_faultOf 5 = .ok (.aload_n 0, 1) := by decide +kernel
theorem dX7_faultOf_6 : decode cX7_faultOf 6 = .ok (.invokevirtual 22, 3) := by decide +kernel
theorem dX7_faultOf_9 : decode cX7_faultOf 9 = .ok (.iconst 0, 1) := by decide +kernel
theorem dX7_faultOf_10 : decode cX7_faultOf 10 = .ok (.istore_n 2, 1) := by decide +kernel
theorem dX7_faultOf_11 : decode cX7_faultOf 11 = .ok (.iload_n 2, 1) := by decide +kernel
theorem dX7_faultOf_12 : decode cX7_faultOf 12 = .ok (.sipush 200, 3) := by decide +kernel
theorem dX7_faultOf_15 : decode cX7_faultOf 15 = .ok (.if_icmp .ge 93, 3) := by decide +kernel
theorem dX7_faultOf_18 : decode cX7_faultOf 18 = .ok (.aload_n 0, 1) := by decide +kernel
theorem dX7_faultOf_19 : decode cX7_faultOf 19 = .ok (.getfield 19, 3) := by decide +kernel
theorem dX7_faultOf_22 : decode cX7_faultOf 22 = .ok (.aload_n 0, 1) := by decide +kernel
theorem dX7_faultOf_23 : decode cX7_faultOf 23 = .ok (.getfield 15, 3) := by decide +kernel
theorem dX7_faultOf_26 : decode cX7_faultOf 26 = .ok (.if_icmp .ge 82, 3) := by decide +kernel
theorem dX7_faultOf_29 : decode cX7_faultOf 29 = .ok (.aload_n 0, 1) := by decide +kernel
theorem dX7_faultOf_30 : decode cX7_faultOf 30 = .ok (.invokevirtual 25, 3) := by decide +kernel
theorem dX7_faultOf_33 : decode cX7_faultOf 33 = .ok (.istore_n 3, 1) := by decide +kernel
theorem dX7_faultOf_34 : decode cX7_faultOf 34 = .ok (.iload_n 3, 1) := by decide +kernel
theorem dX7_faultOf_35 : decode cX7_faultOf 35 = .ok (.bipush 8, 2) := by decide +kernel
theorem dX7_faultOf_37 : decode cX7_faultOf 37 = .ok (.if_icmp .ne 13, 3) := by decide +kernel
theorem dX7_faultOf_40 : decode cX7_faultOf 40 = .ok (.aload_n 0, 1) := by decide +kernel
theorem dX7_faultOf_41 : decode cX7_faultOf 41 = .ok (.aload_n 1, 1) := by decide +kernel
theorem dX7_faultOf_42 : decode cX7_faultOf 42 = .ok (.invokevirtual 29, 3) := by decide +kernel
theorem dX7_faultOf_45 : decode cX7_faultOf 45 = .ok (.istore 4, 2) := by decide +kernel
theorem dX7_faultOf_47 : decode cX7_faultOf 47 = .ok (.goto 45, 3) := by decide +kernel
theorem dX7_faultOf_50 : decode cX7_faultOf 50 = .ok (.iload_n 3, 1) := by decide +kernel
theorem dX7_faultOf_51 : decode cX7_faultOf 51 = .ok (.bipush 9, 2) := by decide +kernel
theorem dX7_faultOf_53 : decode cX7_faultOf 53 = .ok (.if_icmp .ne 13, 3) := by decide +kernel
theorem dX7_faultOf_56 : decode cX7_faultOf 56 = .ok (.aload_n 0, 1) := by decide +kernel
theorem dX7_faultOf_57 : decode cX7_faultOf 57 = .ok (.aload_n 1, 1) := by decide +kernel
theorem dX7_faultOf_58 : decode cX7_faultOf 58 = .ok (.invokevirtual 33, 3) := by decide +kernel
theorem dX7_faultOf_61 : decode cX7_faultOf 61 = .ok (.istore 4, 2) := by decide +kernel
theorem dX7_faultOf_63 : decode cX7_faultOf 63 = .ok (.goto 29, 3) := by decide +kernel
theorem dX7_faultOf_66 : decode cX7_faultOf 66 = .ok (.iload_n 3, 1) := by decide +kernel
theorem dX7_faultOf_67 : decode cX7_faultOf 67 = .ok (.ifCond .lt 22, 3) := by decide +kernel
theorem dX7_faultOf_70 : decode cX7_faultOf 70 = .ok (.iload_n 3, 1) := by decide +kernel
theorem dX7_faultOf_71 : decode cX7_faultOf 71 = .ok (.bipush 6, 2) := by decide +kernel
theorem dX7_faultOf_73 : decode cX7_faultOf 73 = .ok (.if_icmp .ge 16, 3) := by decide +kernel
theorem dX7_faultOf_76 : decode cX7_faultOf 76 = .ok (.aload_n 0, 1) := by decide +kernel
theorem dX7_faultOf_77 : decode cX7_faultOf 77 = .ok (.iload_n 3, 1) := by decide +kernel
theorem dX7_faultOf_78 : decode cX7_faultOf 78 = .ok (.aload_n 1, 1) := by decide +kernel
theorem dX7_faultOf_79 : decode cX7_faultOf 79 = .ok (.invokevirtual 36, 3) := by decide +kernel
theorem dX7_faultOf_82 : decode cX7_faultOf 82 = .ok (.ifCond .eq 7, 3) := by decide +kernel
theorem dX7_faultOf_85 : decode cX7_faultOf 85 = .ok (.iconst 1, 1) := by decide +kernel
theorem dX7_faultOf_86 : decode cX7_faultOf 86 = .ok (.goto 4, 3) := by decide +kernel
theorem dX7_faultOf_89 : decode cX7_faultOf 89 = .ok (.iconst 0, 1) := by decide +kernel
theorem dX7_faultOf_90 : decode cX7_faultOf 90 = .ok (.istore 4, 2) := by decide +kernel
theorem dX7_faultOf_92 : decode cX7_faultOf 92 = .ok (.iload 4, 2) := by decide +kernel
theorem dX7_faultOf_94 : decode cX7_faultOf 94 = .ok (.ifCond .ne 8, 3) := by decide +kernel
theorem dX7_faultOf_97 : decode cX7_faultOf 97 = .ok (.aload_n 0, 1) := by decide +kernel
theorem dX7_faultOf_98 : decode cX7_faultOf 98 = .ok (.getfield 19, 3) := by decide +kernel
theorem dX7_faultOf_101 : decode cX7_faultOf 101 = .ok (.ireturn, 1) := by decide +kernel
theorem dX7_faultOf_102 : decode cX7_faultOf 102 = .ok (.iinc 2 1, 3) := by decide +kernel
theorem dX7_faultOf_105 : decode cX7_faultOf 105 = .ok (.goto (-94), 3) := by decide +kernel
theorem dX7_faultOf_108 : decode cX7_faultOf 108 = .ok (.iconst (-1), 1) := by decide +kernel
theorem dX7_faultOf_109 : decode cX7_faultOf 109 = .ok (.ireturn, 1) := by decide +kernel
theorem dX7_readsPerson_0 : decode cX7_readsPerson 0 = .ok (.aload_n 2, 1) := by decide +kernel
theorem dX7_readsPerson_1 : decode cX7_readsPerson 1 = .ok (.getfield 40, 3) := by decide +kernel
theorem dX7_readsPerson_4 : decode cX7_readsPerson 4 = .ok (.bipush 8, 2) := by decide +kernel
theorem dX7_readsPerson_6 : decode cX7_readsPerson 6 = .ok (.if_icmp .lt 5, 3) := by decide +kernel
theorem dX7_readsPerson_9 : decode cX7_readsPerson 9 = .ok (.iconst 0, 1) := by decide +kernel
theorem dX7_readsPerson_10 : decode cX7_readsPerson 10 = .ok (.ireturn, 1) := by decide +kernel
theorem dX7_readsPerson_11 : decode cX7_readsPerson 11 = .ok (.aload_n 0, 1) := by decide +kernel
theorem dX7_readsPerson_12 : decode cX7_readsPerson 12 = .ok (.invokevirtual 43, 3) := by decide +kernel
theorem dX7_readsPerson_15 : decode cX7_readsPerson 15 = .ok (.aload_n 0, 1) := by decide +kernel
theorem dX7_readsPerson_16 : decode cX7_readsPerson 16 = .ok (.iconst 1, 1) := by decide +kernel
theorem dX7_readsPerson_17 : decode cX7_readsPerson 17 = .ok (.bipush 90, 2) := by decide +kernel
theorem dX7_readsPerson_19 : decode cX7_readsPerson 19 = .ok (.invokevirtual 46, 3) := by decide +kernel
theorem dX7_readsPerson_22 : decode cX7_readsPerson 22 = .ok (.istore_n 3, 1) := by decide +kernel
theorem dX7_readsPerson_23 : decode cX7_readsPerson 23 = .ok (.iload_n 3, 1) := by decide +kernel
theorem dX7_readsPerson_24 : decode cX7_readsPerson 24 = .ok (.ifCond .ge 5, 3) := by decide +kernel
theorem dX7_readsPerson_27 : decode cX7_readsPerson 27 = .ok (.iconst 0, 1) := by decide +kernel
theorem dX7_readsPerson_28 : decode cX7_readsPerson 28 = .ok (.ireturn, 1) := by decide +kernel
theorem dX7_readsPerson_29 : decode cX7_readsPerson 29 = .ok (.aload_n 0, 1) := by decide +kernel
theorem dX7_readsPerson_30 : decode cX7_readsPerson 30 = .ok (.invokevirtual 43, 3) := by decide +kernel
theorem dX7_readsPerson_33 : decode cX7_readsPerson 33 = .ok (.iload_n 1, 1) := by decide +kernel
theorem dX7_readsPerson_34 : decode cX7_readsPerson 34 = .ok (.aload_n 2, 1) := by decide +kernel
theorem dX7_readsPerson_35 : decode cX7_readsPerson 35 = .ok (.getfield 40, 3) := by decide +kernel
theorem dX7_readsPerson_38 : decode cX7_readsPerson 38 = .ok (.iload_n 3, 1) := by decide +kernel
theorem dX7_readsPerson_39 : decode cX7_readsPerson 39 = .ok (.invokestatic 50, 3) := by decide +kernel
theorem dX7_readsPerson_42 : decode cX7_readsPerson 42 = .ok (.astore 4, 2) := by decide +kernel
theorem dX7_readsPerson_44 : decode cX7_readsPerson 44 = .ok (.aload_n 2, 1) := by decide +kernel
theorem dX7_readsPerson_45 : decode cX7_readsPerson 45 = .ok (.aload 4, 2) := by decide +kernel
theorem dX7_readsPerson_47 : decode cX7_readsPerson 47 = .ok (.invokevirtual 54, 3) := by decide +kernel
theorem dX7_readsPerson_50 : decode cX7_readsPerson 50 = .ok (.aload_n 0, 1) := by decide +kernel
theorem dX7_readsPerson_51 : decode cX7_readsPerson 51 = .ok (.aload 4, 2) := by decide +kernel
theorem dX7_readsPerson_53 : decode cX7_readsPerson 53 = .ok (.invokevirtual 58, 3) := by decide +kernel
theorem dX7_readsPerson_56 : decode cX7_readsPerson 56 = .ok (.ifCond .eq 23, 3) := by decide +kernel
theorem dX7_readsPerson_59 : decode cX7_readsPerson 59 = .ok (.aload_n 0, 1) := by decide +kernel
theorem dX7_readsPerson_60 : decode cX7_readsPerson 60 = .ok (.aload 4, 2) := by decide +kernel
theorem dX7_readsPerson_62 : decode cX7_readsPerson 62 = .ok (.invokevirtual 62, 3) := by decide +kernel
theorem dX7_readsPerson_65 : decode cX7_readsPerson 65 = .ok (.ifCond .eq 14, 3) := by decide +kernel
theorem dX7_readsPerson_68 : decode cX7_readsPerson 68 = .ok (.aload_n 0, 1) := by decide +kernel
theorem dX7_readsPerson_69 : decode cX7_readsPerson 69 = .ok (.invokevirtual 65, 3) := by decide +kernel
theorem dX7_readsPerson_72 : decode cX7_readsPerson 72 = .ok (.ifCond .eq 7, 3) := by decide +kernel
theorem dX7_readsPerson_75 : decode cX7_readsPerson 75 = .ok (.iconst 1, 1) := by decide +kernel
theorem dX7_readsPerson_76 : decode cX7_readsPerson 76 = .ok (.goto 4, 3) := by decide +kernel
theorem dX7_readsPerson_79 : decode cX7_readsPerson 79 = .ok (.iconst 0, 1) := by decide +kernel
theorem dX7_readsPerson_80 : decode cX7_readsPerson 80 = .ok (.ireturn, 1) := by decide +kernel
theorem dX7_readsVoice_0 : decode cX7_readsVoice 0 = .ok (.aload_n 0, 1) := by decide +kernel
theorem dX7_readsVoice_1 : decode cX7_readsVoice 1 = .ok (.invokevirtual 25, 3) := by decide +kernel
theorem dX7_readsVoice_4 : decode cX7_readsVoice 4 = .ok (.bipush 6, 2) := by decide +kernel
theorem dX7_readsVoice_6 : decode cX7_readsVoice 6 = .ok (.if_icmp .eq 5, 3) := by decide +kernel
theorem dX7_readsVoice_9 : decode cX7_readsVoice 9 = .ok (.iconst 1, 1) := by decide +kernel
theorem dX7_readsVoice_10 : decode cX7_readsVoice 10 = .ok (.ireturn, 1) := by decide +kernel
theorem dX7_readsVoice_11 : decode cX7_readsVoice 11 = .ok (.aload_n 0, 1) := by decide +kernel
theorem dX7_readsVoice_12 : decode cX7_readsVoice 12 = .ok (.invokevirtual 43, 3) := by decide +kernel
theorem dX7_readsVoice_15 : decode cX7_readsVoice 15 = .ok (.aload_n 0, 1) := by decide +kernel
theorem dX7_readsVoice_16 : decode cX7_readsVoice 16 = .ok (.iconst 0, 1) := by decide +kernel
theorem dX7_readsVoice_17 : decode cX7_readsVoice 17 = .ok (.sipush 200, 3) := by decide +kernel
theorem dX7_readsVoice_20 : decode cX7_readsVoice 20 = .ok (.invokevirtual 46, 3) := by decide +kernel
theorem dX7_readsVoice_23 : decode cX7_readsVoice 23 = .ok (.istore_n 2, 1) := by decide +kernel
theorem dX7_readsVoice_24 : decode cX7_readsVoice 24 = .ok (.iload_n 2, 1) := by decide +kernel
theorem dX7_readsVoice_25 : decode cX7_readsVoice 25 = .ok (.ifCond .ge 5, 3) := by decide +kernel
theorem dX7_readsVoice_28 : decode cX7_readsVoice 28 = .ok (.iconst 0, 1) := by decide +kernel
theorem dX7_readsVoice_29 : decode cX7_readsVoice 29 = .ok (.ireturn, 1) := by decide +kernel
theorem dX7_readsVoice_30 : decode cX7_readsVoice 30 = .ok (.aload_n 1, 1) := by decide +kernel
theorem dX7_readsVoice_31 : decode cX7_readsVoice 31 = .ok (.iload_n 2, 1) := by decide +kernel
theorem dX7_readsVoice_32 : decode cX7_readsVoice 32 = .ok (.putfield 69, 3) := by decide +kernel
theorem dX7_readsVoice_35 : decode cX7_readsVoice 35 = .ok (.aload_n 0, 1) := by decide +kernel
theorem dX7_readsVoice_36 : decode cX7_readsVoice 36 = .ok (.invokevirtual 43, 3) := by decide +kernel
theorem dX7_readsVoice_39 : decode cX7_readsVoice 39 = .ok (.iconst 1, 1) := by decide +kernel
theorem dX7_readsVoice_40 : decode cX7_readsVoice 40 = .ok (.ireturn, 1) := by decide +kernel
theorem dX7_readsPurse_0 : decode cX7_readsPurse 0 = .ok (.aload_n 0, 1) := by decide +kernel
theorem dX7_readsPurse_1 : decode cX7_readsPurse 1 = .ok (.invokevirtual 25, 3) := by decide +kernel
theorem dX7_readsPurse_4 : decode cX7_readsPurse 4 = .ok (.bipush 7, 2) := by decide +kernel
theorem dX7_readsPurse_6 : decode cX7_readsPurse 6 = .ok (.if_icmp .eq 5, 3) := by decide +kernel
theorem dX7_readsPurse_9 : decode cX7_readsPurse 9 = .ok (.iconst 1, 1) := by decide +kernel
theorem dX7_readsPurse_10 : decode cX7_readsPurse 10 = .ok (.ireturn, 1) := by decide +kernel
theorem dX7_readsPurse_11 : decode cX7_readsPurse 11 = .ok (.aload_n 0, 1) := by decide +kernel
theorem dX7_readsPurse_12 : decode cX7_readsPurse 12 = .ok (.invokevirtual 43, 3) := by decide +kernel
theorem dX7_readsPurse_15 : decode cX7_readsPurse 15 = .ok (.aload_n 0, 1) := by decide +kernel
theorem dX7_readsPurse_16 : decode cX7_readsPurse 16 = .ok (.iconst 0, 1) := by decide +kernel
theorem dX7_readsPurse_17 : decode cX7_readsPurse 17 = .ok (.sipush 999, 3) := by decide +kernel
theorem dX7_readsPurse_20 : decode cX7_readsPurse 20 = .ok (.invokevirtual 46, 3) := by decide +kernel
theorem dX7_readsPurse_23 : decode cX7_readsPurse 23 = .ok (.istore_n 2, 1) := by decide +kernel
theorem dX7_readsPurse_24 : decode cX7_readsPurse 24 = .ok (.iload_n 2, 1) := by decide +kernel
theorem dX7_readsPurse_25 : decode cX7_readsPurse 25 = .ok (.ifCond .ge 5, 3) := by decide +kernel
theorem dX7_readsPurse_28 : decode cX7_readsPurse 28 = .ok (.iconst 0, 1) := by decide +kernel
theorem dX7_readsPurse_29 : decode cX7_readsPurse 29 = .ok (.ireturn, 1) := by decide +kernel
theorem dX7_readsPurse_30 : decode cX7_readsPurse 30 = .ok (.aload_n 1, 1) := by decide +kernel
theorem dX7_readsPurse_31 : decode cX7_readsPurse 31 = .ok (.iload_n 2, 1) := by decide +kernel
theorem dX7_readsPurse_32 : decode cX7_readsPurse 32 = .ok (.putfield 74, 3) := by decide +kernel
theorem dX7_readsPurse_35 : decode cX7_readsPurse 35 = .ok (.aload_n 0, 1) := by decide +kernel
theorem dX7_readsPurse_36 : decode cX7_readsPurse 36 = .ok (.invokevirtual 43, 3) := by decide +kernel
theorem dX7_readsPurse_39 : decode cX7_readsPurse 39 = .ok (.iconst 1, 1) := by decide +kernel
theorem dX7_readsPurse_40 : decode cX7_readsPurse 40 = .ok (.ireturn, 1) := by decide +kernel
theorem dX7_readsOwes_0 : decode cX7_readsOwes 0 = .ok (.aload_n 0, 1) := by decide +kernel
theorem dX7_readsOwes_1 : decode cX7_readsOwes 1 = .ok (.invokevirtual 43, 3) := by decide +kernel
theorem dX7_readsOwes_4 : decode cX7_readsOwes 4 = .ok (.aload_n 0, 1) := by decide +kernel
theorem dX7_readsOwes_5 : decode cX7_readsOwes 5 = .ok (.iconst 0, 1) := by decide +kernel
theorem dX7_readsOwes_6 : decode cX7_readsOwes 6 = .ok (.aload_n 1, 1) := by decide +kernel
theorem dX7_readsOwes_7 : decode cX7_readsOwes 7 = .ok (.getfield 40, 3) := by decide +kernel
theorem dX7_readsOwes_10 : decode cX7_readsOwes 10 = .ok (.iconst 1, 1) := by decide +kernel
theorem dX7_readsOwes_11 : decode cX7_readsOwes 11 = .ok (.isub, 1) := by decide +kernel
theorem dX7_readsOwes_12 : decode cX7_readsOwes 12 = .ok (.invokevirtual 46, 3) := by decide +kernel
theorem dX7_readsOwes_15 : decode cX7_readsOwes 15 = .ok (.istore_n 2, 1) := by decide +kernel
theorem dX7_readsOwes_16 : decode cX7_readsOwes 16 = .ok (.iload_n 2, 1) := by decide +kernel
theorem dX7_readsOwes_17 : decode cX7_readsOwes 17 = .ok (.ifCond .ge 5, 3) := by decide +kernel
theorem dX7_readsOwes_20 : decode cX7_readsOwes 20 = .ok (.iconst 0, 1) := by decide +kernel
theorem dX7_readsOwes_21 : decode cX7_readsOwes 21 = .ok (.ireturn, 1) := by decide +kernel
theorem dX7_readsOwes_22 : decode cX7_readsOwes 22 = .ok (.aload_n 0, 1) := by decide +kernel
theorem dX7_readsOwes_23 : decode cX7_readsOwes 23 = .ok (.invokevirtual 43, 3) := by decide +kernel
theorem dX7_readsOwes_26 : decode cX7_readsOwes 26 = .ok (.aload_n 0, 1) := by decide +kernel
theorem dX7_readsOwes_27 : decode cX7_readsOwes 27 = .ok (.iconst 0, 1) := by decide +kernel
theorem dX7_readsOwes_28 : decode cX7_readsOwes 28 = .ok (.aload_n 1, 1) := by decide +kernel
theorem dX7_readsOwes_29 : decode cX7_readsOwes 29 = .ok (.getfield 40, 3) := by decide +kernel
theorem dX7_readsOwes_32 : decode cX7_readsOwes 32 = .ok (.iconst 1, 1) := by decide +kernel
theorem dX7_readsOwes_33 : decode cX7_readsOwes 33 = .ok (.isub, 1) := by decide +kernel
theorem dX7_readsOwes_34 : decode cX7_readsOwes 34 = .ok (.invokevirtual 46, 3) := by decide +kernel
theorem dX7_readsOwes_37 : decode cX7_readsOwes 37 = .ok (.istore_n 3, 1) := by decide +kernel
theorem dX7_readsOwes_38 : decode cX7_readsOwes 38 = .ok (.iload_n 3, 1) := by decide +kernel
theorem dX7_readsOwes_39 : decode cX7_readsOwes 39 = .ok (.ifCond .lt 8, 3) := by decide +kernel
theorem dX7_readsOwes_42 : decode cX7_readsOwes 42 = .ok (.iload_n 3, 1) := by decide +kernel
theorem dX7_readsOwes_43 : decode cX7_readsOwes 43 = .ok (.iload_n 2, 1) := by decide +kernel
theorem dX7_readsOwes_44 : decode cX7_readsOwes 44 = .ok (.if_icmp .ne 5, 3) := by decide +kernel
theorem dX7_readsOwes_47 : decode cX7_readsOwes 47 = .ok (.iconst 0, 1) := by decide +kernel
theorem dX7_readsOwes_48 : decode cX7_readsOwes 48 = .ok (.ireturn, 1) := by decide +kernel
theorem dX7_readsOwes_49 : decode cX7_readsOwes 49 = .ok (.aload_n 0, 1) := by decide +kernel
theorem dX7_readsOwes_50 : decode cX7_readsOwes 50 = .ok (.invokevirtual 43, 3) := by decide +kernel
theorem dX7_readsOwes_53 : decode cX7_readsOwes 53 = .ok (.aload_n 0, 1) := by decide +kernel
theorem dX7_readsOwes_54 : decode cX7_readsOwes 54 = .ok (.iconst 0, 1) := by decide +kernel
theorem dX7_readsOwes_55 : decode cX7_readsOwes 55 = .ok (.sipush 999, 3) := by decide +kernel
theorem dX7_readsOwes_58 : decode cX7_readsOwes 58 = .ok (.invokevirtual 46, 3) := by decide +kernel
theorem dX7_readsOwes_61 : decode cX7_readsOwes 61 = .ok (.istore 4, 2) := by decide +kernel
theorem dX7_readsOwes_63 : decode cX7_readsOwes 63 = .ok (.iload 4, 2) := by decide +kernel
theorem dX7_readsOwes_65 : decode cX7_readsOwes 65 = .ok (.ifCond .ge 5, 3) := by decide +kernel
theorem dX7_readsOwes_68 : decode cX7_readsOwes 68 = .ok (.iconst 0, 1) := by decide +kernel
theorem dX7_readsOwes_69 : decode cX7_readsOwes 69 = .ok (.ireturn, 1) := by decide +kernel
theorem dX7_readsOwes_70 : decode cX7_readsOwes 70 = .ok (.aload_n 0, 1) := by decide +kernel
theorem dX7_readsOwes_71 : decode cX7_readsOwes 71 = .ok (.invokevirtual 43, 3) := by decide +kernel
theorem dX7_readsOwes_74 : decode cX7_readsOwes 74 = .ok (.aload_n 1, 1) := by decide +kernel
theorem dX7_readsOwes_75 : decode cX7_readsOwes 75 = .ok (.iload_n 2, 1) := by decide +kernel
theorem dX7_readsOwes_76 : decode cX7_readsOwes 76 = .ok (.iload_n 3, 1) := by decide +kernel
theorem dX7_readsOwes_77 : decode cX7_readsOwes 77 = .ok (.iload 4, 2) := by decide +kernel
theorem dX7_readsOwes_79 : decode cX7_readsOwes 79 = .ok (.invokevirtual 77, 3) := by decide +kernel
theorem dX7_readsOwes_82 : decode cX7_readsOwes 82 = .ok (.aload_n 0, 1) := by decide +kernel
theorem dX7_readsOwes_83 : decode cX7_readsOwes 83 = .ok (.invokevirtual 65, 3) := by decide +kernel
theorem dX7_readsOwes_86 : decode cX7_readsOwes 86 = .ok (.ireturn, 1) := by decide +kernel
theorem dX7_readsAsleep_0 : decode cX7_readsAsleep 0 = .ok (.aload_n 0, 1) := by decide +kernel
theorem dX7_readsAsleep_1 : decode cX7_readsAsleep 1 = .ok (.invokevirtual 43, 3) := by decide +kernel
theorem dX7_readsAsleep_4 : decode cX7_readsAsleep 4 = .ok (.aload_n 1, 1) := by decide +kernel
theorem dX7_readsAsleep_5 : decode cX7_readsAsleep 5 = .ok (.aload_n 0, 1) := by decide +kernel
theorem dX7_readsAsleep_6 : decode cX7_readsAsleep 6 = .ok (.iconst 0, 1) := by decide +kernel
theorem dX7_readsAsleep_7 : decode cX7_readsAsleep 7 = .ok (.aload_n 1, 1) := by decide +kernel
theorem dX7_readsAsleep_8 : decode cX7_readsAsleep 8 = .ok (.getfield 40, 3) := by decide +kernel
theorem dX7_readsAsleep_11 : decode cX7_readsAsleep 11 = .ok (.iconst 1, 1) := by decide +kernel
theorem dX7_readsAsleep_12 : decode cX7_readsAsleep 12 = .ok (.isub, 1) := by decide +kernel
theorem dX7_readsAsleep_13 : decode cX7_readsAsleep 13 = .ok (.invokevirtual 46, 3) := by decide +kernel
theorem dX7_readsAsleep_16 : decode cX7_readsAsleep 16 = .ok (.invokevirtual 81, 3) := by decide +kernel
theorem dX7_readsAsleep_19 : decode cX7_readsAsleep 19 = .ok (.astore_n 2, 1) := by decide +kernel
theorem dX7_readsAsleep_20 : decode cX7_readsAsleep 20 = .ok (.aload_n 2, 1) := by decide +kernel
theorem dX7_readsAsleep_21 : decode cX7_readsAsleep 21 = .ok (.ifnull 20, 3) := by decide +kernel
theorem dX7_readsAsleep_24 : decode cX7_readsAsleep 24 = .ok (.aload_n 2, 1) := by decide +kernel
theorem dX7_readsAsleep_25 : decode cX7_readsAsleep 25 = .ok (.getfield 85, 3) := by decide +kernel
theorem dX7_readsAsleep_28 : decode cX7_readsAsleep 28 = .ok (.ifCond .eq 13, 3) := by decide +kernel
theorem dX7_readsAsleep_31 : decode cX7_readsAsleep 31 = .ok (.aload_n 1, 1) := by decide +kernel
theorem dX7_readsAsleep_32 : decode cX7_readsAsleep 32 = .ok (.invokevirtual 89, 3) := by decide +kernel
theorem dX7_readsAsleep_35 : decode cX7_readsAsleep 35 = .ok (.invokestatic 92, 3) := by decide +kernel
theorem dX7_readsAsleep_38 : decode cX7_readsAsleep 38 = .ok (.ifCond .eq 5, 3) := by decide +kernel
theorem dX7_readsAsleep_41 : decode cX7_readsAsleep 41 = .ok (.iconst 0, 1) := by decide +kernel
theorem dX7_readsAsleep_42 : decode cX7_readsAsleep 42 = .ok (.ireturn, 1) := by decide +kernel
theorem dX7_readsAsleep_43 : decode cX7_readsAsleep 43 = .ok (.aload_n 2, 1) := by decide +kernel
theorem dX7_readsAsleep_44 : decode cX7_readsAsleep 44 = .ok (.iconst 0, 1) := by decide +kernel
theorem dX7_readsAsleep_45 : decode cX7_readsAsleep 45 = .ok (.putfield 85, 3) := by decide +kernel
theorem dX7_readsAsleep_48 : decode cX7_readsAsleep 48 = .ok (.aload_n 0, 1) := by decide +kernel
theorem dX7_readsAsleep_49 : decode cX7_readsAsleep 49 = .ok (.invokevirtual 43, 3) := by decide +kernel
theorem dX7_readsAsleep_52 : decode cX7_readsAsleep 52 = .ok (.aload_n 0, 1) := by decide +kernel
theorem dX7_readsAsleep_53 : decode cX7_readsAsleep 53 = .ok (.invokevirtual 65, 3) := by decide +kernel
theorem dX7_readsAsleep_56 : decode cX7_readsAsleep 56 = .ok (.ireturn, 1) := by decide +kernel
theorem dX7_readsSemicolon_0 : decode cX7_readsSemicolon 0 = .ok (.aload_n 0, 1) := by decide +kernel
theorem dX7_readsSemicolon_1 : decode cX7_readsSemicolon 1 = .ok (.aload_n 0, 1) := by decide +kernel
theorem dX7_readsSemicolon_2 : decode cX7_readsSemicolon 2 = .ok (.getfield 19, 3) := by decide +kernel
theorem dX7_readsSemicolon_5 : decode cX7_readsSemicolon 5 = .ok (.invokevirtual 96, 3) := by decide +kernel
theorem dX7_readsSemicolon_8 : decode cX7_readsSemicolon 8 = .ok (.bipush 59, 2) := by decide +kernel
theorem dX7_readsSemicolon_10 : decode cX7_readsSemicolon 10 = .ok (.if_icmp .eq 5, 3) := by decide +kernel
theorem dX7_readsSemicolon_13 : decode cX7_readsSemicolon 13 = .ok (.iconst 0, 1) := by decide +kernel
theorem dX7_readsSemicolon_14 : decode cX7_readsSemicolon 14 = .ok (.ireturn, 1) := by decide +kernel
theorem dX7_readsSemicolon_15 : decode cX7_readsSemicolon 15 = .ok (.aload_n 0, 1) := by decide +kernel
theorem dX7_readsSemicolon_16 : decode cX7_readsSemicolon 16 = .ok (.dup, 1) := by decide +kernel
theorem dX7_readsSemicolon_17 : decode cX7_readsSemicolon 17 = .ok (.getfield 19, 3) := by decide +kernel
theorem dX7_readsSemicolon_20 : decode cX7_readsSemicolon 20 = .ok (.iconst 1, 1) := by decide +kernel
theorem dX7_readsSemicolon_21 : decode cX7_readsSemicolon 21 = .ok (.iadd, 1) := by decide +kernel
theorem dX7_readsSemicolon_22 : decode cX7_readsSemicolon 22 = .ok (.putfield 19, 3) := by decide +kernel
theorem dX7_readsSemicolon_25 : decode cX7_readsSemicolon 25 = .ok (.aload_n 0, 1) := by decide +kernel
theorem dX7_readsSemicolon_26 : decode cX7_readsSemicolon 26 = .ok (.invokevirtual 22, 3) := by decide +kernel
theorem dX7_readsSemicolon_29 : decode cX7_readsSemicolon 29 = .ok (.iconst 1, 1) := by decide +kernel
theorem dX7_readsSemicolon_30 : decode cX7_readsSemicolon 30 = .ok (.ireturn, 1) := by decide +kernel
theorem dX7_pass_0 : decode cX7_pass 0 = .ok (.aload_n 0, 1) := by decide +kernel
theorem dX7_pass_1 : decode cX7_pass 1 = .ok (.aload_n 0, 1) := by decide +kernel
theorem dX7_pass_2 : decode cX7_pass 2 = .ok (.getfield 100, 3) := by decide +kernel
theorem dX7_pass_5 : decode cX7_pass 5 = .ok (.putfield 19, 3) := by decide +kernel
theorem dX7_pass_8 : decode cX7_pass 8 = .ok (.aload_n 0, 1) := by decide +kernel
theorem dX7_pass_9 : decode cX7_pass 9 = .ok (.invokevirtual 22, 3) := by decide +kernel
theorem dX7_pass_12 : decode cX7_pass 12 = .ok (.return_, 1) := by decide +kernel
theorem dX7_skipBlanks_0 : decode cX7_skipBlanks 0 = .ok (.aload_n 0, 1) := by decide +kernel
theorem dX7_skipBlanks_1 : decode cX7_skipBlanks 1 = .ok (.getfield 19, 3) := by decide +kernel
theorem dX7_skipBlanks_4 : decode cX7_skipBlanks 4 = .ok (.aload_n 0, 1) := by decide +kernel
theorem dX7_skipBlanks_5 : decode cX7_skipBlanks 5 = .ok (.getfield 15, 3) := by decide +kernel
theorem dX7_skipBlanks_8 : decode cX7_skipBlanks 8 = .ok (.if_icmp .ge 29, 3) := by decide +kernel
theorem dX7_skipBlanks_11 : decode cX7_skipBlanks 11 = .ok (.aload_n 0, 1) := by decide +kernel
theorem dX7_skipBlanks_12 : decode cX7_skipBlanks 12 = .ok (.aload_n 0, 1) := by decide +kernel
theorem dX7_skipBlanks_13 : decode cX7_skipBlanks 13 = .ok (.getfield 19, 3) := by decide +kernel
theorem dX7_skipBlanks_16 : decode cX7_skipBlanks 16 = .ok (.invokevirtual 96, 3) := by decide +kernel
theorem dX7_skipBlanks_19 : decode cX7_skipBlanks 19 = .ok (.bipush 32, 2) := by decide +kernel
theorem dX7_skipBlanks_21 : decode cX7_skipBlanks 21 = .ok (.if_icmp .ne 16, 3) := by decide +kernel
theorem dX7_skipBlanks_24 : decode cX7_skipBlanks 24 = .ok (.aload_n 0, 1) := by decide +kernel
theorem dX7_skipBlanks_25 : decode cX7_skipBlanks 25 = .ok (.dup, 1) := by decide +kernel
theorem dX7_skipBlanks_26 : decode cX7_skipBlanks 26 = .ok (.getfield 19, 3) := by decide +kernel
theorem dX7_skipBlanks_29 : decode cX7_skipBlanks 29 = .ok (.iconst 1, 1) := by decide +kernel
theorem dX7_skipBlanks_30 : decode cX7_skipBlanks 30 = .ok (.iadd, 1) := by decide +kernel
theorem dX7_skipBlanks_31 : decode cX7_skipBlanks 31 = .ok (.putfield 19, 3) := by decide +kernel
theorem dX7_skipBlanks_34 : decode cX7_skipBlanks 34 = .ok (.goto (-34), 3) := by decide +kernel
theorem dX7_skipBlanks_37 : decode cX7_skipBlanks 37 = .ok (.return_, 1) := by decide +kernel
theorem dX7_byteAt_0 : decode cX7_byteAt 0 = .ok (.iload_n 1, 1) := by decide +kernel
theorem dX7_byteAt_1 : decode cX7_byteAt 1 = .ok (.ifCond .lt 20, 3) := by decide +kernel
theorem dX7_byteAt_4 : decode cX7_byteAt 4 = .ok (.iload_n 1, 1) := by decide +kernel
theorem dX7_byteAt_5 : decode cX7_byteAt 5 = .ok (.aload_n 0, 1) := by decide +kernel
theorem dX7_byteAt_6 : decode cX7_byteAt 6 = .ok (.getfield 15, 3) := by decide +kernel
theorem dX7_byteAt_9 : decode cX7_byteAt 9 = .ok (.if_icmp .ge 12, 3) := by decide +kernel
theorem dX7_byteAt_12 : decode cX7_byteAt 12 = .ok (.aload_n 0, 1) := by decide +kernel
theorem dX7_byteAt_13 : decode cX7_byteAt 13 = .ok (.getfield 9, 3) := by decide +kernel
theorem dX7_byteAt_16 : decode cX7_byteAt 16 = .ok (.iload_n 1, 1) := by decide +kernel
theorem dX7_byteAt_17 : decode cX7_byteAt 17 = .ok (.iaload, 1) := by decide +kernel
theorem dX7_byteAt_18 : decode cX7_byteAt 18 = .ok (.goto 4, 3) := by decide +kernel
theorem dX7_byteAt_21 : decode cX7_byteAt 21 = .ok (.iconst (-1), 1) := by decide +kernel
theorem dX7_byteAt_22 : decode cX7_byteAt 22 = .ok (.ireturn, 1) := by decide +kernel
theorem dX7_wordHere_0 : decode cX7_wordHere 0 = .ok (.aload_n 0, 1) := by decide +kernel
theorem dX7_wordHere_1 : decode cX7_wordHere 1 = .ok (.aload_n 0, 1) := by decide +kernel
theorem dX7_wordHere_2 : decode cX7_wordHere 2 = .ok (.getfield 19, 3) := by decide +kernel
theorem dX7_wordHere_5 : decode cX7_wordHere 5 = .ok (.putfield 100, 3) := by decide +kernel
theorem dX7_wordHere_8 : decode cX7_wordHere 8 = .ok (.aload_n 0, 1) := by decide +kernel
theorem dX7_wordHere_9 : decode cX7_wordHere 9 = .ok (.getfield 100, 3) := by decide +kernel
theorem dX7_wordHere_12 : decode cX7_wordHere 12 = .ok (.aload_n 0, 1) := by decide +kernel
theorem dX7_wordHere_13 : decode cX7_wordHere 13 = .ok (.getfield 15, 3) := by decide +kernel
theorem dX7_wordHere_16 : decode cX7_wordHere 16 = .ok (.if_icmp .ge 42, 3) := by decide +kernel
theorem dX7_wordHere_19 : decode cX7_wordHere 19 = .ok (.aload_n 0, 1) := by decide +kernel
theorem dX7_wordHere_20 : decode cX7_wordHere 20 = .ok (.aload_n 0, 1) := by decide +kernel
theorem dX7_wordHere_21 : decode cX7_wordHere 21 = .ok (.getfield 100, 3) := by decide +kernel
theorem dX7_wordHere_24 : decode cX7_wordHere 24 = .ok (.invokevirtual 96, 3) := by decide +kernel
theorem dX7_wordHere_27 : decode cX7_wordHere 27 = .ok (.bipush 97, 2) := by decide +kernel
theorem dX7_wordHere_29 : decode cX7_wordHere 29 = .ok (.if_icmp .lt 29, 3) := by decide +kernel
theorem dX7_wordHere_32 : decode cX7_wordHere 32 = .ok (.aload_n 0, 1) := by decide +kernel
theorem dX7_wordHere_33 : decode cX7_wordHere 33 = .ok (.aload_n 0, 1) := by decide +kernel
theorem dX7_wordHere_34 : decode cX7_wordHere 34 = .ok (.getfield 100, 3) := by decide +kernel
theorem dX7_wordHere_37 : decode cX7_wordHere 37 = .ok (.invokevirtual 96, 3) := by decide +kernel
theorem dX7_wordHere_40 : decode cX7_wordHere 40 = .ok (.bipush 122, 2) := by decide +kernel
theorem dX7_wordHere_42 : decode cX7_wordHere 42 = .ok (.if_icmp .gt 16, 3) := by decide +kernel
theorem dX7_wordHere_45 : decode cX7_wordHere 45 = .ok (.aload_n 0, 1) := by decide +kernel
theorem dX7_wordHere_46 : decode cX7_wordHere 46 = .ok (.dup, 1) := by decide +kernel
theorem dX7_wordHere_47 : decode cX7_wordHere 47 = .ok (.getfield 100, 3) := by decide +kernel
theorem dX7_wordHere_50 : decode cX7_wordHere 50 = .ok (.iconst 1, 1) := by decide +kernel
theorem dX7_wordHere_51 : decode cX7_wordHere 51 = .ok (.iadd, 1) := by decide +kernel
theorem dX7_wordHere_52 : decode cX7_wordHere 52 = .ok (.putfield 100, 3) := by decide +kernel
theorem dX7_wordHere_55 : decode cX7_wordHere 55 = .ok (.goto (-47), 3) := by decide +kernel
theorem dX7_wordHere_58 : decode cX7_wordHere 58 = .ok (.iconst 0, 1) := by decide +kernel
theorem dX7_wordHere_59 : decode cX7_wordHere 59 = .ok (.istore_n 1, 1) := by decide +kernel
theorem dX7_wordHere_60 : decode cX7_wordHere 60 = .ok (.iload_n 1, 1) := by decide +kernel
theorem dX7_wordHere_61 : decode cX7_wordHere 61 = .ok (.bipush 10, 2) := by decide +kernel
theorem dX7_wordHere_63 : decode cX7_wordHere 63 = .ok (.if_icmp .ge 22, 3) := by decide +kernel
theorem dX7_wordHere_66 : decode cX7_wordHere 66 = .ok (.aload_n 0, 1) := by decide +kernel
theorem dX7_wordHere_67 : decode cX7_wordHere 67 = .ok (.iload_n 1, 1) := by decide +kernel
theorem dX7_wordHere_68 : decode cX7_wordHere 68 = .ok (.invokestatic 103, 3) := by decide +kernel
theorem dX7_wordHere_71 : decode cX7_wordHere 71 = .ok (.invokevirtual 107, 3) := by decide +kernel
theorem dX7_wordHere_74 : decode cX7_wordHere 74 = .ok (.ifCond .eq 5, 3) := by decide +kernel
theorem dX7_wordHere_77 : decode cX7_wordHere 77 = .ok (.iload_n 1, 1) := by decide +kernel
theorem dX7_wordHere_78 : decode cX7_wordHere 78 = .ok (.ireturn, 1) := by decide +kernel
theorem dX7_wordHere_79 : decode cX7_wordHere 79 = .ok (.iinc 1 1, 3) := by decide +kernel
theorem dX7_wordHere_82 : decode cX7_wordHere 82 = .ok (.goto (-22), 3) := by decide +kernel
theorem dX7_wordHere_85 : decode cX7_wordHere 85 = .ok (.iconst (-1), 1) := by decide +kernel
theorem dX7_wordHere_86 : decode cX7_wordHere 86 = .ok (.ireturn, 1) := by decide +kernel
theorem dX7_isHere_0 : decode cX7_isHere 0 = .ok (.aload_n 1, 1) := by decide +kernel
theorem dX7_isHere_1 : decode cX7_isHere 1 = .ok (.invokevirtual 111, 3) := by decide +kernel
theorem dX7_isHere_4 : decode cX7_isHere 4 = .ok (.aload_n 0, 1) := by decide +kernel
theorem dX7_isHere_5 : decode cX7_isHere 5 = .ok (.getfield 100, 3) := by decide +kernel
theorem dX7_isHere_8 : decode cX7_isHere 8 = .ok (.aload_n 0, 1) := by decide +kernel
theorem dX7_isHere_9 : decode cX7_isHere 9 = .ok (.getfield 19, 3) := by decide +kernel
theorem dX7_isHere_12 : decode cX7_isHere 12 = .ok (.isub, 1) := by decide +kernel
theorem dX7_isHere_13 : decode cX7_isHere 13 = .ok (.if_icmp .eq 5, 3) := by decide +kernel
theorem dX7_isHere_16 : decode cX7_isHere 16 = .ok (.iconst 0, 1) := by decide +kernel
theorem dX7_isHere_17 : decode cX7_isHere 17 = .ok (.ireturn, 1) := by decide +kernel
theorem dX7_isHere_18 : decode cX7_isHere 18 = .ok (.iconst 0, 1) := by decide +kernel
theorem dX7_isHere_19 : decode cX7_isHere 19 = .ok (.istore_n 2, 1) := by decide +kernel
theorem dX7_isHere_20 : decode cX7_isHere 20 = .ok (.iload_n 2, 1) := by decide +kernel
theorem dX7_isHere_21 : decode cX7_isHere 21 = .ok (.aload_n 1, 1) := by decide +kernel
theorem dX7_isHere_22 : decode cX7_isHere 22 = .ok (.invokevirtual 111, 3) := by decide +kernel
theorem dX7_isHere_25 : decode cX7_isHere 25 = .ok (.if_icmp .ge 29, 3) := by decide +kernel
theorem dX7_isHere_28 : decode cX7_isHere 28 = .ok (.aload_n 1, 1) := by decide +kernel
theorem dX7_isHere_29 : decode cX7_isHere 29 = .ok (.iload_n 2, 1) := by decide +kernel
theorem dX7_isHere_30 : decode cX7_isHere 30 = .ok (.invokevirtual 116, 3) := by decide +kernel
theorem dX7_isHere_33 : decode cX7_isHere 33 = .ok (.aload_n 0, 1) := by decide +kernel
theorem dX7_isHere_34 : decode cX7_isHere 34 = .ok (.aload_n 0, 1) := by decide +kernel
theorem dX7_isHere_35 : decode cX7_isHere 35 = .ok (.getfield 19, 3) := by decide +kernel
theorem dX7_isHere_38 : decode cX7_isHere 38 = .ok (.iload_n 2, 1) := by decide +kernel
theorem dX7_isHere_39 : decode cX7_isHere 39 = .ok (.iadd, 1) := by decide +kernel
theorem dX7_isHere_40 : decode cX7_isHere 40 = .ok (.invokevirtual 96, 3) := by decide +kernel
theorem dX7_isHere_43 : decode cX7_isHere 43 = .ok (.if_icmp .eq 5, 3) := by decide +kernel
theorem dX7_isHere_46 : decode cX7_isHere 46 = .ok (.iconst 0, 1) := by decide +kernel
theorem dX7_isHere_47 : decode cX7_isHere 47 = .ok (.ireturn, 1) := by decide +kernel
theorem dX7_isHere_48 : decode cX7_isHere 48 = .ok (.iinc 2 1, 3) := by decide +kernel
theorem dX7_isHere_51 : decode cX7_isHere 51 = .ok (.goto (-31), 3) := by decide +kernel
theorem dX7_isHere_54 : decode cX7_isHere 54 = .ok (.iconst 1, 1) := by decide +kernel
theorem dX7_isHere_55 : decode cX7_isHere 55 = .ok (.ireturn, 1) := by decide +kernel
theorem dX7_nameOf_0 : decode cX7_nameOf 0 = .ok (.iload_n 0, 1) := by decide +kernel
theorem dX7_nameOf_1 : decode cX7_nameOf 1 = .ok (.tableswitch 78 0 8 #[51, 54, 57, 60, 63, 66, 69, 72, 75], 51) := by decide +kernel
theorem dX7_nameOf_52 : decode cX7_nameOf 52 = .ok (.ldc 120, 2) := by decide +kernel
theorem dX7_nameOf_54 : decode cX7_nameOf 54 = .ok (.areturn, 1) := by decide +kernel
theorem dX7_nameOf_55 : decode cX7_nameOf 55 = .ok (.ldc 122, 2) := by decide +kernel
theorem dX7_nameOf_57 : decode cX7_nameOf 57 = .ok (.areturn, 1) := by decide +kernel
theorem dX7_nameOf_58 : decode cX7_nameOf 58 = .ok (.ldc 124, 2) := by decide +kernel
theorem dX7_nameOf_60 : decode cX7_nameOf 60 = .ok (.areturn, 1) := by decide +kernel
theorem dX7_nameOf_61 : decode cX7_nameOf 61 = .ok (.ldc 126, 2) := by decide +kernel
theorem dX7_nameOf_63 : decode cX7_nameOf 63 = .ok (.areturn, 1) := by decide +kernel
theorem dX7_nameOf_64 : decode cX7_nameOf 64 = .ok (.ldc 128, 2) := by decide +kernel
theorem dX7_nameOf_66 : decode cX7_nameOf 66 = .ok (.areturn, 1) := by decide +kernel
theorem dX7_nameOf_67 : decode cX7_nameOf 67 = .ok (.ldc 130, 2) := by decide +kernel
theorem dX7_nameOf_69 : decode cX7_nameOf 69 = .ok (.areturn, 1) := by decide +kernel
theorem dX7_nameOf_70 : decode cX7_nameOf 70 = .ok (.ldc 132, 2) := by decide +kernel
theorem dX7_nameOf_72 : decode cX7_nameOf 72 = .ok (.areturn, 1) := by decide +kernel
theorem dX7_nameOf_73 : decode cX7_nameOf 73 = .ok (.ldc 133, 2) := by decide +kernel
theorem dX7_nameOf_75 : decode cX7_nameOf 75 = .ok (.areturn, 1) := by decide +kernel
theorem dX7_nameOf_76 : decode cX7_nameOf 76 = .ok (.ldc 134, 2) := by decide +kernel
theorem dX7_nameOf_78 : decode cX7_nameOf 78 = .ok (.areturn, 1) := by decide +kernel
theorem dX7_nameOf_79 : decode cX7_nameOf 79 = .ok (.ldc 136, 2) := by decide +kernel
theorem dX7_nameOf_81 : decode cX7_nameOf 81 = .ok (.areturn, 1) := by decide +kernel
theorem dX7_numberHere_0 : decode cX7_numberHere 0 = .ok (.iconst 0, 1) := by decide +kernel
theorem dX7_numberHere_1 : decode cX7_numberHere 1 = .ok (.istore_n 3, 1) := by decide +kernel
theorem dX7_numberHere_2 : decode cX7_numberHere 2 = .ok (.aload_n 0, 1) := by decide +kernel
theorem dX7_numberHere_3 : decode cX7_numberHere 3 = .ok (.aload_n 0, 1) := by decide +kernel
theorem dX7_numberHere_4 : decode cX7_numberHere 4 = .ok (.getfield 19, 3) := by decide +kernel
theorem dX7_numberHere_7 : decode cX7_numberHere 7 = .ok (.putfield 100, 3) := by decide +kernel
theorem dX7_numberHere_10 : decode cX7_numberHere 10 = .ok (.aload_n 0, 1) := by decide +kernel
theorem dX7_numberHere_11 : decode cX7_numberHere 11 = .ok (.getfield 100, 3) := by decide +kernel
theorem dX7_numberHere_14 : decode cX7_numberHere 14 = .ok (.aload_n 0, 1) := by decide +kernel
theorem dX7_numberHere_15 : decode cX7_numberHere 15 = .ok (.getfield 15, 3) := by decide +kernel
theorem dX7_numberHere_18 : decode cX7_numberHere 18 = .ok (.if_icmp .ge 72, 3) := by decide +kernel
theorem dX7_numberHere_21 : decode cX7_numberHere 21 = .ok (.aload_n 0, 1) := by decide +kernel
theorem dX7_numberHere_22 : decode cX7_numberHere 22 = .ok (.aload_n 0, 1) := by decide +kernel
theorem dX7_numberHere_23 : decode cX7_numberHere 23 = .ok (.getfield 100, 3) := by decide +kernel
theorem dX7_numberHere_26 : decode cX7_numberHere 26 = .ok (.invokevirtual 96, 3) := by decide +kernel
theorem dX7_numberHere_29 : decode cX7_numberHere 29 = .ok (.bipush 48, 2) := by decide +kernel
theorem dX7_numberHere_31 : decode cX7_numberHere 31 = .ok (.if_icmp .lt 59, 3) := by decide +kernel
theorem dX7_numberHere_34 : decode cX7_numberHere 34 = .ok (.aload_n 0, 1) := by decide +kernel
theorem dX7_numberHere_35 : decode cX7_numberHere 35 = .ok (.aload_n 0, 1) := by decide +kernel
theorem dX7_numberHere_36 : decode cX7_numberHere 36 = .ok (.getfield 100, 3) := by decide +kernel
theorem dX7_numberHere_39 : decode cX7_numberHere 39 = .ok (.invokevirtual 96, 3) := by decide +kernel
theorem dX7_numberHere_42 : decode cX7_numberHere 42 = .ok (.bipush 57, 2) := by decide +kernel
theorem dX7_numberHere_44 : decode cX7_numberHere 44 = .ok (.if_icmp .gt 46, 3) := by decide +kernel
theorem dX7_numberHere_47 : decode cX7_numberHere 47 = .ok (.aload_n 0, 1) := by decide +kernel
theorem dX7_numberHere_48 : decode cX7_numberHere 48 = .ok (.getfield 100, 3) := by decide +kernel
theorem dX7_numberHere_51 : decode cX7_numberHere 51 = .ok (.aload_n 0, 1) := by decide +kernel
theorem dX7_numberHere_52 : decode cX7_numberHere 52 = .ok (.getfield 19, 3) := by decide +kernel
theorem dX7_numberHere_55 : decode cX7_numberHere 55 = .ok (.isub, 1) := by decide +kernel
theorem dX7_numberHere_56 : decode cX7_numberHere 56 = .ok (.iconst 3, 1) := by decide +kernel
theorem dX7_numberHere_57 : decode cX7_numberHere 57 = .ok (.if_icmp .ge 20, 3) := by decide +kernel
theorem dX7_numberHere_60 : decode cX7_numberHere 60 = .ok (.bipush 10, 2) := by decide +kernel
theorem dX7_numberHere_62 : decode cX7_numberHere 62 = .ok (.iload_n 3, 1) := by decide +kernel
theorem dX7_numberHere_63 : decode cX7_numberHere 63 = .ok (.imul, 1) := by decide +kernel
theorem dX7_numberHere_64 : decode cX7_numberHere 64 = .ok (.aload_n 0, 1) := by decide +kernel
theorem dX7_numberHere_65 : decode cX7_numberHere 65 = .ok (.aload_n 0, 1) := by decide +kernel
theorem dX7_numberHere_66 : decode cX7_numberHere 66 = .ok (.getfield 100, 3) := by decide +kernel
theorem dX7_numberHere_69 : decode cX7_numberHere 69 = .ok (.invokevirtual 96, 3) := by decide +kernel
theorem dX7_numberHere_72 : decode cX7_numberHere 72 = .ok (.iadd, 1) := by decide +kernel
theorem dX7_numberHere_73 : decode cX7_numberHere 73 = .ok (.bipush 48, 2) := by decide +kernel
theorem dX7_numberHere_75 : decode cX7_numberHere 75 = .ok (.isub, 1) := by decide +kernel
theorem dX7_numberHere_76 : decode cX7_numberHere 76 = .ok (.istore_n 3, 1) := by decide +kernel
theorem dX7_numberHere_77 : decode cX7_numberHere 77 = .ok (.aload_n 0, 1) := by decide +kernel
theorem dX7_numberHere_78 : decode cX7_numberHere 78 = .ok (.dup, 1) := by decide +kernel
theorem dX7_numberHere_79 : decode cX7_numberHere 79 = .ok (.getfield 100, 3) := by decide +kernel
theorem dX7_numberHere_82 : decode cX7_numberHere 82 = .ok (.iconst 1, 1) := by decide +kernel
theorem dX7_numberHere_83 : decode cX7_numberHere 83 = .ok (.iadd, 1) := by decide +kernel
theorem dX7_numberHere_84 : decode cX7_numberHere 84 = .ok (.putfield 100, 3) := by decide +kernel
theorem dX7_numberHere_87 : decode cX7_numberHere 87 = .ok (.goto (-77), 3) := by decide +kernel
theorem dX7_numberHere_90 : decode cX7_numberHere 90 = .ok (.aload_n 0, 1) := by decide +kernel
theorem dX7_numberHere_91 : decode cX7_numberHere 91 = .ok (.getfield 100, 3) := by decide +kernel
theorem dX7_numberHere_94 : decode cX7_numberHere 94 = .ok (.aload_n 0, 1) := by decide +kernel
theorem dX7_numberHere_95 : decode cX7_numberHere 95 = .ok (.getfield 19, 3) := by decide +kernel
theorem dX7_numberHere_98 : decode cX7_numberHere 98 = .ok (.isub, 1) := by decide +kernel
theorem dX7_numberHere_99 : decode cX7_numberHere 99 = .ok (.istore 4, 2) := by decide +kernel
theorem dX7_numberHere_101 : decode cX7_numberHere 101 = .ok (.iload 4, 2) := by decide +kernel
theorem dX7_numberHere_103 : decode cX7_numberHere 103 = .ok (.iconst 1, 1) := by decide +kernel
theorem dX7_numberHere_104 : decode cX7_numberHere 104 = .ok (.if_icmp .lt 19, 3) := by decide +kernel
theorem dX7_numberHere_107 : decode cX7_numberHere 107 = .ok (.iload 4, 2) := by decide +kernel
theorem dX7_numberHere_109 : decode cX7_numberHere 109 = .ok (.iconst 3, 1) := by decide +kernel
theorem dX7_numberHere_110 : decode cX7_numberHere 110 = .ok (.if_icmp .gt 13, 3) := by decide +kernel
theorem dX7_numberHere_113 : decode cX7_numberHere 113 = .ok (.iload_n 3, 1) := by decide +kernel
theorem dX7_numberHere_114 : decode cX7_numberHere 114 = .ok (.iload_n 1, 1) := by decide +kernel
theorem dX7_numberHere_115 : decode cX7_numberHere 115 = .ok (.if_icmp .lt 8, 3) := by decide +kernel
theorem dX7_numberHere_118 : decode cX7_numberHere 118 = .ok (.iload_n 3, 1) := by decide +kernel
theorem dX7_numberHere_119 : decode cX7_numberHere 119 = .ok (.iload_n 2, 1) := by decide +kernel
theorem dX7_numberHere_120 : decode cX7_numberHere 120 = .ok (.if_icmp .le 7, 3) := by decide +kernel
theorem dX7_numberHere_123 : decode cX7_numberHere 123 = .ok (.iconst (-1), 1) := by decide +kernel
theorem dX7_numberHere_124 : decode cX7_numberHere 124 = .ok (.goto 4, 3) := by decide +kernel
theorem dX7_numberHere_127 : decode cX7_numberHere 127 = .ok (.iload_n 3, 1) := by decide +kernel
theorem dX7_numberHere_128 : decode cX7_numberHere 128 = .ok (.ireturn, 1) := by decide +kernel
theorem dX8_init_0 : decode cX8_init 0 = .ok (.aload_n 0, 1) := by decide +kernel
theorem dX8_init_1 : decode cX8_init 1 = .ok (.invokespecial 3, 3) := by decide +kernel
theorem dX8_init_4 : decode cX8_init 4 = .ok (.aload_n 0, 1) := by decide +kernel
theorem dX8_init_5 : decode cX8_init 5 = .ok (.bipush 30, 2) := by decide +kernel
theorem dX8_init_7 : decode cX8_init 7 = .ok (.newarray .int, 2) := by decide +kernel
theorem dX8_init_9 : decode cX8_init 9 = .ok (.putfield 9, 3) := by decide +kernel
theorem dX8_init_12 : decode cX8_init 12 = .ok (.return_, 1) := by decide +kernel
theorem dX8_clear_0 : decode cX8_clear 0 = .ok (.aload_n 0, 1) := by decide +kernel
theorem dX8_clear_1 : decode cX8_clear 1 = .ok (.iconst 0, 1) := by decide +kernel
theorem dX8_clear_2 : decode cX8_clear 2 = .ok (.putfield 15, 3) := by decide +kernel
theorem dX8_clear_5 : decode cX8_clear 5 = .ok (.aload_n 0, 1) := by decide +kernel
theorem dX8_clear_6 : decode cX8_clear 6 = .ok (.iconst 0, 1) := by decide +kernel
theorem dX8_clear_7 : decode cX8_clear 7 = .ok (.putfield 19, 3) := by decide +kernel
theorem dX8_clear_10 : decode cX8_clear 10 = .ok (.return_, 1) := by decide +kernel
theorem dX8_begins_0 : decode cX8_begins 0 = .ok (.aload_n 0, 1) := by decide +kernel
theorem dX8_begins_1 : decode cX8_begins 1 = .ok (.getfield 19, 3) := by decide +kernel
theorem dX8_begins_4 : decode cX8_begins 4 = .ok (.ifCond .eq 5, 3) := by decide +kernel
theorem dX8_begins_7 : decode cX8_begins 7 = .ok (.iconst 0, 1) := by decide +kernel
theorem dX8_begins_8 : decode cX8_begins 8 = .ok (.ireturn, 1) := by decide +kernel
theorem dX8_begins_9 : decode cX8_begins 9 = .ok (.aload_n 0, 1) := by decide +kernel
theorem dX8_begins_10 : decode cX8_begins 10 = .ok (.getfield 15, 3) := by decide +kernel
theorem dX8_begins_13 : decode cX8_begins 13 = .ok (.bipush 30, 2) := by decide +kernel
theorem dX8_begins_15 : decode cX8_begins 15 = .ok (.if_icmp .ge 23, 3) := by decide +kernel
theorem dX8_begins_18 : decode cX8_begins 18 = .ok (.aload_n 0, 1) := by decide +kernel
theorem dX8_begins_19 : decode cX8_begins 19 = .ok (.getfield 9, 3) := by decide +kernel
theorem dX8_begins_22 : decode cX8_begins 22 = .ok (.aload_n 0, 1) := by decide +kernel
theorem dX8_begins_23 : decode cX8_begins 23 = .ok (.getfield 15, 3) := by decide +kernel
theorem dX8_begins_26 : decode cX8_begins 26 = .ok (.iload_n 1, 1) := by decide +kernel
theorem dX8_begins_27 : decode cX8_begins 27 = .ok (.iastore, 1) := by decide +kernel
theorem dX8_begins_28 : decode cX8_begins 28 = .ok (.aload_n 0, 1) := by decide +kernel
theorem dX8_begins_29 : decode cX8_begins 29 = .ok (.dup, 1) := by decide +kernel
theorem dX8_begins_30 : decode cX8_begins 30 = .ok (.getfield 15, 3) := by decide +kernel
theorem dX8_begins_33 : decode cX8_begins 33 = .ok (.iconst 1, 1) := by decide +kernel
theorem dX8_begins_34 : decode cX8_begins 34 = .ok (.iadd, 1) := by decide +kernel
theorem dX8_begins_35 : decode cX8_begins 35 = .ok (.putfield 15, 3) := by decide +kernel
theorem dX8_begins_38 : decode cX8_begins 38 = .ok (.iconst 1, 1) := by decide +kernel
theorem dX8_begins_39 : decode cX8_begins 39 = .ok (.ireturn, 1) := by decide +kernel
theorem dX8_parted_0 : decode cX8_parted 0 = .ok (.iload_n 2, 1) := by decide +kernel
theorem dX8_parted_1 : decode cX8_parted 1 = .ok (.ifCond .ne 10, 3) := by decide +kernel
theorem dX8_parted_4 : decode cX8_parted 4 = .ok (.aload_n 0, 1) := by decide +kernel
theorem dX8_parted_5 : decode cX8_parted 5 = .ok (.iconst 1, 1) := by decide +kernel
theorem dX8_parted_6 : decode cX8_parted 6 = .ok (.putfield 19, 3) := by decide +kernel
theorem dX8_parted_9 : decode cX8_parted 9 = .ok (.iconst 0, 1) := by decide +kernel
theorem dX8_parted_10 : decode cX8_parted 10 = .ok (.ireturn, 1) := by decide +kernel
theorem dX8_parted_11 : decode cX8_parted 11 = .ok (.iload_n 1, 1) := by decide +kernel
theorem dX8_parted_12 : decode cX8_parted 12 = .ok (.iload_n 2, 1) := by decide +kernel
theorem dX8_parted_13 : decode cX8_parted 13 = .ok (.idiv, 1) := by decide +kernel
theorem dX8_parted_14 : decode cX8_parted 14 = .ok (.ireturn, 1) := by decide +kernel
theorem dX9_init_0 : decode cX9_init 0 = .ok (.aload_n 0, 1) := by decide +kernel
theorem dX9_init_1 : decode cX9_init 1 = .ok (.iload_n 1, 1) := by decide +kernel
theorem dX9_init_2 : decode cX9_init 2 = .ok (.iload_n 2, 1) := by decide +kernel
theorem dX9_init_3 : decode cX9_init 3 = .ok (.invokespecial 1, 3) := by decide +kernel
theorem dX9_init_6 : decode cX9_init 6 = .ok (.return_, 1) := by decide +kernel
theorem dX9_kind_0 : decode cX9_kind 0 = .ok (.iconst 5, 1) := by decide +kernel
theorem dX9_kind_1 : decode cX9_kind 1 = .ok (.ireturn, 1) := by decide +kernel
theorem dX9_pays_0 : decode cX9_pays 0 = .ok (.iconst 1, 1) := by decide +kernel
theorem dX9_pays_1 : decode cX9_pays 1 = .ok (.ireturn, 1) := by decide +kernel
theorem dX9_tells_0 : decode cX9_tells 0 = .ok (.aload_n 1, 1) := by decide +kernel
theorem dX9_tells_1 : decode cX9_tells 1 = .ok (.bipush 60, 2) := by decide +kernel
theorem dX9_tells_3 : decode cX9_tells 3 = .ok (.invokevirtual 7, 3) := by decide +kernel
theorem dX9_tells_6 : decode cX9_tells 6 = .ok (.ifCond .eq 14, 3) := by decide +kernel
theorem dX9_tells_9 : decode cX9_tells 9 = .ok (.aload_n 0, 1) := by decide +kernel
theorem dX9_tells_10 : decode cX9_tells 10 = .ok (.aload_n 1, 1) := by decide +kernel
theorem dX9_tells_11 : decode cX9_tells 11 = .ok (.iload_n 2, 1) := by decide +kernel
theorem dX9_tells_12 : decode cX9_tells 12 = .ok (.invokespecial 13, 3) := by decide +kernel
theorem dX9_tells_15 : decode cX9_tells 15 = .ok (.iconst 2, 1) := by decide +kernel
theorem dX9_tells_16 : decode cX9_tells 16 = .ok (.imul, 1) := by decide +kernel
theorem dX9_tells_17 : decode cX9_tells 17 = .ok (.goto 4, 3) := by decide +kernel
theorem dX9_tells_20 : decode cX9_tells 20 = .ok (.iconst 0, 1) := by decide +kernel
theorem dX9_tells_21 : decode cX9_tells 21 = .ok (.ireturn, 1) := by decide +kernel
theorem dX9_shares_0 : decode cX9_shares 0 = .ok (.aload_n 1, 1) := by decide +kernel
theorem dX9_shares_1 : decode cX9_shares 1 = .ok (.bipush 61, 2) := by decide +kernel
theorem dX9_shares_3 : decode cX9_shares 3 = .ok (.invokevirtual 7, 3) := by decide +kernel
theorem dX9_shares_6 : decode cX9_shares 6 = .ok (.ifCond .eq 22, 3) := by decide +kernel
theorem dX9_shares_9 : decode cX9_shares 9 = .ok (.aload_n 0, 1) := by decide +kernel
theorem dX9_shares_10 : decode cX9_shares 10 = .ok (.aload_n 1, 1) := by decide +kernel
theorem dX9_shares_11 : decode cX9_shares 11 = .ok (.iload_n 2, 1) := by decide +kernel
theorem dX9_shares_12 : decode cX9_shares 12 = .ok (.invokespecial 17, 3) := by decide +kernel
theorem dX9_shares_15 : decode cX9_shares 15 = .ok (.aload_n 0, 1) := by decide +kernel
theorem dX9_shares_16 : decode cX9_shares 16 = .ok (.aload_n 1, 1) := by decide +kernel
theorem dX9_shares_17 : decode cX9_shares 17 = .ok (.aload_n 0, 1) := by decide +kernel
theorem dX9_shares_18 : decode cX9_shares 18 = .ok (.getfield 20, 3) := by decide +kernel
theorem dX9_shares_21 : decode cX9_shares 21 = .ok (.invokevirtual 26, 3) := by decide +kernel
theorem dX9_shares_24 : decode cX9_shares 24 = .ok (.iadd, 1) := by decide +kernel
theorem dX9_shares_25 : decode cX9_shares 25 = .ok (.goto 4, 3) := by decide +kernel
theorem dX9_shares_28 : decode cX9_shares 28 = .ok (.iconst 0, 1) := by decide +kernel
theorem dX9_shares_29 : decode cX9_shares 29 = .ok (.ireturn, 1) := by decide +kernel
theorem dX10_init_0 : decode cX10_init 0 = .ok (.aload_n 0, 1) := by decide +kernel
theorem dX10_init_1 : decode cX10_init 1 = .ok (.invokespecial 3, 3) := by decide +kernel
theorem dX10_init_4 : decode cX10_init 4 = .ok (.aload_n 0, 1) := by decide +kernel
theorem dX10_init_5 : decode cX10_init 5 = .ok (.bipush 8, 2) := by decide +kernel
theorem dX10_init_7 : decode cX10_init 7 = .ok (.anewarray 9, 3) := by decide +kernel
theorem dX10_init_10 : decode cX10_init 10 = .ok (.putfield 11, 3) := by decide +kernel
theorem dX10_init_13 : decode cX10_init 13 = .ok (.aload_n 0, 1) := by decide +kernel
theorem dX10_init_14 : decode cX10_init 14 = .ok (.bipush 64, 2) := by decide +kernel
theorem dX10_init_16 : decode cX10_init 16 = .ok (.newarray .int, 2) := by decide +kernel
theorem dX10_init_18 : decode cX10_init 18 = .ok (.putfield 17, 3) := by decide +kernel
theorem dX10_init_21 : decode cX10_init 21 = .ok (.aload_n 0, 1) := by decide +kernel
theorem dX10_init_22 : decode cX10_init 22 = .ok (.iconst 1, 1) := by decide +kernel
theorem dX10_init_23 : decode cX10_init 23 = .ok (.putfield 21, 3) := by decide +kernel
theorem dX10_init_26 : decode cX10_init 26 = .ok (.return_, 1) := by decide +kernel
theorem dX10_at_0 : decode cX10_at 0 = .ok (.iload_n 1, 1) := by decide +kernel
theorem dX10_at_1 : decode cX10_at 1 = .ok (.ifCond .lt 20, 3) := by decide +kernel
theorem dX10_at_4 : decode cX10_at 4 = .ok (.iload_n 1, 1) := by decide +kernel
theorem dX10_at_5 : decode cX10_at 5 = .ok (.aload_n 0, 1) := by decide +kernel
theorem dX10_at_6 : decode cX10_at 6 = .ok (.getfield 25, 3) := by decide +kernel
theorem dX10_at_9 : decode cX10_at 9 = .ok (.if_icmp .ge 12, 3) := by decide +kernel
theorem dX10_at_12 : decode cX10_at 12 = .ok (.aload_n 0, 1) := by decide +kernel
theorem dX10_at_13 : decode cX10_at 13 = .ok (.getfield 11, 3) := by decide +kernel
theorem dX10_at_16 : decode cX10_at 16 = .ok (.iload_n 1, 1) := by decide +kernel
theorem dX10_at_17 : decode cX10_at 17 = .ok (.aaload, 1) := by decide +kernel
theorem dX10_at_18 : decode cX10_at 18 = .ok (.goto 4, 3) := by decide +kernel
theorem dX10_at_21 : decode cX10_at 21 = .ok (.aconst_null, 1) := by decide +kernel
theorem dX10_at_22 : decode cX10_at 22 = .ok (.areturn, 1) := by decide +kernel
theorem dX10_join_0 : decode cX10_join 0 = .ok (.aload_n 0, 1) := by decide +kernel
theorem dX10_join_1 : decode cX10_join 1 = .ok (.getfield 25, 3) := by decide +kernel
theorem dX10_join_4 : decode cX10_join 4 = .ok (.bipush 8, 2) := by decide +kernel
theorem dX10_join_6 : decode cX10_join 6 = .ok (.if_icmp .lt 4, 3) := by decide +kernel
theorem dX10_join_9 : decode cX10_join 9 = .ok (.return_, 1) := by decide +kernel
theorem dX10_join_10 : decode cX10_join 10 = .ok (.aload_n 0, 1) := by decide +kernel
theorem dX10_join_11 : decode cX10_join 11 = .ok (.getfield 11, 3) := by decide +kernel
theorem dX10_join_14 : decode cX10_join 14 = .ok (.aload_n 0, 1) := by decide +kernel
theorem dX10_join_15 : decode cX10_join 15 = .ok (.getfield 25, 3) := by decide +kernel
theorem dX10_join_18 : decode cX10_join 18 = .ok (.aload_n 1, 1) := by decide +kernel
theorem dX10_join_19 : decode cX10_join 19 = .ok (.aastore, 1) := by decide +kernel
theorem dX10_join_20 : decode cX10_join 20 = .ok (.aload_n 0, 1) := by decide +kernel
theorem dX10_join_21 : decode cX10_join 21 = .ok (.dup, 1) := by decide +kernel
theorem dX10_join_22 : decode cX10_join 22 = .ok (.getfield 25, 3) := by decide +kernel
theorem dX10_join_25 : decode cX10_join 25 = .ok (.iconst 1, 1) := by decide +kernel
theorem dX10_join_26 : decode cX10_join 26 = .ok (.iadd, 1) := by decide +kernel
theorem dX10_join_27 : decode cX10_join 27 = .ok (.putfield 25, 3) := by decide +kernel
theorem dX10_join_30 : decode cX10_join 30 = .ok (.return_, 1) := by decide +kernel
theorem dX10_awakeSet_0 : decode cX10_awakeSet 0 = .ok (.iconst 0, 1) := by decide +kernel
theorem dX10_awakeSet_1 : decode cX10_awakeSet 1 = .ok (.istore_n 1, 1) := by decide +kernel
theorem dX10_awakeSet_2 : decode cX10_awakeSet 2 = .ok (.iconst 0, 1) := by decide +kernel
theorem dX10_awakeSet_3 : decode cX10_awakeSet 3 = .ok (.istore_n 2, 1) := by decide +kernel
theorem dX10_awakeSet_4 : decode cX10_awakeSet 4 = .ok (.iload_n 2, 1) := by decide +kernel
theorem dX10_awakeSet_5 : decode cX10_awakeSet 5 = .ok (.aload_n 0, 1) := by decide +kernel
theorem dX10_awakeSet_6 : decode cX10_awakeSet 6 = .ok (.getfield 25, 3) := by decide +kernel
theorem dX10_awakeSet_9 : decode cX10_awakeSet 9 = .ok (.if_icmp .ge 33, 3) := by decide +kernel
theorem dX10_awakeSet_12 : decode cX10_awakeSet 12 = .ok (.aload_n 0, 1) := by decide +kernel
theorem dX10_awakeSet_13 : decode cX10_awakeSet 13 = .ok (.getfield 11, 3) := by decide +kernel
theorem dX10_awakeSet_16 : decode cX10_awakeSet 16 = .ok (.iload_n 2, 1) := by decide +kernel
theorem dX10_awakeSet_17 : decode cX10_awakeSet 17 = .ok (.aaload, 1) := by decide +kernel
theorem dX10_awakeSet_18 : decode cX10_awakeSet 18 = .ok (.astore_n 3, 1) := by decide +kernel
theorem dX10_awakeSet_19 : decode cX10_awakeSet 19 = .ok (.aload_n 3, 1) := by decide +kernel
theorem dX10_awakeSet_20 : decode cX10_awakeSet 20 = .ok (.ifnull 16, 3) := by decide +kernel
theorem dX10_awakeSet_23 : decode cX10_awakeSet 23 = .ok (.aload_n 3, 1) := by decide +kernel
theorem dX10_awakeSet_24 : decode cX10_awakeSet 24 = .ok (.getfield 28, 3) := by decide +kernel
theorem dX10_awakeSet_27 : decode cX10_awakeSet 27 = .ok (.ifCond .eq 9, 3) := by decide +kernel
theorem dX10_awakeSet_30 : decode cX10_awakeSet 30 = .ok (.iload_n 1, 1) := by decide +kernel
theorem dX10_awakeSet_31 : decode cX10_awakeSet 31 = .ok (.iconst 1, 1) := by decide +kernel
theorem dX10_awakeSet_32 : decode cX10_awakeSet 32 = .ok (.iload_n 2, 1) := by decide +kernel
theorem dX10_awakeSet_33 : decode cX10_awakeSet 33 = .ok (.ishl, 1) := by decide +kernel
theorem dX10_awakeSet_34 : decode cX10_awakeSet 34 = .ok (.ior, 1) := by decide +kernel
theorem dX10_awakeSet_35 : decode cX10_awakeSet 35 = .ok (.istore_n 1, 1) := by decide +kernel
theorem dX10_awakeSet_36 : decode cX10_awakeSet 36 = .ok (.iinc 2 1, 3) := by decide +kernel
theorem dX10_awakeSet_39 : decode cX10_awakeSet 39 = .ok (.goto (-35), 3) := by decide +kernel
theorem dX10_awakeSet_42 : decode cX10_awakeSet 42 = .ok (.iload_n 1, 1) := by decide +kernel
theorem dX10_awakeSet_43 : decode cX10_awakeSet 43 = .ok (.ireturn, 1) := by decide +kernel
theorem dX10_aloneSet_0 : decode cX10_aloneSet 0 = .ok (.iconst 0, 1) := by decide +kernel
theorem dX10_aloneSet_1 : decode cX10_aloneSet 1 = .ok (.istore_n 1, 1) := by decide +kernel
theorem dX10_aloneSet_2 : decode cX10_aloneSet 2 = .ok (.iconst 0, 1) := by decide +kernel
theorem dX10_aloneSet_3 : decode cX10_aloneSet 3 = .ok (.istore_n 2, 1) := by decide +kernel
theorem dX10_aloneSet_4 : decode cX10_aloneSet 4 = .ok (.iload_n 2, 1) := by decide +kernel
theorem dX10_aloneSet_5 : decode cX10_aloneSet 5 = .ok (.aload_n 0, 1) := by decide +kernel
theorem dX10_aloneSet_6 : decode cX10_aloneSet 6 = .ok (.getfield 25, 3) := by decide +kernel
theorem dX10_aloneSet_9 : decode cX10_aloneSet 9 = .ok (.if_icmp .ge 33, 3) := by decide +kernel
theorem dX10_aloneSet_12 : decode cX10_aloneSet 12 = .ok (.aload_n 0, 1) := by decide +kernel
theorem dX10_aloneSet_13 : decode cX10_aloneSet 13 = .ok (.getfield 11, 3) := by decide +kernel
theorem dX10_aloneSet_16 : decode cX10_aloneSet 16 = .ok (.iload_n 2, 1) := by decide +kernel
theorem dX10_aloneSet_17 : decode cX10_aloneSet 17 = .ok (.aaload, 1) := by decide +kernel
theorem dX10_aloneSet_18 : decode cX10_aloneSet 18 = .ok (.astore_n 3, 1) := by decide +kernel
theorem dX10_aloneSet_19 : decode cX10_aloneSet 19 = .ok (.aload_n 3, 1) := by decide +kernel
theorem dX10_aloneSet_20 : decode cX10_aloneSet 20 = .ok (.ifnull 16, 3) := by decide +kernel
theorem dX10_aloneSet_23 : decode cX10_aloneSet 23 = .ok (.aload_n 3, 1) := by decide +kernel
theorem dX10_aloneSet_24 : decode cX10_aloneSet 24 = .ok (.invokevirtual 32, 3) := by decide +kernel
theorem dX10_aloneSet_27 : decode cX10_aloneSet 27 = .ok (.ifCond .eq 9, 3) := by decide +kernel
theorem dX10_aloneSet_30 : decode cX10_aloneSet 30 = .ok (.iload_n 1, 1) := by decide +kernel
theorem dX10_aloneSet_31 : decode cX10_aloneSet 31 = .ok (.iconst 1, 1) := by decide +kernel
theorem dX10_aloneSet_32 : decode cX10_aloneSet 32 = .ok (.iload_n 2, 1) := by decide +kernel
theorem dX10_aloneSet_33 : decode cX10_aloneSet 33 = .ok (.ishl, 1) := by decide +kernel
theorem dX10_aloneSet_34 : decode cX10_aloneSet 34 = .ok (.ior, 1) := by decide +kernel
theorem dX10_aloneSet_35 : decode cX10_aloneSet 35 = .ok (.istore_n 1, 1) := by decide +kernel
theorem dX10_aloneSet_36 : decode cX10_aloneSet 36 = .ok (.iinc 2 1, 3) := by decide +kernel
theorem dX10_aloneSet_39 : decode cX10_aloneSet 39 = .ok (.goto (-35), 3) := by decide +kernel
theorem dX10_aloneSet_42 : decode cX10_aloneSet 42 = .ok (.iload_n 1, 1) := by decide +kernel
theorem dX10_aloneSet_43 : decode cX10_aloneSet 43 = .ok (.ireturn, 1) := by decide +kernel
theorem dX10_sungByAll_0 : decode cX10_sungByAll 0 = .ok (.iconst 0, 1) := by decide +kernel
theorem dX10_sungByAll_1 : decode cX10_sungByAll 1 = .ok (.istore_n 1, 1) := by decide +kernel
theorem dX10_sungByAll_2 : decode cX10_sungByAll 2 = .ok (.iconst 0, 1) := by decide +kernel
theorem dX10_sungByAll_3 : decode cX10_sungByAll 3 = .ok (.istore_n 2, 1) := by decide +kernel
theorem dX10_sungByAll_4 : decode cX10_sungByAll 4 = .ok (.iload_n 2, 1) := by decide +kernel
theorem dX10_sungByAll_5 : decode cX10_sungByAll 5 = .ok (.aload_n 0, 1) := by decide +kernel
theorem dX10_sungByAll_6 : decode cX10_sungByAll 6 = .ok (.getfield 25, 3) := by decide +kernel
theorem dX10_sungByAll_9 : decode cX10_sungByAll 9 = .ok (.if_icmp .ge 27, 3) := by decide +kernel
theorem dX10_sungByAll_12 : decode cX10_sungByAll 12 = .ok (.aload_n 0, 1) := by decide +kernel
theorem dX10_sungByAll_13 : decode cX10_sungByAll 13 = .ok (.getfield 11, 3) := by decide +kernel
theorem dX10_sungByAll_16 : decode cX10_sungByAll 16 = .ok (.iload_n 2, 1) := by decide +kernel
theorem dX10_sungByAll_17 : decode cX10_sungByAll 17 = .ok (.aaload, 1) := by decide +kernel
theorem dX10_sungByAll_18 : decode cX10_sungByAll 18 = .ok (.astore_n 3, 1) := by decide +kernel
theorem dX10_sungByAll_19 : decode cX10_sungByAll 19 = .ok (.aload_n 3, 1) := by decide +kernel
theorem dX10_sungByAll_20 : decode cX10_sungByAll 20 = .ok (.ifnull 10, 3) := by decide +kernel
theorem dX10_sungByAll_23 : decode cX10_sungByAll 23 = .ok (.iload_n 1, 1) := by decide +kernel
theorem dX10_sungByAll_24 : decode cX10_sungByAll 24 = .ok (.aload_n 3, 1) := by decide +kernel
theorem dX10_sungByAll_25 : decode cX10_sungByAll 25 = .ok (.getfield 36, 3) := by decide +kernel
theorem dX10_sungByAll_28 : decode cX10_sungByAll 28 = .ok (.iadd, 1) := by decide +kernel
theorem dX10_sungByAll_29 : decode cX10_sungByAll 29 = .ok (.istore_n 1, 1) := by decide +kernel
theorem dX10_sungByAll_30 : decode cX10_sungByAll 30 = .ok (.iinc 2 1, 3) := by decide +kernel
theorem dX10_sungByAll_33 : decode cX10_sungByAll 33 = .ok (.goto (-29), 3) := by decide +kernel
theorem dX10_sungByAll_36 : decode cX10_sungByAll 36 = .ok (.iload_n 1, 1) := by decide +kernel
theorem dX10_sungByAll_37 : decode cX10_sungByAll 37 = .ok (.ireturn, 1) := by decide +kernel
theorem dX10_neededBy_0 : decode cX10_neededBy 0 = .ok (.iload_n 1, 1) := by decide +kernel
theorem dX10_neededBy_1 : decode cX10_neededBy 1 = .ok (.invokestatic 39, 3) := by decide +kernel
theorem dX10_neededBy_4 : decode cX10_neededBy 4 = .ok (.iconst 1, 1) := by decide +kernel
theorem dX10_neededBy_5 : decode cX10_neededBy 5 = .ok (.if_icmp .le 7, 3) := by decide +kernel
theorem dX10_neededBy_8 : decode cX10_neededBy 8 = .ok (.iconst 1, 1) := by decide +kernel
theorem dX10_neededBy_9 : decode cX10_neededBy 9 = .ok (.goto 4, 3) := by decide +kernel
theorem dX10_neededBy_12 : decode cX10_neededBy 12 = .ok (.iconst 0, 1) := by decide +kernel
theorem dX10_neededBy_13 : decode cX10_neededBy 13 = .ok (.istore_n 2, 1) := by decide +kernel
theorem dX10_neededBy_14 : decode cX10_neededBy 14 = .ok (.iconst 0, 1) := by decide +kernel
theorem dX10_neededBy_15 : decode cX10_neededBy 15 = .ok (.istore_n 3, 1) := by decide +kernel
theorem dX10_neededBy_16 : decode cX10_neededBy 16 = .ok (.iconst 0, 1) := by decide +kernel
theorem dX10_neededBy_17 : decode cX10_neededBy 17 = .ok (.istore 4, 2) := by decide +kernel
theorem dX10_neededBy_19 : decode cX10_neededBy 19 = .ok (.iload 4, 2) := by decide +kernel
theorem dX10_neededBy_21 : decode cX10_neededBy 21 = .ok (.aload_n 0, 1) := by decide +kernel
theorem dX10_neededBy_22 : decode cX10_neededBy 22 = .ok (.getfield 25, 3) := by decide +kernel
theorem dX10_neededBy_25 : decode cX10_neededBy 25 = .ok (.if_icmp .ge 57, 3) := by decide +kernel
theorem dX10_neededBy_28 : decode cX10_neededBy 28 = .ok (.aload_n 0, 1) := by decide +kernel
theorem dX10_neededBy_29 : decode cX10_neededBy 29 = .ok (.getfield 11, 3) := by decide +kernel
theorem dX10_neededBy_32 : decode cX10_neededBy 32 = .ok (.iload 4, 2) := by decide +kernel
theorem dX10_neededBy_34 : decode cX10_neededBy 34 = .ok (.aaload, 1) := by decide +kernel
theorem dX10_neededBy_35 : decode cX10_neededBy 35 = .ok (.astore 5, 2) := by decide +kernel
theorem dX10_neededBy_37 : decode cX10_neededBy 37 = .ok (.aload 5, 2) := by decide +kernel
theorem dX10_neededBy_39 : decode cX10_neededBy 39 = .ok (.ifnull 37, 3) := by decide +kernel
theorem dX10_neededBy_42 : decode cX10_neededBy 42 = .ok (.iload_n 1, 1) := by decide +kernel
theorem dX10_neededBy_43 : decode cX10_neededBy 43 = .ok (.iload 4, 2) := by decide +kernel
theorem dX10_neededBy_45 : decode cX10_neededBy 45 = .ok (.ishr, 1) := by decide +kernel
theorem dX10_neededBy_46 : decode cX10_neededBy 46 = .ok (.iconst 1, 1) := by decide +kernel
theorem dX10_neededBy_47 : decode cX10_neededBy 47 = .ok (.iand, 1) := by decide +kernel
theorem dX10_neededBy_48 : decode cX10_neededBy 48 = .ok (.iconst 1, 1) := by decide +kernel
theorem dX10_neededBy_49 : decode cX10_neededBy 49 = .ok (.if_icmp .ne 27, 3) := by decide +kernel
theorem dX10_neededBy_52 : decode cX10_neededBy 52 = .ok (.iload_n 2, 1) := by decide +kernel
theorem dX10_neededBy_53 : decode cX10_neededBy 53 = .ok (.ifCond .eq 13, 3) := by decide +kernel
theorem dX10_neededBy_56 : decode cX10_neededBy 56 = .ok (.aload 5, 2) := by decide +kernel
theorem dX10_neededBy_58 : decode cX10_neededBy 58 = .ok (.invokevirtual 32, 3) := by decide +kernel
theorem dX10_neededBy_61 : decode cX10_neededBy 61 = .ok (.ifCond .eq 5, 3) := by decide +kernel
theorem dX10_neededBy_64 : decode cX10_neededBy 64 = .ok (.iconst 0, 1) := by decide +kernel
theorem dX10_neededBy_65 : decode cX10_neededBy 65 = .ok (.ireturn, 1) := by decide +kernel
theorem dX10_neededBy_66 : decode cX10_neededBy 66 = .ok (.iload_n 3, 1) := by decide +kernel
theorem dX10_neededBy_67 : decode cX10_neededBy 67 = .ok (.aload 5, 2) := by decide +kernel
theorem dX10_neededBy_69 : decode cX10_neededBy 69 = .ok (.invokevirtual 45, 3) := by decide +kernel
theorem dX10_neededBy_72 : decode cX10_neededBy 72 = .ok (.invokestatic 49, 3) := by decide +kernel
theorem dX10_neededBy_75 : decode cX10_neededBy 75 = .ok (.istore_n 3, 1) := by decide +kernel
theorem dX10_neededBy_76 : decode cX10_neededBy 76 = .ok (.iinc 4 1, 3) := by decide +kernel
theorem dX10_neededBy_79 : decode cX10_neededBy 79 = .ok (.goto (-60), 3) := by decide +kernel
theorem dX10_neededBy_82 : decode cX10_neededBy 82 = .ok (.iload_n 3, 1) := by decide +kernel
theorem dX10_neededBy_83 : decode cX10_neededBy 83 = .ok (.ireturn, 1) := by decide +kernel
theorem dX10_songMinutes_0 : decode cX10_songMinutes 0 = .ok (.aload_n 0, 1) := by decide +kernel
theorem dX10_songMinutes_1 : decode cX10_songMinutes 1 = .ok (.iload_n 2, 1) := by decide +kernel
theorem dX10_songMinutes_2 : decode cX10_songMinutes 2 = .ok (.invokevirtual 55, 3) := by decide +kernel
theorem dX10_songMinutes_5 : decode cX10_songMinutes 5 = .ok (.astore 4, 2) := by decide +kernel
theorem dX10_songMinutes_7 : decode cX10_songMinutes 7 = .ok (.iload_n 3, 1) := by decide +kernel
theorem dX10_songMinutes_8 : decode cX10_songMinutes 8 = .ok (.invokestatic 39, 3) := by decide +kernel
theorem dX10_songMinutes_11 : decode cX10_songMinutes 11 = .ok (.istore 5, 2) := by decide +kernel
theorem dX10_songMinutes_13 : decode cX10_songMinutes 13 = .ok (.iconst 1, 1) := by decide +kernel
theorem dX10_songMinutes_14 : decode cX10_songMinutes 14 = .ok (.aload_n 0, 1) := by decide +kernel
theorem dX10_songMinutes_15 : decode cX10_songMinutes 15 = .ok (.getfield 25, 3) := by decide +kernel
theorem dX10_songMinutes_18 : decode cX10_songMinutes 18 = .ok (.ishl, 1) := by decide +kernel
theorem dX10_songMinutes_19 : decode cX10_songMinutes 19 = .ok (.iconst 1, 1) := by decide +kernel
theorem dX10_songMinutes_20 : decode cX10_songMinutes 20 = .ok (.isub, 1) := by decide +kernel
theorem dX10_songMinutes_21 : decode cX10_songMinutes 21 = .ok (.istore 6, 2) := by decide +kernel
theorem dX10_songMinutes_23 : decode cX10_songMinutes 23 = .ok (.aload 4, 2) := by decide +kernel
theorem dX10_songMinutes_25 : decode cX10_songMinutes 25 = .ok (.ifnull 24, 3) := by decide +kernel
theorem dX10_songMinutes_28 : decode cX10_songMinutes 28 = .ok (.iload 5, 2) := by decide +kernel
theorem dX10_songMinutes_30 : decode cX10_songMinutes 30 = .ok (.iconst 1, 1) := by decide +kernel
theorem dX10_songMinutes_31 : decode cX10_songMinutes 31 = .ok (.if_icmp .lt 18, 3) := by decide +kernel
theorem dX10_songMinutes_34 : decode cX10_songMinutes 34 = .ok (.iload 5, 2) := by decide +kernel
theorem dX10_songMinutes_36 : decode cX10_songMinutes 36 = .ok (.iconst 3, 1) := by decide +kernel
theorem dX10_songMinutes_37 : decode cX10_songMinutes 37 = .ok (.if_icmp .gt 12, 3) := by decide +kernel
theorem dX10_songMinutes_40 : decode cX10_songMinutes 40 = .ok (.iload_n 3, 1) := by decide +kernel
theorem dX10_songMinutes_41 : decode cX10_songMinutes 41 = .ok (.iload 6, 2) := by decide +kernel
theorem dX10_songMinutes_43 : decode cX10_songMinutes 43 = .ok (.iconst (-1), 1) := by decide +kernel
theorem dX10_songMinutes_44 : decode cX10_songMinutes 44 = .ok (.ixor, 1) := by decide +kernel
theorem dX10_songMinutes_45 : decode cX10_songMinutes 45 = .ok (.iand, 1) := by decide +kernel
theorem dX10_songMinutes_46 : decode cX10_songMinutes 46 = .ok (.ifCond .eq 5, 3) := by decide +kernel
theorem dX10_songMinutes_49 : decode cX10_songMinutes 49 = .ok (.iconst (-1), 1) := by decide +kernel
theorem dX10_songMinutes_50 : decode cX10_songMinutes 50 = .ok (.ireturn, 1) := by decide +kernel
theorem dX10_songMinutes_51 : decode cX10_songMinutes 51 = .ok (.iconst 1, 1) := by decide +kernel
theorem dX10_songMinutes_52 : decode cX10_songMinutes 52 = .ok (.iload_n 2, 1) := by decide +kernel
theorem dX10_songMinutes_53 : decode cX10_songMinutes 53 = .ok (.ishl, 1) := by decide +kernel
theorem dX10_songMinutes_54 : decode cX10_songMinutes 54 = .ok (.istore 7, 2) := by decide +kernel
theorem dX10_songMinutes_56 : decode cX10_songMinutes 56 = .ok (.iload_n 1, 1) := by decide +kernel
theorem dX10_songMinutes_57 : decode cX10_songMinutes 57 = .ok (.iload 7, 2) := by decide +kernel
theorem dX10_songMinutes_59 : decode cX10_songMinutes 59 = .ok (.iand, 1) := by decide +kernel
theorem dX10_songMinutes_60 : decode cX10_songMinutes 60 = .ok (.ifCond .eq 18, 3) := by decide +kernel
theorem dX10_songMinutes_63 : decode cX10_songMinutes 63 = .ok (.iload_n 3, 1) := by decide +kernel
theorem dX10_songMinutes_64 : decode cX10_songMinutes 64 = .ok (.iload 7, 2) := by decide +kernel
theorem dX10_songMinutes_66 : decode cX10_songMinutes 66 = .ok (.iand, 1) := by decide +kernel
theorem dX10_songMinutes_67 : decode cX10_songMinutes 67 = .ok (.ifCond .ne 11, 3) := by decide +kernel
theorem dX10_songMinutes_70 : decode cX10_songMinutes 70 = .ok (.iload_n 3, 1) := by decide +kernel
theorem dX10_songMinutes_71 : decode cX10_songMinutes 71 = .ok (.iload_n 1, 1) := by decide +kernel
theorem dX10_songMinutes_72 : decode cX10_songMinutes 72 = .ok (.iconst (-1), 1) := by decide +kernel
theorem dX10_songMinutes_73 : decode cX10_songMinutes 73 = .ok (.ixor, 1) := by decide +kernel
theorem dX10_songMinutes_74 : decode cX10_songMinutes 74 = .ok (.iand, 1) := by decide +kernel
theorem dX10_songMinutes_75 : decode cX10_songMinutes 75 = .ok (.ifCond .eq 6, 3) := by decide +kernel
theorem dX10_songMinutes_78 : decode cX10_songMinutes 78 = .ok (.bipush (-4), 2) := by decide +kernel
theorem dX10_songMinutes_80 : decode cX10_songMinutes 80 = .ok (.ireturn, 1) := by decide +kernel
theorem dX10_songMinutes_81 : decode cX10_songMinutes 81 = .ok (.aload_n 0, 1) := by decide +kernel
theorem dX10_songMinutes_82 : decode cX10_songMinutes 82 = .ok (.iload_n 3, 1) := by decide +kernel
theorem dX10_songMinutes_83 : decode cX10_songMinutes 83 = .ok (.invokevirtual 59, 3) := by decide +kernel
theorem dX10_songMinutes_86 : decode cX10_songMinutes 86 = .ok (.istore 8, 2) := by decide +kernel
theorem dX10_songMinutes_88 : decode cX10_songMinutes 88 = .ok (.iload 8, 2) := by decide +kernel
theorem dX10_songMinutes_90 : decode cX10_songMinutes 90 = .ok (.iconst 1, 1) := by decide +kernel
theorem dX10_songMinutes_91 : decode cX10_songMinutes 91 = .ok (.if_icmp .lt 13, 3) := by decide +kernel
theorem dX10_songMinutes_94 : decode cX10_songMinutes 94 = .ok (.iload 8, 2) := by decide +kernel
theorem dX10_songMinutes_96 : decode cX10_songMinutes 96 = .ok (.aload 4, 2) := by decide +kernel
theorem dX10_songMinutes_98 : decode cX10_songMinutes 98 = .ok (.getfield 62, 3) := by decide +kernel
theorem dX10_songMinutes_101 : decode cX10_songMinutes 101 = .ok (.if_icmp .le 8, 3) := by decide +kernel
theorem dX10_songMinutes_104 : decode cX10_songMinutes 104 = .ok (.bipush (-4), 2) := by decide +kernel
theorem dX10_songMinutes_106 : decode cX10_songMinutes 106 = .ok (.goto 5, 3) := by decide +kernel
theorem dX10_songMinutes_109 : decode cX10_songMinutes 109 = .ok (.iload 8, 2) := by decide +kernel
theorem dX10_songMinutes_111 : decode cX10_songMinutes 111 = .ok (.ireturn, 1) := by decide +kernel
theorem dX10_settleSong_0 : decode cX10_settleSong 0 = .ok (.aload_n 0, 1) := by decide +kernel
theorem dX10_settleSong_1 : decode cX10_settleSong 1 = .ok (.iload_n 1, 1) := by decide +kernel
theorem dX10_settleSong_2 : decode cX10_settleSong 2 = .ok (.invokevirtual 55, 3) := by decide +kernel
theorem dX10_settleSong_5 : decode cX10_settleSong 5 = .ok (.astore 4, 2) := by decide +kernel
theorem dX10_settleSong_7 : decode cX10_settleSong 7 = .ok (.aload 4, 2) := by decide +kernel
theorem dX10_settleSong_9 : decode cX10_settleSong 9 = .ok (.ifnonnull 4, 3) := by decide +kernel
theorem dX10_settleSong_12 : decode cX10_settleSong 12 = .ok (.return_, 1) := by decide +kernel
theorem dX10_settleSong_13 : decode cX10_settleSong 13 = .ok (.aload_n 0, 1) := by decide +kernel
theorem dX10_settleSong_14 : decode cX10_settleSong 14 = .ok (.dup, 1) := by decide +kernel
theorem dX10_settleSong_15 : decode cX10_settleSong 15 = .ok (.getfield 65, 3) := by decide +kernel
theorem dX10_settleSong_18 : decode cX10_settleSong 18 = .ok (.iload_n 3, 1) := by decide +kernel
theorem dX10_settleSong_19 : decode cX10_settleSong 19 = .ok (.iadd, 1) := by decide +kernel
theorem dX10_settleSong_20 : decode cX10_settleSong 20 = .ok (.putfield 65, 3) := by decide +kernel
theorem dX10_settleSong_23 : decode cX10_settleSong 23 = .ok (.aload 4, 2) := by decide +kernel
theorem dX10_settleSong_25 : decode cX10_settleSong 25 = .ok (.dup, 1) := by decide +kernel
theorem dX10_settleSong_26 : decode cX10_settleSong 26 = .ok (.getfield 36, 3) := by decide +kernel
theorem dX10_settleSong_29 : decode cX10_settleSong 29 = .ok (.iload_n 3, 1) := by decide +kernel
theorem dX10_settleSong_30 : decode cX10_settleSong 30 = .ok (.iadd, 1) := by decide +kernel
theorem dX10_settleSong_31 : decode cX10_settleSong 31 = .ok (.putfield 36, 3) := by decide +kernel
theorem dX10_settleSong_34 : decode cX10_settleSong 34 = .ok (.iconst 0, 1) := by decide +kernel
theorem dX10_settleSong_35 : decode cX10_settleSong 35 = .ok (.istore 5, 2) := by decide +kernel
theorem dX10_settleSong_37 : decode cX10_settleSong 37 = .ok (.iload 5, 2) := by decide +kernel
theorem dX10_settleSong_39 : decode cX10_settleSong 39 = .ok (.aload_n 0, 1) := by decide +kernel
theorem dX10_settleSong_40 : decode cX10_settleSong 40 = .ok (.getfield 25, 3) := by decide +kernel
theorem dX10_settleSong_43 : decode cX10_settleSong 43 = .ok (.if_icmp .ge 47, 3) := by decide +kernel
theorem dX10_settleSong_46 : decode cX10_settleSong 46 = .ok (.aload_n 0, 1) := by decide +kernel
theorem dX10_settleSong_47 : decode cX10_settleSong 47 = .ok (.getfield 11, 3) := by decide +kernel
theorem dX10_settleSong_50 : decode cX10_settleSong 50 = .ok (.iload 5, 2) := by decide +kernel
theorem dX10_settleSong_52 : decode cX10_settleSong 52 = .ok (.aaload, 1) := by decide +kernel
theorem dX10_settleSong_53 : decode cX10_settleSong 53 = .ok (.astore 6, 2) := by decide +kernel
theorem dX10_settleSong_55 : decode cX10_settleSong 55 = .ok (.aload 6, 2) := by decide +kernel
theorem dX10_settleSong_57 : decode cX10_settleSong 57 = .ok (.ifnull 27, 3) := by decide +kernel
theorem dX10_settleSong_60 : decode cX10_settleSong 60 = .ok (.iload_n 2, 1) := by decide +kernel
theorem dX10_settleSong_61 : decode cX10_settleSong 61 = .ok (.iload 5, 2) := by decide +kernel
theorem dX10_settleSong_63 : decode cX10_settleSong 63 = .ok (.ishr, 1) := by decide +kernel
theorem dX10_settleSong_64 : decode cX10_settleSong 64 = .ok (.iconst 1, 1) := by decide +kernel
theorem dX10_settleSong_65 : decode cX10_settleSong 65 = .ok (.iand, 1) := by decide +kernel
theorem dX10_settleSong_66 : decode cX10_settleSong 66 = .ok (.iconst 1, 1) := by decide +kernel
theorem dX10_settleSong_67 : decode cX10_settleSong 67 = .ok (.if_icmp .ne 17, 3) := by decide +kernel
theorem dX10_settleSong_70 : decode cX10_settleSong 70 = .ok (.aload 6, 2) := by decide +kernel
theorem dX10_settleSong_72 : decode cX10_settleSong 72 = .ok (.iconst 0, 1) := by decide +kernel
theorem dX10_settleSong_73 : decode cX10_settleSong 73 = .ok (.putfield 28, 3) := by decide +kernel
theorem dX10_settleSong_76 : decode cX10_settleSong 76 = .ok (.aload_n 0, 1) := by decide +kernel
theorem dX10_settleSong_77 : decode cX10_settleSong 77 = .ok (.aload 4, 2) := by decide +kernel
theorem dX10_settleSong_79 : decode cX10_settleSong 79 = .ok (.aload 6, 2) := by decide +kernel
theorem dX10_settleSong_81 : decode cX10_settleSong 81 = .ok (.invokevirtual 68, 3) := by decide +kernel
theorem dX10_settleSong_84 : decode cX10_settleSong 84 = .ok (.iinc 5 1, 3) := by decide +kernel
theorem dX10_settleSong_87 : decode cX10_settleSong 87 = .ok (.goto (-50), 3) := by decide +kernel
theorem dX10_settleSong_90 : decode cX10_settleSong 90 = .ok (.return_, 1) := by decide +kernel
theorem dX10_settleWith_0 : decode cX10_settleWith 0 = .ok (.aload_n 2, 1) := by decide +kernel
theorem dX10_settleWith_1 : decode cX10_settleWith 1 = .ok (.invokevirtual 45, 3) := by decide +kernel
theorem dX10_settleWith_4 : decode cX10_settleWith 4 = .ok (.istore_n 3, 1) := by decide +kernel
theorem dX10_settleWith_5 : decode cX10_settleWith 5 = .ok (.aload_n 2, 1) := by decide +kernel
theorem dX10_settleWith_6 : decode cX10_settleWith 6 = .ok (.invokevirtual 72, 3) := by decide +kernel
theorem dX10_settleWith_9 : decode cX10_settleWith 9 = .ok (.ifCond .eq 30, 3) := by decide +kernel
theorem dX10_settleWith_12 : decode cX10_settleWith 12 = .ok (.aload_n 2, 1) := by decide +kernel
theorem dX10_settleWith_13 : decode cX10_settleWith 13 = .ok (.dup, 1) := by decide +kernel
theorem dX10_settleWith_14 : decode cX10_settleWith 14 = .ok (.getfield 75, 3) := by decide +kernel
theorem dX10_settleWith_17 : decode cX10_settleWith 17 = .ok (.iconst 2, 1) := by decide +kernel
theorem dX10_settleWith_18 : decode cX10_settleWith 18 = .ok (.iload_n 3, 1) := by decide +kernel
theorem dX10_settleWith_19 : decode cX10_settleWith 19 = .ok (.imul, 1) := by decide +kernel
theorem dX10_settleWith_20 : decode cX10_settleWith 20 = .ok (.isub, 1) := by decide +kernel
theorem dX10_settleWith_21 : decode cX10_settleWith 21 = .ok (.putfield 75, 3) := by decide +kernel
theorem dX10_settleWith_24 : decode cX10_settleWith 24 = .ok (.aload_n 1, 1) := by decide +kernel
theorem dX10_settleWith_25 : decode cX10_settleWith 25 = .ok (.dup, 1) := by decide +kernel
theorem dX10_settleWith_26 : decode cX10_settleWith 26 = .ok (.getfield 75, 3) := by decide +kernel
theorem dX10_settleWith_29 : decode cX10_settleWith 29 = .ok (.iconst 2, 1) := by decide +kernel
theorem dX10_settleWith_30 : decode cX10_settleWith 30 = .ok (.iload_n 3, 1) := by decide +kernel
theorem dX10_settleWith_31 : decode cX10_settleWith 31 = .ok (.imul, 1) := by decide +kernel
theorem dX10_settleWith_32 : decode cX10_settleWith 32 = .ok (.iadd, 1) := by decide +kernel
theorem dX10_settleWith_33 : decode cX10_settleWith 33 = .ok (.putfield 75, 3) := by decide +kernel
theorem dX10_settleWith_36 : decode cX10_settleWith 36 = .ok (.goto 35, 3) := by decide +kernel
theorem dX10_settleWith_39 : decode cX10_settleWith 39 = .ok (.aload_n 0, 1) := by decide +kernel
theorem dX10_settleWith_40 : decode cX10_settleWith 40 = .ok (.aload_n 2, 1) := by decide +kernel
theorem dX10_settleWith_41 : decode cX10_settleWith 41 = .ok (.getfield 78, 3) := by decide +kernel
theorem dX10_settleWith_44 : decode cX10_settleWith 44 = .ok (.aload_n 1, 1) := by decide +kernel
theorem dX10_settleWith_45 : decode cX10_settleWith 45 = .ok (.getfield 78, 3) := by decide +kernel
theorem dX10_settleWith_48 : decode cX10_settleWith 48 = .ok (.sipush 9999, 3) := by decide +kernel
theorem dX10_settleWith_51 : decode cX10_settleWith 51 = .ok (.aload_n 0, 1) := by decide +kernel
theorem dX10_settleWith_52 : decode cX10_settleWith 52 = .ok (.aload_n 2, 1) := by decide +kernel
theorem dX10_settleWith_53 : decode cX10_settleWith 53 = .ok (.getfield 78, 3) := by decide +kernel
theorem dX10_settleWith_56 : decode cX10_settleWith 56 = .ok (.aload_n 1, 1) := by decide +kernel
theorem dX10_settleWith_57 : decode cX10_settleWith 57 = .ok (.getfield 78, 3) := by decide +kernel
theorem dX10_settleWith_60 : decode cX10_settleWith 60 = .ok (.invokevirtual 81, 3) := by decide +kernel
theorem dX10_settleWith_63 : decode cX10_settleWith 63 = .ok (.iload_n 3, 1) := by decide +kernel
theorem dX10_settleWith_64 : decode cX10_settleWith 64 = .ok (.iadd, 1) := by decide +kernel
theorem dX10_settleWith_65 : decode cX10_settleWith 65 = .ok (.invokestatic 84, 3) := by decide +kernel
theorem dX10_settleWith_68 : decode cX10_settleWith 68 = .ok (.invokevirtual 87, 3) := by decide +kernel
theorem dX10_settleWith_71 : decode cX10_settleWith 71 = .ok (.return_, 1) := by decide +kernel
theorem dX10_beginDay_0 : decode cX10_beginDay 0 = .ok (.aload_n 0, 1) := by decide +kernel
theorem dX10_beginDay_1 : decode cX10_beginDay 1 = .ok (.iconst 0, 1) := by decide +kernel
theorem dX10_beginDay_2 : decode cX10_beginDay 2 = .ok (.putfield 65, 3) := by decide +kernel
theorem dX10_beginDay_5 : decode cX10_beginDay 5 = .ok (.iconst 0, 1) := by decide +kernel
theorem dX10_beginDay_6 : decode cX10_beginDay 6 = .ok (.istore_n 1, 1) := by decide +kernel
theorem dX10_beginDay_7 : decode cX10_beginDay 7 = .ok (.iload_n 1, 1) := by decide +kernel
theorem dX10_beginDay_8 : decode cX10_beginDay 8 = .ok (.aload_n 0, 1) := by decide +kernel
theorem dX10_beginDay_9 : decode cX10_beginDay 9 = .ok (.getfield 25, 3) := by decide +kernel
theorem dX10_beginDay_12 : decode cX10_beginDay 12 = .ok (.if_icmp .ge 76, 3) := by decide +kernel
theorem dX10_beginDay_15 : decode cX10_beginDay 15 = .ok (.aload_n 0, 1) := by decide +kernel
theorem dX10_beginDay_16 : decode cX10_beginDay 16 = .ok (.getfield 11, 3) := by decide +kernel
theorem dX10_beginDay_19 : decode cX10_beginDay 19 = .ok (.iload_n 1, 1) := by decide +kernel
theorem dX10_beginDay_20 : decode cX10_beginDay 20 = .ok (.aaload, 1) := by decide +kernel
theorem dX10_beginDay_21 : decode cX10_beginDay 21 = .ok (.astore_n 2, 1) := by decide +kernel
theorem dX10_beginDay_22 : decode cX10_beginDay 22 = .ok (.aload_n 2, 1) := by decide +kernel
theorem dX10_beginDay_23 : decode cX10_beginDay 23 = .ok (.ifnull 13, 3) := by decide +kernel
theorem dX10_beginDay_26 : decode cX10_beginDay 26 = .ok (.aload_n 2, 1) := by decide +kernel
theorem dX10_beginDay_27 : decode cX10_beginDay 27 = .ok (.iconst 1, 1) := by decide +kernel
theorem dX10_beginDay_28 : decode cX10_beginDay 28 = .ok (.putfield 28, 3) := by decide +kernel
theorem dX10_beginDay_31 : decode cX10_beginDay 31 = .ok (.aload_n 2, 1) := by decide +kernel
theorem dX10_beginDay_32 : decode cX10_beginDay 32 = .ok (.iconst 0, 1) := by decide +kernel
theorem dX10_beginDay_33 : decode cX10_beginDay 33 = .ok (.putfield 36, 3) := by decide +kernel
theorem dX10_beginDay_36 : decode cX10_beginDay 36 = .ok (.iconst 0, 1) := by decide +kernel
theorem dX10_beginDay_37 : decode cX10_beginDay 37 = .ok (.istore_n 3, 1) := by decide +kernel
theorem dX10_beginDay_38 : decode cX10_beginDay 38 = .ok (.iload_n 3, 1) := by decide +kernel
theorem dX10_beginDay_39 : decode cX10_beginDay 39 = .ok (.iload_n 1, 1) := by decide +kernel
theorem dX10_beginDay_40 : decode cX10_beginDay 40 = .ok (.if_icmp .ge 42, 3) := by decide +kernel
theorem dX10_beginDay_43 : decode cX10_beginDay 43 = .ok (.aload_n 0, 1) := by decide +kernel
theorem dX10_beginDay_44 : decode cX10_beginDay 44 = .ok (.iload_n 1, 1) := by decide +kernel
theorem dX10_beginDay_45 : decode cX10_beginDay 45 = .ok (.iload_n 3, 1) := by decide +kernel
theorem dX10_beginDay_46 : decode cX10_beginDay 46 = .ok (.invokevirtual 81, 3) := by decide +kernel
theorem dX10_beginDay_49 : decode cX10_beginDay 49 = .ok (.aload_n 0, 1) := by decide +kernel
theorem dX10_beginDay_50 : decode cX10_beginDay 50 = .ok (.iload_n 3, 1) := by decide +kernel
theorem dX10_beginDay_51 : decode cX10_beginDay 51 = .ok (.iload_n 1, 1) := by decide +kernel
theorem dX10_beginDay_52 : decode cX10_beginDay 52 = .ok (.invokevirtual 81, 3) := by decide +kernel
theorem dX10_beginDay_55 : decode cX10_beginDay 55 = .ok (.invokestatic 84, 3) := by decide +kernel
theorem dX10_beginDay_58 : decode cX10_beginDay 58 = .ok (.istore 4, 2) := by decide +kernel
theorem dX10_beginDay_60 : decode cX10_beginDay 60 = .ok (.aload_n 0, 1) := by decide +kernel
theorem dX10_beginDay_61 : decode cX10_beginDay 61 = .ok (.iload_n 1, 1) := by decide +kernel
theorem dX10_beginDay_62 : decode cX10_beginDay 62 = .ok (.iload_n 3, 1) := by decide +kernel
theorem dX10_beginDay_63 : decode cX10_beginDay 63 = .ok (.iload 4, 2) := by decide +kernel
theorem dX10_beginDay_65 : decode cX10_beginDay 65 = .ok (.invokevirtual 91, 3) := by decide +kernel
theorem dX10_beginDay_68 : decode cX10_beginDay 68 = .ok (.aload_n 0, 1) := by decide +kernel
theorem dX10_beginDay_69 : decode cX10_beginDay 69 = .ok (.iload_n 3, 1) := by decide +kernel
theorem dX10_beginDay_70 : decode cX10_beginDay 70 = .ok (.iload_n 1, 1) := by decide +kernel
theorem dX10_beginDay_71 : decode cX10_beginDay 71 = .ok (.iload 4, 2) := by decide +kernel
theorem dX10_beginDay_73 : decode cX10_beginDay 73 = .ok (.invokevirtual 91, 3) := by decide +kernel
theorem dX10_beginDay_76 : decode cX10_beginDay 76 = .ok (.iinc 3 1, 3) := by decide +kernel
theorem dX10_beginDay_79 : decode cX10_beginDay 79 = .ok (.goto (-41), 3) := by decide +kernel
theorem dX10_beginDay_82 : decode cX10_beginDay 82 = .ok (.iinc 1 1, 3) := by decide +kernel
theorem dX10_beginDay_85 : decode cX10_beginDay 85 = .ok (.goto (-78), 3) := by decide +kernel
theorem dX10_beginDay_88 : decode cX10_beginDay 88 = .ok (.return_, 1) := by decide +kernel
theorem dX10_debt_0 : decode cX10_debt 0 = .ok (.aload_n 0, 1) := by decide +kernel
theorem dX10_debt_1 : decode cX10_debt 1 = .ok (.iload_n 1, 1) := by decide +kernel
theorem dX10_debt_2 : decode cX10_debt 2 = .ok (.invokevirtual 55, 3) := by decide +kernel
theorem dX10_debt_5 : decode cX10_debt 5 = .ok (.ifnull 11, 3) := by decide +kernel
theorem dX10_debt_8 : decode cX10_debt 8 = .ok (.aload_n 0, 1) := by decide +kernel
theorem dX10_debt_9 : decode cX10_debt 9 = .ok (.iload_n 2, 1) := by decide +kernel
theorem dX10_debt_10 : decode cX10_debt 10 = .ok (.invokevirtual 55, 3) := by decide +kernel
theorem dX10_debt_13 : decode cX10_debt 13 = .ok (.ifnonnull 7, 3) := by decide +kernel
theorem dX10_debt_16 : decode cX10_debt 16 = .ok (.iconst 0, 1) := by decide +kernel
theorem dX10_debt_17 : decode cX10_debt 17 = .ok (.goto 14, 3) := by decide +kernel
theorem dX10_debt_20 : decode cX10_debt 20 = .ok (.aload_n 0, 1) := by decide +kernel
theorem dX10_debt_21 : decode cX10_debt 21 = .ok (.getfield 17, 3) := by decide +kernel
theorem dX10_debt_24 : decode cX10_debt 24 = .ok (.bipush 8, 2) := by decide +kernel
theorem dX10_debt_26 : decode cX10_debt 26 = .ok (.iload_n 1, 1) := by decide +kernel
theorem dX10_debt_27 : decode cX10_debt 27 = .ok (.imul, 1) := by decide +kernel
theorem dX10_debt_28 : decode cX10_debt 28 = .ok (.iload_n 2, 1) := by decide +kernel
theorem dX10_debt_29 : decode cX10_debt 29 = .ok (.iadd, 1) := by decide +kernel
theorem dX10_debt_30 : decode cX10_debt 30 = .ok (.iaload, 1) := by decide +kernel
theorem dX10_debt_31 : decode cX10_debt 31 = .ok (.ireturn, 1) := by decide +kernel
theorem dX10_setDebt_0 : decode cX10_setDebt 0 = .ok (.aload_n 0, 1) := by decide +kernel
theorem dX10_setDebt_1 : decode cX10_setDebt 1 = .ok (.iload_n 1, 1) := by decide +kernel
theorem dX10_setDebt_2 : decode cX10_setDebt 2 = .ok (.invokevirtual 55, 3) := by decide +kernel
theorem dX10_setDebt_5 : decode cX10_setDebt 5 = .ok (.ifnull 23, 3) := by decide +kernel
theorem dX10_setDebt_8 : decode cX10_setDebt 8 = .ok (.aload_n 0, 1) := by decide +kernel
theorem dX10_setDebt_9 : decode cX10_setDebt 9 = .ok (.iload_n 2, 1) := by decide +kernel
theorem dX10_setDebt_10 : decode cX10_setDebt 10 = .ok (.invokevirtual 55, 3) := by decide +kernel
theorem dX10_setDebt_13 : decode cX10_setDebt 13 = .ok (.ifnull 15, 3) := by decide +kernel
theorem dX10_setDebt_16 : decode cX10_setDebt 16 = .ok (.aload_n 0, 1) := by decide +kernel
theorem dX10_setDebt_17 : decode cX10_setDebt 17 = .ok (.getfield 17, 3) := by decide +kernel
theorem dX10_setDebt_20 : decode cX10_setDebt 20 = .ok (.bipush 8, 2) := by decide +kernel
theorem dX10_setDebt_22 : decode cX10_setDebt 22 = .ok (.iload_n 1, 1) := by decide +kernel
theorem dX10_setDebt_23 : decode cX10_setDebt 23 = .ok (.imul, 1) := by decide +kernel
theorem dX10_setDebt_24 : decode cX10_setDebt 24 = .ok (.iload_n 2, 1) := by decide +kernel
theorem dX10_setDebt_25 : decode cX10_setDebt 25 = .ok (.iadd, 1) := by decide +kernel
theorem dX10_setDebt_26 : decode cX10_setDebt 26 = .ok (.iload_n 3, 1) := by decide +kernel
theorem dX10_setDebt_27 : decode cX10_setDebt 27 = .ok (.iastore, 1) := by decide +kernel
theorem dX10_setDebt_28 : decode cX10_setDebt 28 = .ok (.return_, 1) := by decide +kernel
theorem dX10_lessen_0 : decode cX10_lessen 0 = .ok (.aload_n 0, 1) := by decide +kernel
theorem dX10_lessen_1 : decode cX10_lessen 1 = .ok (.iload_n 1, 1) := by decide +kernel
theorem dX10_lessen_2 : decode cX10_lessen 2 = .ok (.iload_n 2, 1) := by decide +kernel
theorem dX10_lessen_3 : decode cX10_lessen 3 = .ok (.aload_n 0, 1) := by decide +kernel
theorem dX10_lessen_4 : decode cX10_lessen 4 = .ok (.iload_n 1, 1) := by decide +kernel
theorem dX10_lessen_5 : decode cX10_lessen 5 = .ok (.iload_n 2, 1) := by decide +kernel
theorem dX10_lessen_6 : decode cX10_lessen 6 = .ok (.invokevirtual 81, 3) := by decide +kernel
theorem dX10_lessen_9 : decode cX10_lessen 9 = .ok (.iload_n 3, 1) := by decide +kernel
theorem dX10_lessen_10 : decode cX10_lessen 10 = .ok (.isub, 1) := by decide +kernel
theorem dX10_lessen_11 : decode cX10_lessen 11 = .ok (.invokevirtual 87, 3) := by decide +kernel
theorem dX10_lessen_14 : decode cX10_lessen 14 = .ok (.return_, 1) := by decide +kernel
theorem dX10_thirdOfRing_0 : decode cX10_thirdOfRing 0 = .ok (.iconst 0, 1) := by decide +kernel
theorem dX10_thirdOfRing_1 : decode cX10_thirdOfRing 1 = .ok (.istore_n 3, 1) := by decide +kernel
theorem dX10_thirdOfRing_2 : decode cX10_thirdOfRing 2 = .ok (.iload_n 3, 1) := by decide +kernel
theorem dX10_thirdOfRing_3 : decode cX10_thirdOfRing 3 = .ok (.aload_n 0, 1) := by decide +kernel
theorem dX10_thirdOfRing_4 : decode cX10_thirdOfRing 4 = .ok (.getfield 25, 3) := by decide +kernel
theorem dX10_thirdOfRing_7 : decode cX10_thirdOfRing 7 = .ok (.if_icmp .ge 29, 3) := by decide +kernel
theorem dX10_thirdOfRing_10 : decode cX10_thirdOfRing 10 = .ok (.aload_n 0, 1) := by decide +kernel
theorem dX10_thirdOfRing_11 : decode cX10_thirdOfRing 11 = .ok (.iload_n 2, 1) := by decide +kernel
theorem dX10_thirdOfRing_12 : decode cX10_thirdOfRing 12 = .ok (.iload_n 3, 1) := by decide +kernel
theorem dX10_thirdOfRing_13 : decode cX10_thirdOfRing 13 = .ok (.invokevirtual 81, 3) := by decide +kernel
theorem dX10_thirdOfRing_16 : decode cX10_thirdOfRing 16 = .ok (.ifCond .le 14, 3) := by decide +kernel
theorem dX10_thirdOfRing_19 : decode cX10_thirdOfRing 19 = .ok (.aload_n 0, 1) := by decide +kernel
theorem dX10_thirdOfRing_20 : decode cX10_thirdOfRing 20 = .ok (.iload_n 3, 1) := by decide +kernel
theorem dX10_thirdOfRing_21 : decode cX10_thirdOfRing 21 = .ok (.iload_n 1, 1) := by decide +kernel
theorem dX10_thirdOfRing_22 : decode cX10_thirdOfRing 22 = .ok (.invokevirtual 81, 3) := by decide +kernel
theorem dX10_thirdOfRing_25 : decode cX10_thirdOfRing 25 = .ok (.ifCond .le 5, 3) := by decide +kernel
theorem dX10_thirdOfRing_28 : decode cX10_thirdOfRing 28 = .ok (.iload_n 3, 1) := by decide +kernel
theorem dX10_thirdOfRing_29 : decode cX10_thirdOfRing 29 = .ok (.ireturn, 1) := by decide +kernel
theorem dX10_thirdOfRing_30 : decode cX10_thirdOfRing 30 = .ok (.iinc 3 1, 3) := by decide +kernel
theorem dX10_thirdOfRing_33 : decode cX10_thirdOfRing 33 = .ok (.goto (-31), 3) := by decide +kernel
theorem dX10_thirdOfRing_36 : decode cX10_thirdOfRing 36 = .ok (.iconst (-1), 1) := by decide +kernel
theorem dX10_thirdOfRing_37 : decode cX10_thirdOfRing 37 = .ok (.ireturn, 1) := by decide +kernel
theorem dX10_clearRing_0 : decode cX10_clearRing 0 = .ok (.aload_n 0, 1) := by decide +kernel
theorem dX10_clearRing_1 : decode cX10_clearRing 1 = .ok (.iload_n 1, 1) := by decide +kernel
theorem dX10_clearRing_2 : decode cX10_clearRing 2 = .ok (.iload_n 2, 1) := by decide +kernel
theorem dX10_clearRing_3 : decode cX10_clearRing 3 = .ok (.invokevirtual 81, 3) := by decide +kernel
theorem dX10_clearRing_6 : decode cX10_clearRing 6 = .ok (.aload_n 0, 1) := by decide +kernel
theorem dX10_clearRing_7 : decode cX10_clearRing 7 = .ok (.iload_n 2, 1) := by decide +kernel
theorem dX10_clearRing_8 : decode cX10_clearRing 8 = .ok (.iload_n 3, 1) := by decide +kernel
theorem dX10_clearRing_9 : decode cX10_clearRing 9 = .ok (.invokevirtual 81, 3) := by decide +kernel
theorem dX10_clearRing_12 : decode cX10_clearRing 12 = .ok (.invokestatic 84, 3) := by decide +kernel
theorem dX10_clearRing_15 : decode cX10_clearRing 15 = .ok (.istore 4, 2) := by decide +kernel
theorem dX10_clearRing_17 : decode cX10_clearRing 17 = .ok (.iload 4, 2) := by decide +kernel
theorem dX10_clearRing_19 : decode cX10_clearRing 19 = .ok (.aload_n 0, 1) := by decide +kernel
theorem dX10_clearRing_20 : decode cX10_clearRing 20 = .ok (.iload_n 3, 1) := by decide +kernel
theorem dX10_clearRing_21 : decode cX10_clearRing 21 = .ok (.iload_n 1, 1) := by decide +kernel
theorem dX10_clearRing_22 : decode cX10_clearRing 22 = .ok (.invokevirtual 81, 3) := by decide +kernel
theorem dX10_clearRing_25 : decode cX10_clearRing 25 = .ok (.invokestatic 84, 3) := by decide +kernel
theorem dX10_clearRing_28 : decode cX10_clearRing 28 = .ok (.istore 5, 2) := by decide +kernel
theorem dX10_clearRing_30 : decode cX10_clearRing 30 = .ok (.aload_n 0, 1) := by decide +kernel
theorem dX10_clearRing_31 : decode cX10_clearRing 31 = .ok (.iload_n 1, 1) := by decide +kernel
theorem dX10_clearRing_32 : decode cX10_clearRing 32 = .ok (.iload_n 2, 1) := by decide +kernel
theorem dX10_clearRing_33 : decode cX10_clearRing 33 = .ok (.iload 5, 2) := by decide +kernel
theorem dX10_clearRing_35 : decode cX10_clearRing 35 = .ok (.invokevirtual 91, 3) := by decide +kernel
theorem dX10_clearRing_38 : decode cX10_clearRing 38 = .ok (.aload_n 0, 1) := by decide +kernel
theorem dX10_clearRing_39 : decode cX10_clearRing 39 = .ok (.iload_n 2, 1) := by decide +kernel
theorem dX10_clearRing_40 : decode cX10_clearRing 40 = .ok (.iload_n 3, 1) := by decide +kernel
theorem dX10_clearRing_41 : decode cX10_clearRing 41 = .ok (.iload 5, 2) := by decide +kernel
theorem dX10_clearRing_43 : decode cX10_clearRing 43 = .ok (.invokevirtual 91, 3) := by decide +kernel
theorem dX10_clearRing_46 : decode cX10_clearRing 46 = .ok (.aload_n 0, 1) := by decide +kernel
theorem dX10_clearRing_47 : decode cX10_clearRing 47 = .ok (.iload_n 3, 1) := by decide +kernel
theorem dX10_clearRing_48 : decode cX10_clearRing 48 = .ok (.iload_n 1, 1) := by decide +kernel
theorem dX10_clearRing_49 : decode cX10_clearRing 49 = .ok (.iload 5, 2) := by decide +kernel
theorem dX10_clearRing_51 : decode cX10_clearRing 51 = .ok (.invokevirtual 91, 3) := by decide +kernel
theorem dX10_clearRing_54 : decode cX10_clearRing 54 = .ok (.return_, 1) := by decide +kernel
theorem dX10_copied_0 : decode cX10_copied 0 = .ok (.new 12, 3) := by decide +kernel
theorem dX10_copied_3 : decode cX10_copied 3 = .ok (.dup, 1) := by decide +kernel
theorem dX10_copied_4 : decode cX10_copied 4 = .ok (.invokespecial 94, 3) := by decide +kernel
theorem dX10_copied_7 : decode cX10_copied 7 = .ok (.astore_n 1, 1) := by decide +kernel
theorem dX10_copied_8 : decode cX10_copied 8 = .ok (.aload_n 1, 1) := by decide +kernel
theorem dX10_copied_9 : decode cX10_copied 9 = .ok (.aload_n 0, 1) := by decide +kernel
theorem dX10_copied_10 : decode cX10_copied 10 = .ok (.getfield 25, 3) := by decide +kernel
theorem dX10_copied_13 : decode cX10_copied 13 = .ok (.putfield 25, 3) := by decide +kernel
theorem dX10_copied_16 : decode cX10_copied 16 = .ok (.aload_n 1, 1) := by decide +kernel
theorem dX10_copied_17 : decode cX10_copied 17 = .ok (.aload_n 0, 1) := by decide +kernel
theorem dX10_copied_18 : decode cX10_copied 18 = .ok (.getfield 65, 3) := by decide +kernel
theorem dX10_copied_21 : decode cX10_copied 21 = .ok (.putfield 65, 3) := by decide +kernel
theorem dX10_copied_24 : decode cX10_copied 24 = .ok (.aload_n 1, 1) := by decide +kernel
theorem dX10_copied_25 : decode cX10_copied 25 = .ok (.aload_n 0, 1) := by decide +kernel
theorem dX10_copied_26 : decode cX10_copied 26 = .ok (.getfield 21, 3) := by decide +kernel
theorem dX10_copied_29 : decode cX10_copied 29 = .ok (.putfield 21, 3) := by decide +kernel
theorem dX10_copied_32 : decode cX10_copied 32 = .ok (.aload_n 0, 1) := by decide +kernel
theorem dX10_copied_33 : decode cX10_copied 33 = .ok (.getfield 17, 3) := by decide +kernel
theorem dX10_copied_36 : decode cX10_copied 36 = .ok (.iconst 0, 1) := by decide +kernel
theorem dX10_copied_37 : decode cX10_copied 37 = .ok (.aload_n 1, 1) := by decide +kernel
theorem dX10_copied_38 : decode cX10_copied 38 = .ok (.getfield 17, 3) := by decide +kernel
theorem dX10_copied_41 : decode cX10_copied 41 = .ok (.iconst 0, 1) := by decide +kernel
theorem dX10_copied_42 : decode cX10_copied 42 = .ok (.aload_n 0, 1) := by decide +kernel
theorem dX10_copied_43 : decode cX10_copied 43 = .ok (.getfield 17, 3) := by decide +kernel
theorem dX10_copied_46 : decode cX10_copied 46 = .ok (.arraylength, 1) := by decide +kernel
theorem dX10_copied_47 : decode cX10_copied 47 = .ok (.invokestatic 95, 3) := by decide +kernel
theorem dX10_copied_50 : decode cX10_copied 50 = .ok (.iconst 0, 1) := by decide +kernel
theorem dX10_copied_51 : decode cX10_copied 51 = .ok (.istore_n 2, 1) := by decide +kernel
theorem dX10_copied_52 : decode cX10_copied 52 = .ok (.iload_n 2, 1) := by decide +kernel
theorem dX10_copied_53 : decode cX10_copied 53 = .ok (.aload_n 0, 1) := by decide +kernel
theorem dX10_copied_54 : decode cX10_copied 54 = .ok (.getfield 25, 3) := by decide +kernel
theorem dX10_copied_57 : decode cX10_copied 57 = .ok (.if_icmp .ge 34, 3) := by decide +kernel
theorem dX10_copied_60 : decode cX10_copied 60 = .ok (.aload_n 0, 1) := by decide +kernel
theorem dX10_copied_61 : decode cX10_copied 61 = .ok (.getfield 11, 3) := by decide +kernel
theorem dX10_copied_64 : decode cX10_copied 64 = .ok (.iload_n 2, 1) := by decide +kernel
theorem dX10_copied_65 : decode cX10_copied 65 = .ok (.aaload, 1) := by decide +kernel
theorem dX10_copied_66 : decode cX10_copied 66 = .ok (.astore_n 3, 1) := by decide +kernel
theorem dX10_copied_67 : decode cX10_copied 67 = .ok (.aload_n 3, 1) := by decide +kernel
theorem dX10_copied_68 : decode cX10_copied 68 = .ok (.ifnull 17, 3) := by decide +kernel
theorem dX10_copied_71 : decode cX10_copied 71 = .ok (.aload_n 1, 1) := by decide +kernel
theorem dX10_copied_72 : decode cX10_copied 72 = .ok (.getfield 11, 3) := by decide +kernel
theorem dX10_copied_75 : decode cX10_copied 75 = .ok (.iload_n 2, 1) := by decide +kernel
theorem dX10_copied_76 : decode cX10_copied 76 = .ok (.aload_n 3, 1) := by decide +kernel
theorem dX10_copied_77 : decode cX10_copied 77 = .ok (.aload_n 3, 1) := by decide +kernel
theorem dX10_copied_78 : decode cX10_copied 78 = .ok (.invokevirtual 101, 3) := by decide +kernel
theorem dX10_copied_81 : decode cX10_copied 81 = .ok (.invokestatic 104, 3) := by decide +kernel
theorem dX10_copied_84 : decode cX10_copied 84 = .ok (.aastore, 1) := by decide +kernel
theorem dX10_copied_85 : decode cX10_copied 85 = .ok (.iinc 2 1, 3) := by decide +kernel
theorem dX10_copied_88 : decode cX10_copied 88 = .ok (.goto (-36), 3) := by decide +kernel
theorem dX10_copied_91 : decode cX10_copied 91 = .ok (.aload_n 1, 1) := by decide +kernel
theorem dX10_copied_92 : decode cX10_copied 92 = .ok (.areturn, 1) := by decide +kernel
theorem dX11_init_0 : decode cX11_init 0 = .ok (.aload_n 0, 1) := by decide +kernel
theorem dX11_init_1 : decode cX11_init 1 = .ok (.invokespecial 1, 3) := by decide +kernel
theorem dX11_init_4 : decode cX11_init 4 = .ok (.aload_n 0, 1) := by decide +kernel
theorem dX11_init_5 : decode cX11_init 5 = .ok (.new 7, 3) := by decide +kernel
theorem dX11_init_8 : decode cX11_init 8 = .ok (.dup, 1) := by decide +kernel
theorem dX11_init_9 : decode cX11_init 9 = .ok (.invokespecial 9, 3) := by decide +kernel
theorem dX11_init_12 : decode cX11_init 12 = .ok (.putfield 10, 3) := by decide +kernel
theorem dX11_init_15 : decode cX11_init 15 = .ok (.aload_n 0, 1) := by decide +kernel
theorem dX11_init_16 : decode cX11_init 16 = .ok (.new 16, 3) := by decide +kernel
theorem dX11_init_19 : decode cX11_init 19 = .ok (.dup, 1) := by decide +kernel
theorem dX11_init_20 : decode cX11_init 20 = .ok (.invokespecial 18, 3) := by decide +kernel
theorem dX11_init_23 : decode cX11_init 23 = .ok (.putfield 19, 3) := by decide +kernel
theorem dX11_init_26 : decode cX11_init 26 = .ok (.aload_n 0, 1) := by decide +kernel
theorem dX11_init_27 : decode cX11_init 27 = .ok (.new 23, 3) := by decide +kernel
theorem dX11_init_30 : decode cX11_init 30 = .ok (.dup, 1) := by decide +kernel
theorem dX11_init_31 : decode cX11_init 31 = .ok (.invokespecial 25, 3) := by decide +kernel
theorem dX11_init_34 : decode cX11_init 34 = .ok (.putfield 26, 3) := by decide +kernel
theorem dX11_init_37 : decode cX11_init 37 = .ok (.aload_n 0, 1) := by decide +kernel
theorem dX11_init_38 : decode cX11_init 38 = .ok (.new 30, 3) := by decide +kernel
theorem dX11_init_41 : decode cX11_init 41 = .ok (.dup, 1) := by decide +kernel
theorem dX11_init_42 : decode cX11_init 42 = .ok (.invokespecial 32, 3) := by decide +kernel
theorem dX11_init_45 : decode cX11_init 45 = .ok (.putfield 33, 3) := by decide +kernel
theorem dX11_init_48 : decode cX11_init 48 = .ok (.aload_n 0, 1) := by decide +kernel
theorem dX11_init_49 : decode cX11_init 49 = .ok (.bipush 24, 2) := by decide +kernel
theorem dX11_init_51 : decode cX11_init 51 = .ok (.newarray .int, 2) := by decide +kernel
theorem dX11_init_53 : decode cX11_init 53 = .ok (.putfield 37, 3) := by decide +kernel
theorem dX11_init_56 : decode cX11_init 56 = .ok (.aload_n 0, 1) := by decide +kernel
theorem dX11_init_57 : decode cX11_init 57 = .ok (.iconst 4, 1) := by decide +kernel
theorem dX11_init_58 : decode cX11_init 58 = .ok (.anewarray 41, 3) := by decide +kernel
theorem dX11_init_61 : decode cX11_init 61 = .ok (.putfield 43, 3) := by decide +kernel
theorem dX11_init_64 : decode cX11_init 64 = .ok (.aload_n 0, 1) := by decide +kernel
theorem dX11_init_65 : decode cX11_init 65 = .ok (.iconst 4, 1) := by decide +kernel
theorem dX11_init_66 : decode cX11_init 66 = .ok (.anewarray 41, 3) := by decide +kernel
theorem dX11_init_69 : decode cX11_init 69 = .ok (.putfield 47, 3) := by decide +kernel
theorem dX11_init_72 : decode cX11_init 72 = .ok (.aload_n 0, 1) := by decide +kernel
theorem dX11_init_73 : decode cX11_init 73 = .ok (.iconst 4, 1) := by decide +kernel
theorem dX11_init_74 : decode cX11_init 74 = .ok (.newarray .int, 2) := by decide +kernel
theorem dX11_init_76 : decode cX11_init 76 = .ok (.dup, 1) := by decide +kernel
theorem dX11_init_77 : decode cX11_init 77 = .ok (.iconst 0, 1) := by decide +kernel
theorem dX11_init_78 : decode cX11_init 78 = .ok (.iconst (-1), 1) := by decide +kernel
theorem dX11_init_79 : decode cX11_init 79 = .ok (.iastore, 1) := by decide +kernel
theorem dX11_init_80 : decode cX11_init 80 = .ok (.dup, 1) := by decide +kernel
theorem dX11_init_81 : decode cX11_init 81 = .ok (.iconst 1, 1) := by decide +kernel
theorem dX11_init_82 : decode cX11_init 82 = .ok (.iconst (-1), 1) := by decide +kernel
theorem dX11_init_83 : decode cX11_init 83 = .ok (.iastore, 1) := by decide +kernel
theorem dX11_init_84 : decode cX11_init 84 = .ok (.dup, 1) := by decide +kernel
theorem dX11_init_85 : decode cX11_init 85 = .ok (.iconst 2, 1) := by decide +kernel
theorem dX11_init_86 : decode cX11_init 86 = .ok (.iconst (-1), 1) := by decide +kernel
theorem dX11_init_87 : decode cX11_init 87 = .ok (.iastore, 1) := by decide +kernel
theorem dX11_init_88 : decode cX11_init 88 = .ok (.dup, 1) := by decide +kernel
theorem dX11_init_89 : decode cX11_init 89 = .ok (.iconst 3, 1) := by decide +kernel
theorem dX11_init_90 : decode cX11_init 90 = .ok (.iconst (-1), 1) := by decide +kernel
theorem dX11_init_91 : decode cX11_init 91 = .ok (.iastore, 1) := by decide +kernel
theorem dX11_init_92 : decode cX11_init 92 = .ok (.putfield 50, 3) := by decide +kernel
theorem dX11_init_95 : decode cX11_init 95 = .ok (.return_, 1) := by decide +kernel
theorem dX11_feed_0 : decode cX11_feed 0 = .ok (.iload_n 3, 1) := by decide +kernel
theorem dX11_feed_1 : decode cX11_feed 1 = .ok (.iconst 1, 1) := by decide +kernel
theorem dX11_feed_2 : decode cX11_feed 2 = .ok (.if_icmp .lt 9, 3) := by decide +kernel
theorem dX11_feed_5 : decode cX11_feed 5 = .ok (.iload_n 3, 1) := by decide +kernel
theorem dX11_feed_6 : decode cX11_feed 6 = .ok (.bipush 8, 2) := by decide +kernel
theorem dX11_feed_8 : decode cX11_feed 8 = .ok (.if_icmp .le 5, 3) := by decide +kernel
theorem dX11_feed_11 : decode cX11_feed 11 = .ok (.iconst (-1), 1) := by decide +kernel
theorem dX11_feed_12 : decode cX11_feed 12 = .ok (.ireturn, 1) := by decide +kernel
theorem dX11_feed_13 : decode cX11_feed 13 = .ok (.aload_n 0, 1) := by decide +kernel
theorem dX11_feed_14 : decode cX11_feed 14 = .ok (.getfield 26, 3) := by decide +kernel
theorem dX11_feed_17 : decode cX11_feed 17 = .ok (.getfield 53, 3) := by decide +kernel
theorem dX11_feed_20 : decode cX11_feed 20 = .ok (.iload_n 3, 1) := by decide +kernel
theorem dX11_feed_21 : decode cX11_feed 21 = .ok (.iadd, 1) := by decide +kernel
theorem dX11_feed_22 : decode cX11_feed 22 = .ok (.sipush 200, 3) := by decide +kernel
theorem dX11_feed_25 : decode cX11_feed 25 = .ok (.if_icmp .le 6, 3) := by decide +kernel
theorem dX11_feed_28 : decode cX11_feed 28 = .ok (.bipush (-2), 2) := by decide +kernel
theorem dX11_feed_30 : decode cX11_feed 30 = .ok (.ireturn, 1) := by decide +kernel
theorem dX11_feed_31 : decode cX11_feed 31 = .ok (.iconst 0, 1) := by decide +kernel
theorem dX11_feed_32 : decode cX11_feed 32 = .ok (.istore 4, 2) := by decide +kernel
theorem dX11_feed_34 : decode cX11_feed 34 = .ok (.iload 4, 2) := by decide +kernel
theorem dX11_feed_36 : decode cX11_feed 36 = .ok (.iload_n 3, 1) := by decide +kernel
theorem dX11_feed_37 : decode cX11_feed 37 = .ok (.if_icmp .ge 28, 3) := by decide +kernel
theorem dX11_feed_40 : decode cX11_feed 40 = .ok (.aload_n 0, 1) := by decide +kernel
theorem dX11_feed_41 : decode cX11_feed 41 = .ok (.getfield 26, 3) := by decide +kernel
theorem dX11_feed_44 : decode cX11_feed 44 = .ok (.lload_n 1, 1) := by decide +kernel
theorem dX11_feed_45 : decode cX11_feed 45 = .ok (.bipush 8, 2) := by decide +kernel
theorem dX11_feed_47 : decode cX11_feed 47 = .ok (.iload 4, 2) := by decide +kernel
theorem dX11_feed_49 : decode cX11_feed 49 = .ok (.imul, 1) := by decide +kernel
theorem dX11_feed_50 : decode cX11_feed 50 = .ok (.lushr, 1) := by decide +kernel
theorem dX11_feed_51 : decode cX11_feed 51 = .ok (.l2i, 1) := by decide +kernel
theorem dX11_feed_52 : decode cX11_feed 52 = .ok (.sipush 255, 3) := by decide +kernel
theorem dX11_feed_55 : decode cX11_feed 55 = .ok (.iand, 1) := by decide +kernel
theorem dX11_feed_56 : decode cX11_feed 56 = .ok (.invokevirtual 57, 3) := by decide +kernel
theorem dX11_feed_59 : decode cX11_feed 59 = .ok (.iinc 4 1, 3) := by decide +kernel
theorem dX11_feed_62 : decode cX11_feed 62 = .ok (.goto (-28), 3) := by decide +kernel
theorem dX11_feed_65 : decode cX11_feed 65 = .ok (.aload_n 0, 1) := by decide +kernel
theorem dX11_feed_66 : decode cX11_feed 66 = .ok (.getfield 26, 3) := by decide +kernel
theorem dX11_feed_69 : decode cX11_feed 69 = .ok (.getfield 53, 3) := by decide +kernel
theorem dX11_feed_72 : decode cX11_feed 72 = .ok (.ireturn, 1) := by decide +kernel
theorem dX11_valley_0 : decode cX11_valley 0 = .ok (.new 7, 3) := by decide +kernel
theorem dX11_valley_3 : decode cX11_valley 3 = .ok (.dup, 1) := by decide +kernel
theorem dX11_valley_4 : decode cX11_valley 4 = .ok (.invokespecial 9, 3) := by decide +kernel
theorem dX11_valley_7 : decode cX11_valley 7 = .ok (.astore_n 1, 1) := by decide +kernel
theorem dX11_valley_8 : decode cX11_valley 8 = .ok (.aload_n 1, 1) := by decide +kernel
theorem dX11_valley_9 : decode cX11_valley 9 = .ok (.aload_n 0, 1) := by decide +kernel
theorem dX11_valley_10 : decode cX11_valley 10 = .ok (.getfield 10, 3) := by decide +kernel
theorem dX11_valley_13 : decode cX11_valley 13 = .ok (.getfield 61, 3) := by decide +kernel
theorem dX11_valley_16 : decode cX11_valley 16 = .ok (.putfield 61, 3) := by decide +kernel
theorem dX11_valley_19 : decode cX11_valley 19 = .ok (.aload_n 0, 1) := by decide +kernel
theorem dX11_valley_20 : decode cX11_valley 20 = .ok (.getfield 26, 3) := by decide +kernel
theorem dX11_valley_23 : decode cX11_valley 23 = .ok (.aload_n 1, 1) := by decide +kernel
theorem dX11_valley_24 : decode cX11_valley 24 = .ok (.invokevirtual 64, 3) := by decide +kernel
theorem dX11_valley_27 : decode cX11_valley 27 = .ok (.istore_n 2, 1) := by decide +kernel
theorem dX11_valley_28 : decode cX11_valley 28 = .ok (.aload_n 0, 1) := by decide +kernel
theorem dX11_valley_29 : decode cX11_valley 29 = .ok (.getfield 26, 3) := by decide +kernel
theorem dX11_valley_32 : decode cX11_valley 32 = .ok (.iconst 0, 1) := by decide +kernel
theorem dX11_valley_33 : decode cX11_valley 33 = .ok (.putfield 53, 3) := by decide +kernel
theorem dX11_valley_36 : decode cX11_valley 36 = .ok (.iload_n 2, 1) := by decide +kernel
theorem dX11_valley_37 : decode cX11_valley 37 = .ok (.ifCond .lt 8, 3) := by decide +kernel
theorem dX11_valley_40 : decode cX11_valley 40 = .ok (.bipush (-100), 2) := by decide +kernel
theorem dX11_valley_42 : decode cX11_valley 42 = .ok (.iload_n 2, 1) := by decide +kernel
theorem dX11_valley_43 : decode cX11_valley 43 = .ok (.isub, 1) := by decide +kernel
theorem dX11_valley_44 : decode cX11_valley 44 = .ok (.ireturn, 1) := by decide +kernel
theorem dX11_valley_45 : decode cX11_valley 45 = .ok (.aload_n 0, 1) := by decide +kernel
theorem dX11_valley_46 : decode cX11_valley 46 = .ok (.aload_n 1, 1) := by decide +kernel
theorem dX11_valley_47 : decode cX11_valley 47 = .ok (.putfield 10, 3) := by decide +kernel
theorem dX11_valley_50 : decode cX11_valley 50 = .ok (.aload_n 0, 1) := by decide +kernel
theorem dX11_valley_51 : decode cX11_valley 51 = .ok (.iconst 0, 1) := by decide +kernel
theorem dX11_valley_52 : decode cX11_valley 52 = .ok (.putfield 68, 3) := by decide +kernel
theorem dX11_valley_55 : decode cX11_valley 55 = .ok (.aload_n 0, 1) := by decide +kernel
theorem dX11_valley_56 : decode cX11_valley 56 = .ok (.getfield 10, 3) := by decide +kernel
theorem dX11_valley_59 : decode cX11_valley 59 = .ok (.getfield 71, 3) := by decide +kernel
theorem dX11_valley_62 : decode cX11_valley 62 = .ok (.ireturn, 1) := by decide +kernel
theorem dX11_person_0 : decode cX11_person 0 = .ok (.iload_n 1, 1) := by decide +kernel
theorem dX11_person_1 : decode cX11_person 1 = .ok (.ifCond .lt 20, 3) := by decide +kernel
theorem dX11_person_4 : decode cX11_person 4 = .ok (.iload_n 1, 1) := by decide +kernel
theorem dX11_person_5 : decode cX11_person 5 = .ok (.bipush 6, 2) := by decide +kernel
theorem dX11_person_7 : decode cX11_person 7 = .ok (.if_icmp .ge 14, 3) := by decide +kernel
theorem dX11_person_10 : decode cX11_person 10 = .ok (.iload_n 2, 1) := by decide +kernel
theorem dX11_person_11 : decode cX11_person 11 = .ok (.iconst 1, 1) := by decide +kernel
theorem dX11_person_12 : decode cX11_person 12 = .ok (.if_icmp .lt 9, 3) := by decide +kernel
theorem dX11_person_15 : decode cX11_person 15 = .ok (.iload_n 2, 1) := by decide +kernel
theorem dX11_person_16 : decode cX11_person 16 = .ok (.bipush 90, 2) := by decide +kernel
theorem dX11_person_18 : decode cX11_person 18 = .ok (.if_icmp .le 5, 3) := by decide +kernel
theorem dX11_person_21 : decode cX11_person 21 = .ok (.iconst (-1), 1) := by decide +kernel
theorem dX11_person_22 : decode cX11_person 22 = .ok (.ireturn, 1) := by decide +kernel
theorem dX11_person_23 : decode cX11_person 23 = .ok (.aload_n 0, 1) := by decide +kernel
theorem dX11_person_24 : decode cX11_person 24 = .ok (.getfield 10, 3) := by decide +kernel
theorem dX11_person_27 : decode cX11_person 27 = .ok (.getfield 71, 3) := by decide +kernel
theorem dX11_person_30 : decode cX11_person 30 = .ok (.bipush 8, 2) := by decide +kernel
theorem dX11_person_32 : decode cX11_person 32 = .ok (.if_icmp .lt 6, 3) := by decide +kernel
theorem dX11_person_35 : decode cX11_person 35 = .ok (.bipush (-2), 2) := by decide +kernel
theorem dX11_person_37 : decode cX11_person 37 = .ok (.ireturn, 1) := by decide +kernel
theorem dX11_person_38 : decode cX11_person 38 = .ok (.aload_n 0, 1) := by decide +kernel
theorem dX11_person_39 : decode cX11_person 39 = .ok (.getfield 10, 3) := by decide +kernel
theorem dX11_person_42 : decode cX11_person 42 = .ok (.iload_n 1, 1) := by decide +kernel
theorem dX11_person_43 : decode cX11_person 43 = .ok (.aload_n 0, 1) := by decide +kernel
theorem dX11_person_44 : decode cX11_person 44 = .ok (.getfield 10, 3) := by decide +kernel
theorem dX11_person_47 : decode cX11_person 47 = .ok (.getfield 71, 3) := by decide +kernel
theorem dX11_person_50 : decode cX11_person 50 = .ok (.iload_n 2, 1) := by decide +kernel
theorem dX11_person_51 : decode cX11_person 51 = .ok (.invokestatic 72, 3) := by decide +kernel
theorem dX11_person_54 : decode cX11_person 54 = .ok (.invokevirtual 76, 3) := by decide +kernel
theorem dX11_person_57 : decode cX11_person 57 = .ok (.aload_n 0, 1) := by decide +kernel
theorem dX11_person_58 : decode cX11_person 58 = .ok (.getfield 10, 3) := by decide +kernel
theorem dX11_person_61 : decode cX11_person 61 = .ok (.getfield 71, 3) := by decide +kernel
theorem dX11_person_64 : decode cX11_person 64 = .ok (.iconst 1, 1) := by decide +kernel
theorem dX11_person_65 : decode cX11_person 65 = .ok (.isub, 1) := by decide +kernel
theorem dX11_person_66 : decode cX11_person 66 = .ok (.ireturn, 1) := by decide +kernel
theorem dX11_personOf_0 : decode cX11_personOf 0 = .ok (.aload_n 0, 1) := by decide +kernel
theorem dX11_personOf_1 : decode cX11_personOf 1 = .ok (.getfield 10, 3) := by decide +kernel
theorem dX11_personOf_4 : decode cX11_personOf 4 = .ok (.iload_n 1, 1) := by decide +kernel
theorem dX11_personOf_5 : decode cX11_personOf 5 = .ok (.invokevirtual 80, 3) := by decide +kernel
theorem dX11_personOf_8 : decode cX11_personOf 8 = .ok (.astore_n 3, 1) := by decide +kernel
theorem dX11_personOf_9 : decode cX11_personOf 9 = .ok (.aload_n 3, 1) := by decide +kernel
theorem dX11_personOf_10 : decode cX11_personOf 10 = .ok (.ifnonnull 5, 3) := by decide +kernel
theorem dX11_personOf_13 : decode cX11_personOf 13 = .ok (.iconst (-1), 1) := by decide +kernel
theorem dX11_personOf_14 : decode cX11_personOf 14 = .ok (.ireturn, 1) := by decide +kernel
theorem dX11_personOf_15 : decode cX11_personOf 15 = .ok (.iload_n 2, 1) := by decide +kernel
theorem dX11_personOf_16 : decode cX11_personOf 16 = .ok (.tableswitch 99 0 7 #[48, 53, 58, 63, 68, 73, 78, 91], 48) := by decide +kernel
theorem dX11_personOf_64 : decode cX11_personOf 64 = .ok (.aload_n 3, 1) := by decide +kernel
theorem dX11_personOf_65 : decode cX11_personOf 65 = .ok (.invokevirtual 84, 3) := by decide +kernel
theorem dX11_personOf_68 : decode cX11_personOf 68 = .ok (.ireturn, 1) := by decide +kernel
theorem dX11_personOf_69 : decode cX11_personOf 69 = .ok (.aload_n 3, 1) := by decide +kernel
theorem dX11_personOf_70 : decode cX11_personOf 70 = .ok (.getfield 90, 3) := by decide +kernel
theorem dX11_personOf_73 : decode cX11_personOf 73 = .ok (.ireturn, 1) := by decide +kernel
theorem dX11_personOf_74 : decode cX11_personOf 74 = .ok (.aload_n 3, 1) := by decide +kernel
theorem dX11_personOf_75 : decode cX11_personOf 75 = .ok (.getfield 93, 3) := by decide +kernel
theorem dX11_personOf_78 : decode cX11_personOf 78 = .ok (.ireturn, 1) := by decide +kernel
theorem dX11_personOf_79 : decode cX11_personOf 79 = .ok (.aload_n 3, 1) := by decide +kernel
theorem dX11_personOf_80 : decode cX11_personOf 80 = .ok (.invokevirtual 96, 3) := by decide +kernel
theorem dX11_personOf_83 : decode cX11_personOf 83 = .ok (.ireturn, 1) := by decide +kernel
theorem dX11_personOf_84 : decode cX11_personOf 84 = .ok (.aload_n 3, 1) := by decide +kernel
theorem dX11_personOf_85 : decode cX11_personOf 85 = .ok (.getfield 99, 3) := by decide +kernel
theorem dX11_personOf_88 : decode cX11_personOf 88 = .ok (.ireturn, 1) := by decide +kernel
theorem dX11_personOf_89 : decode cX11_personOf 89 = .ok (.aload_n 3, 1) := by decide +kernel
theorem dX11_personOf_90 : decode cX11_personOf 90 = .ok (.getfield 102, 3) := by decide +kernel
theorem dX11_personOf_93 : decode cX11_personOf 93 = .ok (.ireturn, 1) := by decide +kernel
theorem dX11_personOf_94 : decode cX11_personOf 94 = .ok (.aload_n 3, 1) := by decide +kernel
theorem dX11_personOf_95 : decode cX11_personOf 95 = .ok (.getfield 105, 3) := by decide +kernel
theorem dX11_personOf_98 : decode cX11_personOf 98 = .ok (.ifCond .eq 7, 3) := by decide +kernel
theorem dX11_personOf_101 : decode cX11_personOf 101 = .ok (.iconst 1, 1) := by decide +kernel
theorem dX11_personOf_102 : decode cX11_personOf 102 = .ok (.goto 4, 3) := by decide +kernel
theorem dX11_personOf_105 : decode cX11_personOf 105 = .ok (.iconst 0, 1) := by decide +kernel
theorem dX11_personOf_106 : decode cX11_personOf 106 = .ok (.ireturn, 1) := by decide +kernel
theorem dX11_personOf_107 : decode cX11_personOf 107 = .ok (.aload_n 3, 1) := by decide +kernel
theorem dX11_personOf_108 : decode cX11_personOf 108 = .ok (.getfield 109, 3) := by decide +kernel
theorem dX11_personOf_111 : decode cX11_personOf 111 = .ok (.ldc 112, 2) := by decide +kernel
theorem dX11_personOf_113 : decode cX11_personOf 113 = .ok (.iadd, 1) := by decide +kernel
theorem dX11_personOf_114 : decode cX11_personOf 114 = .ok (.ireturn, 1) := by decide +kernel
theorem dX11_personOf_115 : decode cX11_personOf 115 = .ok (.iconst (-1), 1) := by decide +kernel
theorem dX11_personOf_116 : decode cX11_personOf 116 = .ok (.ireturn, 1) := by decide +kernel
theorem dX11_voice_0 : decode cX11_voice 0 = .ok (.aload_n 0, 1) := by decide +kernel
theorem dX11_voice_1 : decode cX11_voice 1 = .ok (.getfield 10, 3) := by decide +kernel
theorem dX11_voice_4 : decode cX11_voice 4 = .ok (.iload_n 1, 1) := by decide +kernel
theorem dX11_voice_5 : decode cX11_voice 5 = .ok (.invokevirtual 80, 3) := by decide +kernel
theorem dX11_voice_8 : decode cX11_voice 8 = .ok (.astore_n 3, 1) := by decide +kernel
theorem dX11_voice_9 : decode cX11_voice 9 = .ok (.aload_n 3, 1) := by decide +kernel
theorem dX11_voice_10 : decode cX11_voice 10 = .ok (.ifnull 14, 3) := by decide +kernel
theorem dX11_voice_13 : decode cX11_voice 13 = .ok (.iload_n 2, 1) := by decide +kernel
theorem dX11_voice_14 : decode cX11_voice 14 = .ok (.ifCond .lt 10, 3) := by decide +kernel
theorem dX11_voice_17 : decode cX11_voice 17 = .ok (.iload_n 2, 1) := by decide +kernel
theorem dX11_voice_18 : decode cX11_voice 18 = .ok (.sipush 200, 3) := by decide +kernel
theorem dX11_voice_21 : decode cX11_voice 21 = .ok (.if_icmp .le 5, 3) := by decide +kernel
theorem dX11_voice_24 : decode cX11_voice 24 = .ok (.iconst (-1), 1) := by decide +kernel
theorem dX11_voice_25 : decode cX11_voice 25 = .ok (.ireturn, 1) := by decide +kernel
theorem dX11_voice_26 : decode cX11_voice 26 = .ok (.aload_n 3, 1) := by decide +kernel
theorem dX11_voice_27 : decode cX11_voice 27 = .ok (.getfield 93, 3) := by decide +kernel
theorem dX11_voice_30 : decode cX11_voice 30 = .ok (.istore 4, 2) := by decide +kernel
theorem dX11_voice_32 : decode cX11_voice 32 = .ok (.aload_n 3, 1) := by decide +kernel
theorem dX11_voice_33 : decode cX11_voice 33 = .ok (.iload_n 2, 1) := by decide +kernel
theorem dX11_voice_34 : decode cX11_voice 34 = .ok (.putfield 93, 3) := by decide +kernel
theorem dX11_voice_37 : decode cX11_voice 37 = .ok (.iload 4, 2) := by decide +kernel
theorem dX11_voice_39 : decode cX11_voice 39 = .ok (.ireturn, 1) := by decide +kernel
theorem dX11_purse_0 : decode cX11_purse 0 = .ok (.aload_n 0, 1) := by decide +kernel
theorem dX11_purse_1 : decode cX11_purse 1 = .ok (.getfield 10, 3) := by decide +kernel
theorem dX11_purse_4 : decode cX11_purse 4 = .ok (.iload_n 1, 1) := by decide +kernel
theorem dX11_purse_5 : decode cX11_purse 5 = .ok (.invokevirtual 80, 3) := by decide +kernel
theorem dX11_purse_8 : decode cX11_purse 8 = .ok (.astore_n 3, 1) := by decide +kernel
theorem dX11_purse_9 : decode cX11_purse 9 = .ok (.aload_n 3, 1) := by decide +kernel
theorem dX11_purse_10 : decode cX11_purse 10 = .ok (.ifnull 17, 3) := by decide +kernel
theorem dX11_purse_13 : decode cX11_purse 13 = .ok (.iload_n 2, 1) := by decide +kernel
theorem dX11_purse_14 : decode cX11_purse 14 = .ok (.sipush (-9999), 3) := by decide +kernel
theorem dX11_purse_17 : decode cX11_purse 17 = .ok (.if_icmp .lt 10, 3) := by decide +kernel
theorem dX11_purse_20 : decode cX11_purse 20 = .ok (.iload_n 2, 1) := by decide +kernel
theorem dX11_purse_21 : decode cX11_purse 21 = .ok (.sipush 9999, 3) := by decide +kernel
theorem dX11_purse_24 : decode cX11_purse 24 = .ok (.if_icmp .le 5, 3) := by decide +kernel
theorem dX11_purse_27 : decode cX11_purse 27 = .ok (.iconst (-1), 1) := by decide +kernel
theorem dX11_purse_28 : decode cX11_purse 28 = .ok (.ireturn, 1) := by decide +kernel
theorem dX11_purse_29 : decode cX11_purse 29 = .ok (.aload_n 3, 1) := by decide +kernel
theorem dX11_purse_30 : decode cX11_purse 30 = .ok (.getfield 109, 3) := by decide +kernel
theorem dX11_purse_33 : decode cX11_purse 33 = .ok (.istore 4, 2) := by decide +kernel
theorem dX11_purse_35 : decode cX11_purse 35 = .ok (.aload_n 3, 1) := by decide +kernel
theorem dX11_purse_36 : decode cX11_purse 36 = .ok (.iload_n 2, 1) := by decide +kernel
theorem dX11_purse_37 : decode cX11_purse 37 = .ok (.putfield 109, 3) := by decide +kernel
theorem dX11_purse_40 : decode cX11_purse 40 = .ok (.iload 4, 2) := by decide +kernel
theorem dX11_purse_42 : decode cX11_purse 42 = .ok (.ldc 112, 2) := by decide +kernel
theorem dX11_purse_44 : decode cX11_purse 44 = .ok (.iadd, 1) := by decide +kernel
theorem dX11_purse_45 : decode cX11_purse 45 = .ok (.ireturn, 1) := by decide +kernel
theorem dX11_turn_0 : decode cX11_turn 0 = .ok (.aload_n 0, 1) := by decide +kernel
theorem dX11_turn_1 : decode cX11_turn 1 = .ok (.getfield 10, 3) := by decide +kernel
theorem dX11_turn_4 : decode cX11_turn 4 = .ok (.iload_n 1, 1) := by decide +kernel
theorem dX11_turn_5 : decode cX11_turn 5 = .ok (.invokevirtual 80, 3) := by decide +kernel
theorem dX11_turn_8 : decode cX11_turn 8 = .ok (.astore_n 3, 1) := by decide +kernel
theorem dX11_turn_9 : decode cX11_turn 9 = .ok (.aload_n 3, 1) := by decide +kernel
theorem dX11_turn_10 : decode cX11_turn 10 = .ok (.ifnull 13, 3) := by decide +kernel
theorem dX11_turn_13 : decode cX11_turn 13 = .ok (.iload_n 2, 1) := by decide +kernel
theorem dX11_turn_14 : decode cX11_turn 14 = .ok (.ifCond .lt 9, 3) := by decide +kernel
theorem dX11_turn_17 : decode cX11_turn 17 = .ok (.iload_n 2, 1) := by decide +kernel
theorem dX11_turn_18 : decode cX11_turn 18 = .ok (.bipush 6, 2) := by decide +kernel
theorem dX11_turn_20 : decode cX11_turn 20 = .ok (.if_icmp .lt 5, 3) := by decide +kernel
theorem dX11_turn_23 : decode cX11_turn 23 = .ok (.iconst (-1), 1) := by decide +kernel
theorem dX11_turn_24 : decode cX11_turn 24 = .ok (.ireturn, 1) := by decide +kernel
theorem dX11_turn_25 : decode cX11_turn 25 = .ok (.aload_n 3, 1) := by decide +kernel
theorem dX11_turn_26 : decode cX11_turn 26 = .ok (.invokevirtual 84, 3) := by decide +kernel
theorem dX11_turn_29 : decode cX11_turn 29 = .ok (.istore 4, 2) := by decide +kernel
theorem dX11_turn_31 : decode cX11_turn 31 = .ok (.aload_n 0, 1) := by decide +kernel
theorem dX11_turn_32 : decode cX11_turn 32 = .ok (.getfield 10, 3) := by decide +kernel
theorem dX11_turn_35 : decode cX11_turn 35 = .ok (.getfield 113, 3) := by decide +kernel
theorem dX11_turn_38 : decode cX11_turn 38 = .ok (.iload_n 1, 1) := by decide +kernel
theorem dX11_turn_39 : decode cX11_turn 39 = .ok (.aload_n 3, 1) := by decide +kernel
theorem dX11_turn_40 : decode cX11_turn 40 = .ok (.iload_n 2, 1) := by decide +kernel
theorem dX11_turn_41 : decode cX11_turn 41 = .ok (.invokestatic 117, 3) := by decide +kernel
theorem dX11_turn_44 : decode cX11_turn 44 = .ok (.aastore, 1) := by decide +kernel
theorem dX11_turn_45 : decode cX11_turn 45 = .ok (.iload 4, 2) := by decide +kernel
theorem dX11_turn_47 : decode cX11_turn 47 = .ok (.ireturn, 1) := by decide +kernel
theorem dX11_older_0 : decode cX11_older 0 = .ok (.iconst 0, 1) := by decide +kernel
theorem dX11_older_1 : decode cX11_older 1 = .ok (.istore_n 1, 1) := by decide +kernel
theorem dX11_older_2 : decode cX11_older 2 = .ok (.iconst 0, 1) := by decide +kernel
theorem dX11_older_3 : decode cX11_older 3 = .ok (.istore_n 2, 1) := by decide +kernel
theorem dX11_older_4 : decode cX11_older 4 = .ok (.iload_n 2, 1) := by decide +kernel
theorem dX11_older_5 : decode cX11_older 5 = .ok (.bipush 8, 2) := by decide +kernel
theorem dX11_older_7 : decode cX11_older 7 = .ok (.if_icmp .ge 44, 3) := by decide +kernel
theorem dX11_older_10 : decode cX11_older 10 = .ok (.aload_n 0, 1) := by decide +kernel
theorem dX11_older_11 : decode cX11_older 11 = .ok (.getfield 10, 3) := by decide +kernel
theorem dX11_older_14 : decode cX11_older 14 = .ok (.iload_n 2, 1) := by decide +kernel
theorem dX11_older_15 : decode cX11_older 15 = .ok (.invokevirtual 80, 3) := by decide +kernel
theorem dX11_older_18 : decode cX11_older 18 = .ok (.astore_n 3, 1) := by decide +kernel
theorem dX11_older_19 : decode cX11_older 19 = .ok (.aload_n 3, 1) := by decide +kernel
theorem dX11_older_20 : decode cX11_older 20 = .ok (.ifnull 25, 3) := by decide +kernel
theorem dX11_older_23 : decode cX11_older 23 = .ok (.aload_n 3, 1) := by decide +kernel
theorem dX11_older_24 : decode cX11_older 24 = .ok (.bipush 90, 2) := by decide +kernel
theorem dX11_older_26 : decode cX11_older 26 = .ok (.aload_n 3, 1) := by decide +kernel
theorem dX11_older_27 : decode cX11_older 27 = .ok (.getfield 90, 3) := by decide +kernel
theorem dX11_older_30 : decode cX11_older 30 = .ok (.iconst 1, 1) := by decide +kernel
theorem dX11_older_31 : decode cX11_older 31 = .ok (.iadd, 1) := by decide +kernel
theorem dX11_older_32 : decode cX11_older 32 = .ok (.invokestatic 121, 3) := by decide +kernel
