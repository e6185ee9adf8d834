theorem dX11_older_35 : decode cX11_older 35 = .ok (.putfield 90, 3) := by decide +kernel
theorem dX11_older_38 : decode cX11_older 38 = .ok (.iload_n 1, 1) := by decide +kernel
theorem dX11_older_39 : decode cX11_older 39 = .ok (.aload_n 3, 1) := by decide +kernel
theorem dX11_older_40 : decode cX11_older 40 = .ok (.getfield 90, 3) := by decide +kernel
theorem dX11_older_43 : decode cX11_older 43 = .ok (.iadd, 1) := by decide +kernel
theorem dX11_older_44 : decode cX11_older 44 = .ok (.istore_n 1, 1) := by decide +kernel
theorem dX11_older_45 : decode cX11_older 45 = .ok (.iinc 2 1, 3) := by decide +kernel
theorem dX11_older_48 : decode cX11_older 48 = .ok (.goto (-44), 3) := by decide +kernel
theorem dX11_older_51 : decode cX11_older 51 = .ok (.iload_n 1, 1) := by decide +kernel
theorem dX11_older_52 : decode cX11_older 52 = .ok (.ireturn, 1) := by decide +kernel
theorem dX11_lasts_0 : decode cX11_lasts 0 = .ok (.aload_n 0, 1) := by decide +kernel
theorem dX11_lasts_1 : decode cX11_lasts 1 = .ok (.getfield 10, 3) := by decide +kernel
theorem dX11_lasts_4 : decode cX11_lasts 4 = .ok (.iload_n 1, 1) := by decide +kernel
theorem dX11_lasts_5 : decode cX11_lasts 5 = .ok (.invokevirtual 80, 3) := by decide +kernel
theorem dX11_lasts_8 : decode cX11_lasts 8 = .ok (.astore_n 3, 1) := by decide +kernel
theorem dX11_lasts_9 : decode cX11_lasts 9 = .ok (.aload_n 3, 1) := by decide +kernel
theorem dX11_lasts_10 : decode cX11_lasts 10 = .ok (.ifnull 14, 3) := by decide +kernel
theorem dX11_lasts_13 : decode cX11_lasts 13 = .ok (.iload_n 2, 1) := by decide +kernel
theorem dX11_lasts_14 : decode cX11_lasts 14 = .ok (.ifCond .lt 10, 3) := by decide +kernel
theorem dX11_lasts_17 : decode cX11_lasts 17 = .ok (.iload_n 2, 1) := by decide +kernel
theorem dX11_lasts_18 : decode cX11_lasts 18 = .ok (.sipush 999, 3) := by decide +kernel
theorem dX11_lasts_21 : decode cX11_lasts 21 = .ok (.if_icmp .le 5, 3) := by decide +kernel
theorem dX11_lasts_24 : decode cX11_lasts 24 = .ok (.iconst (-1), 1) := by decide +kernel
theorem dX11_lasts_25 : decode cX11_lasts 25 = .ok (.ireturn, 1) := by decide +kernel
theorem dX11_lasts_26 : decode cX11_lasts 26 = .ok (.aload_n 3, 1) := by decide +kernel
theorem dX11_lasts_27 : decode cX11_lasts 27 = .ok (.getfield 102, 3) := by decide +kernel
theorem dX11_lasts_30 : decode cX11_lasts 30 = .ok (.istore 4, 2) := by decide +kernel
theorem dX11_lasts_32 : decode cX11_lasts 32 = .ok (.aload_n 3, 1) := by decide +kernel
theorem dX11_lasts_33 : decode cX11_lasts 33 = .ok (.iload_n 2, 1) := by decide +kernel
theorem dX11_lasts_34 : decode cX11_lasts 34 = .ok (.putfield 102, 3) := by decide +kernel
theorem dX11_lasts_37 : decode cX11_lasts 37 = .ok (.iload 4, 2) := by decide +kernel
theorem dX11_lasts_39 : decode cX11_lasts 39 = .ok (.ireturn, 1) := by decide +kernel
theorem dX11_sing_0 : decode cX11_sing 0 = .ok (.aload_n 0, 1) := by decide +kernel
theorem dX11_sing_1 : decode cX11_sing 1 = .ok (.getfield 10, 3) := by decide +kernel
theorem dX11_sing_4 : decode cX11_sing 4 = .ok (.aload_n 0, 1) := by decide +kernel
theorem dX11_sing_5 : decode cX11_sing 5 = .ok (.getfield 10, 3) := by decide +kernel
theorem dX11_sing_8 : decode cX11_sing 8 = .ok (.invokevirtual 127, 3) := by decide +kernel
theorem dX11_sing_11 : decode cX11_sing 11 = .ok (.iload_n 1, 1) := by decide +kernel
theorem dX11_sing_12 : decode cX11_sing 12 = .ok (.iload_n 2, 1) := by decide +kernel
theorem dX11_sing_13 : decode cX11_sing 13 = .ok (.invokevirtual 130, 3) := by decide +kernel
theorem dX11_sing_16 : decode cX11_sing 16 = .ok (.istore_n 3, 1) := by decide +kernel
theorem dX11_sing_17 : decode cX11_sing 17 = .ok (.iload_n 3, 1) := by decide +kernel
theorem dX11_sing_18 : decode cX11_sing 18 = .ok (.ifCond .le 13, 3) := by decide +kernel
theorem dX11_sing_21 : decode cX11_sing 21 = .ok (.aload_n 0, 1) := by decide +kernel
theorem dX11_sing_22 : decode cX11_sing 22 = .ok (.getfield 10, 3) := by decide +kernel
theorem dX11_sing_25 : decode cX11_sing 25 = .ok (.iload_n 1, 1) := by decide +kernel
theorem dX11_sing_26 : decode cX11_sing 26 = .ok (.iload_n 2, 1) := by decide +kernel
theorem dX11_sing_27 : decode cX11_sing 27 = .ok (.iload_n 3, 1) := by decide +kernel
theorem dX11_sing_28 : decode cX11_sing 28 = .ok (.invokevirtual 134, 3) := by decide +kernel
theorem dX11_sing_31 : decode cX11_sing 31 = .ok (.iload_n 3, 1) := by decide +kernel
theorem dX11_sing_32 : decode cX11_sing 32 = .ok (.ireturn, 1) := by decide +kernel
theorem dX11_may_0 : decode cX11_may 0 = .ok (.aload_n 0, 1) := by decide +kernel
theorem dX11_may_1 : decode cX11_may 1 = .ok (.getfield 10, 3) := by decide +kernel
theorem dX11_may_4 : decode cX11_may 4 = .ok (.aload_n 0, 1) := by decide +kernel
theorem dX11_may_5 : decode cX11_may 5 = .ok (.getfield 10, 3) := by decide +kernel
theorem dX11_may_8 : decode cX11_may 8 = .ok (.invokevirtual 127, 3) := by decide +kernel
theorem dX11_may_11 : decode cX11_may 11 = .ok (.iload_n 1, 1) := by decide +kernel
theorem dX11_may_12 : decode cX11_may 12 = .ok (.iload_n 2, 1) := by decide +kernel
theorem dX11_may_13 : decode cX11_may 13 = .ok (.invokevirtual 130, 3) := by decide +kernel
theorem dX11_may_16 : decode cX11_may 16 = .ok (.istore_n 3, 1) := by decide +kernel
theorem dX11_may_17 : decode cX11_may 17 = .ok (.iload_n 3, 1) := by decide +kernel
theorem dX11_may_18 : decode cX11_may 18 = .ok (.iconst (-1), 1) := by decide +kernel
theorem dX11_may_19 : decode cX11_may 19 = .ok (.if_icmp .ne 5, 3) := by decide +kernel
theorem dX11_may_22 : decode cX11_may 22 = .ok (.iconst (-1), 1) := by decide +kernel
theorem dX11_may_23 : decode cX11_may 23 = .ok (.ireturn, 1) := by decide +kernel
theorem dX11_may_24 : decode cX11_may 24 = .ok (.iload_n 3, 1) := by decide +kernel
theorem dX11_may_25 : decode cX11_may 25 = .ok (.ifCond .le 7, 3) := by decide +kernel
theorem dX11_may_28 : decode cX11_may 28 = .ok (.iconst 1, 1) := by decide +kernel
theorem dX11_may_29 : decode cX11_may 29 = .ok (.goto 4, 3) := by decide +kernel
theorem dX11_may_32 : decode cX11_may 32 = .ok (.iconst 0, 1) := by decide +kernel
theorem dX11_may_33 : decode cX11_may 33 = .ok (.ireturn, 1) := by decide +kernel
theorem dX11_wake_0 : decode cX11_wake 0 = .ok (.aload_n 0, 1) := by decide +kernel
theorem dX11_wake_1 : decode cX11_wake 1 = .ok (.getfield 10, 3) := by decide +kernel
theorem dX11_wake_4 : decode cX11_wake 4 = .ok (.iload_n 1, 1) := by decide +kernel
theorem dX11_wake_5 : decode cX11_wake 5 = .ok (.invokevirtual 80, 3) := by decide +kernel
theorem dX11_wake_8 : decode cX11_wake 8 = .ok (.astore_n 2, 1) := by decide +kernel
theorem dX11_wake_9 : decode cX11_wake 9 = .ok (.aload_n 2, 1) := by decide +kernel
theorem dX11_wake_10 : decode cX11_wake 10 = .ok (.ifnonnull 5, 3) := by decide +kernel
theorem dX11_wake_13 : decode cX11_wake 13 = .ok (.iconst (-1), 1) := by decide +kernel
theorem dX11_wake_14 : decode cX11_wake 14 = .ok (.ireturn, 1) := by decide +kernel
theorem dX11_wake_15 : decode cX11_wake 15 = .ok (.aload_n 2, 1) := by decide +kernel
theorem dX11_wake_16 : decode cX11_wake 16 = .ok (.getfield 105, 3) := by decide +kernel
theorem dX11_wake_19 : decode cX11_wake 19 = .ok (.ifCond .eq 5, 3) := by decide +kernel
theorem dX11_wake_22 : decode cX11_wake 22 = .ok (.iconst 0, 1) := by decide +kernel
theorem dX11_wake_23 : decode cX11_wake 23 = .ok (.ireturn, 1) := by decide +kernel
theorem dX11_wake_24 : decode cX11_wake 24 = .ok (.aload_n 2, 1) := by decide +kernel
theorem dX11_wake_25 : decode cX11_wake 25 = .ok (.iconst 1, 1) := by decide +kernel
theorem dX11_wake_26 : decode cX11_wake 26 = .ok (.putfield 105, 3) := by decide +kernel
theorem dX11_wake_29 : decode cX11_wake 29 = .ok (.iconst 1, 1) := by decide +kernel
theorem dX11_wake_30 : decode cX11_wake 30 = .ok (.ireturn, 1) := by decide +kernel
theorem dX11_night_0 : decode cX11_night 0 = .ok (.iload_n 1, 1) := by decide +kernel
theorem dX11_night_1 : decode cX11_night 1 = .ok (.tableswitch 74 0 3 #[31, 39, 47, 66], 31) := by decide +kernel
theorem dX11_night_32 : decode cX11_night 32 = .ok (.aload_n 0, 1) := by decide +kernel
theorem dX11_night_33 : decode cX11_night 33 = .ok (.getfield 10, 3) := by decide +kernel
theorem dX11_night_36 : decode cX11_night 36 = .ok (.getfield 138, 3) := by decide +kernel
theorem dX11_night_39 : decode cX11_night 39 = .ok (.ireturn, 1) := by decide +kernel
theorem dX11_night_40 : decode cX11_night 40 = .ok (.aload_n 0, 1) := by decide +kernel
theorem dX11_night_41 : decode cX11_night 41 = .ok (.getfield 10, 3) := by decide +kernel
theorem dX11_night_44 : decode cX11_night 44 = .ok (.invokevirtual 127, 3) := by decide +kernel
theorem dX11_night_47 : decode cX11_night 47 = .ok (.ireturn, 1) := by decide +kernel
theorem dX11_night_48 : decode cX11_night 48 = .ok (.aload_n 0, 1) := by decide +kernel
theorem dX11_night_49 : decode cX11_night 49 = .ok (.getfield 10, 3) := by decide +kernel
theorem dX11_night_52 : decode cX11_night 52 = .ok (.invokevirtual 127, 3) := by decide +kernel
theorem dX11_night_55 : decode cX11_night 55 = .ok (.invokestatic 141, 3) := by decide +kernel
theorem dX11_night_58 : decode cX11_night 58 = .ok (.ifCond .eq 7, 3) := by decide +kernel
theorem dX11_night_61 : decode cX11_night 61 = .ok (.iconst 1, 1) := by decide +kernel
theorem dX11_night_62 : decode cX11_night 62 = .ok (.goto 4, 3) := by decide +kernel
theorem dX11_night_65 : decode cX11_night 65 = .ok (.iconst 0, 1) := by decide +kernel
theorem dX11_night_66 : decode cX11_night 66 = .ok (.ireturn, 1) := by decide +kernel
theorem dX11_night_67 : decode cX11_night 67 = .ok (.aload_n 0, 1) := by decide +kernel
theorem dX11_night_68 : decode cX11_night 68 = .ok (.getfield 10, 3) := by decide +kernel
theorem dX11_night_71 : decode cX11_night 71 = .ok (.invokevirtual 145, 3) := by decide +kernel
theorem dX11_night_74 : decode cX11_night 74 = .ok (.ireturn, 1) := by decide +kernel
theorem dX11_night_75 : decode cX11_night 75 = .ok (.iconst (-1), 1) := by decide +kernel
theorem dX11_night_76 : decode cX11_night 76 = .ok (.ireturn, 1) := by decide +kernel
theorem dX11_day_0 : decode cX11_day 0 = .ok (.aload_n 0, 1) := by decide +kernel
theorem dX11_day_1 : decode cX11_day 1 = .ok (.getfield 10, 3) := by decide +kernel
theorem dX11_day_4 : decode cX11_day 4 = .ok (.invokevirtual 127, 3) := by decide +kernel
theorem dX11_day_7 : decode cX11_day 7 = .ok (.istore_n 1, 1) := by decide +kernel
theorem dX11_day_8 : decode cX11_day 8 = .ok (.iload_n 1, 1) := by decide +kernel
theorem dX11_day_9 : decode cX11_day 9 = .ok (.invokestatic 148, 3) := by decide +kernel
theorem dX11_day_12 : decode cX11_day 12 = .ok (.iconst 1, 1) := by decide +kernel
theorem dX11_day_13 : decode cX11_day 13 = .ok (.if_icmp .ne 10, 3) := by decide +kernel
theorem dX11_day_16 : decode cX11_day 16 = .ok (.iload_n 1, 1) := by decide +kernel
theorem dX11_day_17 : decode cX11_day 17 = .ok (.invokestatic 154, 3) := by decide +kernel
theorem dX11_day_20 : decode cX11_day 20 = .ok (.goto 5, 3) := by decide +kernel
theorem dX11_day_23 : decode cX11_day 23 = .ok (.bipush (-9), 2) := by decide +kernel
theorem dX11_day_25 : decode cX11_day 25 = .ok (.istore_n 2, 1) := by decide +kernel
theorem dX11_day_26 : decode cX11_day 26 = .ok (.aload_n 0, 1) := by decide +kernel
theorem dX11_day_27 : decode cX11_day 27 = .ok (.getfield 10, 3) := by decide +kernel
theorem dX11_day_30 : decode cX11_day 30 = .ok (.iload_n 2, 1) := by decide +kernel
theorem dX11_day_31 : decode cX11_day 31 = .ok (.invokevirtual 80, 3) := by decide +kernel
theorem dX11_day_34 : decode cX11_day 34 = .ok (.astore_n 3, 1) := by decide +kernel
theorem dX11_day_35 : decode cX11_day 35 = .ok (.aload_n 3, 1) := by decide +kernel
theorem dX11_day_36 : decode cX11_day 36 = .ok (.ifnull 13, 3) := by decide +kernel
theorem dX11_day_39 : decode cX11_day 39 = .ok (.aload_n 3, 1) := by decide +kernel
theorem dX11_day_40 : decode cX11_day 40 = .ok (.dup, 1) := by decide +kernel
theorem dX11_day_41 : decode cX11_day 41 = .ok (.getfield 102, 3) := by decide +kernel
theorem dX11_day_44 : decode cX11_day 44 = .ok (.iconst 1, 1) := by decide +kernel
theorem dX11_day_45 : decode cX11_day 45 = .ok (.iadd, 1) := by decide +kernel
theorem dX11_day_46 : decode cX11_day 46 = .ok (.putfield 102, 3) := by decide +kernel
theorem dX11_day_49 : decode cX11_day 49 = .ok (.aload_n 0, 1) := by decide +kernel
theorem dX11_day_50 : decode cX11_day 50 = .ok (.getfield 10, 3) := by decide +kernel
theorem dX11_day_53 : decode cX11_day 53 = .ok (.invokevirtual 157, 3) := by decide +kernel
theorem dX11_day_56 : decode cX11_day 56 = .ok (.iload_n 2, 1) := by decide +kernel
theorem dX11_day_57 : decode cX11_day 57 = .ok (.ireturn, 1) := by decide +kernel
theorem dX11_owed_0 : decode cX11_owed 0 = .ok (.aload_n 0, 1) := by decide +kernel
theorem dX11_owed_1 : decode cX11_owed 1 = .ok (.iload_n 1, 1) := by decide +kernel
theorem dX11_owed_2 : decode cX11_owed 2 = .ok (.iload_n 2, 1) := by decide +kernel
theorem dX11_owed_3 : decode cX11_owed 3 = .ok (.invokevirtual 160, 3) := by decide +kernel
theorem dX11_owed_6 : decode cX11_owed 6 = .ok (.ifCond .ne 5, 3) := by decide +kernel
theorem dX11_owed_9 : decode cX11_owed 9 = .ok (.iconst (-1), 1) := by decide +kernel
theorem dX11_owed_10 : decode cX11_owed 10 = .ok (.ireturn, 1) := by decide +kernel
theorem dX11_owed_11 : decode cX11_owed 11 = .ok (.aload_n 0, 1) := by decide +kernel
theorem dX11_owed_12 : decode cX11_owed 12 = .ok (.getfield 10, 3) := by decide +kernel
theorem dX11_owed_15 : decode cX11_owed 15 = .ok (.iload_n 1, 1) := by decide +kernel
theorem dX11_owed_16 : decode cX11_owed 16 = .ok (.iload_n 2, 1) := by decide +kernel
theorem dX11_owed_17 : decode cX11_owed 17 = .ok (.invokevirtual 164, 3) := by decide +kernel
theorem dX11_owed_20 : decode cX11_owed 20 = .ok (.ireturn, 1) := by decide +kernel
theorem dX11_owe_0 : decode cX11_owe 0 = .ok (.aload_n 0, 1) := by decide +kernel
theorem dX11_owe_1 : decode cX11_owe 1 = .ok (.iload_n 1, 1) := by decide +kernel
theorem dX11_owe_2 : decode cX11_owe 2 = .ok (.iload_n 2, 1) := by decide +kernel
theorem dX11_owe_3 : decode cX11_owe 3 = .ok (.invokevirtual 160, 3) := by decide +kernel
theorem dX11_owe_6 : decode cX11_owe 6 = .ok (.ifCond .eq 14, 3) := by decide +kernel
theorem dX11_owe_9 : decode cX11_owe 9 = .ok (.iload_n 3, 1) := by decide +kernel
theorem dX11_owe_10 : decode cX11_owe 10 = .ok (.ifCond .lt 10, 3) := by decide +kernel
theorem dX11_owe_13 : decode cX11_owe 13 = .ok (.iload_n 3, 1) := by decide +kernel
theorem dX11_owe_14 : decode cX11_owe 14 = .ok (.sipush 9999, 3) := by decide +kernel
theorem dX11_owe_17 : decode cX11_owe 17 = .ok (.if_icmp .le 5, 3) := by decide +kernel
theorem dX11_owe_20 : decode cX11_owe 20 = .ok (.iconst (-1), 1) := by decide +kernel
theorem dX11_owe_21 : decode cX11_owe 21 = .ok (.ireturn, 1) := by decide +kernel
theorem dX11_owe_22 : decode cX11_owe 22 = .ok (.aload_n 0, 1) := by decide +kernel
theorem dX11_owe_23 : decode cX11_owe 23 = .ok (.getfield 10, 3) := by decide +kernel
theorem dX11_owe_26 : decode cX11_owe 26 = .ok (.iload_n 1, 1) := by decide +kernel
theorem dX11_owe_27 : decode cX11_owe 27 = .ok (.iload_n 2, 1) := by decide +kernel
theorem dX11_owe_28 : decode cX11_owe 28 = .ok (.invokevirtual 164, 3) := by decide +kernel
theorem dX11_owe_31 : decode cX11_owe 31 = .ok (.istore 4, 2) := by decide +kernel
theorem dX11_owe_33 : decode cX11_owe 33 = .ok (.aload_n 0, 1) := by decide +kernel
theorem dX11_owe_34 : decode cX11_owe 34 = .ok (.getfield 10, 3) := by decide +kernel
theorem dX11_owe_37 : decode cX11_owe 37 = .ok (.iload_n 1, 1) := by decide +kernel
theorem dX11_owe_38 : decode cX11_owe 38 = .ok (.iload_n 2, 1) := by decide +kernel
theorem dX11_owe_39 : decode cX11_owe 39 = .ok (.iload_n 3, 1) := by decide +kernel
theorem dX11_owe_40 : decode cX11_owe 40 = .ok (.invokevirtual 167, 3) := by decide +kernel
theorem dX11_owe_43 : decode cX11_owe 43 = .ok (.iload 4, 2) := by decide +kernel
theorem dX11_owe_45 : decode cX11_owe 45 = .ok (.ireturn, 1) := by decide +kernel
theorem dX11_ring_0 : decode cX11_ring 0 = .ok (.iconst 0, 1) := by decide +kernel
theorem dX11_ring_1 : decode cX11_ring 1 = .ok (.istore_n 1, 1) := by decide +kernel
theorem dX11_ring_2 : decode cX11_ring 2 = .ok (.iload_n 1, 1) := by decide +kernel
theorem dX11_ring_3 : decode cX11_ring 3 = .ok (.aload_n 0, 1) := by decide +kernel
theorem dX11_ring_4 : decode cX11_ring 4 = .ok (.getfield 10, 3) := by decide +kernel
theorem dX11_ring_7 : decode cX11_ring 7 = .ok (.getfield 71, 3) := by decide +kernel
theorem dX11_ring_10 : decode cX11_ring 10 = .ok (.if_icmp .ge 80, 3) := by decide +kernel
theorem dX11_ring_13 : decode cX11_ring 13 = .ok (.iconst 0, 1) := by decide +kernel
theorem dX11_ring_14 : decode cX11_ring 14 = .ok (.istore_n 2, 1) := by decide +kernel
theorem dX11_ring_15 : decode cX11_ring 15 = .ok (.iload_n 2, 1) := by decide +kernel
theorem dX11_ring_16 : decode cX11_ring 16 = .ok (.aload_n 0, 1) := by decide +kernel
theorem dX11_ring_17 : decode cX11_ring 17 = .ok (.getfield 10, 3) := by decide +kernel
theorem dX11_ring_20 : decode cX11_ring 20 = .ok (.getfield 71, 3) := by decide +kernel
theorem dX11_ring_23 : decode cX11_ring 23 = .ok (.if_icmp .ge 61, 3) := by decide +kernel
theorem dX11_ring_26 : decode cX11_ring 26 = .ok (.aload_n 0, 1) := by decide +kernel
theorem dX11_ring_27 : decode cX11_ring 27 = .ok (.getfield 10, 3) := by decide +kernel
theorem dX11_ring_30 : decode cX11_ring 30 = .ok (.iload_n 1, 1) := by decide +kernel
theorem dX11_ring_31 : decode cX11_ring 31 = .ok (.iload_n 2, 1) := by decide +kernel
theorem dX11_ring_32 : decode cX11_ring 32 = .ok (.invokevirtual 164, 3) := by decide +kernel
theorem dX11_ring_35 : decode cX11_ring 35 = .ok (.ifCond .le 15, 3) := by decide +kernel
theorem dX11_ring_38 : decode cX11_ring 38 = .ok (.aload_n 0, 1) := by decide +kernel
theorem dX11_ring_39 : decode cX11_ring 39 = .ok (.getfield 10, 3) := by decide +kernel
theorem dX11_ring_42 : decode cX11_ring 42 = .ok (.iload_n 1, 1) := by decide +kernel
theorem dX11_ring_43 : decode cX11_ring 43 = .ok (.iload_n 2, 1) := by decide +kernel
theorem dX11_ring_44 : decode cX11_ring 44 = .ok (.invokevirtual 170, 3) := by decide +kernel
theorem dX11_ring_47 : decode cX11_ring 47 = .ok (.goto 4, 3) := by decide +kernel
theorem dX11_ring_50 : decode cX11_ring 50 = .ok (.iconst (-1), 1) := by decide +kernel
theorem dX11_ring_51 : decode cX11_ring 51 = .ok (.istore_n 3, 1) := by decide +kernel
theorem dX11_ring_52 : decode cX11_ring 52 = .ok (.iload_n 3, 1) := by decide +kernel
theorem dX11_ring_53 : decode cX11_ring 53 = .ok (.ifCond .lt 25, 3) := by decide +kernel
theorem dX11_ring_56 : decode cX11_ring 56 = .ok (.aload_n 0, 1) := by decide +kernel
theorem dX11_ring_57 : decode cX11_ring 57 = .ok (.getfield 10, 3) := by decide +kernel
theorem dX11_ring_60 : decode cX11_ring 60 = .ok (.iload_n 1, 1) := by decide +kernel
theorem dX11_ring_61 : decode cX11_ring 61 = .ok (.iload_n 2, 1) := by decide +kernel
theorem dX11_ring_62 : decode cX11_ring 62 = .ok (.iload_n 3, 1) := by decide +kernel
theorem dX11_ring_63 : decode cX11_ring 63 = .ok (.invokevirtual 173, 3) := by decide +kernel
theorem dX11_ring_66 : decode cX11_ring 66 = .ok (.bipush 100, 2) := by decide +kernel
theorem dX11_ring_68 : decode cX11_ring 68 = .ok (.iload_n 1, 1) := by decide +kernel
theorem dX11_ring_69 : decode cX11_ring 69 = .ok (.imul, 1) := by decide +kernel
theorem dX11_ring_70 : decode cX11_ring 70 = .ok (.bipush 10, 2) := by decide +kernel
theorem dX11_ring_72 : decode cX11_ring 72 = .ok (.iload_n 2, 1) := by decide +kernel
theorem dX11_ring_73 : decode cX11_ring 73 = .ok (.imul, 1) := by decide +kernel
theorem dX11_ring_74 : decode cX11_ring 74 = .ok (.iadd, 1) := by decide +kernel
theorem dX11_ring_75 : decode cX11_ring 75 = .ok (.iload_n 3, 1) := by decide +kernel
theorem dX11_ring_76 : decode cX11_ring 76 = .ok (.iadd, 1) := by decide +kernel
theorem dX11_ring_77 : decode cX11_ring 77 = .ok (.ireturn, 1) := by decide +kernel
theorem dX11_ring_78 : decode cX11_ring 78 = .ok (.iinc 2 1, 3) := by decide +kernel
theorem dX11_ring_81 : decode cX11_ring 81 = .ok (.goto (-66), 3) := by decide +kernel
theorem dX11_ring_84 : decode cX11_ring 84 = .ok (.iinc 1 1, 3) := by decide +kernel
theorem dX11_ring_87 : decode cX11_ring 87 = .ok (.goto (-85), 3) := by decide +kernel
theorem dX11_ring_90 : decode cX11_ring 90 = .ok (.bipush (-3), 2) := by decide +kernel
theorem dX11_ring_92 : decode cX11_ring 92 = .ok (.ireturn, 1) := by decide +kernel
theorem dX11_isPair_0 : decode cX11_isPair 0 = .ok (.iload_n 1, 1) := by decide +kernel
theorem dX11_isPair_1 : decode cX11_isPair 1 = .ok (.iload_n 2, 1) := by decide +kernel
theorem dX11_isPair_2 : decode cX11_isPair 2 = .ok (.if_icmp .eq 29, 3) := by decide +kernel
theorem dX11_isPair_5 : decode cX11_isPair 5 = .ok (.aload_n 0, 1) := by decide +kernel
theorem dX11_isPair_6 : decode cX11_isPair 6 = .ok (.getfield 10, 3) := by decide +kernel
theorem dX11_isPair_9 : decode cX11_isPair 9 = .ok (.iload_n 1, 1) := by decide +kernel
theorem dX11_isPair_10 : decode cX11_isPair 10 = .ok (.invokevirtual 80, 3) := by decide +kernel
theorem dX11_isPair_13 : decode cX11_isPair 13 = .ok (.ifnull 18, 3) := by decide +kernel
theorem dX11_isPair_16 : decode cX11_isPair 16 = .ok (.aload_n 0, 1) := by decide +kernel
theorem dX11_isPair_17 : decode cX11_isPair 17 = .ok (.getfield 10, 3) := by decide +kernel
theorem dX11_isPair_20 : decode cX11_isPair 20 = .ok (.iload_n 2, 1) := by decide +kernel
theorem dX11_isPair_21 : decode cX11_isPair 21 = .ok (.invokevirtual 80, 3) := by decide +kernel
theorem dX11_isPair_24 : decode cX11_isPair 24 = .ok (.ifnull 7, 3) := by decide +kernel
theorem dX11_isPair_27 : decode cX11_isPair 27 = .ok (.iconst 1, 1) := by decide +kernel
theorem dX11_isPair_28 : decode cX11_isPair 28 = .ok (.goto 4, 3) := by decide +kernel
theorem dX11_isPair_31 : decode cX11_isPair 31 = .ok (.iconst 0, 1) := by decide +kernel
theorem dX11_isPair_32 : decode cX11_isPair 32 = .ok (.ireturn, 1) := by decide +kernel
theorem dX11_isOver_0 : decode cX11_isOver 0 = .ok (.iload_n 0, 1) := by decide +kernel
theorem dX11_isOver_1 : decode cX11_isOver 1 = .ok (.invokestatic 148, 3) := by decide +kernel
theorem dX11_isOver_4 : decode cX11_isOver 4 = .ok (.iconst 1, 1) := by decide +kernel
theorem dX11_isOver_5 : decode cX11_isOver 5 = .ok (.if_icmp .gt 7, 3) := by decide +kernel
theorem dX11_isOver_8 : decode cX11_isOver 8 = .ok (.iconst 1, 1) := by decide +kernel
theorem dX11_isOver_9 : decode cX11_isOver 9 = .ok (.goto 4, 3) := by decide +kernel
theorem dX11_isOver_12 : decode cX11_isOver 12 = .ok (.iconst 0, 1) := by decide +kernel
theorem dX11_isOver_13 : decode cX11_isOver 13 = .ok (.ireturn, 1) := by decide +kernel
theorem dX11_least_0 : decode cX11_least 0 = .ok (.aload_n 0, 1) := by decide +kernel
theorem dX11_least_1 : decode cX11_least 1 = .ok (.sipush 255, 3) := by decide +kernel
theorem dX11_least_4 : decode cX11_least 4 = .ok (.iconst (-1), 1) := by decide +kernel
theorem dX11_least_5 : decode cX11_least 5 = .ok (.sipush 255, 3) := by decide +kernel
theorem dX11_least_8 : decode cX11_least 8 = .ok (.invokevirtual 176, 3) := by decide +kernel
theorem dX11_least_11 : decode cX11_least 11 = .ok (.ireturn, 1) := by decide +kernel
theorem dX11_plan_0 : decode cX11_plan 0 = .ok (.iload_n 1, 1) := by decide +kernel
theorem dX11_plan_1 : decode cX11_plan 1 = .ok (.bipush 10, 2) := by decide +kernel
theorem dX11_plan_3 : decode cX11_plan 3 = .ok (.irem, 1) := by decide +kernel
theorem dX11_plan_4 : decode cX11_plan 4 = .ok (.istore_n 2, 1) := by decide +kernel
theorem dX11_plan_5 : decode cX11_plan 5 = .ok (.iload_n 1, 1) := by decide +kernel
theorem dX11_plan_6 : decode cX11_plan 6 = .ok (.bipush 10, 2) := by decide +kernel
theorem dX11_plan_8 : decode cX11_plan 8 = .ok (.if_icmp .lt 19, 3) := by decide +kernel
theorem dX11_plan_11 : decode cX11_plan 11 = .ok (.iload_n 1, 1) := by decide +kernel
theorem dX11_plan_12 : decode cX11_plan 12 = .ok (.bipush 27, 2) := by decide +kernel
theorem dX11_plan_14 : decode cX11_plan 14 = .ok (.if_icmp .gt 13, 3) := by decide +kernel
theorem dX11_plan_17 : decode cX11_plan 17 = .ok (.iload_n 2, 1) := by decide +kernel
theorem dX11_plan_18 : decode cX11_plan 18 = .ok (.bipush 7, 2) := by decide +kernel
theorem dX11_plan_20 : decode cX11_plan 20 = .ok (.if_icmp .gt 7, 3) := by decide +kernel
theorem dX11_plan_23 : decode cX11_plan 23 = .ok (.iconst 1, 1) := by decide +kernel
theorem dX11_plan_24 : decode cX11_plan 24 = .ok (.goto 4, 3) := by decide +kernel
theorem dX11_plan_27 : decode cX11_plan 27 = .ok (.iconst 0, 1) := by decide +kernel
theorem dX11_plan_28 : decode cX11_plan 28 = .ok (.istore_n 3, 1) := by decide +kernel
theorem dX11_plan_29 : decode cX11_plan 29 = .ok (.iload_n 1, 1) := by decide +kernel
theorem dX11_plan_30 : decode cX11_plan 30 = .ok (.ifCond .eq 14, 3) := by decide +kernel
theorem dX11_plan_33 : decode cX11_plan 33 = .ok (.iload_n 1, 1) := by decide +kernel
theorem dX11_plan_34 : decode cX11_plan 34 = .ok (.iconst 1, 1) := by decide +kernel
theorem dX11_plan_35 : decode cX11_plan 35 = .ok (.if_icmp .eq 9, 3) := by decide +kernel
theorem dX11_plan_38 : decode cX11_plan 38 = .ok (.iload_n 3, 1) := by decide +kernel
theorem dX11_plan_39 : decode cX11_plan 39 = .ok (.ifCond .ne 5, 3) := by decide +kernel
theorem dX11_plan_42 : decode cX11_plan 42 = .ok (.iconst (-1), 1) := by decide +kernel
theorem dX11_plan_43 : decode cX11_plan 43 = .ok (.ireturn, 1) := by decide +kernel
theorem dX11_plan_44 : decode cX11_plan 44 = .ok (.aload_n 0, 1) := by decide +kernel
theorem dX11_plan_45 : decode cX11_plan 45 = .ok (.invokevirtual 179, 3) := by decide +kernel
theorem dX11_plan_48 : decode cX11_plan 48 = .ok (.bipush (-3), 2) := by decide +kernel
theorem dX11_plan_50 : decode cX11_plan 50 = .ok (.if_icmp .ne 6, 3) := by decide +kernel
theorem dX11_plan_53 : decode cX11_plan 53 = .ok (.bipush (-3), 2) := by decide +kernel
theorem dX11_plan_55 : decode cX11_plan 55 = .ok (.ireturn, 1) := by decide +kernel
theorem dX11_plan_56 : decode cX11_plan 56 = .ok (.aload_n 0, 1) := by decide +kernel
theorem dX11_plan_57 : decode cX11_plan 57 = .ok (.getfield 19, 3) := by decide +kernel
theorem dX11_plan_60 : decode cX11_plan 60 = .ok (.invokevirtual 182, 3) := by decide +kernel
theorem dX11_plan_63 : decode cX11_plan 63 = .ok (.iload_n 1, 1) := by decide +kernel
theorem dX11_plan_64 : decode cX11_plan 64 = .ok (.ifCond .ne 11, 3) := by decide +kernel
theorem dX11_plan_67 : decode cX11_plan 67 = .ok (.aload_n 0, 1) := by decide +kernel
theorem dX11_plan_68 : decode cX11_plan 68 = .ok (.getfield 19, 3) := by decide +kernel
theorem dX11_plan_71 : decode cX11_plan 71 = .ok (.getfield 185, 3) := by decide +kernel
theorem dX11_plan_74 : decode cX11_plan 74 = .ok (.ireturn, 1) := by decide +kernel
theorem dX11_plan_75 : decode cX11_plan 75 = .ok (.iload_n 1, 1) := by decide +kernel
theorem dX11_plan_76 : decode cX11_plan 76 = .ok (.iconst 1, 1) := by decide +kernel
theorem dX11_plan_77 : decode cX11_plan 77 = .ok (.if_icmp .ne 11, 3) := by decide +kernel
theorem dX11_plan_80 : decode cX11_plan 80 = .ok (.aload_n 0, 1) := by decide +kernel
theorem dX11_plan_81 : decode cX11_plan 81 = .ok (.getfield 19, 3) := by decide +kernel
theorem dX11_plan_84 : decode cX11_plan 84 = .ok (.invokevirtual 188, 3) := by decide +kernel
theorem dX11_plan_87 : decode cX11_plan 87 = .ok (.ireturn, 1) := by decide +kernel
theorem dX11_plan_88 : decode cX11_plan 88 = .ok (.iload_n 2, 1) := by decide +kernel
theorem dX11_plan_89 : decode cX11_plan 89 = .ok (.ifCond .lt 14, 3) := by decide +kernel
theorem dX11_plan_92 : decode cX11_plan 92 = .ok (.iload_n 2, 1) := by decide +kernel
theorem dX11_plan_93 : decode cX11_plan 93 = .ok (.aload_n 0, 1) := by decide +kernel
theorem dX11_plan_94 : decode cX11_plan 94 = .ok (.getfield 19, 3) := by decide +kernel
theorem dX11_plan_97 : decode cX11_plan 97 = .ok (.getfield 185, 3) := by decide +kernel
theorem dX11_plan_100 : decode cX11_plan 100 = .ok (.if_icmp .lt 6, 3) := by decide +kernel
theorem dX11_plan_103 : decode cX11_plan 103 = .ok (.bipush (-3), 2) := by decide +kernel
theorem dX11_plan_105 : decode cX11_plan 105 = .ok (.ireturn, 1) := by decide +kernel
theorem dX11_plan_106 : decode cX11_plan 106 = .ok (.iload_n 1, 1) := by decide +kernel
theorem dX11_plan_107 : decode cX11_plan 107 = .ok (.bipush 20, 2) := by decide +kernel
theorem dX11_plan_109 : decode cX11_plan 109 = .ok (.if_icmp .ge 15, 3) := by decide +kernel
theorem dX11_plan_112 : decode cX11_plan 112 = .ok (.aload_n 0, 1) := by decide +kernel
theorem dX11_plan_113 : decode cX11_plan 113 = .ok (.getfield 19, 3) := by decide +kernel
theorem dX11_plan_116 : decode cX11_plan 116 = .ok (.getfield 191, 3) := by decide +kernel
theorem dX11_plan_119 : decode cX11_plan 119 = .ok (.iload_n 2, 1) := by decide +kernel
theorem dX11_plan_120 : decode cX11_plan 120 = .ok (.iaload, 1) := by decide +kernel
theorem dX11_plan_121 : decode cX11_plan 121 = .ok (.goto 12, 3) := by decide +kernel
theorem dX11_plan_124 : decode cX11_plan 124 = .ok (.aload_n 0, 1) := by decide +kernel
theorem dX11_plan_125 : decode cX11_plan 125 = .ok (.getfield 19, 3) := by decide +kernel
theorem dX11_plan_128 : decode cX11_plan 128 = .ok (.getfield 194, 3) := by decide +kernel
theorem dX11_plan_131 : decode cX11_plan 131 = .ok (.iload_n 2, 1) := by decide +kernel
theorem dX11_plan_132 : decode cX11_plan 132 = .ok (.iaload, 1) := by decide +kernel
theorem dX11_plan_133 : decode cX11_plan 133 = .ok (.ireturn, 1) := by decide +kernel
theorem dX11_last_0 : decode cX11_last 0 = .ok (.aload_n 0, 1) := by decide +kernel
theorem dX11_last_1 : decode cX11_last 1 = .ok (.invokevirtual 179, 3) := by decide +kernel
theorem dX11_last_4 : decode cX11_last 4 = .ok (.bipush (-3), 2) := by decide +kernel
theorem dX11_last_6 : decode cX11_last 6 = .ok (.if_icmp .ne 7, 3) := by decide +kernel
theorem dX11_last_9 : decode cX11_last 9 = .ok (.iconst 0, 1) := by decide +kernel
theorem dX11_last_10 : decode cX11_last 10 = .ok (.goto 17, 3) := by decide +kernel
theorem dX11_last_13 : decode cX11_last 13 = .ok (.aload_n 0, 1) := by decide +kernel
theorem dX11_last_14 : decode cX11_last 14 = .ok (.getfield 19, 3) := by decide +kernel
theorem dX11_last_17 : decode cX11_last 17 = .ok (.aload_n 0, 1) := by decide +kernel
theorem dX11_last_18 : decode cX11_last 18 = .ok (.getfield 10, 3) := by decide +kernel
theorem dX11_last_21 : decode cX11_last 21 = .ok (.invokevirtual 127, 3) := by decide +kernel
theorem dX11_last_24 : decode cX11_last 24 = .ok (.invokevirtual 197, 3) := by decide +kernel
theorem dX11_last_27 : decode cX11_last 27 = .ok (.ireturn, 1) := by decide +kernel
theorem dX11_with_0 : decode cX11_with 0 = .ok (.aload_n 0, 1) := by decide +kernel
theorem dX11_with_1 : decode cX11_with 1 = .ok (.getfield 10, 3) := by decide +kernel
theorem dX11_with_4 : decode cX11_with 4 = .ok (.iload_n 1, 1) := by decide +kernel
theorem dX11_with_5 : decode cX11_with 5 = .ok (.invokevirtual 80, 3) := by decide +kernel
theorem dX11_with_8 : decode cX11_with 8 = .ok (.ifnonnull 5, 3) := by decide +kernel
theorem dX11_with_11 : decode cX11_with 11 = .ok (.iconst (-1), 1) := by decide +kernel
theorem dX11_with_12 : decode cX11_with 12 = .ok (.ireturn, 1) := by decide +kernel
theorem dX11_with_13 : decode cX11_with 13 = .ok (.aload_n 0, 1) := by decide +kernel
theorem dX11_with_14 : decode cX11_with 14 = .ok (.sipush 255, 3) := by decide +kernel
theorem dX11_with_17 : decode cX11_with 17 = .ok (.iconst (-1), 1) := by decide +kernel
theorem dX11_with_18 : decode cX11_with 18 = .ok (.iconst 1, 1) := by decide +kernel
theorem dX11_with_19 : decode cX11_with 19 = .ok (.iload_n 1, 1) := by decide +kernel
theorem dX11_with_20 : decode cX11_with 20 = .ok (.ishl, 1) := by decide +kernel
theorem dX11_with_21 : decode cX11_with 21 = .ok (.invokevirtual 176, 3) := by decide +kernel
theorem dX11_with_24 : decode cX11_with 24 = .ok (.ireturn, 1) := by decide +kernel
theorem dX11_silent_0 : decode cX11_silent 0 = .ok (.aload_n 0, 1) := by decide +kernel
theorem dX11_silent_1 : decode cX11_silent 1 = .ok (.getfield 10, 3) := by decide +kernel
theorem dX11_silent_4 : decode cX11_silent 4 = .ok (.iload_n 1, 1) := by decide +kernel
theorem dX11_silent_5 : decode cX11_silent 5 = .ok (.invokevirtual 80, 3) := by decide +kernel
theorem dX11_silent_8 : decode cX11_silent 8 = .ok (.ifnonnull 5, 3) := by decide +kernel
theorem dX11_silent_11 : decode cX11_silent 11 = .ok (.iconst (-1), 1) := by decide +kernel
theorem dX11_silent_12 : decode cX11_silent 12 = .ok (.ireturn, 1) := by decide +kernel
theorem dX11_silent_13 : decode cX11_silent 13 = .ok (.aload_n 0, 1) := by decide +kernel
theorem dX11_silent_14 : decode cX11_silent 14 = .ok (.sipush 255, 3) := by decide +kernel
theorem dX11_silent_17 : decode cX11_silent 17 = .ok (.iconst 1, 1) := by decide +kernel
theorem dX11_silent_18 : decode cX11_silent 18 = .ok (.iload_n 1, 1) := by decide +kernel
theorem dX11_silent_19 : decode cX11_silent 19 = .ok (.ishl, 1) := by decide +kernel
theorem dX11_silent_20 : decode cX11_silent 20 = .ok (.iconst (-1), 1) := by decide +kernel
theorem dX11_silent_21 : decode cX11_silent 21 = .ok (.ixor, 1) := by decide +kernel
theorem dX11_silent_22 : decode cX11_silent 22 = .ok (.iand, 1) := by decide +kernel
theorem dX11_silent_23 : decode cX11_silent 23 = .ok (.iconst (-1), 1) := by decide +kernel
theorem dX11_silent_24 : decode cX11_silent 24 = .ok (.sipush 255, 3) := by decide +kernel
theorem dX11_silent_27 : decode cX11_silent 27 = .ok (.invokevirtual 176, 3) := by decide +kernel
theorem dX11_silent_30 : decode cX11_silent 30 = .ok (.ireturn, 1) := by decide +kernel
theorem dX11_ways_0 : decode cX11_ways 0 = .ok (.aload_n 0, 1) := by decide +kernel
theorem dX11_ways_1 : decode cX11_ways 1 = .ok (.invokevirtual 179, 3) := by decide +kernel
theorem dX11_ways_4 : decode cX11_ways 4 = .ok (.bipush (-3), 2) := by decide +kernel
theorem dX11_ways_6 : decode cX11_ways 6 = .ok (.if_icmp .ne 7, 3) := by decide +kernel
theorem dX11_ways_9 : decode cX11_ways 9 = .ok (.iconst 0, 1) := by decide +kernel
theorem dX11_ways_10 : decode cX11_ways 10 = .ok (.goto 17, 3) := by decide +kernel
theorem dX11_ways_13 : decode cX11_ways 13 = .ok (.aload_n 0, 1) := by decide +kernel
theorem dX11_ways_14 : decode cX11_ways 14 = .ok (.getfield 19, 3) := by decide +kernel
theorem dX11_ways_17 : decode cX11_ways 17 = .ok (.aload_n 0, 1) := by decide +kernel
theorem dX11_ways_18 : decode cX11_ways 18 = .ok (.getfield 10, 3) := by decide +kernel
theorem dX11_ways_21 : decode cX11_ways 21 = .ok (.invokevirtual 127, 3) := by decide +kernel
theorem dX11_ways_24 : decode cX11_ways 24 = .ok (.invokevirtual 200, 3) := by decide +kernel
theorem dX11_ways_27 : decode cX11_ways 27 = .ok (.ireturn, 1) := by decide +kernel
theorem dX11_inTurn_0 : decode cX11_inTurn 0 = .ok (.aload_n 0, 1) := by decide +kernel
theorem dX11_inTurn_1 : decode cX11_inTurn 1 = .ok (.invokevirtual 179, 3) := by decide +kernel
theorem dX11_inTurn_4 : decode cX11_inTurn 4 = .ok (.bipush (-3), 2) := by decide +kernel
theorem dX11_inTurn_6 : decode cX11_inTurn 6 = .ok (.if_icmp .ne 6, 3) := by decide +kernel
theorem dX11_inTurn_9 : decode cX11_inTurn 9 = .ok (.bipush (-3), 2) := by decide +kernel
theorem dX11_inTurn_11 : decode cX11_inTurn 11 = .ok (.ireturn, 1) := by decide +kernel
theorem dX11_inTurn_12 : decode cX11_inTurn 12 = .ok (.aload_n 0, 1) := by decide +kernel
theorem dX11_inTurn_13 : decode cX11_inTurn 13 = .ok (.getfield 19, 3) := by decide +kernel
theorem dX11_inTurn_16 : decode cX11_inTurn 16 = .ok (.aload_n 0, 1) := by decide +kernel
theorem dX11_inTurn_17 : decode cX11_inTurn 17 = .ok (.getfield 10, 3) := by decide +kernel
theorem dX11_inTurn_20 : decode cX11_inTurn 20 = .ok (.invokevirtual 127, 3) := by decide +kernel
theorem dX11_inTurn_23 : decode cX11_inTurn 23 = .ok (.invokevirtual 203, 3) := by decide +kernel
theorem dX11_inTurn_26 : decode cX11_inTurn 26 = .ok (.istore_n 1, 1) := by decide +kernel
theorem dX11_inTurn_27 : decode cX11_inTurn 27 = .ok (.bipush (-3), 2) := by decide +kernel
theorem dX11_inTurn_29 : decode cX11_inTurn 29 = .ok (.istore_n 2, 1) := by decide +kernel
theorem dX11_inTurn_30 : decode cX11_inTurn 30 = .ok (.iconst 0, 1) := by decide +kernel
theorem dX11_inTurn_31 : decode cX11_inTurn 31 = .ok (.istore_n 3, 1) := by decide +kernel
theorem dX11_inTurn_32 : decode cX11_inTurn 32 = .ok (.iconst 0, 1) := by decide +kernel
theorem dX11_inTurn_33 : decode cX11_inTurn 33 = .ok (.istore 4, 2) := by decide +kernel
theorem dX11_inTurn_35 : decode cX11_inTurn 35 = .ok (.iload 4, 2) := by decide +kernel
theorem dX11_inTurn_37 : decode cX11_inTurn 37 = .ok (.bipush 8, 2) := by decide +kernel
theorem dX11_inTurn_39 : decode cX11_inTurn 39 = .ok (.if_icmp .ge 59, 3) := by decide +kernel
theorem dX11_inTurn_42 : decode cX11_inTurn 42 = .ok (.aload_n 0, 1) := by decide +kernel
theorem dX11_inTurn_43 : decode cX11_inTurn 43 = .ok (.getfield 10, 3) := by decide +kernel
theorem dX11_inTurn_46 : decode cX11_inTurn 46 = .ok (.iload 4, 2) := by decide +kernel
theorem dX11_inTurn_48 : decode cX11_inTurn 48 = .ok (.invokevirtual 80, 3) := by decide +kernel
theorem dX11_inTurn_51 : decode cX11_inTurn 51 = .ok (.astore 5, 2) := by decide +kernel
theorem dX11_inTurn_53 : decode cX11_inTurn 53 = .ok (.aload 5, 2) := by decide +kernel
theorem dX11_inTurn_55 : decode cX11_inTurn 55 = .ok (.ifnull 37, 3) := by decide +kernel
theorem dX11_inTurn_58 : decode cX11_inTurn 58 = .ok (.iload_n 1, 1) := by decide +kernel
theorem dX11_inTurn_59 : decode cX11_inTurn 59 = .ok (.iload 4, 2) := by decide +kernel
theorem dX11_inTurn_61 : decode cX11_inTurn 61 = .ok (.ishr, 1) := by decide +kernel
theorem dX11_inTurn_62 : decode cX11_inTurn 62 = .ok (.iconst 1, 1) := by decide +kernel
theorem dX11_inTurn_63 : decode cX11_inTurn 63 = .ok (.iand, 1) := by decide +kernel
theorem dX11_inTurn_64 : decode cX11_inTurn 64 = .ok (.iconst 1, 1) := by decide +kernel
theorem dX11_inTurn_65 : decode cX11_inTurn 65 = .ok (.if_icmp .ne 27, 3) := by decide +kernel
theorem dX11_inTurn_68 : decode cX11_inTurn 68 = .ok (.iload_n 2, 1) := by decide +kernel
theorem dX11_inTurn_69 : decode cX11_inTurn 69 = .ok (.bipush (-3), 2) := by decide +kernel
theorem dX11_inTurn_71 : decode cX11_inTurn 71 = .ok (.if_icmp .eq 12, 3) := by decide +kernel
theorem dX11_inTurn_74 : decode cX11_inTurn 74 = .ok (.aload 5, 2) := by decide +kernel
theorem dX11_inTurn_76 : decode cX11_inTurn 76 = .ok (.getfield 102, 3) := by decide +kernel
theorem dX11_inTurn_79 : decode cX11_inTurn 79 = .ok (.iload_n 3, 1) := by decide +kernel
theorem dX11_inTurn_80 : decode cX11_inTurn 80 = .ok (.if_icmp .ge 12, 3) := by decide +kernel
theorem dX11_inTurn_83 : decode cX11_inTurn 83 = .ok (.iload 4, 2) := by decide +kernel
theorem dX11_inTurn_85 : decode cX11_inTurn 85 = .ok (.istore_n 2, 1) := by decide +kernel
theorem dX11_inTurn_86 : decode cX11_inTurn 86 = .ok (.aload 5, 2) := by decide +kernel
theorem dX11_inTurn_88 : decode cX11_inTurn 88 = .ok (.getfield 102, 3) := by decide +kernel
theorem dX11_inTurn_91 : decode cX11_inTurn 91 = .ok (.istore_n 3, 1) := by decide +kernel
theorem dX11_inTurn_92 : decode cX11_inTurn 92 = .ok (.iinc 4 1, 3) := by decide +kernel
theorem dX11_inTurn_95 : decode cX11_inTurn 95 = .ok (.goto (-60), 3) := by decide +kernel
theorem dX11_inTurn_98 : decode cX11_inTurn 98 = .ok (.iload_n 2, 1) := by decide +kernel
theorem dX11_inTurn_99 : decode cX11_inTurn 99 = .ok (.ireturn, 1) := by decide +kernel
theorem dX11_dearest_0 : decode cX11_dearest 0 = .ok (.aload_n 0, 1) := by decide +kernel
theorem dX11_dearest_1 : decode cX11_dearest 1 = .ok (.invokevirtual 179, 3) := by decide +kernel
theorem dX11_dearest_4 : decode cX11_dearest 4 = .ok (.bipush (-3), 2) := by decide +kernel
theorem dX11_dearest_6 : decode cX11_dearest 6 = .ok (.if_icmp .ne 6, 3) := by decide +kernel
theorem dX11_dearest_9 : decode cX11_dearest 9 = .ok (.bipush (-3), 2) := by decide +kernel
theorem dX11_dearest_11 : decode cX11_dearest 11 = .ok (.ireturn, 1) := by decide +kernel
theorem dX11_dearest_12 : decode cX11_dearest 12 = .ok (.aload_n 0, 1) := by decide +kernel
theorem dX11_dearest_13 : decode cX11_dearest 13 = .ok (.getfield 10, 3) := by decide +kernel
theorem dX11_dearest_16 : decode cX11_dearest 16 = .ok (.invokevirtual 127, 3) := by decide +kernel
theorem dX11_dearest_19 : decode cX11_dearest 19 = .ok (.istore_n 1, 1) := by decide +kernel
theorem dX11_dearest_20 : decode cX11_dearest 20 = .ok (.bipush (-3), 2) := by decide +kernel
theorem dX11_dearest_22 : decode cX11_dearest 22 = .ok (.istore_n 2, 1) := by decide +kernel
theorem dX11_dearest_23 : decode cX11_dearest 23 = .ok (.iconst 0, 1) := by decide +kernel
theorem dX11_dearest_24 : decode cX11_dearest 24 = .ok (.istore_n 3, 1) := by decide +kernel
theorem dX11_dearest_25 : decode cX11_dearest 25 = .ok (.iconst 0, 1) := by decide +kernel
theorem dX11_dearest_26 : decode cX11_dearest 26 = .ok (.istore 4, 2) := by decide +kernel
theorem dX11_dearest_28 : decode cX11_dearest 28 = .ok (.iload 4, 2) := by decide +kernel
theorem dX11_dearest_30 : decode cX11_dearest 30 = .ok (.bipush 8, 2) := by decide +kernel
theorem dX11_dearest_32 : decode cX11_dearest 32 = .ok (.if_icmp .ge 61, 3) := by decide +kernel
theorem dX11_dearest_35 : decode cX11_dearest 35 = .ok (.iload_n 1, 1) := by decide +kernel
theorem dX11_dearest_36 : decode cX11_dearest 36 = .ok (.iload 4, 2) := by decide +kernel
theorem dX11_dearest_38 : decode cX11_dearest 38 = .ok (.ishr, 1) := by decide +kernel
theorem dX11_dearest_39 : decode cX11_dearest 39 = .ok (.iconst 1, 1) := by decide +kernel
theorem dX11_dearest_40 : decode cX11_dearest 40 = .ok (.iand, 1) := by decide +kernel
theorem dX11_dearest_41 : decode cX11_dearest 41 = .ok (.iconst 1, 1) := by decide +kernel
theorem dX11_dearest_42 : decode cX11_dearest 42 = .ok (.if_icmp .ne 45, 3) := by decide +kernel
theorem dX11_dearest_45 : decode cX11_dearest 45 = .ok (.aload_n 0, 1) := by decide +kernel
theorem dX11_dearest_46 : decode cX11_dearest 46 = .ok (.getfield 19, 3) := by decide +kernel
theorem dX11_dearest_49 : decode cX11_dearest 49 = .ok (.iload_n 1, 1) := by decide +kernel
theorem dX11_dearest_50 : decode cX11_dearest 50 = .ok (.iconst 1, 1) := by decide +kernel
theorem dX11_dearest_51 : decode cX11_dearest 51 = .ok (.iload 4, 2) := by decide +kernel
theorem dX11_dearest_53 : decode cX11_dearest 53 = .ok (.ishl, 1) := by decide +kernel
theorem dX11_dearest_54 : decode cX11_dearest 54 = .ok (.iconst (-1), 1) := by decide +kernel
theorem dX11_dearest_55 : decode cX11_dearest 55 = .ok (.ixor, 1) := by decide +kernel
theorem dX11_dearest_56 : decode cX11_dearest 56 = .ok (.iand, 1) := by decide +kernel
theorem dX11_dearest_57 : decode cX11_dearest 57 = .ok (.invokevirtual 206, 3) := by decide +kernel
theorem dX11_dearest_60 : decode cX11_dearest 60 = .ok (.istore 5, 2) := by decide +kernel
theorem dX11_dearest_62 : decode cX11_dearest 62 = .ok (.iload 5, 2) := by decide +kernel
theorem dX11_dearest_64 : decode cX11_dearest 64 = .ok (.bipush (-3), 2) := by decide +kernel
theorem dX11_dearest_66 : decode cX11_dearest 66 = .ok (.if_icmp .eq 21, 3) := by decide +kernel
theorem dX11_dearest_69 : decode cX11_dearest 69 = .ok (.iload_n 2, 1) := by decide +kernel
theorem dX11_dearest_70 : decode cX11_dearest 70 = .ok (.bipush (-3), 2) := by decide +kernel
theorem dX11_dearest_72 : decode cX11_dearest 72 = .ok (.if_icmp .eq 9, 3) := by decide +kernel
theorem dX11_dearest_75 : decode cX11_dearest 75 = .ok (.iload 5, 2) := by decide +kernel
theorem dX11_dearest_77 : decode cX11_dearest 77 = .ok (.iload_n 3, 1) := by decide +kernel
theorem dX11_dearest_78 : decode cX11_dearest 78 = .ok (.if_icmp .ge 9, 3) := by decide +kernel
theorem dX11_dearest_81 : decode cX11_dearest 81 = .ok (.iload 4, 2) := by decide +kernel
theorem dX11_dearest_83 : decode cX11_dearest 83 = .ok (.istore_n 2, 1) := by decide +kernel
theorem dX11_dearest_84 : decode cX11_dearest 84 = .ok (.iload 5, 2) := by decide +kernel
theorem dX11_dearest_86 : decode cX11_dearest 86 = .ok (.istore_n 3, 1) := by decide +kernel
theorem dX11_dearest_87 : decode cX11_dearest 87 = .ok (.iinc 4 1, 3) := by decide +kernel
theorem dX11_dearest_90 : decode cX11_dearest 90 = .ok (.goto (-62), 3) := by decide +kernel
theorem dX11_dearest_93 : decode cX11_dearest 93 = .ok (.iload_n 2, 1) := by decide +kernel
theorem dX11_dearest_94 : decode cX11_dearest 94 = .ok (.ireturn, 1) := by decide +kernel
theorem dX11_hoarse_0 : decode cX11_hoarse 0 = .ok (.iconst 0, 1) := by decide +kernel
theorem dX11_hoarse_1 : decode cX11_hoarse 1 = .ok (.istore_n 1, 1) := by decide +kernel
theorem dX11_hoarse_2 : decode cX11_hoarse 2 = .ok (.iconst 0, 1) := by decide +kernel
theorem dX11_hoarse_3 : decode cX11_hoarse 3 = .ok (.istore_n 2, 1) := by decide +kernel
theorem dX11_hoarse_4 : decode cX11_hoarse 4 = .ok (.iconst 0, 1) := by decide +kernel
theorem dX11_hoarse_5 : decode cX11_hoarse 5 = .ok (.istore_n 3, 1) := by decide +kernel
theorem dX11_hoarse_6 : decode cX11_hoarse 6 = .ok (.iload_n 3, 1) := by decide +kernel
theorem dX11_hoarse_7 : decode cX11_hoarse 7 = .ok (.bipush 8, 2) := by decide +kernel
theorem dX11_hoarse_9 : decode cX11_hoarse 9 = .ok (.if_icmp .ge 57, 3) := by decide +kernel
theorem dX11_hoarse_12 : decode cX11_hoarse 12 = .ok (.aload_n 0, 1) := by decide +kernel
theorem dX11_hoarse_13 : decode cX11_hoarse 13 = .ok (.getfield 10, 3) := by decide +kernel
theorem dX11_hoarse_16 : decode cX11_hoarse 16 = .ok (.iload_n 3, 1) := by decide +kernel
theorem dX11_hoarse_17 : decode cX11_hoarse 17 = .ok (.invokevirtual 80, 3) := by decide +kernel
theorem dX11_hoarse_20 : decode cX11_hoarse 20 = .ok (.astore 4, 2) := by decide +kernel
theorem dX11_hoarse_22 : decode cX11_hoarse 22 = .ok (.aload 4, 2) := by decide +kernel
theorem dX11_hoarse_24 : decode cX11_hoarse 24 = .ok (.ifnull 36, 3) := by decide +kernel
theorem dX11_hoarse_27 : decode cX11_hoarse 27 = .ok (.aload 4, 2) := by decide +kernel
theorem dX11_hoarse_29 : decode cX11_hoarse 29 = .ok (.getfield 105, 3) := by decide +kernel
theorem dX11_hoarse_32 : decode cX11_hoarse 32 = .ok (.ifCond .eq 28, 3) := by decide +kernel
theorem dX11_hoarse_35 : decode cX11_hoarse 35 = .ok (.aload 4, 2) := by decide +kernel
theorem dX11_hoarse_37 : decode cX11_hoarse 37 = .ok (.invokevirtual 96, 3) := by decide +kernel
theorem dX11_hoarse_40 : decode cX11_hoarse 40 = .ok (.istore 5, 2) := by decide +kernel
theorem dX11_hoarse_42 : decode cX11_hoarse 42 = .ok (.iload_n 2, 1) := by decide +kernel
theorem dX11_hoarse_43 : decode cX11_hoarse 43 = .ok (.iload_n 1, 1) := by decide +kernel
theorem dX11_hoarse_44 : decode cX11_hoarse 44 = .ok (.iload 5, 2) := by decide +kernel
theorem dX11_hoarse_46 : decode cX11_hoarse 46 = .ok (.invokestatic 121, 3) := by decide +kernel
theorem dX11_hoarse_49 : decode cX11_hoarse 49 = .ok (.invokestatic 209, 3) := by decide +kernel
theorem dX11_hoarse_52 : decode cX11_hoarse 52 = .ok (.istore_n 2, 1) := by decide +kernel
theorem dX11_hoarse_53 : decode cX11_hoarse 53 = .ok (.iload_n 1, 1) := by decide +kernel
theorem dX11_hoarse_54 : decode cX11_hoarse 54 = .ok (.iload 5, 2) := by decide +kernel
theorem dX11_hoarse_56 : decode cX11_hoarse 56 = .ok (.invokestatic 209, 3) := by decide +kernel
theorem dX11_hoarse_59 : decode cX11_hoarse 59 = .ok (.istore_n 1, 1) := by decide +kernel
theorem dX11_hoarse_60 : decode cX11_hoarse 60 = .ok (.iinc 3 1, 3) := by decide +kernel
theorem dX11_hoarse_63 : decode cX11_hoarse 63 = .ok (.goto (-57), 3) := by decide +kernel
theorem dX11_hoarse_66 : decode cX11_hoarse 66 = .ok (.iload_n 2, 1) := by decide +kernel
theorem dX11_hoarse_67 : decode cX11_hoarse 67 = .ok (.sipush 200, 3) := by decide +kernel
theorem dX11_hoarse_70 : decode cX11_hoarse 70 = .ok (.if_icmp .gt 7, 3) := by decide +kernel
theorem dX11_hoarse_73 : decode cX11_hoarse 73 = .ok (.iload_n 2, 1) := by decide +kernel
theorem dX11_hoarse_74 : decode cX11_hoarse 74 = .ok (.goto 5, 3) := by decide +kernel
theorem dX11_hoarse_77 : decode cX11_hoarse 77 = .ok (.bipush (-3), 2) := by decide +kernel
theorem dX11_hoarse_79 : decode cX11_hoarse 79 = .ok (.ireturn, 1) := by decide +kernel
theorem dX11_tent_0 : decode cX11_tent 0 = .ok (.aload_n 0, 1) := by decide +kernel
theorem dX11_tent_1 : decode cX11_tent 1 = .ok (.sipush 255, 3) := by decide +kernel
theorem dX11_tent_4 : decode cX11_tent 4 = .ok (.sipush 1000, 3) := by decide +kernel
theorem dX11_tent_7 : decode cX11_tent 7 = .ok (.sipush 255, 3) := by decide +kernel
theorem dX11_tent_10 : decode cX11_tent 10 = .ok (.invokevirtual 176, 3) := by decide +kernel
theorem dX11_tent_13 : decode cX11_tent 13 = .ok (.ireturn, 1) := by decide +kernel
theorem dX11_seed_0 : decode cX11_seed 0 = .ok (.aload_n 0, 1) := by decide +kernel
theorem dX11_seed_1 : decode cX11_seed 1 = .ok (.getfield 10, 3) := by decide +kernel
theorem dX11_seed_4 : decode cX11_seed 4 = .ok (.getfield 61, 3) := by decide +kernel
theorem dX11_seed_7 : decode cX11_seed 7 = .ok (.istore_n 2, 1) := by decide +kernel
theorem dX11_seed_8 : decode cX11_seed 8 = .ok (.aload_n 0, 1) := by decide +kernel
theorem dX11_seed_9 : decode cX11_seed 9 = .ok (.getfield 10, 3) := by decide +kernel
theorem dX11_seed_12 : decode cX11_seed 12 = .ok (.iload_n 1, 1) := by decide +kernel
theorem dX11_seed_13 : decode cX11_seed 13 = .ok (.putfield 61, 3) := by decide +kernel
theorem dX11_seed_16 : decode cX11_seed 16 = .ok (.iload_n 2, 1) := by decide +kernel
theorem dX11_seed_17 : decode cX11_seed 17 = .ok (.ireturn, 1) := by decide +kernel
theorem dX11_draw_0 : decode cX11_draw 0 = .ok (.aload_n 0, 1) := by decide +kernel
theorem dX11_draw_1 : decode cX11_draw 1 = .ok (.getfield 10, 3) := by decide +kernel
theorem dX11_draw_4 : decode cX11_draw 4 = .ok (.invokevirtual 127, 3) := by decide +kernel
theorem dX11_draw_7 : decode cX11_draw 7 = .ok (.istore_n 1, 1) := by decide +kernel
theorem dX11_draw_8 : decode cX11_draw 8 = .ok (.iload_n 1, 1) := by decide +kernel
theorem dX11_draw_9 : decode cX11_draw 9 = .ok (.invokestatic 148, 3) := by decide +kernel
theorem dX11_draw_12 : decode cX11_draw 12 = .ok (.istore_n 2, 1) := by decide +kernel
theorem dX11_draw_13 : decode cX11_draw 13 = .ok (.iload_n 2, 1) := by decide +kernel
theorem dX11_draw_14 : decode cX11_draw 14 = .ok (.ifCond .ne 6, 3) := by decide +kernel
theorem dX11_draw_17 : decode cX11_draw 17 = .ok (.bipush (-3), 2) := by decide +kernel
theorem dX11_draw_19 : decode cX11_draw 19 = .ok (.ireturn, 1) := by decide +kernel
theorem dX11_draw_20 : decode cX11_draw 20 = .ok (.aload_n 0, 1) := by decide +kernel
theorem dX11_draw_21 : decode cX11_draw 21 = .ok (.getfield 10, 3) := by decide +kernel
theorem dX11_draw_24 : decode cX11_draw 24 = .ok (.aload_n 0, 1) := by decide +kernel
theorem dX11_draw_25 : decode cX11_draw 25 = .ok (.getfield 10, 3) := by decide +kernel
theorem dX11_draw_28 : decode cX11_draw 28 = .ok (.getfield 61, 3) := by decide +kernel
theorem dX11_draw_31 : decode cX11_draw 31 = .ok (.ldc 212, 2) := by decide +kernel
theorem dX11_draw_33 : decode cX11_draw 33 = .ok (.imul, 1) := by decide +kernel
theorem dX11_draw_34 : decode cX11_draw 34 = .ok (.sipush 12345, 3) := by decide +kernel
theorem dX11_draw_37 : decode cX11_draw 37 = .ok (.iadd, 1) := by decide +kernel
theorem dX11_draw_38 : decode cX11_draw 38 = .ok (.putfield 61, 3) := by decide +kernel
theorem dX11_draw_41 : decode cX11_draw 41 = .ok (.aload_n 0, 1) := by decide +kernel
theorem dX11_draw_42 : decode cX11_draw 42 = .ok (.getfield 10, 3) := by decide +kernel
theorem dX11_draw_45 : decode cX11_draw 45 = .ok (.getfield 61, 3) := by decide +kernel
theorem dX11_draw_48 : decode cX11_draw 48 = .ok (.bipush 16, 2) := by decide +kernel
theorem dX11_draw_50 : decode cX11_draw 50 = .ok (.iushr, 1) := by decide +kernel
theorem dX11_draw_51 : decode cX11_draw 51 = .ok (.iload_n 2, 1) := by decide +kernel
theorem dX11_draw_52 : decode cX11_draw 52 = .ok (.irem, 1) := by decide +kernel
theorem dX11_draw_53 : decode cX11_draw 53 = .ok (.istore_n 3, 1) := by decide +kernel
theorem dX11_draw_54 : decode cX11_draw 54 = .ok (.bipush (-3), 2) := by decide +kernel
theorem dX11_draw_56 : decode cX11_draw 56 = .ok (.istore 4, 2) := by decide +kernel
theorem dX11_draw_58 : decode cX11_draw 58 = .ok (.iconst 0, 1) := by decide +kernel
theorem dX11_draw_59 : decode cX11_draw 59 = .ok (.istore 5, 2) := by decide +kernel
theorem dX11_draw_61 : decode cX11_draw 61 = .ok (.iload 5, 2) := by decide +kernel
theorem dX11_draw_63 : decode cX11_draw 63 = .ok (.bipush 8, 2) := by decide +kernel
theorem dX11_draw_65 : decode cX11_draw 65 = .ok (.if_icmp .ge 30, 3) := by decide +kernel
theorem dX11_draw_68 : decode cX11_draw 68 = .ok (.iload_n 1, 1) := by decide +kernel
theorem dX11_draw_69 : decode cX11_draw 69 = .ok (.iload 5, 2) := by decide +kernel
theorem dX11_draw_71 : decode cX11_draw 71 = .ok (.ishr, 1) := by decide +kernel
theorem dX11_draw_72 : decode cX11_draw 72 = .ok (.iconst 1, 1) := by decide +kernel
theorem dX11_draw_73 : decode cX11_draw 73 = .ok (.iand, 1) := by decide +kernel
theorem dX11_draw_74 : decode cX11_draw 74 = .ok (.iconst 1, 1) := by decide +kernel
theorem dX11_draw_75 : decode cX11_draw 75 = .ok (.if_icmp .ne 14, 3) := by decide +kernel
theorem dX11_draw_78 : decode cX11_draw 78 = .ok (.iload_n 3, 1) := by decide +kernel
theorem dX11_draw_79 : decode cX11_draw 79 = .ok (.ifCond .ne 7, 3) := by decide +kernel
theorem dX11_draw_82 : decode cX11_draw 82 = .ok (.iload 5, 2) := by decide +kernel
theorem dX11_draw_84 : decode cX11_draw 84 = .ok (.istore 4, 2) := by decide +kernel
theorem dX11_draw_86 : decode cX11_draw 86 = .ok (.iinc 3 (-1), 3) := by decide +kernel
theorem dX11_draw_89 : decode cX11_draw 89 = .ok (.iinc 5 1, 3) := by decide +kernel
theorem dX11_draw_92 : decode cX11_draw 92 = .ok (.goto (-31), 3) := by decide +kernel
theorem dX11_draw_95 : decode cX11_draw 95 = .ok (.iload 4, 2) := by decide +kernel
theorem dX11_draw_97 : decode cX11_draw 97 = .ok (.ireturn, 1) := by decide +kernel
theorem dX11_fewestMinutes_0 : decode cX11_fewestMinutes 0 = .ok (.aload_n 0, 1) := by decide +kernel
theorem dX11_fewestMinutes_1 : decode cX11_fewestMinutes 1 = .ok (.getfield 19, 3) := by decide +kernel
theorem dX11_fewestMinutes_4 : decode cX11_fewestMinutes 4 = .ok (.aload_n 0, 1) := by decide +kernel
theorem dX11_fewestMinutes_5 : decode cX11_fewestMinutes 5 = .ok (.getfield 10, 3) := by decide +kernel
theorem dX11_fewestMinutes_8 : decode cX11_fewestMinutes 8 = .ok (.iload_n 1, 1) := by decide +kernel
theorem dX11_fewestMinutes_9 : decode cX11_fewestMinutes 9 = .ok (.iload_n 2, 1) := by decide +kernel
theorem dX11_fewestMinutes_10 : decode cX11_fewestMinutes 10 = .ok (.iload_n 3, 1) := by decide +kernel
theorem dX11_fewestMinutes_11 : decode cX11_fewestMinutes 11 = .ok (.invokevirtual 213, 3) := by decide +kernel
theorem dX11_fewestMinutes_14 : decode cX11_fewestMinutes 14 = .ok (.aload_n 0, 1) := by decide +kernel
theorem dX11_fewestMinutes_15 : decode cX11_fewestMinutes 15 = .ok (.getfield 19, 3) := by decide +kernel
theorem dX11_fewestMinutes_18 : decode cX11_fewestMinutes 18 = .ok (.aload_n 0, 1) := by decide +kernel
theorem dX11_fewestMinutes_19 : decode cX11_fewestMinutes 19 = .ok (.getfield 10, 3) := by decide +kernel
theorem dX11_fewestMinutes_22 : decode cX11_fewestMinutes 22 = .ok (.invokevirtual 127, 3) := by decide +kernel
theorem dX11_fewestMinutes_25 : decode cX11_fewestMinutes 25 = .ok (.invokevirtual 206, 3) := by decide +kernel
theorem dX11_fewestMinutes_28 : decode cX11_fewestMinutes 28 = .ok (.ireturn, 1) := by decide +kernel
theorem dX11_prove_0 : decode cX11_prove 0 = .ok (.aload_n 0, 1) := by decide +kernel
theorem dX11_prove_1 : decode cX11_prove 1 = .ok (.invokevirtual 179, 3) := by decide +kernel
theorem dX11_prove_4 : decode cX11_prove 4 = .ok (.bipush (-3), 2) := by decide +kernel
theorem dX11_prove_6 : decode cX11_prove 6 = .ok (.if_icmp .ne 6, 3) := by decide +kernel
theorem dX11_prove_9 : decode cX11_prove 9 = .ok (.bipush (-3), 2) := by decide +kernel
theorem dX11_prove_11 : decode cX11_prove 11 = .ok (.ireturn, 1) := by decide +kernel
theorem dX11_prove_12 : decode cX11_prove 12 = .ok (.aload_n 0, 1) := by decide +kernel
theorem dX11_prove_13 : decode cX11_prove 13 = .ok (.getfield 19, 3) := by decide +kernel
theorem dX11_prove_16 : decode cX11_prove 16 = .ok (.invokevirtual 182, 3) := by decide +kernel
theorem dX11_prove_19 : decode cX11_prove 19 = .ok (.aload_n 0, 1) := by decide +kernel
theorem dX11_prove_20 : decode cX11_prove 20 = .ok (.getfield 10, 3) := by decide +kernel
theorem dX11_prove_23 : decode cX11_prove 23 = .ok (.getfield 138, 3) := by decide +kernel
theorem dX11_prove_26 : decode cX11_prove 26 = .ok (.istore_n 1, 1) := by decide +kernel
theorem dX11_prove_27 : decode cX11_prove 27 = .ok (.iconst 0, 1) := by decide +kernel
theorem dX11_prove_28 : decode cX11_prove 28 = .ok (.istore_n 2, 1) := by decide +kernel
theorem dX11_prove_29 : decode cX11_prove 29 = .ok (.iload_n 2, 1) := by decide +kernel
theorem dX11_prove_30 : decode cX11_prove 30 = .ok (.aload_n 0, 1) := by decide +kernel
theorem dX11_prove_31 : decode cX11_prove 31 = .ok (.getfield 19, 3) := by decide +kernel
theorem dX11_prove_34 : decode cX11_prove 34 = .ok (.getfield 185, 3) := by decide +kernel
theorem dX11_prove_37 : decode cX11_prove 37 = .ok (.if_icmp .ge 75, 3) := by decide +kernel
theorem dX11_prove_40 : decode cX11_prove 40 = .ok (.iload_n 1, 1) := by decide +kernel
theorem dX11_prove_41 : decode cX11_prove 41 = .ok (.aload_n 0, 1) := by decide +kernel
theorem dX11_prove_42 : decode cX11_prove 42 = .ok (.getfield 10, 3) := by decide +kernel
theorem dX11_prove_45 : decode cX11_prove 45 = .ok (.aload_n 0, 1) := by decide +kernel
theorem dX11_prove_46 : decode cX11_prove 46 = .ok (.getfield 19, 3) := by decide +kernel
theorem dX11_prove_49 : decode cX11_prove 49 = .ok (.getfield 194, 3) := by decide +kernel
theorem dX11_prove_52 : decode cX11_prove 52 = .ok (.iload_n 2, 1) := by decide +kernel
theorem dX11_prove_53 : decode cX11_prove 53 = .ok (.iaload, 1) := by decide +kernel
theorem dX11_prove_54 : decode cX11_prove 54 = .ok (.invokevirtual 217, 3) := by decide +kernel
theorem dX11_prove_57 : decode cX11_prove 57 = .ok (.iadd, 1) := by decide +kernel
theorem dX11_prove_58 : decode cX11_prove 58 = .ok (.istore_n 1, 1) := by decide +kernel
theorem dX11_prove_59 : decode cX11_prove 59 = .ok (.aload_n 0, 1) := by decide +kernel
theorem dX11_prove_60 : decode cX11_prove 60 = .ok (.getfield 37, 3) := by decide +kernel
theorem dX11_prove_63 : decode cX11_prove 63 = .ok (.iconst 3, 1) := by decide +kernel
theorem dX11_prove_64 : decode cX11_prove 64 = .ok (.iload_n 2, 1) := by decide +kernel
theorem dX11_prove_65 : decode cX11_prove 65 = .ok (.imul, 1) := by decide +kernel
theorem dX11_prove_66 : decode cX11_prove 66 = .ok (.aload_n 0, 1) := by decide +kernel
theorem dX11_prove_67 : decode cX11_prove 67 = .ok (.getfield 19, 3) := by decide +kernel
theorem dX11_prove_70 : decode cX11_prove 70 = .ok (.getfield 191, 3) := by decide +kernel
theorem dX11_prove_73 : decode cX11_prove 73 = .ok (.iload_n 2, 1) := by decide +kernel
theorem dX11_prove_74 : decode cX11_prove 74 = .ok (.iaload, 1) := by decide +kernel
theorem dX11_prove_75 : decode cX11_prove 75 = .ok (.iastore, 1) := by decide +kernel
theorem dX11_prove_76 : decode cX11_prove 76 = .ok (.aload_n 0, 1) := by decide +kernel
theorem dX11_prove_77 : decode cX11_prove 77 = .ok (.getfield 37, 3) := by decide +kernel
theorem dX11_prove_80 : decode cX11_prove 80 = .ok (.iconst 3, 1) := by decide +kernel
theorem dX11_prove_81 : decode cX11_prove 81 = .ok (.iload_n 2, 1) := by decide +kernel
theorem dX11_prove_82 : decode cX11_prove 82 = .ok (.imul, 1) := by decide +kernel
theorem dX11_prove_83 : decode cX11_prove 83 = .ok (.iconst 1, 1) := by decide +kernel
theorem dX11_prove_84 : decode cX11_prove 84 = .ok (.iadd, 1) := by decide +kernel
theorem dX11_prove_85 : decode cX11_prove 85 = .ok (.aload_n 0, 1) := by decide +kernel
theorem dX11_prove_86 : decode cX11_prove 86 = .ok (.getfield 19, 3) := by decide +kernel
theorem dX11_prove_89 : decode cX11_prove 89 = .ok (.getfield 194, 3) := by decide +kernel
theorem dX11_prove_92 : decode cX11_prove 92 = .ok (.iload_n 2, 1) := by decide +kernel
theorem dX11_prove_93 : decode cX11_prove 93 = .ok (.iaload, 1) := by decide +kernel
theorem dX11_prove_94 : decode cX11_prove 94 = .ok (.iastore, 1) := by decide +kernel
theorem dX11_prove_95 : decode cX11_prove 95 = .ok (.aload_n 0, 1) := by decide +kernel
theorem dX11_prove_96 : decode cX11_prove 96 = .ok (.getfield 37, 3) := by decide +kernel
theorem dX11_prove_99 : decode cX11_prove 99 = .ok (.iconst 3, 1) := by decide +kernel
theorem dX11_prove_100 : decode cX11_prove 100 = .ok (.iload_n 2, 1) := by decide +kernel
theorem dX11_prove_101 : decode cX11_prove 101 = .ok (.imul, 1) := by decide +kernel
theorem dX11_prove_102 : decode cX11_prove 102 = .ok (.iconst 2, 1) := by decide +kernel
theorem dX11_prove_103 : decode cX11_prove 103 = .ok (.iadd, 1) := by decide +kernel
theorem dX11_prove_104 : decode cX11_prove 104 = .ok (.iload_n 1, 1) := by decide +kernel
theorem dX11_prove_105 : decode cX11_prove 105 = .ok (.iastore, 1) := by decide +kernel
theorem dX11_prove_106 : decode cX11_prove 106 = .ok (.iinc 2 1, 3) := by decide +kernel
theorem dX11_prove_109 : decode cX11_prove 109 = .ok (.goto (-80), 3) := by decide +kernel
theorem dX11_prove_112 : decode cX11_prove 112 = .ok (.aload_n 0, 1) := by decide +kernel
theorem dX11_prove_113 : decode cX11_prove 113 = .ok (.aload_n 0, 1) := by decide +kernel
theorem dX11_prove_114 : decode cX11_prove 114 = .ok (.getfield 19, 3) := by decide +kernel
theorem dX11_prove_117 : decode cX11_prove 117 = .ok (.getfield 185, 3) := by decide +kernel
theorem dX11_prove_120 : decode cX11_prove 120 = .ok (.putfield 68, 3) := by decide +kernel
theorem dX11_prove_123 : decode cX11_prove 123 = .ok (.aload_n 0, 1) := by decide +kernel
theorem dX11_prove_124 : decode cX11_prove 124 = .ok (.getfield 68, 3) := by decide +kernel
theorem dX11_prove_127 : decode cX11_prove 127 = .ok (.ireturn, 1) := by decide +kernel
theorem dX11_row_0 : decode cX11_row 0 = .ok (.aload_n 0, 1) := by decide +kernel
theorem dX11_row_1 : decode cX11_row 1 = .ok (.iload_n 1, 1) := by decide +kernel
theorem dX11_row_2 : decode cX11_row 2 = .ok (.iload_n 2, 1) := by decide +kernel
theorem dX11_row_3 : decode cX11_row 3 = .ok (.invokevirtual 220, 3) := by decide +kernel
theorem dX11_row_6 : decode cX11_row 6 = .ok (.ifCond .eq 16, 3) := by decide +kernel
theorem dX11_row_9 : decode cX11_row 9 = .ok (.aload_n 0, 1) := by decide +kernel
theorem dX11_row_10 : decode cX11_row 10 = .ok (.getfield 37, 3) := by decide +kernel
theorem dX11_row_13 : decode cX11_row 13 = .ok (.iconst 3, 1) := by decide +kernel
theorem dX11_row_14 : decode cX11_row 14 = .ok (.iload_n 1, 1) := by decide +kernel
theorem dX11_row_15 : decode cX11_row 15 = .ok (.imul, 1) := by decide +kernel
theorem dX11_row_16 : decode cX11_row 16 = .ok (.iload_n 2, 1) := by decide +kernel
theorem dX11_row_17 : decode cX11_row 17 = .ok (.iadd, 1) := by decide +kernel
theorem dX11_row_18 : decode cX11_row 18 = .ok (.iaload, 1) := by decide +kernel
theorem dX11_row_19 : decode cX11_row 19 = .ok (.goto 5, 3) := by decide +kernel
theorem dX11_row_22 : decode cX11_row 22 = .ok (.bipush (-9), 2) := by decide +kernel
theorem dX11_row_24 : decode cX11_row 24 = .ok (.ireturn, 1) := by decide +kernel
theorem dX11_alterRow_0 : decode cX11_alterRow 0 = .ok (.aload_n 0, 1) := by decide +kernel
theorem dX11_alterRow_1 : decode cX11_alterRow 1 = .ok (.iload_n 1, 1) := by decide +kernel
theorem dX11_alterRow_2 : decode cX11_alterRow 2 = .ok (.iload_n 2, 1) := by decide +kernel
theorem dX11_alterRow_3 : decode cX11_alterRow 3 = .ok (.invokevirtual 220, 3) := by decide +kernel
theorem dX11_alterRow_6 : decode cX11_alterRow 6 = .ok (.ifCond .ne 6, 3) := by decide +kernel
theorem dX11_alterRow_9 : decode cX11_alterRow 9 = .ok (.bipush (-9), 2) := by decide +kernel
theorem dX11_alterRow_11 : decode cX11_alterRow 11 = .ok (.ireturn, 1) := by decide +kernel
theorem dX11_alterRow_12 : decode cX11_alterRow 12 = .ok (.aload_n 0, 1) := by decide +kernel
theorem dX11_alterRow_13 : decode cX11_alterRow 13 = .ok (.getfield 37, 3) := by decide +kernel
theorem dX11_alterRow_16 : decode cX11_alterRow 16 = .ok (.iconst 3, 1) := by decide +kernel
theorem dX11_alterRow_17 : decode cX11_alterRow 17 = .ok (.iload_n 1, 1) := by decide +kernel
theorem dX11_alterRow_18 : decode cX11_alterRow 18 = .ok (.imul, 1) := by decide +kernel
theorem dX11_alterRow_19 : decode cX11_alterRow 19 = .ok (.iload_n 2, 1) := by decide +kernel
theorem dX11_alterRow_20 : decode cX11_alterRow 20 = .ok (.iadd, 1) := by decide +kernel
theorem dX11_alterRow_21 : decode cX11_alterRow 21 = .ok (.iaload, 1) := by decide +kernel
theorem dX11_alterRow_22 : decode cX11_alterRow 22 = .ok (.istore 4, 2) := by decide +kernel
theorem dX11_alterRow_24 : decode cX11_alterRow 24 = .ok (.aload_n 0, 1) := by decide +kernel
theorem dX11_alterRow_25 : decode cX11_alterRow 25 = .ok (.getfield 37, 3) := by decide +kernel
theorem dX11_alterRow_28 : decode cX11_alterRow 28 = .ok (.iconst 3, 1) := by decide +kernel
theorem dX11_alterRow_29 : decode cX11_alterRow 29 = .ok (.iload_n 1, 1) := by decide +kernel
theorem dX11_alterRow_30 : decode cX11_alterRow 30 = .ok (.imul, 1) := by decide +kernel
theorem dX11_alterRow_31 : decode cX11_alterRow 31 = .ok (.iload_n 2, 1) := by decide +kernel
theorem dX11_alterRow_32 : decode cX11_alterRow 32 = .ok (.iadd, 1) := by decide +kernel
theorem dX11_alterRow_33 : decode cX11_alterRow 33 = .ok (.iload_n 3, 1) := by decide +kernel
theorem dX11_alterRow_34 : decode cX11_alterRow 34 = .ok (.iastore, 1) := by decide +kernel
theorem dX11_alterRow_35 : decode cX11_alterRow 35 = .ok (.iload 4, 2) := by decide +kernel
theorem dX11_alterRow_37 : decode cX11_alterRow 37 = .ok (.ireturn, 1) := by decide +kernel
theorem dX11_judge_0 : decode cX11_judge 0 = .ok (.aload_n 0, 1) := by decide +kernel
theorem dX11_judge_1 : decode cX11_judge 1 = .ok (.getfield 10, 3) := by decide +kernel
theorem dX11_judge_4 : decode cX11_judge 4 = .ok (.invokevirtual 127, 3) := by decide +kernel
theorem dX11_judge_7 : decode cX11_judge 7 = .ok (.istore_n 1, 1) := by decide +kernel
theorem dX11_judge_8 : decode cX11_judge 8 = .ok (.aload_n 0, 1) := by decide +kernel
theorem dX11_judge_9 : decode cX11_judge 9 = .ok (.getfield 10, 3) := by decide +kernel
theorem dX11_judge_12 : decode cX11_judge 12 = .ok (.getfield 138, 3) := by decide +kernel
theorem dX11_judge_15 : decode cX11_judge 15 = .ok (.istore_n 2, 1) := by decide +kernel
theorem dX11_judge_16 : decode cX11_judge 16 = .ok (.iconst 0, 1) := by decide +kernel
theorem dX11_judge_17 : decode cX11_judge 17 = .ok (.istore_n 3, 1) := by decide +kernel
theorem dX11_judge_18 : decode cX11_judge 18 = .ok (.iload_n 3, 1) := by decide +kernel
theorem dX11_judge_19 : decode cX11_judge 19 = .ok (.aload_n 0, 1) := by decide +kernel
theorem dX11_judge_20 : decode cX11_judge 20 = .ok (.getfield 68, 3) := by decide +kernel
theorem dX11_judge_23 : decode cX11_judge 23 = .ok (.if_icmp .ge 79, 3) := by decide +kernel
theorem dX11_judge_26 : decode cX11_judge 26 = .ok (.aload_n 0, 1) := by decide +kernel
theorem dX11_judge_27 : decode cX11_judge 27 = .ok (.getfield 37, 3) := by decide +kernel
theorem dX11_judge_30 : decode cX11_judge 30 = .ok (.iconst 3, 1) := by decide +kernel
theorem dX11_judge_31 : decode cX11_judge 31 = .ok (.iload_n 3, 1) := by decide +kernel
theorem dX11_judge_32 : decode cX11_judge 32 = .ok (.imul, 1) := by decide +kernel
theorem dX11_judge_33 : decode cX11_judge 33 = .ok (.iconst 1, 1) := by decide +kernel
theorem dX11_judge_34 : decode cX11_judge 34 = .ok (.iadd, 1) := by decide +kernel
theorem dX11_judge_35 : decode cX11_judge 35 = .ok (.iaload, 1) := by decide +kernel
theorem dX11_judge_36 : decode cX11_judge 36 = .ok (.istore 4, 2) := by decide +kernel
theorem dX11_judge_38 : decode cX11_judge 38 = .ok (.aload_n 0, 1) := by decide +kernel
theorem dX11_judge_39 : decode cX11_judge 39 = .ok (.getfield 10, 3) := by decide +kernel
theorem dX11_judge_42 : decode cX11_judge 42 = .ok (.iload_n 1, 1) := by decide +kernel
theorem dX11_judge_43 : decode cX11_judge 43 = .ok (.aload_n 0, 1) := by decide +kernel
theorem dX11_judge_44 : decode cX11_judge 44 = .ok (.getfield 37, 3) := by decide +kernel
theorem dX11_judge_47 : decode cX11_judge 47 = .ok (.iconst 3, 1) := by decide +kernel
theorem dX11_judge_48 : decode cX11_judge 48 = .ok (.iload_n 3, 1) := by decide +kernel
theorem dX11_judge_49 : decode cX11_judge 49 = .ok (.imul, 1) := by decide +kernel
theorem dX11_judge_50 : decode cX11_judge 50 = .ok (.iaload, 1) := by decide +kernel
theorem dX11_judge_51 : decode cX11_judge 51 = .ok (.iload 4, 2) := by decide +kernel
theorem dX11_judge_53 : decode cX11_judge 53 = .ok (.invokevirtual 130, 3) := by decide +kernel
theorem dX11_judge_56 : decode cX11_judge 56 = .ok (.istore 5, 2) := by decide +kernel
theorem dX11_judge_58 : decode cX11_judge 58 = .ok (.iload 5, 2) := by decide +kernel
theorem dX11_judge_60 : decode cX11_judge 60 = .ok (.ifCond .lt 20, 3) := by decide +kernel
theorem dX11_judge_63 : decode cX11_judge 63 = .ok (.iload_n 2, 1) := by decide +kernel
theorem dX11_judge_64 : decode cX11_judge 64 = .ok (.iload 5, 2) := by decide +kernel
theorem dX11_judge_66 : decode cX11_judge 66 = .ok (.iadd, 1) := by decide +kernel
theorem dX11_judge_67 : decode cX11_judge 67 = .ok (.aload_n 0, 1) := by decide +kernel
theorem dX11_judge_68 : decode cX11_judge 68 = .ok (.getfield 37, 3) := by decide +kernel
theorem dX11_judge_71 : decode cX11_judge 71 = .ok (.iconst 3, 1) := by decide +kernel
theorem dX11_judge_72 : decode cX11_judge 72 = .ok (.iload_n 3, 1) := by decide +kernel
theorem dX11_judge_73 : decode cX11_judge 73 = .ok (.imul, 1) := by decide +kernel
theorem dX11_judge_74 : decode cX11_judge 74 = .ok (.iconst 2, 1) := by decide +kernel
theorem dX11_judge_75 : decode cX11_judge 75 = .ok (.iadd, 1) := by decide +kernel
theorem dX11_judge_76 : decode cX11_judge 76 = .ok (.iaload, 1) := by decide +kernel
theorem dX11_judge_77 : decode cX11_judge 77 = .ok (.if_icmp .eq 7, 3) := by decide +kernel
theorem dX11_judge_80 : decode cX11_judge 80 = .ok (.iload_n 3, 1) := by decide +kernel
theorem dX11_judge_81 : decode cX11_judge 81 = .ok (.iconst 1, 1) := by decide +kernel
theorem dX11_judge_82 : decode cX11_judge 82 = .ok (.iadd, 1) := by decide +kernel
theorem dX11_judge_83 : decode cX11_judge 83 = .ok (.ireturn, 1) := by decide +kernel
theorem dX11_judge_84 : decode cX11_judge 84 = .ok (.iload_n 2, 1) := by decide +kernel
theorem dX11_judge_85 : decode cX11_judge 85 = .ok (.iload 5, 2) := by decide +kernel
theorem dX11_judge_87 : decode cX11_judge 87 = .ok (.iadd, 1) := by decide +kernel
theorem dX11_judge_88 : decode cX11_judge 88 = .ok (.istore_n 2, 1) := by decide +kernel
theorem dX11_judge_89 : decode cX11_judge 89 = .ok (.iload_n 1, 1) := by decide +kernel
theorem dX11_judge_90 : decode cX11_judge 90 = .ok (.iload 4, 2) := by decide +kernel
theorem dX11_judge_92 : decode cX11_judge 92 = .ok (.iconst (-1), 1) := by decide +kernel
theorem dX11_judge_93 : decode cX11_judge 93 = .ok (.ixor, 1) := by decide +kernel
theorem dX11_judge_94 : decode cX11_judge 94 = .ok (.iand, 1) := by decide +kernel
theorem dX11_judge_95 : decode cX11_judge 95 = .ok (.istore_n 1, 1) := by decide +kernel
theorem dX11_judge_96 : decode cX11_judge 96 = .ok (.iinc 3 1, 3) := by decide +kernel
theorem dX11_judge_99 : decode cX11_judge 99 = .ok (.goto (-81), 3) := by decide +kernel
theorem dX11_judge_102 : decode cX11_judge 102 = .ok (.iload_n 1, 1) := by decide +kernel
theorem dX11_judge_103 : decode cX11_judge 103 = .ok (.invokestatic 141, 3) := by decide +kernel
theorem dX11_judge_106 : decode cX11_judge 106 = .ok (.ifCond .eq 7, 3) := by decide +kernel
theorem dX11_judge_109 : decode cX11_judge 109 = .ok (.iconst 0, 1) := by decide +kernel
theorem dX11_judge_110 : decode cX11_judge 110 = .ok (.goto 6, 3) := by decide +kernel
theorem dX11_judge_113 : decode cX11_judge 113 = .ok (.sipush 222, 3) := by decide +kernel
theorem dX11_judge_116 : decode cX11_judge 116 = .ok (.ireturn, 1) := by decide +kernel
theorem dX11_ages_0 : decode cX11_ages 0 = .ok (.iload_n 1, 1) := by decide +kernel
theorem dX11_ages_1 : decode cX11_ages 1 = .ok (.invokestatic 223, 3) := by decide +kernel
theorem dX11_ages_4 : decode cX11_ages 4 = .ok (.ifCond .eq 40, 3) := by decide +kernel
theorem dX11_ages_7 : decode cX11_ages 7 = .ok (.aload_n 0, 1) := by decide +kernel
theorem dX11_ages_8 : decode cX11_ages 8 = .ok (.getfield 10, 3) := by decide +kernel
theorem dX11_ages_11 : decode cX11_ages 11 = .ok (.iload_n 3, 1) := by decide +kernel
theorem dX11_ages_12 : decode cX11_ages 12 = .ok (.invokevirtual 80, 3) := by decide +kernel
theorem dX11_ages_15 : decode cX11_ages 15 = .ok (.ifnull 29, 3) := by decide +kernel
theorem dX11_ages_18 : decode cX11_ages 18 = .ok (.iload 4, 2) := by decide +kernel
theorem dX11_ages_20 : decode cX11_ages 20 = .ok (.ifCond .lt 24, 3) := by decide +kernel
theorem dX11_ages_23 : decode cX11_ages 23 = .ok (.iload 4, 2) := by decide +kernel
theorem dX11_ages_25 : decode cX11_ages 25 = .ok (.bipush 8, 2) := by decide +kernel
theorem dX11_ages_27 : decode cX11_ages 27 = .ok (.if_icmp .gt 17, 3) := by decide +kernel
theorem dX11_ages_30 : decode cX11_ages 30 = .ok (.iload_n 3, 1) := by decide +kernel
theorem dX11_ages_31 : decode cX11_ages 31 = .ok (.iload 4, 2) := by decide +kernel
theorem dX11_ages_33 : decode cX11_ages 33 = .ok (.iadd, 1) := by decide +kernel
theorem dX11_ages_34 : decode cX11_ages 34 = .ok (.aload_n 0, 1) := by decide +kernel
theorem dX11_ages_35 : decode cX11_ages 35 = .ok (.getfield 10, 3) := by decide +kernel
theorem dX11_ages_38 : decode cX11_ages 38 = .ok (.getfield 71, 3) := by decide +kernel
theorem dX11_ages_41 : decode cX11_ages 41 = .ok (.if_icmp .le 5, 3) := by decide +kernel
theorem dX11_ages_44 : decode cX11_ages 44 = .ok (.iconst (-1), 1) := by decide +kernel
theorem dX11_ages_45 : decode cX11_ages 45 = .ok (.ireturn, 1) := by decide +kernel
theorem dX11_ages_46 : decode cX11_ages 46 = .ok (.aload_n 0, 1) := by decide +kernel
theorem dX11_ages_47 : decode cX11_ages 47 = .ok (.getfield 43, 3) := by decide +kernel
theorem dX11_ages_50 : decode cX11_ages 50 = .ok (.iload_n 1, 1) := by decide +kernel
theorem dX11_ages_51 : decode cX11_ages 51 = .ok (.aaload, 1) := by decide +kernel
theorem dX11_ages_52 : decode cX11_ages 52 = .ok (.astore 5, 2) := by decide +kernel
theorem dX11_ages_54 : decode cX11_ages 54 = .ok (.aload 5, 2) := by decide +kernel
theorem dX11_ages_56 : decode cX11_ages 56 = .ok (.ifnonnull 6, 3) := by decide +kernel
theorem dX11_ages_59 : decode cX11_ages 59 = .ok (.bipush (-11), 2) := by decide +kernel
theorem dX11_ages_61 : decode cX11_ages 61 = .ok (.ireturn, 1) := by decide +kernel
theorem dX11_ages_62 : decode cX11_ages 62 = .ok (.aload 5, 2) := by decide +kernel
theorem dX11_ages_64 : decode cX11_ages 64 = .ok (.getfield 226, 3) := by decide +kernel
theorem dX11_ages_67 : decode cX11_ages 67 = .ok (.ifCond .eq 6, 3) := by decide +kernel
theorem dX11_ages_70 : decode cX11_ages 70 = .ok (.bipush (-13), 2) := by decide +kernel
theorem dX11_ages_72 : decode cX11_ages 72 = .ok (.ireturn, 1) := by decide +kernel
theorem dX11_ages_73 : decode cX11_ages 73 = .ok (.iload_n 2, 1) := by decide +kernel
theorem dX11_ages_74 : decode cX11_ages 74 = .ok (.ifCond .lt 16, 3) := by decide +kernel
theorem dX11_ages_77 : decode cX11_ages 77 = .ok (.iload_n 2, 1) := by decide +kernel
theorem dX11_ages_78 : decode cX11_ages 78 = .ok (.aload 5, 2) := by decide +kernel
theorem dX11_ages_80 : decode cX11_ages 80 = .ok (.getfield 229, 3) := by decide +kernel
theorem dX11_ages_83 : decode cX11_ages 83 = .ok (.arraylength, 1) := by decide +kernel
theorem dX11_ages_84 : decode cX11_ages 84 = .ok (.iload 4, 2) := by decide +kernel
theorem dX11_ages_86 : decode cX11_ages 86 = .ok (.isub, 1) := by decide +kernel
theorem dX11_ages_87 : decode cX11_ages 87 = .ok (.if_icmp .le 6, 3) := by decide +kernel
theorem dX11_ages_90 : decode cX11_ages 90 = .ok (.bipush (-12), 2) := by decide +kernel
theorem dX11_ages_92 : decode cX11_ages 92 = .ok (.ireturn, 1) := by decide +kernel
theorem dX11_ages_93 : decode cX11_ages 93 = .ok (.iconst 0, 1) := by decide +kernel
theorem dX11_ages_94 : decode cX11_ages 94 = .ok (.istore 6, 2) := by decide +kernel
theorem dX11_ages_96 : decode cX11_ages 96 = .ok (.iload 6, 2) := by decide +kernel
theorem dX11_ages_98 : decode cX11_ages 98 = .ok (.iload 4, 2) := by decide +kernel
theorem dX11_ages_100 : decode cX11_ages 100 = .ok (.if_icmp .ge 53, 3) := by decide +kernel
theorem dX11_ages_103 : decode cX11_ages 103 = .ok (.aload_n 0, 1) := by decide +kernel
theorem dX11_ages_104 : decode cX11_ages 104 = .ok (.getfield 10, 3) := by decide +kernel
theorem dX11_ages_107 : decode cX11_ages 107 = .ok (.iload_n 3, 1) := by decide +kernel
theorem dX11_ages_108 : decode cX11_ages 108 = .ok (.iload 6, 2) := by decide +kernel
theorem dX11_ages_110 : decode cX11_ages 110 = .ok (.iadd, 1) := by decide +kernel
theorem dX11_ages_111 : decode cX11_ages 111 = .ok (.invokevirtual 80, 3) := by decide +kernel
theorem dX11_ages_114 : decode cX11_ages 114 = .ok (.astore 7, 2) := by decide +kernel
theorem dX11_ages_116 : decode cX11_ages 116 = .ok (.aload 7, 2) := by decide +kernel
theorem dX11_ages_118 : decode cX11_ages 118 = .ok (.ifnull 29, 3) := by decide +kernel
theorem dX11_ages_121 : decode cX11_ages 121 = .ok (.aload 7, 2) := by decide +kernel
theorem dX11_ages_123 : decode cX11_ages 123 = .ok (.lconst 1, 1) := by decide +kernel
theorem dX11_ages_124 : decode cX11_ages 124 = .ok (.ldc2_w 233, 3) := by decide +kernel
theorem dX11_ages_127 : decode cX11_ages 127 = .ok (.aload 5, 2) := by decide +kernel
theorem dX11_ages_129 : decode cX11_ages 129 = .ok (.getfield 229, 3) := by decide +kernel
theorem dX11_ages_132 : decode cX11_ages 132 = .ok (.iload_n 2, 1) := by decide +kernel
theorem dX11_ages_133 : decode cX11_ages 133 = .ok (.iload 6, 2) := by decide +kernel
theorem dX11_ages_135 : decode cX11_ages 135 = .ok (.iadd, 1) := by decide +kernel
theorem dX11_ages_136 : decode cX11_ages 136 = .ok (.laload, 1) := by decide +kernel
theorem dX11_ages_137 : decode cX11_ages 137 = .ok (.invokestatic 235, 3) := by decide +kernel
theorem dX11_ages_140 : decode cX11_ages 140 = .ok (.invokestatic 238, 3) := by decide +kernel
theorem dX11_ages_143 : decode cX11_ages 143 = .ok (.l2i, 1) := by decide +kernel
theorem dX11_ages_144 : decode cX11_ages 144 = .ok (.putfield 90, 3) := by decide +kernel
theorem dX11_ages_147 : decode cX11_ages 147 = .ok (.iinc 6 1, 3) := by decide +kernel
theorem dX11_ages_150 : decode cX11_ages 150 = .ok (.goto (-54), 3) := by decide +kernel
theorem dX11_ages_153 : decode cX11_ages 153 = .ok (.iload 4, 2) := by decide +kernel
theorem dX11_ages_155 : decode cX11_ages 155 = .ok (.ireturn, 1) := by decide +kernel
theorem dX11_isInRow_0 : decode cX11_isInRow 0 = .ok (.iload_n 1, 1) := by decide +kernel
theorem dX11_isInRow_1 : decode cX11_isInRow 1 = .ok (.ifCond .lt 24, 3) := by decide +kernel
theorem dX11_isInRow_4 : decode cX11_isInRow 4 = .ok (.iload_n 1, 1) := by decide +kernel
theorem dX11_isInRow_5 : decode cX11_isInRow 5 = .ok (.aload_n 0, 1) := by decide +kernel
theorem dX11_isInRow_6 : decode cX11_isInRow 6 = .ok (.getfield 68, 3) := by decide +kernel
theorem dX11_isInRow_9 : decode cX11_isInRow 9 = .ok (.if_icmp .ge 16, 3) := by decide +kernel
theorem dX11_isInRow_12 : decode cX11_isInRow 12 = .ok (.iload_n 2, 1) := by decide +kernel
theorem dX11_isInRow_13 : decode cX11_isInRow 13 = .ok (.ifCond .lt 12, 3) := by decide +kernel
theorem dX11_isInRow_16 : decode cX11_isInRow 16 = .ok (.iload_n 2, 1) := by decide +kernel
theorem dX11_isInRow_17 : decode cX11_isInRow 17 = .ok (.iconst 2, 1) := by decide +kernel
theorem dX11_isInRow_18 : decode cX11_isInRow 18 = .ok (.if_icmp .gt 7, 3) := by decide +kernel
theorem dX11_isInRow_21 : decode cX11_isInRow 21 = .ok (.iconst 1, 1) := by decide +kernel
theorem dX11_isInRow_22 : decode cX11_isInRow 22 = .ok (.goto 4, 3) := by decide +kernel
theorem dX11_isInRow_25 : decode cX11_isInRow 25 = .ok (.iconst 0, 1) := by decide +kernel
theorem dX11_isInRow_26 : decode cX11_isInRow 26 = .ok (.ireturn, 1) := by decide +kernel
theorem dX11_sheet_0 : decode cX11_sheet 0 = .ok (.iload_n 1, 1) := by decide +kernel
theorem dX11_sheet_1 : decode cX11_sheet 1 = .ok (.invokestatic 223, 3) := by decide +kernel
theorem dX11_sheet_4 : decode cX11_sheet 4 = .ok (.ifCond .eq 13, 3) := by decide +kernel
theorem dX11_sheet_7 : decode cX11_sheet 7 = .ok (.iload_n 2, 1) := by decide +kernel
theorem dX11_sheet_8 : decode cX11_sheet 8 = .ok (.iconst (-1), 1) := by decide +kernel
theorem dX11_sheet_9 : decode cX11_sheet 9 = .ok (.if_icmp .lt 8, 3) := by decide +kernel
theorem dX11_sheet_12 : decode cX11_sheet 12 = .ok (.iload_n 2, 1) := by decide +kernel
theorem dX11_sheet_13 : decode cX11_sheet 13 = .ok (.iconst 4, 1) := by decide +kernel
theorem dX11_sheet_14 : decode cX11_sheet 14 = .ok (.if_icmp .lt 5, 3) := by decide +kernel
theorem dX11_sheet_17 : decode cX11_sheet 17 = .ok (.iconst (-1), 1) := by decide +kernel
theorem dX11_sheet_18 : decode cX11_sheet 18 = .ok (.ireturn, 1) := by decide +kernel
theorem dX11_sheet_19 : decode cX11_sheet 19 = .ok (.iload_n 2, 1) := by decide +kernel
theorem dX11_sheet_20 : decode cX11_sheet 20 = .ok (.iconst (-1), 1) := by decide +kernel
theorem dX11_sheet_21 : decode cX11_sheet 21 = .ok (.if_icmp .ne 12, 3) := by decide +kernel
theorem dX11_sheet_24 : decode cX11_sheet 24 = .ok (.aload_n 0, 1) := by decide +kernel
theorem dX11_sheet_25 : decode cX11_sheet 25 = .ok (.getfield 43, 3) := by decide +kernel
theorem dX11_sheet_28 : decode cX11_sheet 28 = .ok (.iload_n 1, 1) := by decide +kernel
theorem dX11_sheet_29 : decode cX11_sheet 29 = .ok (.aconst_null, 1) := by decide +kernel
theorem dX11_sheet_30 : decode cX11_sheet 30 = .ok (.aastore, 1) := by decide +kernel
theorem dX11_sheet_31 : decode cX11_sheet 31 = .ok (.iconst 1, 1) := by decide +kernel
theorem dX11_sheet_32 : decode cX11_sheet 32 = .ok (.ireturn, 1) := by decide +kernel
theorem dX11_sheet_33 : decode cX11_sheet 33 = .ok (.iload_n 3, 1) := by decide +kernel
theorem dX11_sheet_34 : decode cX11_sheet 34 = .ok (.bipush 40, 2) := by decide +kernel
theorem dX11_sheet_36 : decode cX11_sheet 36 = .ok (.if_icmp .le 5, 3) := by decide +kernel
theorem dX11_sheet_39 : decode cX11_sheet 39 = .ok (.iconst (-1), 1) := by decide +kernel
theorem dX11_sheet_40 : decode cX11_sheet 40 = .ok (.ireturn, 1) := by decide +kernel
theorem dX11_sheet_41 : decode cX11_sheet 41 = .ok (.iload_n 3, 1) := by decide +kernel
theorem dX11_sheet_42 : decode cX11_sheet 42 = .ok (.ifCond .ge 6, 3) := by decide +kernel
theorem dX11_sheet_45 : decode cX11_sheet 45 = .ok (.bipush (-14), 2) := by decide +kernel
theorem dX11_sheet_47 : decode cX11_sheet 47 = .ok (.ireturn, 1) := by decide +kernel
theorem dX11_sheet_48 : decode cX11_sheet 48 = .ok (.aload_n 0, 1) := by decide +kernel
theorem dX11_sheet_49 : decode cX11_sheet 49 = .ok (.getfield 43, 3) := by decide +kernel
theorem dX11_sheet_52 : decode cX11_sheet 52 = .ok (.iload_n 1, 1) := by decide +kernel
theorem dX11_sheet_53 : decode cX11_sheet 53 = .ok (.new 41, 3) := by decide +kernel
theorem dX11_sheet_56 : decode cX11_sheet 56 = .ok (.dup, 1) := by decide +kernel
theorem dX11_sheet_57 : decode cX11_sheet 57 = .ok (.iload_n 2, 1) := by decide +kernel
theorem dX11_sheet_58 : decode cX11_sheet 58 = .ok (.iload_n 3, 1) := by decide +kernel
theorem dX11_sheet_59 : decode cX11_sheet 59 = .ok (.invokespecial 240, 3) := by decide +kernel
theorem dX11_sheet_62 : decode cX11_sheet 62 = .ok (.aastore, 1) := by decide +kernel
theorem dX11_sheet_63 : decode cX11_sheet 63 = .ok (.iconst 1, 1) := by decide +kernel
theorem dX11_sheet_64 : decode cX11_sheet 64 = .ok (.ireturn, 1) := by decide +kernel
theorem dX11_put_0 : decode cX11_put 0 = .ok (.iload_n 1, 1) := by decide +kernel
theorem dX11_put_1 : decode cX11_put 1 = .ok (.invokestatic 223, 3) := by decide +kernel
theorem dX11_put_4 : decode cX11_put 4 = .ok (.ifCond .ne 5, 3) := by decide +kernel
theorem dX11_put_7 : decode cX11_put 7 = .ok (.iconst (-1), 1) := by decide +kernel
theorem dX11_put_8 : decode cX11_put 8 = .ok (.ireturn, 1) := by decide +kernel
theorem dX11_put_9 : decode cX11_put 9 = .ok (.aload_n 0, 1) := by decide +kernel
theorem dX11_put_10 : decode cX11_put 10 = .ok (.getfield 43, 3) := by decide +kernel
theorem dX11_put_13 : decode cX11_put 13 = .ok (.iload_n 1, 1) := by decide +kernel
theorem dX11_put_14 : decode cX11_put 14 = .ok (.aaload, 1) := by decide +kernel
theorem dX11_put_15 : decode cX11_put 15 = .ok (.astore 4, 2) := by decide +kernel
theorem dX11_put_17 : decode cX11_put 17 = .ok (.aload 4, 2) := by decide +kernel
theorem dX11_put_19 : decode cX11_put 19 = .ok (.ifnonnull 6, 3) := by decide +kernel
theorem dX11_put_22 : decode cX11_put 22 = .ok (.bipush (-11), 2) := by decide +kernel
theorem dX11_put_24 : decode cX11_put 24 = .ok (.ireturn, 1) := by decide +kernel
theorem dX11_put_25 : decode cX11_put 25 = .ok (.aload 4, 2) := by decide +kernel
theorem dX11_put_27 : decode cX11_put 27 = .ok (.iload_n 2, 1) := by decide +kernel
theorem dX11_put_28 : decode cX11_put 28 = .ok (.invokevirtual 243, 3) := by decide +kernel
theorem dX11_put_31 : decode cX11_put 31 = .ok (.ifCond .ne 6, 3) := by decide +kernel
theorem dX11_put_34 : decode cX11_put 34 = .ok (.bipush (-12), 2) := by decide +kernel
theorem dX11_put_36 : decode cX11_put 36 = .ok (.ireturn, 1) := by decide +kernel
theorem dX11_put_37 : decode cX11_put 37 = .ok (.aload 4, 2) := by decide +kernel
theorem dX11_put_39 : decode cX11_put 39 = .ok (.getfield 229, 3) := by decide +kernel
theorem dX11_put_42 : decode cX11_put 42 = .ok (.iload_n 2, 1) := by decide +kernel
theorem dX11_put_43 : decode cX11_put 43 = .ok (.aload 4, 2) := by decide +kernel
theorem dX11_put_45 : decode cX11_put 45 = .ok (.iload_n 3, 1) := by decide +kernel
theorem dX11_put_46 : decode cX11_put 46 = .ok (.invokevirtual 246, 3) := by decide +kernel
theorem dX11_put_49 : decode cX11_put 49 = .ok (.lastore, 1) := by decide +kernel
theorem dX11_put_50 : decode cX11_put 50 = .ok (.iconst 1, 1) := by decide +kernel
theorem dX11_put_51 : decode cX11_put 51 = .ok (.ireturn, 1) := by decide +kernel
theorem dX11_item_0 : decode cX11_item 0 = .ok (.iload_n 1, 1) := by decide +kernel
theorem dX11_item_1 : decode cX11_item 1 = .ok (.invokestatic 223, 3) := by decide +kernel
theorem dX11_item_4 : decode cX11_item 4 = .ok (.ifCond .eq 12, 3) := by decide +kernel
theorem dX11_item_7 : decode cX11_item 7 = .ok (.iload_n 2, 1) := by decide +kernel
theorem dX11_item_8 : decode cX11_item 8 = .ok (.ifCond .lt 8, 3) := by decide +kernel
theorem dX11_item_11 : decode cX11_item 11 = .ok (.iload_n 2, 1) := by decide +kernel
theorem dX11_item_12 : decode cX11_item 12 = .ok (.iconst 4, 1) := by decide +kernel
theorem dX11_item_13 : decode cX11_item 13 = .ok (.if_icmp .lt 5, 3) := by decide +kernel
theorem dX11_item_16 : decode cX11_item 16 = .ok (.iconst (-1), 1) := by decide +kernel
theorem dX11_item_17 : decode cX11_item 17 = .ok (.ireturn, 1) := by decide +kernel
theorem dX11_item_18 : decode cX11_item 18 = .ok (.aload_n 0, 1) := by decide +kernel
theorem dX11_item_19 : decode cX11_item 19 = .ok (.getfield 43, 3) := by decide +kernel
theorem dX11_item_22 : decode cX11_item 22 = .ok (.iload_n 1, 1) := by decide +kernel
theorem dX11_item_23 : decode cX11_item 23 = .ok (.aaload, 1) := by decide +kernel
theorem dX11_item_24 : decode cX11_item 24 = .ok (.astore 4, 2) := by decide +kernel
theorem dX11_item_26 : decode cX11_item 26 = .ok (.aload 4, 2) := by decide +kernel
theorem dX11_item_28 : decode cX11_item 28 = .ok (.ifnonnull 6, 3) := by decide +kernel
theorem dX11_item_31 : decode cX11_item 31 = .ok (.bipush (-11), 2) := by decide +kernel
theorem dX11_item_33 : decode cX11_item 33 = .ok (.ireturn, 1) := by decide +kernel
theorem dX11_item_34 : decode cX11_item 34 = .ok (.aload 4, 2) := by decide +kernel
theorem dX11_item_36 : decode cX11_item 36 = .ok (.getfield 226, 3) := by decide +kernel
theorem dX11_item_39 : decode cX11_item 39 = .ok (.iload_n 2, 1) := by decide +kernel
theorem dX11_item_40 : decode cX11_item 40 = .ok (.if_icmp .eq 6, 3) := by decide +kernel
theorem dX11_item_43 : decode cX11_item 43 = .ok (.bipush (-13), 2) := by decide +kernel
theorem dX11_item_45 : decode cX11_item 45 = .ok (.ireturn, 1) := by decide +kernel
theorem dX11_item_46 : decode cX11_item 46 = .ok (.aload 4, 2) := by decide +kernel
theorem dX11_item_48 : decode cX11_item 48 = .ok (.iload_n 3, 1) := by decide +kernel
theorem dX11_item_49 : decode cX11_item 49 = .ok (.invokevirtual 243, 3) := by decide +kernel
theorem dX11_item_52 : decode cX11_item 52 = .ok (.ifCond .eq 14, 3) := by decide +kernel
theorem dX11_item_55 : decode cX11_item 55 = .ok (.aload 4, 2) := by decide +kernel
theorem dX11_item_57 : decode cX11_item 57 = .ok (.getfield 229, 3) := by decide +kernel
theorem dX11_item_60 : decode cX11_item 60 = .ok (.iload_n 3, 1) := by decide +kernel
theorem dX11_item_61 : decode cX11_item 61 = .ok (.laload, 1) := by decide +kernel
theorem dX11_item_62 : decode cX11_item 62 = .ok (.l2i, 1) := by decide +kernel
theorem dX11_item_63 : decode cX11_item 63 = .ok (.goto 5, 3) := by decide +kernel
theorem dX11_item_66 : decode cX11_item 66 = .ok (.bipush (-12), 2) := by decide +kernel
theorem dX11_item_68 : decode cX11_item 68 = .ok (.ireturn, 1) := by decide +kernel
theorem dX11_shelf_0 : decode cX11_shelf 0 = .ok (.iload_n 1, 1) := by decide +kernel
theorem dX11_shelf_1 : decode cX11_shelf 1 = .ok (.invokestatic 223, 3) := by decide +kernel
theorem dX11_shelf_4 : decode cX11_shelf 4 = .ok (.ifCond .eq 12, 3) := by decide +kernel
theorem dX11_shelf_7 : decode cX11_shelf 7 = .ok (.iload_n 2, 1) := by decide +kernel
theorem dX11_shelf_8 : decode cX11_shelf 8 = .ok (.ifCond .lt 8, 3) := by decide +kernel
theorem dX11_shelf_11 : decode cX11_shelf 11 = .ok (.iload_n 2, 1) := by decide +kernel
theorem dX11_shelf_12 : decode cX11_shelf 12 = .ok (.iconst 2, 1) := by decide +kernel
theorem dX11_shelf_13 : decode cX11_shelf 13 = .ok (.if_icmp .le 5, 3) := by decide +kernel
theorem dX11_shelf_16 : decode cX11_shelf 16 = .ok (.iconst (-1), 1) := by decide +kernel
theorem dX11_shelf_17 : decode cX11_shelf 17 = .ok (.ireturn, 1) := by decide +kernel
theorem dX11_shelf_18 : decode cX11_shelf 18 = .ok (.iload_n 2, 1) := by decide +kernel
theorem dX11_shelf_19 : decode cX11_shelf 19 = .ok (.ifCond .ne 16, 3) := by decide +kernel
theorem dX11_shelf_22 : decode cX11_shelf 22 = .ok (.aload_n 0, 1) := by decide +kernel
theorem dX11_shelf_23 : decode cX11_shelf 23 = .ok (.getfield 10, 3) := by decide +kernel
theorem dX11_shelf_26 : decode cX11_shelf 26 = .ok (.iload_n 3, 1) := by decide +kernel
theorem dX11_shelf_27 : decode cX11_shelf 27 = .ok (.invokevirtual 80, 3) := by decide +kernel
theorem dX11_shelf_30 : decode cX11_shelf 30 = .ok (.ifnonnull 5, 3) := by decide +kernel
theorem dX11_shelf_33 : decode cX11_shelf 33 = .ok (.iconst (-1), 1) := by decide +kernel
theorem dX11_shelf_34 : decode cX11_shelf 34 = .ok (.ireturn, 1) := by decide +kernel
theorem dX11_shelf_35 : decode cX11_shelf 35 = .ok (.iload_n 2, 1) := by decide +kernel
theorem dX11_shelf_36 : decode cX11_shelf 36 = .ok (.iconst 1, 1) := by decide +kernel
theorem dX11_shelf_37 : decode cX11_shelf 37 = .ok (.if_icmp .ne 12, 3) := by decide +kernel
theorem dX11_shelf_40 : decode cX11_shelf 40 = .ok (.iload_n 3, 1) := by decide +kernel
theorem dX11_shelf_41 : decode cX11_shelf 41 = .ok (.invokestatic 223, 3) := by decide +kernel
theorem dX11_shelf_44 : decode cX11_shelf 44 = .ok (.ifCond .ne 5, 3) := by decide +kernel
theorem dX11_shelf_47 : decode cX11_shelf 47 = .ok (.iconst (-1), 1) := by decide +kernel
theorem dX11_shelf_48 : decode cX11_shelf 48 = .ok (.ireturn, 1) := by decide +kernel
theorem dX11_shelf_49 : decode cX11_shelf 49 = .ok (.aload_n 0, 1) := by decide +kernel
theorem dX11_shelf_50 : decode cX11_shelf 50 = .ok (.getfield 50, 3) := by decide +kernel
theorem dX11_shelf_53 : decode cX11_shelf 53 = .ok (.iload_n 1, 1) := by decide +kernel
theorem dX11_shelf_54 : decode cX11_shelf 54 = .ok (.iload_n 2, 1) := by decide +kernel
theorem dX11_shelf_55 : decode cX11_shelf 55 = .ok (.ifCond .ne 7, 3) := by decide +kernel
theorem dX11_shelf_58 : decode cX11_shelf 58 = .ok (.iload_n 3, 1) := by decide +kernel
theorem dX11_shelf_59 : decode cX11_shelf 59 = .ok (.goto 4, 3) := by decide +kernel
theorem dX11_shelf_62 : decode cX11_shelf 62 = .ok (.iconst (-1), 1) := by decide +kernel
theorem dX11_shelf_63 : decode cX11_shelf 63 = .ok (.iastore, 1) := by decide +kernel
theorem dX11_shelf_64 : decode cX11_shelf 64 = .ok (.aload_n 0, 1) := by decide +kernel
theorem dX11_shelf_65 : decode cX11_shelf 65 = .ok (.getfield 47, 3) := by decide +kernel
theorem dX11_shelf_68 : decode cX11_shelf 68 = .ok (.iload_n 1, 1) := by decide +kernel
theorem dX11_shelf_69 : decode cX11_shelf 69 = .ok (.iload_n 2, 1) := by decide +kernel
theorem dX11_shelf_70 : decode cX11_shelf 70 = .ok (.iconst 1, 1) := by decide +kernel
theorem dX11_shelf_71 : decode cX11_shelf 71 = .ok (.if_icmp .ne 12, 3) := by decide +kernel
theorem dX11_shelf_74 : decode cX11_shelf 74 = .ok (.aload_n 0, 1) := by decide +kernel
theorem dX11_shelf_75 : decode cX11_shelf 75 = .ok (.getfield 43, 3) := by decide +kernel
theorem dX11_shelf_78 : decode cX11_shelf 78 = .ok (.iload_n 3, 1) := by decide +kernel
theorem dX11_shelf_79 : decode cX11_shelf 79 = .ok (.aaload, 1) := by decide +kernel
theorem dX11_shelf_80 : decode cX11_shelf 80 = .ok (.goto 4, 3) := by decide +kernel
theorem dX11_shelf_83 : decode cX11_shelf 83 = .ok (.aconst_null, 1) := by decide +kernel
theorem dX11_shelf_84 : decode cX11_shelf 84 = .ok (.aastore, 1) := by decide +kernel
theorem dX11_shelf_85 : decode cX11_shelf 85 = .ok (.iconst 1, 1) := by decide +kernel
theorem dX11_shelf_86 : decode cX11_shelf 86 = .ok (.ireturn, 1) := by decide +kernel
theorem dX11_taken_0 : decode cX11_taken 0 = .ok (.iload_n 2, 1) := by decide +kernel
theorem dX11_taken_1 : decode cX11_taken 1 = .ok (.ifCond .lt 13, 3) := by decide +kernel
theorem dX11_taken_4 : decode cX11_taken 4 = .ok (.iload_n 2, 1) := by decide +kernel
theorem dX11_taken_5 : decode cX11_taken 5 = .ok (.bipush 6, 2) := by decide +kernel
theorem dX11_taken_7 : decode cX11_taken 7 = .ok (.if_icmp .ge 7, 3) := by decide +kernel
theorem dX11_taken_10 : decode cX11_taken 10 = .ok (.iconst 1, 1) := by decide +kernel
theorem dX11_taken_11 : decode cX11_taken 11 = .ok (.goto 4, 3) := by decide +kernel
theorem dX11_taken_14 : decode cX11_taken 14 = .ok (.iconst 0, 1) := by decide +kernel
theorem dX11_taken_15 : decode cX11_taken 15 = .ok (.istore_n 3, 1) := by decide +kernel
theorem dX11_taken_16 : decode cX11_taken 16 = .ok (.iload_n 2, 1) := by decide +kernel
theorem dX11_taken_17 : decode cX11_taken 17 = .ok (.bipush 10, 2) := by decide +kernel
theorem dX11_taken_19 : decode cX11_taken 19 = .ok (.if_icmp .lt 13, 3) := by decide +kernel
theorem dX11_taken_22 : decode cX11_taken 22 = .ok (.iload_n 2, 1) := by decide +kernel
theorem dX11_taken_23 : decode cX11_taken 23 = .ok (.bipush 14, 2) := by decide +kernel
theorem dX11_taken_25 : decode cX11_taken 25 = .ok (.if_icmp .ge 7, 3) := by decide +kernel
theorem dX11_taken_28 : decode cX11_taken 28 = .ok (.iconst 1, 1) := by decide +kernel
theorem dX11_taken_29 : decode cX11_taken 29 = .ok (.goto 4, 3) := by decide +kernel
theorem dX11_taken_32 : decode cX11_taken 32 = .ok (.iconst 0, 1) := by decide +kernel
theorem dX11_taken_33 : decode cX11_taken 33 = .ok (.istore 4, 2) := by decide +kernel
theorem dX11_taken_35 : decode cX11_taken 35 = .ok (.iload_n 1, 1) := by decide +kernel
theorem dX11_taken_36 : decode cX11_taken 36 = .ok (.invokestatic 223, 3) := by decide +kernel
theorem dX11_taken_39 : decode cX11_taken 39 = .ok (.ifCond .eq 12, 3) := by decide +kernel
theorem dX11_taken_42 : decode cX11_taken 42 = .ok (.iload_n 3, 1) := by decide +kernel
theorem dX11_taken_43 : decode cX11_taken 43 = .ok (.ifCond .ne 10, 3) := by decide +kernel
theorem dX11_taken_46 : decode cX11_taken 46 = .ok (.iload 4, 2) := by decide +kernel
theorem dX11_taken_48 : decode cX11_taken 48 = .ok (.ifCond .ne 5, 3) := by decide +kernel
theorem dX11_taken_51 : decode cX11_taken 51 = .ok (.iconst (-1), 1) := by decide +kernel
theorem dX11_taken_52 : decode cX11_taken 52 = .ok (.ireturn, 1) := by decide +kernel
theorem dX11_taken_53 : decode cX11_taken 53 = .ok (.aload_n 0, 1) := by decide +kernel
theorem dX11_taken_54 : decode cX11_taken 54 = .ok (.getfield 10, 3) := by decide +kernel
theorem dX11_taken_57 : decode cX11_taken 57 = .ok (.aload_n 0, 1) := by decide +kernel
theorem dX11_taken_58 : decode cX11_taken 58 = .ok (.getfield 50, 3) := by decide +kernel
theorem dX11_taken_61 : decode cX11_taken 61 = .ok (.iload_n 1, 1) := by decide +kernel
theorem dX11_taken_62 : decode cX11_taken 62 = .ok (.iaload, 1) := by decide +kernel
theorem dX11_taken_63 : decode cX11_taken 63 = .ok (.invokevirtual 80, 3) := by decide +kernel
theorem dX11_taken_66 : decode cX11_taken 66 = .ok (.astore 5, 2) := by decide +kernel
theorem dX11_taken_68 : decode cX11_taken 68 = .ok (.aload_n 0, 1) := by decide +kernel
theorem dX11_taken_69 : decode cX11_taken 69 = .ok (.getfield 47, 3) := by decide +kernel
theorem dX11_taken_72 : decode cX11_taken 72 = .ok (.iload_n 1, 1) := by decide +kernel
theorem dX11_taken_73 : decode cX11_taken 73 = .ok (.aaload, 1) := by decide +kernel
theorem dX11_taken_74 : decode cX11_taken 74 = .ok (.astore 6, 2) := by decide +kernel
theorem dX11_taken_76 : decode cX11_taken 76 = .ok (.aload 5, 2) := by decide +kernel
theorem dX11_taken_78 : decode cX11_taken 78 = .ok (.ifnull 27, 3) := by decide +kernel
theorem dX11_taken_81 : decode cX11_taken 81 = .ok (.iload_n 3, 1) := by decide +kernel
theorem dX11_taken_82 : decode cX11_taken 82 = .ok (.ifCond .eq 20, 3) := by decide +kernel
theorem dX11_taken_85 : decode cX11_taken 85 = .ok (.aload 5, 2) := by decide +kernel
theorem dX11_taken_87 : decode cX11_taken 87 = .ok (.iload_n 2, 1) := by decide +kernel
theorem dX11_taken_88 : decode cX11_taken 88 = .ok (.invokestatic 250, 3) := by decide +kernel
theorem dX11_taken_91 : decode cX11_taken 91 = .ok (.ifCond .eq 11, 3) := by decide +kernel
theorem dX11_taken_94 : decode cX11_taken 94 = .ok (.aload 5, 2) := by decide +kernel
theorem dX11_taken_96 : decode cX11_taken 96 = .ok (.getfield 254, 3) := by decide +kernel
theorem dX11_taken_99 : decode cX11_taken 99 = .ok (.goto 5, 3) := by decide +kernel
theorem dX11_taken_102 : decode cX11_taken 102 = .ok (.bipush (-13), 2) := by decide +kernel
theorem dX11_taken_104 : decode cX11_taken 104 = .ok (.ireturn, 1) := by decide +kernel
theorem dX11_taken_105 : decode cX11_taken 105 = .ok (.aload 6, 2) := by decide +kernel
theorem dX11_taken_107 : decode cX11_taken 107 = .ok (.ifnull 32, 3) := by decide +kernel
theorem dX11_taken_110 : decode cX11_taken 110 = .ok (.iload 4, 2) := by decide +kernel
theorem dX11_taken_112 : decode cX11_taken 112 = .ok (.ifCond .eq 24, 3) := by decide +kernel
theorem dX11_taken_115 : decode cX11_taken 115 = .ok (.aload 6, 2) := by decide +kernel
theorem dX11_taken_117 : decode cX11_taken 117 = .ok (.getfield 226, 3) := by decide +kernel
theorem dX11_taken_120 : decode cX11_taken 120 = .ok (.iload_n 2, 1) := by decide +kernel
theorem dX11_taken_121 : decode cX11_taken 121 = .ok (.bipush 10, 2) := by decide +kernel
theorem dX11_taken_123 : decode cX11_taken 123 = .ok (.isub, 1) := by decide +kernel
theorem dX11_taken_124 : decode cX11_taken 124 = .ok (.if_icmp .ne 12, 3) := by decide +kernel
theorem dX11_taken_127 : decode cX11_taken 127 = .ok (.aload 6, 2) := by decide +kernel
theorem dX11_taken_129 : decode cX11_taken 129 = .ok (.getfield 229, 3) := by decide +kernel
theorem dX11_taken_132 : decode cX11_taken 132 = .ok (.arraylength, 1) := by decide +kernel
theorem dX11_taken_133 : decode cX11_taken 133 = .ok (.goto 5, 3) := by decide +kernel
theorem dX11_taken_136 : decode cX11_taken 136 = .ok (.bipush (-13), 2) := by decide +kernel
theorem dX11_taken_138 : decode cX11_taken 138 = .ok (.ireturn, 1) := by decide +kernel
theorem dX11_taken_139 : decode cX11_taken 139 = .ok (.bipush (-11), 2) := by decide +kernel
theorem dX11_taken_141 : decode cX11_taken 141 = .ok (.ireturn, 1) := by decide +kernel
theorem dX11_act_0 : decode cX11_act 0 = .ok (.aload_n 0, 1) := by decide +kernel
theorem dX11_act_1 : decode cX11_act 1 = .ok (.getfield 33, 3) := by decide +kernel
theorem dX11_act_4 : decode cX11_act 4 = .ok (.invokevirtual 257, 3) := by decide +kernel
theorem dX11_act_7 : decode cX11_act 7 = .ok (.iload_n 1, 1) := by decide +kernel
theorem dX11_act_8 : decode cX11_act 8 = .ok (.invokestatic 223, 3) := by decide +kernel
theorem dX11_act_11 : decode cX11_act 11 = .ok (.ifCond .eq 19, 3) := by decide +kernel
theorem dX11_act_14 : decode cX11_act 14 = .ok (.aload_n 0, 1) := by decide +kernel
theorem dX11_act_15 : decode cX11_act 15 = .ok (.getfield 10, 3) := by decide +kernel
theorem dX11_act_18 : decode cX11_act 18 = .ok (.aload_n 0, 1) := by decide +kernel
theorem dX11_act_19 : decode cX11_act 19 = .ok (.getfield 50, 3) := by decide +kernel
theorem dX11_act_22 : decode cX11_act 22 = .ok (.iload_n 1, 1) := by decide +kernel
theorem dX11_act_23 : decode cX11_act 23 = .ok (.iaload, 1) := by decide +kernel
theorem dX11_act_24 : decode cX11_act 24 = .ok (.invokevirtual 80, 3) := by decide +kernel
theorem dX11_act_27 : decode cX11_act 27 = .ok (.goto 4, 3) := by decide +kernel
theorem dX11_act_30 : decode cX11_act 30 = .ok (.aconst_null, 1) := by decide +kernel
theorem dX11_act_31 : decode cX11_act 31 = .ok (.astore 4, 2) := by decide +kernel
theorem dX11_act_33 : decode cX11_act 33 = .ok (.aload 4, 2) := by decide +kernel
theorem dX11_act_35 : decode cX11_act 35 = .ok (.ifnonnull 5, 3) := by decide +kernel
theorem dX11_act_38 : decode cX11_act 38 = .ok (.iconst 0, 1) := by decide +kernel
theorem dX11_act_39 : decode cX11_act 39 = .ok (.ireturn, 1) := by decide +kernel
theorem dX11_act_40 : decode cX11_act 40 = .ok (.iconst 0, 1) := by decide +kernel
theorem dX11_act_41 : decode cX11_act 41 = .ok (.istore 5, 2) := by decide +kernel
theorem dX11_act_43 : decode cX11_act 43 = .ok (.iload_n 2, 1) := by decide +kernel
theorem dX11_act_44 : decode cX11_act 44 = .ok (.tableswitch 92 0 3 #[32, 47, 62, 77], 32) := by decide +kernel
theorem dX11_act_76 : decode cX11_act 76 = .ok (.aload 4, 2) := by decide +kernel
theorem dX11_act_78 : decode cX11_act 78 = .ok (.aload_n 0, 1) := by decide +kernel
theorem dX11_act_79 : decode cX11_act 79 = .ok (.getfield 33, 3) := by decide +kernel
theorem dX11_act_82 : decode cX11_act 82 = .ok (.iload_n 3, 1) := by decide +kernel
theorem dX11_act_83 : decode cX11_act 83 = .ok (.invokevirtual 260, 3) := by decide +kernel
theorem dX11_act_86 : decode cX11_act 86 = .ok (.istore 5, 2) := by decide +kernel
theorem dX11_act_88 : decode cX11_act 88 = .ok (.goto 48, 3) := by decide +kernel
theorem dX11_act_91 : decode cX11_act 91 = .ok (.aload 4, 2) := by decide +kernel
theorem dX11_act_93 : decode cX11_act 93 = .ok (.aload_n 0, 1) := by decide +kernel
theorem dX11_act_94 : decode cX11_act 94 = .ok (.getfield 33, 3) := by decide +kernel
theorem dX11_act_97 : decode cX11_act 97 = .ok (.iload_n 3, 1) := by decide +kernel
theorem dX11_act_98 : decode cX11_act 98 = .ok (.invokevirtual 264, 3) := by decide +kernel
theorem dX11_act_101 : decode cX11_act 101 = .ok (.istore 5, 2) := by decide +kernel
theorem dX11_act_103 : decode cX11_act 103 = .ok (.goto 33, 3) := by decide +kernel
theorem dX11_act_106 : decode cX11_act 106 = .ok (.aload 4, 2) := by decide +kernel
theorem dX11_act_108 : decode cX11_act 108 = .ok (.aload_n 0, 1) := by decide +kernel
theorem dX11_act_109 : decode cX11_act 109 = .ok (.getfield 33, 3) := by decide +kernel
theorem dX11_act_112 : decode cX11_act 112 = .ok (.iload_n 3, 1) := by decide +kernel
theorem dX11_act_113 : decode cX11_act 113 = .ok (.invokevirtual 267, 3) := by decide +kernel
theorem dX11_act_116 : decode cX11_act 116 = .ok (.istore 5, 2) := by decide +kernel
theorem dX11_act_118 : decode cX11_act 118 = .ok (.goto 18, 3) := by decide +kernel
theorem dX11_act_121 : decode cX11_act 121 = .ok (.aload 4, 2) := by decide +kernel
theorem dX11_act_123 : decode cX11_act 123 = .ok (.aload_n 0, 1) := by decide +kernel
theorem dX11_act_124 : decode cX11_act 124 = .ok (.getfield 33, 3) := by decide +kernel
theorem dX11_act_127 : decode cX11_act 127 = .ok (.iload_n 3, 1) := by decide +kernel
theorem dX11_act_128 : decode cX11_act 128 = .ok (.invokevirtual 270, 3) := by decide +kernel
theorem dX11_act_131 : decode cX11_act 131 = .ok (.istore 5, 2) := by decide +kernel
theorem dX11_act_133 : decode cX11_act 133 = .ok (.goto 3, 3) := by decide +kernel
theorem dX11_act_136 : decode cX11_act 136 = .ok (.aload_n 0, 1) := by decide +kernel
theorem dX11_act_137 : decode cX11_act 137 = .ok (.getfield 33, 3) := by decide +kernel
theorem dX11_act_140 : decode cX11_act 140 = .ok (.getfield 273, 3) := by decide +kernel
theorem dX11_act_143 : decode cX11_act 143 = .ok (.ifCond .eq 8, 3) := by decide +kernel
theorem dX11_act_146 : decode cX11_act 146 = .ok (.bipush (-15), 2) := by decide +kernel
theorem dX11_act_148 : decode cX11_act 148 = .ok (.goto 5, 3) := by decide +kernel
theorem dX11_act_151 : decode cX11_act 151 = .ok (.iload 5, 2) := by decide +kernel
theorem dX11_act_153 : decode cX11_act 153 = .ok (.ireturn, 1) := by decide +kernel
theorem dX11_trace_0 : decode cX11_trace 0 = .ok (.iload_n 1, 1) := by decide +kernel
theorem dX11_trace_1 : decode cX11_trace 1 = .ok (.ifCond .lt 26, 3) := by decide +kernel
theorem dX11_trace_4 : decode cX11_trace 4 = .ok (.iload_n 1, 1) := by decide +kernel
theorem dX11_trace_5 : decode cX11_trace 5 = .ok (.aload_n 0, 1) := by decide +kernel
theorem dX11_trace_6 : decode cX11_trace 6 = .ok (.getfield 33, 3) := by decide +kernel
theorem dX11_trace_9 : decode cX11_trace 9 = .ok (.getfield 276, 3) := by decide +kernel
theorem dX11_trace_12 : decode cX11_trace 12 = .ok (.if_icmp .ge 15, 3) := by decide +kernel
theorem dX11_trace_15 : decode cX11_trace 15 = .ok (.aload_n 0, 1) := by decide +kernel
theorem dX11_trace_16 : decode cX11_trace 16 = .ok (.getfield 33, 3) := by decide +kernel
theorem dX11_trace_19 : decode cX11_trace 19 = .ok (.getfield 277, 3) := by decide +kernel
theorem dX11_trace_22 : decode cX11_trace 22 = .ok (.iload_n 1, 1) := by decide +kernel
theorem dX11_trace_23 : decode cX11_trace 23 = .ok (.iaload, 1) := by decide +kernel
theorem dX11_trace_24 : decode cX11_trace 24 = .ok (.goto 5, 3) := by decide +kernel
theorem dX11_trace_27 : decode cX11_trace 27 = .ok (.bipush (-3), 2) := by decide +kernel
theorem dX11_trace_29 : decode cX11_trace 29 = .ok (.ireturn, 1) := by decide +kernel
theorem dX11_many_0 : decode cX11_many 0 = .ok (.iload_n 1, 1) := by decide +kernel
theorem dX11_many_1 : decode cX11_many 1 = .ok (.tableswitch 75 0 4 #[35, 43, 54, 59, 67], 35) := by decide +kernel
theorem dX11_many_36 : decode cX11_many 36 = .ok (.aload_n 0, 1) := by decide +kernel
theorem dX11_many_37 : decode cX11_many 37 = .ok (.getfield 10, 3) := by decide +kernel
theorem dX11_many_40 : decode cX11_many 40 = .ok (.getfield 71, 3) := by decide +kernel
theorem dX11_many_43 : decode cX11_many 43 = .ok (.ireturn, 1) := by decide +kernel
theorem dX11_many_44 : decode cX11_many 44 = .ok (.aload_n 0, 1) := by decide +kernel
theorem dX11_many_45 : decode cX11_many 45 = .ok (.getfield 10, 3) := by decide +kernel
theorem dX11_many_48 : decode cX11_many 48 = .ok (.invokevirtual 127, 3) := by decide +kernel
theorem dX11_many_51 : decode cX11_many 51 = .ok (.invokestatic 148, 3) := by decide +kernel
theorem dX11_many_54 : decode cX11_many 54 = .ok (.ireturn, 1) := by decide +kernel
theorem dX11_many_55 : decode cX11_many 55 = .ok (.aload_n 0, 1) := by decide +kernel
theorem dX11_many_56 : decode cX11_many 56 = .ok (.getfield 68, 3) := by decide +kernel
theorem dX11_many_59 : decode cX11_many 59 = .ok (.ireturn, 1) := by decide +kernel
theorem dX11_many_60 : decode cX11_many 60 = .ok (.aload_n 0, 1) := by decide +kernel
theorem dX11_many_61 : decode cX11_many 61 = .ok (.getfield 26, 3) := by decide +kernel
theorem dX11_many_64 : decode cX11_many 64 = .ok (.getfield 53, 3) := by decide +kernel
theorem dX11_many_67 : decode cX11_many 67 = .ok (.ireturn, 1) := by decide +kernel
theorem dX11_many_68 : decode cX11_many 68 = .ok (.aload_n 0, 1) := by decide +kernel
theorem dX11_many_69 : decode cX11_many 69 = .ok (.getfield 33, 3) := by decide +kernel
theorem dX11_many_72 : decode cX11_many 72 = .ok (.getfield 276, 3) := by decide +kernel
theorem dX11_many_75 : decode cX11_many 75 = .ok (.ireturn, 1) := by decide +kernel
theorem dX11_many_76 : decode cX11_many 76 = .ok (.iconst (-1), 1) := by decide +kernel
theorem dX11_many_77 : decode cX11_many 77 = .ok (.ireturn, 1) := by decide +kernel
theorem dX11_isPlace_0 : decode cX11_isPlace 0 = .ok (.iload_n 0, 1) := by decide +kernel
theorem dX11_isPlace_1 : decode cX11_isPlace 1 = .ok (.ifCond .lt 12, 3) := by decide +kernel
theorem dX11_isPlace_4 : decode cX11_isPlace 4 = .ok (.iload_n 0, 1) := by decide +kernel
theorem dX11_isPlace_5 : decode cX11_isPlace 5 = .ok (.iconst 4, 1) := by decide +kernel
theorem dX11_isPlace_6 : decode cX11_isPlace 6 = .ok (.if_icmp .ge 7, 3) := by decide +kernel
theorem dX11_isPlace_9 : decode cX11_isPlace 9 = .ok (.iconst 1, 1) := by decide +kernel
theorem dX11_isPlace_10 : decode cX11_isPlace 10 = .ok (.goto 4, 3) := by decide +kernel
theorem dX11_isPlace_13 : decode cX11_isPlace 13 = .ok (.iconst 0, 1) := by decide +kernel
theorem dX11_isPlace_14 : decode cX11_isPlace 14 = .ok (.ireturn, 1) := by decide +kernel
theorem dX11_keep_0 : decode cX11_keep 0 = .ok (.aload_n 0, 1) := by decide +kernel
theorem dX11_keep_1 : decode cX11_keep 1 = .ok (.aload_n 0, 1) := by decide +kernel
theorem dX11_keep_2 : decode cX11_keep 2 = .ok (.getfield 10, 3) := by decide +kernel
theorem dX11_keep_5 : decode cX11_keep 5 = .ok (.invokevirtual 280, 3) := by decide +kernel
theorem dX11_keep_8 : decode cX11_keep 8 = .ok (.putfield 284, 3) := by decide +kernel
theorem dX11_keep_11 : decode cX11_keep 11 = .ok (.iconst 1, 1) := by decide +kernel
theorem dX11_keep_12 : decode cX11_keep 12 = .ok (.ireturn, 1) := by decide +kernel
theorem dX11_again_0 : decode cX11_again 0 = .ok (.aload_n 0, 1) := by decide +kernel
theorem dX11_again_1 : decode cX11_again 1 = .ok (.getfield 284, 3) := by decide +kernel
theorem dX11_again_4 : decode cX11_again 4 = .ok (.ifnonnull 6, 3) := by decide +kernel
theorem dX11_again_7 : decode cX11_again 7 = .ok (.bipush (-3), 2) := by decide +kernel
theorem dX11_again_9 : decode cX11_again 9 = .ok (.ireturn, 1) := by decide +kernel
theorem dX11_again_10 : decode cX11_again 10 = .ok (.aload_n 0, 1) := by decide +kernel
theorem dX11_again_11 : decode cX11_again 11 = .ok (.aload_n 0, 1) := by decide +kernel
theorem dX11_again_12 : decode cX11_again 12 = .ok (.getfield 284, 3) := by decide +kernel
theorem dX11_again_15 : decode cX11_again 15 = .ok (.invokevirtual 280, 3) := by decide +kernel
theorem dX11_again_18 : decode cX11_again 18 = .ok (.putfield 10, 3) := by decide +kernel
theorem dX11_again_21 : decode cX11_again 21 = .ok (.aload_n 0, 1) := by decide +kernel
theorem dX11_again_22 : decode cX11_again 22 = .ok (.getfield 10, 3) := by decide +kernel
theorem dX11_again_25 : decode cX11_again 25 = .ok (.getfield 71, 3) := by decide +kernel
theorem dX11_again_28 : decode cX11_again 28 = .ok (.ireturn, 1) := by decide +kernel
theorem dX11_made_0 : decode cX11_made 0 = .ok (.iload_n 0, 1) := by decide +kernel
theorem dX11_made_1 : decode cX11_made 1 = .ok (.tableswitch 85 1 5 #[35, 45, 55, 65, 75], 35) := by decide +kernel
theorem dX11_made_36 : decode cX11_made 36 = .ok (.new 287, 3) := by decide +kernel
theorem dX11_made_39 : decode cX11_made 39 = .ok (.dup, 1) := by decide +kernel
theorem dX11_made_40 : decode cX11_made 40 = .ok (.iload_n 1, 1) := by decide +kernel
theorem dX11_made_41 : decode cX11_made 41 = .ok (.iload_n 2, 1) := by decide +kernel
theorem dX11_made_42 : decode cX11_made 42 = .ok (.invokespecial 289, 3) := by decide +kernel
theorem dX11_made_45 : decode cX11_made 45 = .ok (.areturn, 1) := by decide +kernel
theorem dX11_made_46 : decode cX11_made 46 = .ok (.new 290, 3) := by decide +kernel
theorem dX11_made_49 : decode cX11_made 49 = .ok (.dup, 1) := by decide +kernel
theorem dX11_made_50 : decode cX11_made 50 = .ok (.iload_n 1, 1) := by decide +kernel
theorem dX11_made_51 : decode cX11_made 51 = .ok (.iload_n 2, 1) := by decide +kernel
theorem dX11_made_52 : decode cX11_made 52 = .ok (.invokespecial 292, 3) := by decide +kernel
theorem dX11_made_55 : decode cX11_made 55 = .ok (.areturn, 1) := by decide +kernel
theorem dX11_made_56 : decode cX11_made 56 = .ok (.new 293, 3) := by decide +kernel
theorem dX11_made_59 : decode cX11_made 59 = .ok (.dup, 1) := by decide +kernel
theorem dX11_made_60 : decode cX11_made 60 = .ok (.iload_n 1, 1) := by decide +kernel
theorem dX11_made_61 : decode cX11_made 61 = .ok (.iload_n 2, 1) := by decide +kernel
theorem dX11_made_62 : decode cX11_made 62 = .ok (.invokespecial 295, 3) := by decide +kernel
theorem dX11_made_65 : decode cX11_made 65 = .ok (.areturn, 1) := by decide +kernel
theorem dX11_made_66 : decode cX11_made 66 = .ok (.new 296, 3) := by decide +kernel
theorem dX11_made_69 : decode cX11_made 69 = .ok (.dup, 1) := by decide +kernel
theorem dX11_made_70 : decode cX11_made 70 = .ok (.iload_n 1, 1) := by decide +kernel
theorem dX11_made_71 : decode cX11_made 71 = .ok (.iload_n 2, 1) := by decide +kernel
theorem dX11_made_72 : decode cX11_made 72 = .ok (.invokespecial 298, 3) := by decide +kernel
theorem dX11_made_75 : decode cX11_made 75 = .ok (.areturn, 1) := by decide +kernel
theorem dX11_made_76 : decode cX11_made 76 = .ok (.new 299, 3) := by decide +kernel
theorem dX11_made_79 : decode cX11_made 79 = .ok (.dup, 1) := by decide +kernel
theorem dX11_made_80 : decode cX11_made 80 = .ok (.iload_n 1, 1) := by decide +kernel
theorem dX11_made_81 : decode cX11_made 81 = .ok (.iload_n 2, 1) := by decide +kernel
theorem dX11_made_82 : decode cX11_made 82 = .ok (.invokespecial 301, 3) := by decide +kernel
theorem dX11_made_85 : decode cX11_made 85 = .ok (.areturn, 1) := by decide +kernel
theorem dX11_made_86 : decode cX11_made 86 = .ok (.new 85, 3) := by decide +kernel
theorem dX11_made_89 : decode cX11_made 89 = .ok (.dup, 1) := by decide +kernel
theorem dX11_made_90 : decode cX11_made 90 = .ok (.iload_n 1, 1) := by decide +kernel
theorem dX11_made_91 : decode cX11_made 91 = .ok (.iload_n 2, 1) := by decide +kernel
theorem dX11_made_92 : decode cX11_made 92 = .ok (.invokespecial 302, 3) := by decide +kernel
theorem dX11_made_95 : decode cX11_made 95 = .ok (.areturn, 1) := by decide +kernel
theorem dX11_likeness_0 : decode cX11_likeness 0 = .ok (.iload_n 1, 1) := by decide +kernel
theorem dX11_likeness_1 : decode cX11_likeness 1 = .ok (.aload_n 0, 1) := by decide +kernel
theorem dX11_likeness_2 : decode cX11_likeness 2 = .ok (.getfield 254, 3) := by decide +kernel
theorem dX11_likeness_5 : decode cX11_likeness 5 = .ok (.aload_n 0, 1) := by decide +kernel
theorem dX11_likeness_6 : decode cX11_likeness 6 = .ok (.getfield 90, 3) := by decide +kernel
theorem dX11_likeness_9 : decode cX11_likeness 9 = .ok (.invokestatic 72, 3) := by decide +kernel
theorem dX11_likeness_12 : decode cX11_likeness 12 = .ok (.astore_n 2, 1) := by decide +kernel
theorem dX11_likeness_13 : decode cX11_likeness 13 = .ok (.aload_n 2, 1) := by decide +kernel
theorem dX11_likeness_14 : decode cX11_likeness 14 = .ok (.aload_n 0, 1) := by decide +kernel
theorem dX11_likeness_15 : decode cX11_likeness 15 = .ok (.getfield 93, 3) := by decide +kernel
theorem dX11_likeness_18 : decode cX11_likeness 18 = .ok (.putfield 93, 3) := by decide +kernel
theorem dX11_likeness_21 : decode cX11_likeness 21 = .ok (.aload_n 2, 1) := by decide +kernel
theorem dX11_likeness_22 : decode cX11_likeness 22 = .ok (.aload_n 0, 1) := by decide +kernel
theorem dX11_likeness_23 : decode cX11_likeness 23 = .ok (.getfield 109, 3) := by decide +kernel
theorem dX11_likeness_26 : decode cX11_likeness 26 = .ok (.putfield 109, 3) := by decide +kernel
theorem dX11_likeness_29 : decode cX11_likeness 29 = .ok (.aload_n 2, 1) := by decide +kernel
theorem dX11_likeness_30 : decode cX11_likeness 30 = .ok (.aload_n 0, 1) := by decide +kernel
theorem dX11_likeness_31 : decode cX11_likeness 31 = .ok (.getfield 102, 3) := by decide +kernel
theorem dX11_likeness_34 : decode cX11_likeness 34 = .ok (.putfield 102, 3) := by decide +kernel
theorem dX11_likeness_37 : decode cX11_likeness 37 = .ok (.aload_n 2, 1) := by decide +kernel
theorem dX11_likeness_38 : decode cX11_likeness 38 = .ok (.aload_n 0, 1) := by decide +kernel
theorem dX11_likeness_39 : decode cX11_likeness 39 = .ok (.getfield 99, 3) := by decide +kernel
theorem dX11_likeness_42 : decode cX11_likeness 42 = .ok (.putfield 99, 3) := by decide +kernel
theorem dX11_likeness_45 : decode cX11_likeness 45 = .ok (.aload_n 2, 1) := by decide +kernel
theorem dX11_likeness_46 : decode cX11_likeness 46 = .ok (.aload_n 0, 1) := by decide +kernel
theorem dX11_likeness_47 : decode cX11_likeness 47 = .ok (.getfield 105, 3) := by decide +kernel
theorem dX11_likeness_50 : decode cX11_likeness 50 = .ok (.putfield 105, 3) := by decide +kernel
theorem dX11_likeness_53 : decode cX11_likeness 53 = .ok (.aload_n 2, 1) := by decide +kernel
theorem dX11_likeness_54 : decode cX11_likeness 54 = .ok (.areturn, 1) := by decide +kernel
theorem dX11_isOfKind_0 : decode cX11_isOfKind 0 = .ok (.iload_n 1, 1) := by decide +kernel
theorem dX11_isOfKind_1 : decode cX11_isOfKind 1 = .ok (.tableswitch 66 0 5 #[39, 41, 46, 51, 56, 61], 39) := by decide +kernel
theorem dX11_isOfKind_40 : decode cX11_isOfKind 40 = .ok (.iconst 1, 1) := by decide +kernel
theorem dX11_isOfKind_41 : decode cX11_isOfKind 41 = .ok (.ireturn, 1) := by decide +kernel
theorem dX11_isOfKind_42 : decode cX11_isOfKind 42 = .ok (.aload_n 0, 1) := by decide +kernel
theorem dX11_isOfKind_43 : decode cX11_isOfKind 43 = .ok (.instanceof 287, 3) := by decide +kernel
theorem dX11_isOfKind_46 : decode cX11_isOfKind 46 = .ok (.ireturn, 1) := by decide +kernel
theorem dX11_isOfKind_47 : decode cX11_isOfKind 47 = .ok (.aload_n 0, 1) := by decide +kernel
theorem dX11_isOfKind_48 : decode cX11_isOfKind 48 = .ok (.instanceof 290, 3) := by decide +kernel
theorem dX11_isOfKind_51 : decode cX11_isOfKind 51 = .ok (.ireturn, 1) := by decide +kernel
theorem dX11_isOfKind_52 : decode cX11_isOfKind 52 = .ok (.aload_n 0, 1) := by decide +kernel
theorem dX11_isOfKind_53 : decode cX11_isOfKind 53 = .ok (.instanceof 293, 3) := by decide +kernel
theorem dX11_isOfKind_56 : decode cX11_isOfKind 56 = .ok (.ireturn, 1) := by decide +kernel
theorem dX11_isOfKind_57 : decode cX11_isOfKind 57 = .ok (.aload_n 0, 1) := by decide +kernel
theorem dX11_isOfKind_58 : decode cX11_isOfKind 58 = .ok (.instanceof 296, 3) := by decide +kernel
theorem dX11_isOfKind_61 : decode cX11_isOfKind 61 = .ok (.ireturn, 1) := by decide +kernel
theorem dX11_isOfKind_62 : decode cX11_isOfKind 62 = .ok (.aload_n 0, 1) := by decide +kernel
theorem dX11_isOfKind_63 : decode cX11_isOfKind 63 = .ok (.instanceof 299, 3) := by decide +kernel
theorem dX11_isOfKind_66 : decode cX11_isOfKind 66 = .ok (.ireturn, 1) := by decide +kernel
theorem dX11_isOfKind_67 : decode cX11_isOfKind 67 = .ok (.iconst 0, 1) := by decide +kernel
theorem dX11_isOfKind_68 : decode cX11_isOfKind 68 = .ok (.ireturn, 1) := by decide +kernel
theorem dX12_init_0 : decode cX12_init 0 = .ok (.aload_n 0, 1) := by decide +kernel
theorem dX12_init_1 : decode cX12_init 1 = .ok (.invokespecial 1, 3) := by decide +kernel
theorem dX12_init_4 : decode cX12_init 4 = .ok (.aload_n 0, 1) := by decide +kernel
theorem dX12_init_5 : decode cX12_init 5 = .ok (.bipush 8, 2) := by decide +kernel
theorem dX12_init_7 : decode cX12_init 7 = .ok (.newarray .int, 2) := by decide +kernel
theorem dX12_init_9 : decode cX12_init 9 = .ok (.putfield 7, 3) := by decide +kernel
theorem dX12_init_12 : decode cX12_init 12 = .ok (.aload_n 0, 1) := by decide +kernel
theorem dX12_init_13 : decode cX12_init 13 = .ok (.bipush 8, 2) := by decide +kernel
theorem dX12_init_15 : decode cX12_init 15 = .ok (.newarray .int, 2) := by decide +kernel
theorem dX12_init_17 : decode cX12_init 17 = .ok (.putfield 13, 3) := by decide +kernel
theorem dX12_init_20 : decode cX12_init 20 = .ok (.aload_n 0, 1) := by decide +kernel
theorem dX12_init_21 : decode cX12_init 21 = .ok (.bipush 8, 2) := by decide +kernel
theorem dX12_init_23 : decode cX12_init 23 = .ok (.newarray .int, 2) := by decide +kernel
theorem dX12_init_25 : decode cX12_init 25 = .ok (.putfield 16, 3) := by decide +kernel
theorem dX12_init_28 : decode cX12_init 28 = .ok (.aload_n 0, 1) := by decide +kernel
theorem dX12_init_29 : decode cX12_init 29 = .ok (.bipush 8, 2) := by decide +kernel
theorem dX12_init_31 : decode cX12_init 31 = .ok (.newarray .int, 2) := by decide +kernel
theorem dX12_init_33 : decode cX12_init 33 = .ok (.putfield 19, 3) := by decide +kernel
theorem dX12_init_36 : decode cX12_init 36 = .ok (.aload_n 0, 1) := by decide +kernel
theorem dX12_init_37 : decode cX12_init 37 = .ok (.bipush 8, 2) := by decide +kernel
theorem dX12_init_39 : decode cX12_init 39 = .ok (.newarray .int, 2) := by decide +kernel
theorem dX12_init_41 : decode cX12_init 41 = .ok (.putfield 22, 3) := by decide +kernel
theorem dX12_init_44 : decode cX12_init 44 = .ok (.aload_n 0, 1) := by decide +kernel
theorem dX12_init_45 : decode cX12_init 45 = .ok (.bipush 8, 2) := by decide +kernel
theorem dX12_init_47 : decode cX12_init 47 = .ok (.newarray .int, 2) := by decide +kernel
theorem dX12_init_49 : decode cX12_init 49 = .ok (.putfield 25, 3) := by decide +kernel
theorem dX12_init_52 : decode cX12_init 52 = .ok (.aload_n 0, 1) := by decide +kernel
theorem dX12_init_53 : decode cX12_init 53 = .ok (.bipush 64, 2) := by decide +kernel
theorem dX12_init_55 : decode cX12_init 55 = .ok (.newarray .int, 2) := by decide +kernel
theorem dX12_init_57 : decode cX12_init 57 = .ok (.putfield 28, 3) := by decide +kernel
theorem dX12_init_60 : decode cX12_init 60 = .ok (.aload_n 0, 1) := by decide +kernel
theorem dX12_init_61 : decode cX12_init 61 = .ok (.iconst 1, 1) := by decide +kernel
theorem dX12_init_62 : decode cX12_init 62 = .ok (.putfield 31, 3) := by decide +kernel
theorem dX12_init_65 : decode cX12_init 65 = .ok (.aload_n 0, 1) := by decide +kernel
theorem dX12_init_66 : decode cX12_init 66 = .ok (.sipush 200, 3) := by decide +kernel
theorem dX12_init_69 : decode cX12_init 69 = .ok (.newarray .int, 2) := by decide +kernel
theorem dX12_init_71 : decode cX12_init 71 = .ok (.putfield 35, 3) := by decide +kernel
theorem dX12_init_74 : decode cX12_init 74 = .ok (.aload_n 0, 1) := by decide +kernel
theorem dX12_init_75 : decode cX12_init 75 = .ok (.bipush 8, 2) := by decide +kernel
theorem dX12_init_77 : decode cX12_init 77 = .ok (.newarray .int, 2) := by decide +kernel
theorem dX12_init_79 : decode cX12_init 79 = .ok (.putfield 38, 3) := by decide +kernel
theorem dX12_init_82 : decode cX12_init 82 = .ok (.aload_n 0, 1) := by decide +kernel
theorem dX12_init_83 : decode cX12_init 83 = .ok (.bipush 8, 2) := by decide +kernel
theorem dX12_init_85 : decode cX12_init 85 = .ok (.newarray .int, 2) := by decide +kernel
theorem dX12_init_87 : decode cX12_init 87 = .ok (.putfield 41, 3) := by decide +kernel
theorem dX12_init_90 : decode cX12_init 90 = .ok (.aload_n 0, 1) := by decide +kernel
theorem dX12_init_91 : decode cX12_init 91 = .ok (.bipush 8, 2) := by decide +kernel
theorem dX12_init_93 : decode cX12_init 93 = .ok (.newarray .int, 2) := by decide +kernel
theorem dX12_init_95 : decode cX12_init 95 = .ok (.putfield 44, 3) := by decide +kernel
theorem dX12_init_98 : decode cX12_init 98 = .ok (.aload_n 0, 1) := by decide +kernel
theorem dX12_init_99 : decode cX12_init 99 = .ok (.bipush 8, 2) := by decide +kernel
theorem dX12_init_101 : decode cX12_init 101 = .ok (.newarray .int, 2) := by decide +kernel
theorem dX12_init_103 : decode cX12_init 103 = .ok (.putfield 47, 3) := by decide +kernel
theorem dX12_init_106 : decode cX12_init 106 = .ok (.aload_n 0, 1) := by decide +kernel
theorem dX12_init_107 : decode cX12_init 107 = .ok (.bipush 64, 2) := by decide +kernel
theorem dX12_init_109 : decode cX12_init 109 = .ok (.newarray .int, 2) := by decide +kernel
theorem dX12_init_111 : decode cX12_init 111 = .ok (.putfield 50, 3) := by decide +kernel
theorem dX12_init_114 : decode cX12_init 114 = .ok (.aload_n 0, 1) := by decide +kernel
theorem dX12_init_115 : decode cX12_init 115 = .ok (.sipush 256, 3) := by decide +kernel
theorem dX12_init_118 : decode cX12_init 118 = .ok (.newarray .int, 2) := by decide +kernel
theorem dX12_init_120 : decode cX12_init 120 = .ok (.putfield 53, 3) := by decide +kernel
theorem dX12_init_123 : decode cX12_init 123 = .ok (.aload_n 0, 1) := by decide +kernel
theorem dX12_init_124 : decode cX12_init 124 = .ok (.sipush 256, 3) := by decide +kernel
theorem dX12_init_127 : decode cX12_init 127 = .ok (.newarray .int, 2) := by decide +kernel
theorem dX12_init_129 : decode cX12_init 129 = .ok (.putfield 56, 3) := by decide +kernel
theorem dX12_init_132 : decode cX12_init 132 = .ok (.aload_n 0, 1) := by decide +kernel
theorem dX12_init_133 : decode cX12_init 133 = .ok (.sipush 256, 3) := by decide +kernel
theorem dX12_init_136 : decode cX12_init 136 = .ok (.newarray .int, 2) := by decide +kernel
theorem dX12_init_138 : decode cX12_init 138 = .ok (.putfield 59, 3) := by decide +kernel
theorem dX12_init_141 : decode cX12_init 141 = .ok (.aload_n 0, 1) := by decide +kernel
theorem dX12_init_142 : decode cX12_init 142 = .ok (.sipush 256, 3) := by decide +kernel
theorem dX12_init_145 : decode cX12_init 145 = .ok (.newarray .int, 2) := by decide +kernel
theorem dX12_init_147 : decode cX12_init 147 = .ok (.putfield 62, 3) := by decide +kernel
theorem dX12_init_150 : decode cX12_init 150 = .ok (.aload_n 0, 1) := by decide +kernel
theorem dX12_init_151 : decode cX12_init 151 = .ok (.sipush 256, 3) := by decide +kernel
theorem dX12_init_154 : decode cX12_init 154 = .ok (.newarray .int, 2) := by decide +kernel
theorem dX12_init_156 : decode cX12_init 156 = .ok (.putfield 65, 3) := by decide +kernel
theorem dX12_init_159 : decode cX12_init 159 = .ok (.aload_n 0, 1) := by decide +kernel
theorem dX12_init_160 : decode cX12_init 160 = .ok (.bipush 8, 2) := by decide +kernel
theorem dX12_init_162 : decode cX12_init 162 = .ok (.newarray .int, 2) := by decide +kernel
theorem dX12_init_164 : decode cX12_init 164 = .ok (.putfield 68, 3) := by decide +kernel
theorem dX12_init_167 : decode cX12_init 167 = .ok (.aload_n 0, 1) := by decide +kernel
theorem dX12_init_168 : decode cX12_init 168 = .ok (.bipush 8, 2) := by decide +kernel
theorem dX12_init_170 : decode cX12_init 170 = .ok (.newarray .int, 2) := by decide +kernel
theorem dX12_init_172 : decode cX12_init 172 = .ok (.putfield 71, 3) := by decide +kernel
theorem dX12_init_175 : decode cX12_init 175 = .ok (.aload_n 0, 1) := by decide +kernel
theorem dX12_init_176 : decode cX12_init 176 = .ok (.bipush 24, 2) := by decide +kernel
theorem dX12_init_178 : decode cX12_init 178 = .ok (.newarray .int, 2) := by decide +kernel
theorem dX12_init_180 : decode cX12_init 180 = .ok (.putfield 74, 3) := by decide +kernel
theorem dX12_init_183 : decode cX12_init 183 = .ok (.aload_n 0, 1) := by decide +kernel
theorem dX12_init_184 : decode cX12_init 184 = .ok (.iconst 4, 1) := by decide +kernel
theorem dX12_init_185 : decode cX12_init 185 = .ok (.newarray .int, 2) := by decide +kernel
theorem dX12_init_187 : decode cX12_init 187 = .ok (.dup, 1) := by decide +kernel
theorem dX12_init_188 : decode cX12_init 188 = .ok (.iconst 0, 1) := by decide +kernel
theorem dX12_init_189 : decode cX12_init 189 = .ok (.iconst (-1), 1) := by decide +kernel
theorem dX12_init_190 : decode cX12_init 190 = .ok (.iastore, 1) := by decide +kernel
theorem dX12_init_191 : decode cX12_init 191 = .ok (.dup, 1) := by decide +kernel
theorem dX12_init_192 : decode cX12_init 192 = .ok (.iconst 1, 1) := by decide +kernel
theorem dX12_init_193 : decode cX12_init 193 = .ok (.iconst (-1), 1) := by decide +kernel
theorem dX12_init_194 : decode cX12_init 194 = .ok (.iastore, 1) := by decide +kernel
theorem dX12_init_195 : decode cX12_init 195 = .ok (.dup, 1) := by decide +kernel
theorem dX12_init_196 : decode cX12_init 196 = .ok (.iconst 2, 1) := by decide +kernel
theorem dX12_init_197 : decode cX12_init 197 = .ok (.iconst (-1), 1) := by decide +kernel
theorem dX12_init_198 : decode cX12_init 198 = .ok (.iastore, 1) := by decide +kernel
theorem dX12_init_199 : decode cX12_init 199 = .ok (.dup, 1) := by decide +kernel
theorem dX12_init_200 : decode cX12_init 200 = .ok (.iconst 3, 1) := by decide +kernel
theorem dX12_init_201 : decode cX12_init 201 = .ok (.iconst (-1), 1) := by decide +kernel
theorem dX12_init_202 : decode cX12_init 202 = .ok (.iastore, 1) := by decide +kernel
theorem dX12_init_203 : decode cX12_init 203 = .ok (.putfield 77, 3) := by decide +kernel
theorem dX12_init_206 : decode cX12_init 206 = .ok (.aload_n 0, 1) := by decide +kernel
theorem dX12_init_207 : decode cX12_init 207 = .ok (.iconst 4, 1) := by decide +kernel
theorem dX12_init_208 : decode cX12_init 208 = .ok (.newarray .int, 2) := by decide +kernel
theorem dX12_init_210 : decode cX12_init 210 = .ok (.putfield 80, 3) := by decide +kernel
theorem dX12_init_213 : decode cX12_init 213 = .ok (.aload_n 0, 1) := by decide +kernel
theorem dX12_init_214 : decode cX12_init 214 = .ok (.sipush 160, 3) := by decide +kernel
theorem dX12_init_217 : decode cX12_init 217 = .ok (.newarray .long, 2) := by decide +kernel
theorem dX12_init_219 : decode cX12_init 219 = .ok (.putfield 83, 3) := by decide +kernel
theorem dX12_init_222 : decode cX12_init 222 = .ok (.aload_n 0, 1) := by decide +kernel
theorem dX12_init_223 : decode cX12_init 223 = .ok (.iconst 4, 1) := by decide +kernel
theorem dX12_init_224 : decode cX12_init 224 = .ok (.newarray .int, 2) := by decide +kernel
theorem dX12_init_226 : decode cX12_init 226 = .ok (.dup, 1) := by decide +kernel
theorem dX12_init_227 : decode cX12_init 227 = .ok (.iconst 0, 1) := by decide +kernel
theorem dX12_init_228 : decode cX12_init 228 = .ok (.iconst (-1), 1) := by decide +kernel
theorem dX12_init_229 : decode cX12_init 229 = .ok (.iastore, 1) := by decide +kernel
theorem dX12_init_230 : decode cX12_init 230 = .ok (.dup, 1) := by decide +kernel
theorem dX12_init_231 : decode cX12_init 231 = .ok (.iconst 1, 1) := by decide +kernel
theorem dX12_init_232 : decode cX12_init 232 = .ok (.iconst (-1), 1) := by decide +kernel
theorem dX12_init_233 : decode cX12_init 233 = .ok (.iastore, 1) := by decide +kernel
theorem dX12_init_234 : decode cX12_init 234 = .ok (.dup, 1) := by decide +kernel
theorem dX12_init_235 : decode cX12_init 235 = .ok (.iconst 2, 1) := by decide +kernel
theorem dX12_init_236 : decode cX12_init 236 = .ok (.iconst (-1), 1) := by decide +kernel
theorem dX12_init_237 : decode cX12_init 237 = .ok (.iastore, 1) := by decide +kernel
theorem dX12_init_238 : decode cX12_init 238 = .ok (.dup, 1) := by decide +kernel
theorem dX12_init_239 : decode cX12_init 239 = .ok (.iconst 3, 1) := by decide +kernel
theorem dX12_init_240 : decode cX12_init 240 = .ok (.iconst (-1), 1) := by decide +kernel
theorem dX12_init_241 : decode cX12_init 241 = .ok (.iastore, 1) := by decide +kernel
theorem dX12_init_242 : decode cX12_init 242 = .ok (.putfield 87, 3) := by decide +kernel
theorem dX12_init_245 : decode cX12_init 245 = .ok (.aload_n 0, 1) := by decide +kernel
theorem dX12_init_246 : decode cX12_init 246 = .ok (.iconst 4, 1) := by decide +kernel
theorem dX12_init_247 : decode cX12_init 247 = .ok (.newarray .int, 2) := by decide +kernel
theorem dX12_init_249 : decode cX12_init 249 = .ok (.putfield 90, 3) := by decide +kernel
theorem dX12_init_252 : decode cX12_init 252 = .ok (.aload_n 0, 1) := by decide +kernel
theorem dX12_init_253 : decode cX12_init 253 = .ok (.iconst 4, 1) := by decide +kernel
theorem dX12_init_254 : decode cX12_init 254 = .ok (.newarray .int, 2) := by decide +kernel
theorem dX12_init_256 : decode cX12_init 256 = .ok (.putfield 93, 3) := by decide +kernel
theorem dX12_init_259 : decode cX12_init 259 = .ok (.aload_n 0, 1) := by decide +kernel
theorem dX12_init_260 : decode cX12_init 260 = .ok (.bipush 30, 2) := by decide +kernel
theorem dX12_init_262 : decode cX12_init 262 = .ok (.newarray .int, 2) := by decide +kernel
theorem dX12_init_264 : decode cX12_init 264 = .ok (.putfield 96, 3) := by decide +kernel
theorem dX12_init_267 : decode cX12_init 267 = .ok (.aload_n 0, 1) := by decide +kernel
theorem dX12_init_268 : decode cX12_init 268 = .ok (.bipush 120, 2) := by decide +kernel
theorem dX12_init_270 : decode cX12_init 270 = .ok (.newarray .int, 2) := by decide +kernel
theorem dX12_init_272 : decode cX12_init 272 = .ok (.putfield 99, 3) := by decide +kernel
theorem dX12_init_275 : decode cX12_init 275 = .ok (.aload_n 0, 1) := by decide +kernel
theorem dX12_init_276 : decode cX12_init 276 = .ok (.iconst 4, 1) := by decide +kernel
theorem dX12_init_277 : decode cX12_init 277 = .ok (.newarray .int, 2) := by decide +kernel
theorem dX12_init_279 : decode cX12_init 279 = .ok (.putfield 102, 3) := by decide +kernel
theorem dX12_init_282 : decode cX12_init 282 = .ok (.return_, 1) := by decide +kernel
theorem dX12_in_0 : decode cX12_in 0 = .ok (.iload_n 0, 1) := by decide +kernel
theorem dX12_in_1 : decode cX12_in 1 = .ok (.iload_n 1, 1) := by decide +kernel
theorem dX12_in_2 : decode cX12_in 2 = .ok (.if_icmp .lt 12, 3) := by decide +kernel
theorem dX12_in_5 : decode cX12_in 5 = .ok (.iload_n 0, 1) := by decide +kernel
theorem dX12_in_6 : decode cX12_in 6 = .ok (.iload_n 2, 1) := by decide +kernel
theorem dX12_in_7 : decode cX12_in 7 = .ok (.if_icmp .gt 7, 3) := by decide +kernel
theorem dX12_in_10 : decode cX12_in 10 = .ok (.iconst 1, 1) := by decide +kernel
theorem dX12_in_11 : decode cX12_in 11 = .ok (.goto 4, 3) := by decide +kernel
theorem dX12_in_14 : decode cX12_in 14 = .ok (.iconst 0, 1) := by decide +kernel
theorem dX12_in_15 : decode cX12_in 15 = .ok (.ireturn, 1) := by decide +kernel
theorem dX12_isPerson_0 : decode cX12_isPerson 0 = .ok (.iload_n 1, 1) := by decide +kernel
theorem dX12_isPerson_1 : decode cX12_isPerson 1 = .ok (.iconst 0, 1) := by decide +kernel
theorem dX12_isPerson_2 : decode cX12_isPerson 2 = .ok (.aload_n 0, 1) := by decide +kernel
theorem dX12_isPerson_3 : decode cX12_isPerson 3 = .ok (.getfield 105, 3) := by decide +kernel
theorem dX12_isPerson_6 : decode cX12_isPerson 6 = .ok (.iconst 1, 1) := by decide +kernel
theorem dX12_isPerson_7 : decode cX12_isPerson 7 = .ok (.isub, 1) := by decide +kernel
theorem dX12_isPerson_8 : decode cX12_isPerson 8 = .ok (.invokestatic 108, 3) := by decide +kernel
theorem dX12_isPerson_11 : decode cX12_isPerson 11 = .ok (.ireturn, 1) := by decide +kernel
theorem dX12_has_0 : decode cX12_has 0 = .ok (.iload_n 0, 1) := by decide +kernel
theorem dX12_has_1 : decode cX12_has 1 = .ok (.iload_n 1, 1) := by decide +kernel
theorem dX12_has_2 : decode cX12_has 2 = .ok (.ishr, 1) := by decide +kernel
theorem dX12_has_3 : decode cX12_has 3 = .ok (.iconst 1, 1) := by decide +kernel
theorem dX12_has_4 : decode cX12_has 4 = .ok (.iand, 1) := by decide +kernel
theorem dX12_has_5 : decode cX12_has 5 = .ok (.iconst 1, 1) := by decide +kernel
theorem dX12_has_6 : decode cX12_has 6 = .ok (.if_icmp .ne 7, 3) := by decide +kernel
theorem dX12_has_9 : decode cX12_has 9 = .ok (.iconst 1, 1) := by decide +kernel
theorem dX12_has_10 : decode cX12_has 10 = .ok (.goto 4, 3) := by decide +kernel
theorem dX12_has_13 : decode cX12_has 13 = .ok (.iconst 0, 1) := by decide +kernel
theorem dX12_has_14 : decode cX12_has 14 = .ok (.ireturn, 1) := by decide +kernel
theorem dX12_ones_0 : decode cX12_ones 0 = .ok (.iconst 0, 1) := by decide +kernel
theorem dX12_ones_1 : decode cX12_ones 1 = .ok (.istore_n 1, 1) := by decide +kernel
theorem dX12_ones_2 : decode cX12_ones 2 = .ok (.iload_n 0, 1) := by decide +kernel
theorem dX12_ones_3 : decode cX12_ones 3 = .ok (.istore_n 2, 1) := by decide +kernel
theorem dX12_ones_4 : decode cX12_ones 4 = .ok (.iload_n 2, 1) := by decide +kernel
theorem dX12_ones_5 : decode cX12_ones 5 = .ok (.ifCond .eq 15, 3) := by decide +kernel
theorem dX12_ones_8 : decode cX12_ones 8 = .ok (.iinc 1 1, 3) := by decide +kernel
theorem dX12_ones_11 : decode cX12_ones 11 = .ok (.iload_n 2, 1) := by decide +kernel
theorem dX12_ones_12 : decode cX12_ones 12 = .ok (.iload_n 2, 1) := by decide +kernel
theorem dX12_ones_13 : decode cX12_ones 13 = .ok (.iconst 1, 1) := by decide +kernel
theorem dX12_ones_14 : decode cX12_ones 14 = .ok (.isub, 1) := by decide +kernel
theorem dX12_ones_15 : decode cX12_ones 15 = .ok (.iand, 1) := by decide +kernel
theorem dX12_ones_16 : decode cX12_ones 16 = .ok (.istore_n 2, 1) := by decide +kernel
theorem dX12_ones_17 : decode cX12_ones 17 = .ok (.goto (-13), 3) := by decide +kernel
theorem dX12_ones_20 : decode cX12_ones 20 = .ok (.iload_n 1, 1) := by decide +kernel
theorem dX12_ones_21 : decode cX12_ones 21 = .ok (.ireturn, 1) := by decide +kernel
theorem dX12_feed_0 : decode cX12_feed 0 = .ok (.iload_n 3, 1) := by decide +kernel
theorem dX12_feed_1 : decode cX12_feed 1 = .ok (.iconst 1, 1) := by decide +kernel
theorem dX12_feed_2 : decode cX12_feed 2 = .ok (.bipush 8, 2) := by decide +kernel
theorem dX12_feed_4 : decode cX12_feed 4 = .ok (.invokestatic 108, 3) := by decide +kernel
theorem dX12_feed_7 : decode cX12_feed 7 = .ok (.ifCond .ne 5, 3) := by decide +kernel
theorem dX12_feed_10 : decode cX12_feed 10 = .ok (.iconst (-1), 1) := by decide +kernel
theorem dX12_feed_11 : decode cX12_feed 11 = .ok (.ireturn, 1) := by decide +kernel
theorem dX12_feed_12 : decode cX12_feed 12 = .ok (.aload_n 0, 1) := by decide +kernel
theorem dX12_feed_13 : decode cX12_feed 13 = .ok (.getfield 112, 3) := by decide +kernel
theorem dX12_feed_16 : decode cX12_feed 16 = .ok (.iload_n 3, 1) := by decide +kernel
theorem dX12_feed_17 : decode cX12_feed 17 = .ok (.iadd, 1) := by decide +kernel
theorem dX12_feed_18 : decode cX12_feed 18 = .ok (.sipush 200, 3) := by decide +kernel
theorem dX12_feed_21 : decode cX12_feed 21 = .ok (.if_icmp .le 6, 3) := by decide +kernel
theorem dX12_feed_24 : decode cX12_feed 24 = .ok (.bipush (-2), 2) := by decide +kernel
theorem dX12_feed_26 : decode cX12_feed 26 = .ok (.ireturn, 1) := by decide +kernel
theorem dX12_feed_27 : decode cX12_feed 27 = .ok (.iconst 0, 1) := by decide +kernel
theorem dX12_feed_28 : decode cX12_feed 28 = .ok (.istore 4, 2) := by decide +kernel
theorem dX12_feed_30 : decode cX12_feed 30 = .ok (.iload 4, 2) := by decide +kernel
theorem dX12_feed_32 : decode cX12_feed 32 = .ok (.iload_n 3, 1) := by decide +kernel
theorem dX12_feed_33 : decode cX12_feed 33 = .ok (.if_icmp .ge 40, 3) := by decide +kernel
theorem dX12_feed_36 : decode cX12_feed 36 = .ok (.aload_n 0, 1) := by decide +kernel
theorem dX12_feed_37 : decode cX12_feed 37 = .ok (.getfield 35, 3) := by decide +kernel
theorem dX12_feed_40 : decode cX12_feed 40 = .ok (.aload_n 0, 1) := by decide +kernel
theorem dX12_feed_41 : decode cX12_feed 41 = .ok (.getfield 112, 3) := by decide +kernel
theorem dX12_feed_44 : decode cX12_feed 44 = .ok (.lload_n 1, 1) := by decide +kernel
theorem dX12_feed_45 : decode cX12_feed 45 = .ok (.bipush 8, 2) := by decide +kernel
theorem dX12_feed_47 : decode cX12_feed 47 = .ok (.iload 4, 2) := by decide +kernel
theorem dX12_feed_49 : decode cX12_feed 49 = .ok (.imul, 1) := by decide +kernel
theorem dX12_feed_50 : decode cX12_feed 50 = .ok (.lshr, 1) := by decide +kernel
theorem dX12_feed_51 : decode cX12_feed 51 = .ok (.ldc2_w 115, 3) := by decide +kernel
theorem dX12_feed_54 : decode cX12_feed 54 = .ok (.land, 1) := by decide +kernel
theorem dX12_feed_55 : decode cX12_feed 55 = .ok (.l2i, 1) := by decide +kernel
theorem dX12_feed_56 : decode cX12_feed 56 = .ok (.iastore, 1) := by decide +kernel
theorem dX12_feed_57 : decode cX12_feed 57 = .ok (.aload_n 0, 1) := by decide +kernel
theorem dX12_feed_58 : decode cX12_feed 58 = .ok (.dup, 1) := by decide +kernel
theorem dX12_feed_59 : decode cX12_feed 59 = .ok (.getfield 112, 3) := by decide +kernel
theorem dX12_feed_62 : decode cX12_feed 62 = .ok (.iconst 1, 1) := by decide +kernel
theorem dX12_feed_63 : decode cX12_feed 63 = .ok (.iadd, 1) := by decide +kernel
theorem dX12_feed_64 : decode cX12_feed 64 = .ok (.putfield 112, 3) := by decide +kernel
theorem dX12_feed_67 : decode cX12_feed 67 = .ok (.iinc 4 1, 3) := by decide +kernel
theorem dX12_feed_70 : decode cX12_feed 70 = .ok (.goto (-40), 3) := by decide +kernel
theorem dX12_feed_73 : decode cX12_feed 73 = .ok (.aload_n 0, 1) := by decide +kernel
theorem dX12_feed_74 : decode cX12_feed 74 = .ok (.getfield 112, 3) := by decide +kernel
theorem dX12_feed_77 : decode cX12_feed 77 = .ok (.ireturn, 1) := by decide +kernel
theorem dX12_byteAt_0 : decode cX12_byteAt 0 = .ok (.iload_n 1, 1) := by decide +kernel
theorem dX12_byteAt_1 : decode cX12_byteAt 1 = .ok (.aload_n 0, 1) := by decide +kernel
theorem dX12_byteAt_2 : decode cX12_byteAt 2 = .ok (.getfield 112, 3) := by decide +kernel
theorem dX12_byteAt_5 : decode cX12_byteAt 5 = .ok (.if_icmp .ge 12, 3) := by decide +kernel
theorem dX12_byteAt_8 : decode cX12_byteAt 8 = .ok (.aload_n 0, 1) := by decide +kernel
theorem dX12_byteAt_9 : decode cX12_byteAt 9 = .ok (.getfield 35, 3) := by decide +kernel
theorem dX12_byteAt_12 : decode cX12_byteAt 12 = .ok (.iload_n 1, 1) := by decide +kernel
theorem dX12_byteAt_13 : decode cX12_byteAt 13 = .ok (.iaload, 1) := by decide +kernel
theorem dX12_byteAt_14 : decode cX12_byteAt 14 = .ok (.goto 4, 3) := by decide +kernel
theorem dX12_byteAt_17 : decode cX12_byteAt 17 = .ok (.iconst (-1), 1) := by decide +kernel
theorem dX12_byteAt_18 : decode cX12_byteAt 18 = .ok (.ireturn, 1) := by decide +kernel
theorem dX12_isLetter_0 : decode cX12_isLetter 0 = .ok (.iload_n 0, 1) := by decide +kernel
theorem dX12_isLetter_1 : decode cX12_isLetter 1 = .ok (.bipush 97, 2) := by decide +kernel
theorem dX12_isLetter_3 : decode cX12_isLetter 3 = .ok (.bipush 122, 2) := by decide +kernel
theorem dX12_isLetter_5 : decode cX12_isLetter 5 = .ok (.invokestatic 108, 3) := by decide +kernel
theorem dX12_isLetter_8 : decode cX12_isLetter 8 = .ok (.ireturn, 1) := by decide +kernel
theorem dX12_isDigit_0 : decode cX12_isDigit 0 = .ok (.iload_n 0, 1) := by decide +kernel
theorem dX12_isDigit_1 : decode cX12_isDigit 1 = .ok (.bipush 48, 2) := by decide +kernel
theorem dX12_isDigit_3 : decode cX12_isDigit 3 = .ok (.bipush 57, 2) := by decide +kernel
theorem dX12_isDigit_5 : decode cX12_isDigit 5 = .ok (.invokestatic 108, 3) := by decide +kernel
theorem dX12_isDigit_8 : decode cX12_isDigit 8 = .ok (.ireturn, 1) := by decide +kernel
theorem dX12_advance_0 : decode cX12_advance 0 = .ok (.aload_n 0, 1) := by decide +kernel
theorem dX12_advance_1 : decode cX12_advance 1 = .ok (.aload_n 0, 1) := by decide +kernel
theorem dX12_advance_2 : decode cX12_advance 2 = .ok (.getfield 117, 3) := by decide +kernel
theorem dX12_advance_5 : decode cX12_advance 5 = .ok (.putfield 120, 3) := by decide +kernel
theorem dX12_advance_8 : decode cX12_advance 8 = .ok (.aload_n 0, 1) := by decide +kernel
theorem dX12_advance_9 : decode cX12_advance 9 = .ok (.aload_n 0, 1) := by decide +kernel
theorem dX12_advance_10 : decode cX12_advance 10 = .ok (.getfield 120, 3) := by decide +kernel
theorem dX12_advance_13 : decode cX12_advance 13 = .ok (.invokevirtual 123, 3) := by decide +kernel
theorem dX12_advance_16 : decode cX12_advance 16 = .ok (.bipush 32, 2) := by decide +kernel
theorem dX12_advance_18 : decode cX12_advance 18 = .ok (.if_icmp .ne 16, 3) := by decide +kernel
theorem dX12_advance_21 : decode cX12_advance 21 = .ok (.aload_n 0, 1) := by decide +kernel
theorem dX12_advance_22 : decode cX12_advance 22 = .ok (.dup, 1) := by decide +kernel
theorem dX12_advance_23 : decode cX12_advance 23 = .ok (.getfield 120, 3) := by decide +kernel
theorem dX12_advance_26 : decode cX12_advance 26 = .ok (.iconst 1, 1) := by decide +kernel
theorem dX12_advance_27 : decode cX12_advance 27 = .ok (.iadd, 1) := by decide +kernel
theorem dX12_advance_28 : decode cX12_advance 28 = .ok (.putfield 120, 3) := by decide +kernel
theorem dX12_advance_31 : decode cX12_advance 31 = .ok (.goto (-23), 3) := by decide +kernel
theorem dX12_advance_34 : decode cX12_advance 34 = .ok (.aload_n 0, 1) := by decide +kernel
theorem dX12_advance_35 : decode cX12_advance 35 = .ok (.aload_n 0, 1) := by decide +kernel
theorem dX12_advance_36 : decode cX12_advance 36 = .ok (.getfield 120, 3) := by decide +kernel
theorem dX12_advance_39 : decode cX12_advance 39 = .ok (.putfield 117, 3) := by decide +kernel
theorem dX12_advance_42 : decode cX12_advance 42 = .ok (.aload_n 0, 1) := by decide +kernel
theorem dX12_advance_43 : decode cX12_advance 43 = .ok (.aload_n 0, 1) := by decide +kernel
theorem dX12_advance_44 : decode cX12_advance 44 = .ok (.getfield 120, 3) := by decide +kernel
theorem dX12_advance_47 : decode cX12_advance 47 = .ok (.invokevirtual 123, 3) := by decide +kernel
theorem dX12_advance_50 : decode cX12_advance 50 = .ok (.istore_n 1, 1) := by decide +kernel
theorem dX12_advance_51 : decode cX12_advance 51 = .ok (.aload_n 0, 1) := by decide +kernel
theorem dX12_advance_52 : decode cX12_advance 52 = .ok (.iload_n 1, 1) := by decide +kernel
theorem dX12_advance_53 : decode cX12_advance 53 = .ok (.ifCond .ge 7, 3) := by decide +kernel
theorem dX12_advance_56 : decode cX12_advance 56 = .ok (.iconst 0, 1) := by decide +kernel
theorem dX12_advance_57 : decode cX12_advance 57 = .ok (.goto 26, 3) := by decide +kernel
theorem dX12_advance_60 : decode cX12_advance 60 = .ok (.iload_n 1, 1) := by decide +kernel
theorem dX12_advance_61 : decode cX12_advance 61 = .ok (.invokestatic 127, 3) := by decide +kernel
theorem dX12_advance_64 : decode cX12_advance 64 = .ok (.ifCond .eq 7, 3) := by decide +kernel
theorem dX12_advance_67 : decode cX12_advance 67 = .ok (.iconst 1, 1) := by decide +kernel
theorem dX12_advance_68 : decode cX12_advance 68 = .ok (.goto 15, 3) := by decide +kernel
theorem dX12_advance_71 : decode cX12_advance 71 = .ok (.iload_n 1, 1) := by decide +kernel
theorem dX12_advance_72 : decode cX12_advance 72 = .ok (.invokestatic 131, 3) := by decide +kernel
theorem dX12_advance_75 : decode cX12_advance 75 = .ok (.ifCond .eq 7, 3) := by decide +kernel
theorem dX12_advance_78 : decode cX12_advance 78 = .ok (.iconst 2, 1) := by decide +kernel
theorem dX12_advance_79 : decode cX12_advance 79 = .ok (.goto 4, 3) := by decide +kernel
theorem dX12_advance_82 : decode cX12_advance 82 = .ok (.iconst 3, 1) := by decide +kernel
theorem dX12_advance_83 : decode cX12_advance 83 = .ok (.putfield 134, 3) := by decide +kernel
theorem dX12_advance_86 : decode cX12_advance 86 = .ok (.aload_n 0, 1) := by decide +kernel
theorem dX12_advance_87 : decode cX12_advance 87 = .ok (.lconst 0, 1) := by decide +kernel
theorem dX12_advance_88 : decode cX12_advance 88 = .ok (.putfield 137, 3) := by decide +kernel
theorem dX12_advance_91 : decode cX12_advance 91 = .ok (.aload_n 0, 1) := by decide +kernel
theorem dX12_advance_92 : decode cX12_advance 92 = .ok (.aload_n 0, 1) := by decide +kernel
theorem dX12_advance_93 : decode cX12_advance 93 = .ok (.getfield 134, 3) := by decide +kernel
theorem dX12_advance_96 : decode cX12_advance 96 = .ok (.iconst 2, 1) := by decide +kernel
theorem dX12_advance_97 : decode cX12_advance 97 = .ok (.if_icmp .ne 7, 3) := by decide +kernel
theorem dX12_advance_100 : decode cX12_advance 100 = .ok (.iconst 0, 1) := by decide +kernel
theorem dX12_advance_101 : decode cX12_advance 101 = .ok (.goto 4, 3) := by decide +kernel
theorem dX12_advance_104 : decode cX12_advance 104 = .ok (.iload_n 1, 1) := by decide +kernel
theorem dX12_advance_105 : decode cX12_advance 105 = .ok (.putfield 141, 3) := by decide +kernel
theorem dX12_advance_108 : decode cX12_advance 108 = .ok (.aload_n 0, 1) := by decide +kernel
theorem dX12_advance_109 : decode cX12_advance 109 = .ok (.getfield 134, 3) := by decide +kernel
theorem dX12_advance_112 : decode cX12_advance 112 = .ok (.iconst 3, 1) := by decide +kernel
theorem dX12_advance_113 : decode cX12_advance 113 = .ok (.if_icmp .ne 13, 3) := by decide +kernel
theorem dX12_advance_116 : decode cX12_advance 116 = .ok (.aload_n 0, 1) := by decide +kernel
theorem dX12_advance_117 : decode cX12_advance 117 = .ok (.dup, 1) := by decide +kernel
theorem dX12_advance_118 : decode cX12_advance 118 = .ok (.getfield 117, 3) := by decide +kernel
theorem dX12_advance_121 : decode cX12_advance 121 = .ok (.iconst 1, 1) := by decide +kernel
theorem dX12_advance_122 : decode cX12_advance 122 = .ok (.iadd, 1) := by decide +kernel
theorem dX12_advance_123 : decode cX12_advance 123 = .ok (.putfield 117, 3) := by decide +kernel
theorem dX12_advance_126 : decode cX12_advance 126 = .ok (.aload_n 0, 1) := by decide +kernel
theorem dX12_advance_127 : decode cX12_advance 127 = .ok (.getfield 134, 3) := by decide +kernel
theorem dX12_advance_130 : decode cX12_advance 130 = .ok (.iconst 1, 1) := by decide +kernel
theorem dX12_advance_131 : decode cX12_advance 131 = .ok (.if_icmp .ne 76, 3) := by decide +kernel
theorem dX12_advance_134 : decode cX12_advance 134 = .ok (.aload_n 0, 1) := by decide +kernel
theorem dX12_advance_135 : decode cX12_advance 135 = .ok (.aload_n 0, 1) := by decide +kernel
theorem dX12_advance_136 : decode cX12_advance 136 = .ok (.getfield 117, 3) := by decide +kernel
theorem dX12_advance_139 : decode cX12_advance 139 = .ok (.invokevirtual 123, 3) := by decide +kernel
theorem dX12_advance_142 : decode cX12_advance 142 = .ok (.invokestatic 127, 3) := by decide +kernel
theorem dX12_advance_145 : decode cX12_advance 145 = .ok (.ifCond .eq 62, 3) := by decide +kernel
theorem dX12_advance_148 : decode cX12_advance 148 = .ok (.aload_n 0, 1) := by decide +kernel
theorem dX12_advance_149 : decode cX12_advance 149 = .ok (.aload_n 0, 1) := by decide +kernel
theorem dX12_advance_150 : decode cX12_advance 150 = .ok (.getfield 117, 3) := by decide +kernel
theorem dX12_advance_153 : decode cX12_advance 153 = .ok (.aload_n 0, 1) := by decide +kernel
theorem dX12_advance_154 : decode cX12_advance 154 = .ok (.getfield 120, 3) := by decide +kernel
theorem dX12_advance_157 : decode cX12_advance 157 = .ok (.isub, 1) := by decide +kernel
theorem dX12_advance_158 : decode cX12_advance 158 = .ok (.bipush 12, 2) := by decide +kernel
theorem dX12_advance_160 : decode cX12_advance 160 = .ok (.if_icmp .ge 28, 3) := by decide +kernel
theorem dX12_advance_163 : decode cX12_advance 163 = .ok (.ldc2_w 144, 3) := by decide +kernel
theorem dX12_advance_166 : decode cX12_advance 166 = .ok (.aload_n 0, 1) := by decide +kernel
theorem dX12_advance_167 : decode cX12_advance 167 = .ok (.getfield 137, 3) := by decide +kernel
theorem dX12_advance_170 : decode cX12_advance 170 = .ok (.lmul, 1) := by decide +kernel
theorem dX12_advance_171 : decode cX12_advance 171 = .ok (.aload_n 0, 1) := by decide +kernel
theorem dX12_advance_172 : decode cX12_advance 172 = .ok (.aload_n 0, 1) := by decide +kernel
theorem dX12_advance_173 : decode cX12_advance 173 = .ok (.getfield 117, 3) := by decide +kernel
theorem dX12_advance_176 : decode cX12_advance 176 = .ok (.invokevirtual 123, 3) := by decide +kernel
theorem dX12_advance_179 : decode cX12_advance 179 = .ok (.i2l, 1) := by decide +kernel
theorem dX12_advance_180 : decode cX12_advance 180 = .ok (.ladd, 1) := by decide +kernel
theorem dX12_advance_181 : decode cX12_advance 181 = .ok (.ldc2_w 146, 3) := by decide +kernel
theorem dX12_advance_184 : decode cX12_advance 184 = .ok (.lsub, 1) := by decide +kernel
theorem dX12_advance_185 : decode cX12_advance 185 = .ok (.goto 6, 3) := by decide +kernel
theorem dX12_advance_188 : decode cX12_advance 188 = .ok (.ldc2_w 148, 3) := by decide +kernel
theorem dX12_advance_191 : decode cX12_advance 191 = .ok (.putfield 137, 3) := by decide +kernel
theorem dX12_advance_194 : decode cX12_advance 194 = .ok (.aload_n 0, 1) := by decide +kernel
theorem dX12_advance_195 : decode cX12_advance 195 = .ok (.dup, 1) := by decide +kernel
theorem dX12_advance_196 : decode cX12_advance 196 = .ok (.getfield 117, 3) := by decide +kernel
theorem dX12_advance_199 : decode cX12_advance 199 = .ok (.iconst 1, 1) := by decide +kernel
theorem dX12_advance_200 : decode cX12_advance 200 = .ok (.iadd, 1) := by decide +kernel
theorem dX12_advance_201 : decode cX12_advance 201 = .ok (.putfield 117, 3) := by decide +kernel
theorem dX12_advance_204 : decode cX12_advance 204 = .ok (.goto (-78), 3) := by decide +kernel
theorem dX12_advance_207 : decode cX12_advance 207 = .ok (.aload_n 0, 1) := by decide +kernel
theorem dX12_advance_208 : decode cX12_advance 208 = .ok (.getfield 134, 3) := by decide +kernel
theorem dX12_advance_211 : decode cX12_advance 211 = .ok (.iconst 2, 1) := by decide +kernel
theorem dX12_advance_212 : decode cX12_advance 212 = .ok (.if_icmp .ne 70, 3) := by decide +kernel
theorem dX12_advance_215 : decode cX12_advance 215 = .ok (.aload_n 0, 1) := by decide +kernel
theorem dX12_advance_216 : decode cX12_advance 216 = .ok (.aload_n 0, 1) := by decide +kernel
theorem dX12_advance_217 : decode cX12_advance 217 = .ok (.getfield 117, 3) := by decide +kernel
theorem dX12_advance_220 : decode cX12_advance 220 = .ok (.invokevirtual 123, 3) := by decide +kernel
theorem dX12_advance_223 : decode cX12_advance 223 = .ok (.invokestatic 131, 3) := by decide +kernel
theorem dX12_advance_226 : decode cX12_advance 226 = .ok (.ifCond .eq 56, 3) := by decide +kernel
theorem dX12_advance_229 : decode cX12_advance 229 = .ok (.aload_n 0, 1) := by decide +kernel
theorem dX12_advance_230 : decode cX12_advance 230 = .ok (.aload_n 0, 1) := by decide +kernel
theorem dX12_advance_231 : decode cX12_advance 231 = .ok (.getfield 117, 3) := by decide +kernel
theorem dX12_advance_234 : decode cX12_advance 234 = .ok (.aload_n 0, 1) := by decide +kernel
theorem dX12_advance_235 : decode cX12_advance 235 = .ok (.getfield 120, 3) := by decide +kernel
theorem dX12_advance_238 : decode cX12_advance 238 = .ok (.isub, 1) := by decide +kernel
theorem dX12_advance_239 : decode cX12_advance 239 = .ok (.iconst 3, 1) := by decide +kernel
theorem dX12_advance_240 : decode cX12_advance 240 = .ok (.if_icmp .ge 25, 3) := by decide +kernel
theorem dX12_advance_243 : decode cX12_advance 243 = .ok (.bipush 10, 2) := by decide +kernel
theorem dX12_advance_245 : decode cX12_advance 245 = .ok (.aload_n 0, 1) := by decide +kernel
theorem dX12_advance_246 : decode cX12_advance 246 = .ok (.getfield 141, 3) := by decide +kernel
theorem dX12_advance_249 : decode cX12_advance 249 = .ok (.imul, 1) := by decide +kernel
theorem dX12_advance_250 : decode cX12_advance 250 = .ok (.aload_n 0, 1) := by decide +kernel
theorem dX12_advance_251 : decode cX12_advance 251 = .ok (.aload_n 0, 1) := by decide +kernel
theorem dX12_advance_252 : decode cX12_advance 252 = .ok (.getfield 117, 3) := by decide +kernel
theorem dX12_advance_255 : decode cX12_advance 255 = .ok (.invokevirtual 123, 3) := by decide +kernel
theorem dX12_advance_258 : decode cX12_advance 258 = .ok (.iadd, 1) := by decide +kernel
theorem dX12_advance_259 : decode cX12_advance 259 = .ok (.bipush 48, 2) := by decide +kernel
theorem dX12_advance_261 : decode cX12_advance 261 = .ok (.isub, 1) := by decide +kernel
theorem dX12_advance_262 : decode cX12_advance 262 = .ok (.goto 4, 3) := by decide +kernel
theorem dX12_advance_265 : decode cX12_advance 265 = .ok (.iconst (-1), 1) := by decide +kernel
theorem dX12_advance_266 : decode cX12_advance 266 = .ok (.putfield 141, 3) := by decide +kernel
theorem dX12_advance_269 : decode cX12_advance 269 = .ok (.aload_n 0, 1) := by decide +kernel
theorem dX12_advance_270 : decode cX12_advance 270 = .ok (.dup, 1) := by decide +kernel
theorem dX12_advance_271 : decode cX12_advance 271 = .ok (.getfield 117, 3) := by decide +kernel
theorem dX12_advance_274 : decode cX12_advance 274 = .ok (.iconst 1, 1) := by decide +kernel
theorem dX12_advance_275 : decode cX12_advance 275 = .ok (.iadd, 1) := by decide +kernel
theorem dX12_advance_276 : decode cX12_advance 276 = .ok (.putfield 117, 3) := by decide +kernel
theorem dX12_advance_279 : decode cX12_advance 279 = .ok (.goto (-72), 3) := by decide +kernel
theorem dX12_advance_282 : decode cX12_advance 282 = .ok (.return_, 1) := by decide +kernel
theorem dX12_isWord_0 : decode cX12_isWord 0 = .ok (.aload_n 0, 1) := by decide +kernel
theorem dX12_isWord_1 : decode cX12_isWord 1 = .ok (.getfield 134, 3) := by decide +kernel
theorem dX12_isWord_4 : decode cX12_isWord 4 = .ok (.iconst 1, 1) := by decide +kernel
theorem dX12_isWord_5 : decode cX12_isWord 5 = .ok (.if_icmp .ne 16, 3) := by decide +kernel
theorem dX12_isWord_8 : decode cX12_isWord 8 = .ok (.aload_n 0, 1) := by decide +kernel
theorem dX12_isWord_9 : decode cX12_isWord 9 = .ok (.getfield 137, 3) := by decide +kernel
theorem dX12_isWord_12 : decode cX12_isWord 12 = .ok (.lload_n 1, 1) := by decide +kernel
theorem dX12_isWord_13 : decode cX12_isWord 13 = .ok (.lcmp, 1) := by decide +kernel
theorem dX12_isWord_14 : decode cX12_isWord 14 = .ok (.ifCond .ne 7, 3) := by decide +kernel
theorem dX12_isWord_17 : decode cX12_isWord 17 = .ok (.iconst 1, 1) := by decide +kernel
theorem dX12_isWord_18 : decode cX12_isWord 18 = .ok (.goto 4, 3) := by decide +kernel
theorem dX12_isWord_21 : decode cX12_isWord 21 = .ok (.iconst 0, 1) := by decide +kernel
theorem dX12_isWord_22 : decode cX12_isWord 22 = .ok (.ireturn, 1) := by decide +kernel
theorem dX12_isMark_0 : decode cX12_isMark 0 = .ok (.aload_n 0, 1) := by decide +kernel
theorem dX12_isMark_1 : decode cX12_isMark 1 = .ok (.getfield 134, 3) := by decide +kernel
theorem dX12_isMark_4 : decode cX12_isMark 4 = .ok (.iconst 3, 1) := by decide +kernel
theorem dX12_isMark_5 : decode cX12_isMark 5 = .ok (.if_icmp .ne 15, 3) := by decide +kernel
theorem dX12_isMark_8 : decode cX12_isMark 8 = .ok (.aload_n 0, 1) := by decide +kernel
theorem dX12_isMark_9 : decode cX12_isMark 9 = .ok (.getfield 141, 3) := by decide +kernel
theorem dX12_isMark_12 : decode cX12_isMark 12 = .ok (.iload_n 1, 1) := by decide +kernel
theorem dX12_isMark_13 : decode cX12_isMark 13 = .ok (.if_icmp .ne 7, 3) := by decide +kernel
theorem dX12_isMark_16 : decode cX12_isMark 16 = .ok (.iconst 1, 1) := by decide +kernel
theorem dX12_isMark_17 : decode cX12_isMark 17 = .ok (.goto 4, 3) := by decide +kernel
theorem dX12_isMark_20 : decode cX12_isMark 20 = .ok (.iconst 0, 1) := by decide +kernel
theorem dX12_isMark_21 : decode cX12_isMark 21 = .ok (.ireturn, 1) := by decide +kernel
theorem dX12_kindHere_0 : decode cX12_kindHere 0 = .ok (.aload_n 0, 1) := by decide +kernel
theorem dX12_kindHere_1 : decode cX12_kindHere 1 = .ok (.ldc2_w 150, 3) := by decide +kernel
theorem dX12_kindHere_4 : decode cX12_kindHere 4 = .ok (.invokevirtual 152, 3) := by decide +kernel
theorem dX12_kindHere_7 : decode cX12_kindHere 7 = .ok (.ifCond .eq 7, 3) := by decide +kernel
theorem dX12_kindHere_10 : decode cX12_kindHere 10 = .ok (.iconst 0, 1) := by decide +kernel
theorem dX12_kindHere_11 : decode cX12_kindHere 11 = .ok (.goto 74, 3) := by decide +kernel
theorem dX12_kindHere_14 : decode cX12_kindHere 14 = .ok (.aload_n 0, 1) := by decide +kernel
theorem dX12_kindHere_15 : decode cX12_kindHere 15 = .ok (.ldc2_w 156, 3) := by decide +kernel
theorem dX12_kindHere_18 : decode cX12_kindHere 18 = .ok (.invokevirtual 152, 3) := by decide +kernel
theorem dX12_kindHere_21 : decode cX12_kindHere 21 = .ok (.ifCond .eq 7, 3) := by decide +kernel
theorem dX12_kindHere_24 : decode cX12_kindHere 24 = .ok (.iconst 1, 1) := by decide +kernel
theorem dX12_kindHere_25 : decode cX12_kindHere 25 = .ok (.goto 60, 3) := by decide +kernel
theorem dX12_kindHere_28 : decode cX12_kindHere 28 = .ok (.aload_n 0, 1) := by decide +kernel
theorem dX12_kindHere_29 : decode cX12_kindHere 29 = .ok (.ldc2_w 158, 3) := by decide +kernel
theorem dX12_kindHere_32 : decode cX12_kindHere 32 = .ok (.invokevirtual 152, 3) := by decide +kernel
theorem dX12_kindHere_35 : decode cX12_kindHere 35 = .ok (.ifCond .eq 7, 3) := by decide +kernel
theorem dX12_kindHere_38 : decode cX12_kindHere 38 = .ok (.iconst 2, 1) := by decide +kernel
theorem dX12_kindHere_39 : decode cX12_kindHere 39 = .ok (.goto 46, 3) := by decide +kernel
theorem dX12_kindHere_42 : decode cX12_kindHere 42 = .ok (.aload_n 0, 1) := by decide +kernel
theorem dX12_kindHere_43 : decode cX12_kindHere 43 = .ok (.ldc2_w 160, 3) := by decide +kernel
theorem dX12_kindHere_46 : decode cX12_kindHere 46 = .ok (.invokevirtual 152, 3) := by decide +kernel
theorem dX12_kindHere_49 : decode cX12_kindHere 49 = .ok (.ifCond .eq 7, 3) := by decide +kernel
theorem dX12_kindHere_52 : decode cX12_kindHere 52 = .ok (.iconst 3, 1) := by decide +kernel
theorem dX12_kindHere_53 : decode cX12_kindHere 53 = .ok (.goto 32, 3) := by decide +kernel
theorem dX12_kindHere_56 : decode cX12_kindHere 56 = .ok (.aload_n 0, 1) := by decide +kernel
theorem dX12_kindHere_57 : decode cX12_kindHere 57 = .ok (.ldc2_w 162, 3) := by decide +kernel
theorem dX12_kindHere_60 : decode cX12_kindHere 60 = .ok (.invokevirtual 152, 3) := by decide +kernel
theorem dX12_kindHere_63 : decode cX12_kindHere 63 = .ok (.ifCond .eq 7, 3) := by decide +kernel
theorem dX12_kindHere_66 : decode cX12_kindHere 66 = .ok (.iconst 4, 1) := by decide +kernel
theorem dX12_kindHere_67 : decode cX12_kindHere 67 = .ok (.goto 18, 3) := by decide +kernel
theorem dX12_kindHere_70 : decode cX12_kindHere 70 = .ok (.aload_n 0, 1) := by decide +kernel
theorem dX12_kindHere_71 : decode cX12_kindHere 71 = .ok (.ldc2_w 164, 3) := by decide +kernel
theorem dX12_kindHere_74 : decode cX12_kindHere 74 = .ok (.invokevirtual 152, 3) := by decide +kernel
theorem dX12_kindHere_77 : decode cX12_kindHere 77 = .ok (.ifCond .eq 7, 3) := by decide +kernel
theorem dX12_kindHere_80 : decode cX12_kindHere 80 = .ok (.iconst 5, 1) := by decide +kernel
theorem dX12_kindHere_81 : decode cX12_kindHere 81 = .ok (.goto 4, 3) := by decide +kernel
theorem dX12_kindHere_84 : decode cX12_kindHere 84 = .ok (.iconst (-1), 1) := by decide +kernel
theorem dX12_kindHere_85 : decode cX12_kindHere 85 = .ok (.ireturn, 1) := by decide +kernel
theorem dX12_wantNumber_0 : decode cX12_wantNumber 0 = .ok (.aload_n 0, 1) := by decide +kernel
theorem dX12_wantNumber_1 : decode cX12_wantNumber 1 = .ok (.getfield 141, 3) := by decide +kernel
theorem dX12_wantNumber_4 : decode cX12_wantNumber 4 = .ok (.istore_n 3, 1) := by decide +kernel
theorem dX12_wantNumber_5 : decode cX12_wantNumber 5 = .ok (.aload_n 0, 1) := by decide +kernel
theorem dX12_wantNumber_6 : decode cX12_wantNumber 6 = .ok (.aload_n 0, 1) := by decide +kernel
theorem dX12_wantNumber_7 : decode cX12_wantNumber 7 = .ok (.getfield 166, 3) := by decide +kernel
theorem dX12_wantNumber_10 : decode cX12_wantNumber 10 = .ok (.ifCond .eq 24, 3) := by decide +kernel
theorem dX12_wantNumber_13 : decode cX12_wantNumber 13 = .ok (.aload_n 0, 1) := by decide +kernel
theorem dX12_wantNumber_14 : decode cX12_wantNumber 14 = .ok (.getfield 134, 3) := by decide +kernel
theorem dX12_wantNumber_17 : decode cX12_wantNumber 17 = .ok (.iconst 2, 1) := by decide +kernel
theorem dX12_wantNumber_18 : decode cX12_wantNumber 18 = .ok (.if_icmp .ne 16, 3) := by decide +kernel
theorem dX12_wantNumber_21 : decode cX12_wantNumber 21 = .ok (.iload_n 3, 1) := by decide +kernel
theorem dX12_wantNumber_22 : decode cX12_wantNumber 22 = .ok (.iload_n 1, 1) := by decide +kernel
theorem dX12_wantNumber_23 : decode cX12_wantNumber 23 = .ok (.iload_n 2, 1) := by decide +kernel
theorem dX12_wantNumber_24 : decode cX12_wantNumber 24 = .ok (.invokestatic 108, 3) := by decide +kernel
theorem dX12_wantNumber_27 : decode cX12_wantNumber 27 = .ok (.ifCond .eq 7, 3) := by decide +kernel
theorem dX12_wantNumber_30 : decode cX12_wantNumber 30 = .ok (.iconst 1, 1) := by decide +kernel
theorem dX12_wantNumber_31 : decode cX12_wantNumber 31 = .ok (.goto 4, 3) := by decide +kernel
theorem dX12_wantNumber_34 : decode cX12_wantNumber 34 = .ok (.iconst 0, 1) := by decide +kernel
theorem dX12_wantNumber_35 : decode cX12_wantNumber 35 = .ok (.putfield 166, 3) := by decide +kernel
theorem dX12_wantNumber_38 : decode cX12_wantNumber 38 = .ok (.aload_n 0, 1) := by decide +kernel
theorem dX12_wantNumber_39 : decode cX12_wantNumber 39 = .ok (.getfield 166, 3) := by decide +kernel
theorem dX12_wantNumber_42 : decode cX12_wantNumber 42 = .ok (.ifCond .eq 7, 3) := by decide +kernel
theorem dX12_wantNumber_45 : decode cX12_wantNumber 45 = .ok (.aload_n 0, 1) := by decide +kernel
theorem dX12_wantNumber_46 : decode cX12_wantNumber 46 = .ok (.invokevirtual 170, 3) := by decide +kernel
theorem dX12_wantNumber_49 : decode cX12_wantNumber 49 = .ok (.iload_n 3, 1) := by decide +kernel
theorem dX12_wantNumber_50 : decode cX12_wantNumber 50 = .ok (.ireturn, 1) := by decide +kernel
theorem dX12_wantEnd_0 : decode cX12_wantEnd 0 = .ok (.aload_n 0, 1) := by decide +kernel
theorem dX12_wantEnd_1 : decode cX12_wantEnd 1 = .ok (.aload_n 0, 1) := by decide +kernel
theorem dX12_wantEnd_2 : decode cX12_wantEnd 2 = .ok (.getfield 166, 3) := by decide +kernel
theorem dX12_wantEnd_5 : decode cX12_wantEnd 5 = .ok (.ifCond .eq 16, 3) := by decide +kernel
theorem dX12_wantEnd_8 : decode cX12_wantEnd 8 = .ok (.aload_n 0, 1) := by decide +kernel
theorem dX12_wantEnd_9 : decode cX12_wantEnd 9 = .ok (.bipush 59, 2) := by decide +kernel
theorem dX12_wantEnd_11 : decode cX12_wantEnd 11 = .ok (.invokevirtual 173, 3) := by decide +kernel
theorem dX12_wantEnd_14 : decode cX12_wantEnd 14 = .ok (.ifCond .eq 7, 3) := by decide +kernel
theorem dX12_wantEnd_17 : decode cX12_wantEnd 17 = .ok (.iconst 1, 1) := by decide +kernel
theorem dX12_wantEnd_18 : decode cX12_wantEnd 18 = .ok (.goto 4, 3) := by decide +kernel
theorem dX12_wantEnd_21 : decode cX12_wantEnd 21 = .ok (.iconst 0, 1) := by decide +kernel
theorem dX12_wantEnd_22 : decode cX12_wantEnd 22 = .ok (.putfield 166, 3) := by decide +kernel
theorem dX12_wantEnd_25 : decode cX12_wantEnd 25 = .ok (.aload_n 0, 1) := by decide +kernel
theorem dX12_wantEnd_26 : decode cX12_wantEnd 26 = .ok (.getfield 166, 3) := by decide +kernel
theorem dX12_wantEnd_29 : decode cX12_wantEnd 29 = .ok (.ifCond .eq 7, 3) := by decide +kernel
theorem dX12_wantEnd_32 : decode cX12_wantEnd 32 = .ok (.aload_n 0, 1) := by decide +kernel
theorem dX12_wantEnd_33 : decode cX12_wantEnd 33 = .ok (.invokevirtual 170, 3) := by decide +kernel
theorem dX12_wantEnd_36 : decode cX12_wantEnd 36 = .ok (.return_, 1) := by decide +kernel
theorem dX12_takes_0 : decode cX12_takes 0 = .ok (.aload_n 0, 1) := by decide +kernel
theorem dX12_takes_1 : decode cX12_takes 1 = .ok (.getfield 166, 3) := by decide +kernel
theorem dX12_takes_4 : decode cX12_takes 4 = .ok (.ifCond .eq 15, 3) := by decide +kernel
theorem dX12_takes_7 : decode cX12_takes 7 = .ok (.aload_n 0, 1) := by decide +kernel
theorem dX12_takes_8 : decode cX12_takes 8 = .ok (.lload_n 1, 1) := by decide +kernel
theorem dX12_takes_9 : decode cX12_takes 9 = .ok (.invokevirtual 152, 3) := by decide +kernel
theorem dX12_takes_12 : decode cX12_takes 12 = .ok (.ifCond .eq 7, 3) := by decide +kernel
theorem dX12_takes_15 : decode cX12_takes 15 = .ok (.iconst 1, 1) := by decide +kernel
theorem dX12_takes_16 : decode cX12_takes 16 = .ok (.goto 4, 3) := by decide +kernel
theorem dX12_takes_19 : decode cX12_takes 19 = .ok (.iconst 0, 1) := by decide +kernel
theorem dX12_takes_20 : decode cX12_takes 20 = .ok (.istore_n 3, 1) := by decide +kernel
theorem dX12_takes_21 : decode cX12_takes 21 = .ok (.iload_n 3, 1) := by decide +kernel
theorem dX12_takes_22 : decode cX12_takes 22 = .ok (.ifCond .eq 7, 3) := by decide +kernel
theorem dX12_takes_25 : decode cX12_takes 25 = .ok (.aload_n 0, 1) := by decide +kernel
theorem dX12_takes_26 : decode cX12_takes 26 = .ok (.invokevirtual 170, 3) := by decide +kernel
theorem dX12_takes_29 : decode cX12_takes 29 = .ok (.iload_n 3, 1) := by decide +kernel
theorem dX12_takes_30 : decode cX12_takes 30 = .ok (.ireturn, 1) := by decide +kernel
theorem dX12_wantPerson_0 : decode cX12_wantPerson 0 = .ok (.aload_n 0, 1) := by decide +kernel
theorem dX12_wantPerson_1 : decode cX12_wantPerson 1 = .ok (.aload_n 0, 1) := by decide +kernel
theorem dX12_wantPerson_2 : decode cX12_wantPerson 2 = .ok (.getfield 176, 3) := by decide +kernel
theorem dX12_wantPerson_5 : decode cX12_wantPerson 5 = .ok (.bipush 8, 2) := by decide +kernel
theorem dX12_wantPerson_7 : decode cX12_wantPerson 7 = .ok (.if_icmp .ge 7, 3) := by decide +kernel
theorem dX12_wantPerson_10 : decode cX12_wantPerson 10 = .ok (.iconst 1, 1) := by decide +kernel
theorem dX12_wantPerson_11 : decode cX12_wantPerson 11 = .ok (.goto 4, 3) := by decide +kernel
theorem dX12_wantPerson_14 : decode cX12_wantPerson 14 = .ok (.iconst 0, 1) := by decide +kernel
theorem dX12_wantPerson_15 : decode cX12_wantPerson 15 = .ok (.putfield 166, 3) := by decide +kernel
theorem dX12_wantPerson_18 : decode cX12_wantPerson 18 = .ok (.aload_n 0, 1) := by decide +kernel
theorem dX12_wantPerson_19 : decode cX12_wantPerson 19 = .ok (.getfield 166, 3) := by decide +kernel
theorem dX12_wantPerson_22 : decode cX12_wantPerson 22 = .ok (.ifCond .eq 7, 3) := by decide +kernel
theorem dX12_wantPerson_25 : decode cX12_wantPerson 25 = .ok (.aload_n 0, 1) := by decide +kernel
theorem dX12_wantPerson_26 : decode cX12_wantPerson 26 = .ok (.invokevirtual 170, 3) := by decide +kernel
theorem dX12_wantPerson_29 : decode cX12_wantPerson 29 = .ok (.aload_n 0, 1) := by decide +kernel
theorem dX12_wantPerson_30 : decode cX12_wantPerson 30 = .ok (.iconst 1, 1) := by decide +kernel
theorem dX12_wantPerson_31 : decode cX12_wantPerson 31 = .ok (.bipush 90, 2) := by decide +kernel
theorem dX12_wantPerson_33 : decode cX12_wantPerson 33 = .ok (.invokevirtual 179, 3) := by decide +kernel
theorem dX12_wantPerson_36 : decode cX12_wantPerson 36 = .ok (.istore_n 2, 1) := by decide +kernel
theorem dX12_wantPerson_37 : decode cX12_wantPerson 37 = .ok (.bipush 100, 2) := by decide +kernel
theorem dX12_wantPerson_39 : decode cX12_wantPerson 39 = .ok (.istore_n 3, 1) := by decide +kernel
theorem dX12_wantPerson_40 : decode cX12_wantPerson 40 = .ok (.aload_n 0, 1) := by decide +kernel
theorem dX12_wantPerson_41 : decode cX12_wantPerson 41 = .ok (.ldc2_w 183, 3) := by decide +kernel
theorem dX12_wantPerson_44 : decode cX12_wantPerson 44 = .ok (.invokevirtual 185, 3) := by decide +kernel
theorem dX12_wantPerson_47 : decode cX12_wantPerson 47 = .ok (.ifCond .eq 12, 3) := by decide +kernel
theorem dX12_wantPerson_50 : decode cX12_wantPerson 50 = .ok (.aload_n 0, 1) := by decide +kernel
theorem dX12_wantPerson_51 : decode cX12_wantPerson 51 = .ok (.iconst 0, 1) := by decide +kernel
theorem dX12_wantPerson_52 : decode cX12_wantPerson 52 = .ok (.sipush 200, 3) := by decide +kernel
theorem dX12_wantPerson_55 : decode cX12_wantPerson 55 = .ok (.invokevirtual 179, 3) := by decide +kernel
theorem dX12_wantPerson_58 : decode cX12_wantPerson 58 = .ok (.istore_n 3, 1) := by decide +kernel
theorem dX12_wantPerson_59 : decode cX12_wantPerson 59 = .ok (.iconst 0, 1) := by decide +kernel
theorem dX12_wantPerson_60 : decode cX12_wantPerson 60 = .ok (.istore 4, 2) := by decide +kernel
theorem dX12_wantPerson_62 : decode cX12_wantPerson 62 = .ok (.aload_n 0, 1) := by decide +kernel
theorem dX12_wantPerson_63 : decode cX12_wantPerson 63 = .ok (.ldc2_w 188, 3) := by decide +kernel
theorem dX12_wantPerson_66 : decode cX12_wantPerson 66 = .ok (.invokevirtual 185, 3) := by decide +kernel
theorem dX12_wantPerson_69 : decode cX12_wantPerson 69 = .ok (.ifCond .eq 13, 3) := by decide +kernel
theorem dX12_wantPerson_72 : decode cX12_wantPerson 72 = .ok (.aload_n 0, 1) := by decide +kernel
theorem dX12_wantPerson_73 : decode cX12_wantPerson 73 = .ok (.iconst 0, 1) := by decide +kernel
theorem dX12_wantPerson_74 : decode cX12_wantPerson 74 = .ok (.sipush 999, 3) := by decide +kernel
theorem dX12_wantPerson_77 : decode cX12_wantPerson 77 = .ok (.invokevirtual 179, 3) := by decide +kernel
theorem dX12_wantPerson_80 : decode cX12_wantPerson 80 = .ok (.istore 4, 2) := by decide +kernel
theorem dX12_wantPerson_82 : decode cX12_wantPerson 82 = .ok (.aload_n 0, 1) := by decide +kernel
theorem dX12_wantPerson_83 : decode cX12_wantPerson 83 = .ok (.invokevirtual 190, 3) := by decide +kernel
theorem dX12_wantPerson_86 : decode cX12_wantPerson 86 = .ok (.aload_n 0, 1) := by decide +kernel
theorem dX12_wantPerson_87 : decode cX12_wantPerson 87 = .ok (.getfield 166, 3) := by decide +kernel
theorem dX12_wantPerson_90 : decode cX12_wantPerson 90 = .ok (.ifCond .eq 69, 3) := by decide +kernel
theorem dX12_wantPerson_93 : decode cX12_wantPerson 93 = .ok (.aload_n 0, 1) := by decide +kernel
theorem dX12_wantPerson_94 : decode cX12_wantPerson 94 = .ok (.getfield 38, 3) := by decide +kernel
theorem dX12_wantPerson_97 : decode cX12_wantPerson 97 = .ok (.aload_n 0, 1) := by decide +kernel
theorem dX12_wantPerson_98 : decode cX12_wantPerson 98 = .ok (.getfield 176, 3) := by decide +kernel
theorem dX12_wantPerson_101 : decode cX12_wantPerson 101 = .ok (.iload_n 1, 1) := by decide +kernel
theorem dX12_wantPerson_102 : decode cX12_wantPerson 102 = .ok (.iastore, 1) := by decide +kernel
theorem dX12_wantPerson_103 : decode cX12_wantPerson 103 = .ok (.aload_n 0, 1) := by decide +kernel
theorem dX12_wantPerson_104 : decode cX12_wantPerson 104 = .ok (.getfield 41, 3) := by decide +kernel
theorem dX12_wantPerson_107 : decode cX12_wantPerson 107 = .ok (.aload_n 0, 1) := by decide +kernel
theorem dX12_wantPerson_108 : decode cX12_wantPerson 108 = .ok (.getfield 176, 3) := by decide +kernel
theorem dX12_wantPerson_111 : decode cX12_wantPerson 111 = .ok (.iload_n 2, 1) := by decide +kernel
theorem dX12_wantPerson_112 : decode cX12_wantPerson 112 = .ok (.iastore, 1) := by decide +kernel
theorem dX12_wantPerson_113 : decode cX12_wantPerson 113 = .ok (.aload_n 0, 1) := by decide +kernel
theorem dX12_wantPerson_114 : decode cX12_wantPerson 114 = .ok (.getfield 44, 3) := by decide +kernel
theorem dX12_wantPerson_117 : decode cX12_wantPerson 117 = .ok (.aload_n 0, 1) := by decide +kernel
theorem dX12_wantPerson_118 : decode cX12_wantPerson 118 = .ok (.getfield 176, 3) := by decide +kernel
theorem dX12_wantPerson_121 : decode cX12_wantPerson 121 = .ok (.iload_n 3, 1) := by decide +kernel
theorem dX12_wantPerson_122 : decode cX12_wantPerson 122 = .ok (.iastore, 1) := by decide +kernel
theorem dX12_wantPerson_123 : decode cX12_wantPerson 123 = .ok (.aload_n 0, 1) := by decide +kernel
theorem dX12_wantPerson_124 : decode cX12_wantPerson 124 = .ok (.getfield 47, 3) := by decide +kernel
theorem dX12_wantPerson_127 : decode cX12_wantPerson 127 = .ok (.aload_n 0, 1) := by decide +kernel
theorem dX12_wantPerson_128 : decode cX12_wantPerson 128 = .ok (.getfield 176, 3) := by decide +kernel
theorem dX12_wantPerson_131 : decode cX12_wantPerson 131 = .ok (.iload 4, 2) := by decide +kernel
theorem dX12_wantPerson_133 : decode cX12_wantPerson 133 = .ok (.iastore, 1) := by decide +kernel
theorem dX12_wantPerson_134 : decode cX12_wantPerson 134 = .ok (.aload_n 0, 1) := by decide +kernel
theorem dX12_wantPerson_135 : decode cX12_wantPerson 135 = .ok (.dup, 1) := by decide +kernel
theorem dX12_wantPerson_136 : decode cX12_wantPerson 136 = .ok (.getfield 193, 3) := by decide +kernel
theorem dX12_wantPerson_139 : decode cX12_wantPerson 139 = .ok (.iconst 1, 1) := by decide +kernel
theorem dX12_wantPerson_140 : decode cX12_wantPerson 140 = .ok (.aload_n 0, 1) := by decide +kernel
theorem dX12_wantPerson_141 : decode cX12_wantPerson 141 = .ok (.getfield 176, 3) := by decide +kernel
theorem dX12_wantPerson_144 : decode cX12_wantPerson 144 = .ok (.ishl, 1) := by decide +kernel
theorem dX12_wantPerson_145 : decode cX12_wantPerson 145 = .ok (.ior, 1) := by decide +kernel
theorem dX12_wantPerson_146 : decode cX12_wantPerson 146 = .ok (.putfield 193, 3) := by decide +kernel
theorem dX12_wantPerson_149 : decode cX12_wantPerson 149 = .ok (.aload_n 0, 1) := by decide +kernel
theorem dX12_wantPerson_150 : decode cX12_wantPerson 150 = .ok (.dup, 1) := by decide +kernel
theorem dX12_wantPerson_151 : decode cX12_wantPerson 151 = .ok (.getfield 176, 3) := by decide +kernel
theorem dX12_wantPerson_154 : decode cX12_wantPerson 154 = .ok (.iconst 1, 1) := by decide +kernel
theorem dX12_wantPerson_155 : decode cX12_wantPerson 155 = .ok (.iadd, 1) := by decide +kernel
theorem dX12_wantPerson_156 : decode cX12_wantPerson 156 = .ok (.putfield 176, 3) := by decide +kernel
theorem dX12_wantPerson_159 : decode cX12_wantPerson 159 = .ok (.return_, 1) := by decide +kernel
theorem dX12_wantOwes_0 : decode cX12_wantOwes 0 = .ok (.aload_n 0, 1) := by decide +kernel
theorem dX12_wantOwes_1 : decode cX12_wantOwes 1 = .ok (.invokevirtual 170, 3) := by decide +kernel
theorem dX12_wantOwes_4 : decode cX12_wantOwes 4 = .ok (.aload_n 0, 1) := by decide +kernel
theorem dX12_wantOwes_5 : decode cX12_wantOwes 5 = .ok (.iconst 0, 1) := by decide +kernel
theorem dX12_wantOwes_6 : decode cX12_wantOwes 6 = .ok (.aload_n 0, 1) := by decide +kernel
theorem dX12_wantOwes_7 : decode cX12_wantOwes 7 = .ok (.getfield 176, 3) := by decide +kernel
theorem dX12_wantOwes_10 : decode cX12_wantOwes 10 = .ok (.iconst 1, 1) := by decide +kernel
theorem dX12_wantOwes_11 : decode cX12_wantOwes 11 = .ok (.isub, 1) := by decide +kernel
theorem dX12_wantOwes_12 : decode cX12_wantOwes 12 = .ok (.invokevirtual 179, 3) := by decide +kernel
theorem dX12_wantOwes_15 : decode cX12_wantOwes 15 = .ok (.istore_n 1, 1) := by decide +kernel
theorem dX12_wantOwes_16 : decode cX12_wantOwes 16 = .ok (.aload_n 0, 1) := by decide +kernel
theorem dX12_wantOwes_17 : decode cX12_wantOwes 17 = .ok (.aload_n 0, 1) := by decide +kernel
theorem dX12_wantOwes_18 : decode cX12_wantOwes 18 = .ok (.getfield 166, 3) := by decide +kernel
theorem dX12_wantOwes_21 : decode cX12_wantOwes 21 = .ok (.ifCond .eq 23, 3) := by decide +kernel
theorem dX12_wantOwes_24 : decode cX12_wantOwes 24 = .ok (.aload_n 0, 1) := by decide +kernel
theorem dX12_wantOwes_25 : decode cX12_wantOwes 25 = .ok (.getfield 134, 3) := by decide +kernel
theorem dX12_wantOwes_28 : decode cX12_wantOwes 28 = .ok (.iconst 2, 1) := by decide +kernel
theorem dX12_wantOwes_29 : decode cX12_wantOwes 29 = .ok (.if_icmp .ne 11, 3) := by decide +kernel
theorem dX12_wantOwes_32 : decode cX12_wantOwes 32 = .ok (.aload_n 0, 1) := by decide +kernel
theorem dX12_wantOwes_33 : decode cX12_wantOwes 33 = .ok (.getfield 141, 3) := by decide +kernel
theorem dX12_wantOwes_36 : decode cX12_wantOwes 36 = .ok (.iload_n 1, 1) := by decide +kernel
theorem dX12_wantOwes_37 : decode cX12_wantOwes 37 = .ok (.if_icmp .eq 7, 3) := by decide +kernel
theorem dX12_wantOwes_40 : decode cX12_wantOwes 40 = .ok (.iconst 1, 1) := by decide +kernel
theorem dX12_wantOwes_41 : decode cX12_wantOwes 41 = .ok (.goto 4, 3) := by decide +kernel
theorem dX12_wantOwes_44 : decode cX12_wantOwes 44 = .ok (.iconst 0, 1) := by decide +kernel
theorem dX12_wantOwes_45 : decode cX12_wantOwes 45 = .ok (.putfield 166, 3) := by decide +kernel
theorem dX12_wantOwes_48 : decode cX12_wantOwes 48 = .ok (.aload_n 0, 1) := by decide +kernel
theorem dX12_wantOwes_49 : decode cX12_wantOwes 49 = .ok (.iconst 0, 1) := by decide +kernel
theorem dX12_wantOwes_50 : decode cX12_wantOwes 50 = .ok (.aload_n 0, 1) := by decide +kernel
theorem dX12_wantOwes_51 : decode cX12_wantOwes 51 = .ok (.getfield 176, 3) := by decide +kernel
theorem dX12_wantOwes_54 : decode cX12_wantOwes 54 = .ok (.iconst 1, 1) := by decide +kernel
theorem dX12_wantOwes_55 : decode cX12_wantOwes 55 = .ok (.isub, 1) := by decide +kernel
theorem dX12_wantOwes_56 : decode cX12_wantOwes 56 = .ok (.invokevirtual 179, 3) := by decide +kernel
theorem dX12_wantOwes_59 : decode cX12_wantOwes 59 = .ok (.istore_n 2, 1) := by decide +kernel
theorem dX12_wantOwes_60 : decode cX12_wantOwes 60 = .ok (.aload_n 0, 1) := by decide +kernel
theorem dX12_wantOwes_61 : decode cX12_wantOwes 61 = .ok (.iconst 0, 1) := by decide +kernel
theorem dX12_wantOwes_62 : decode cX12_wantOwes 62 = .ok (.sipush 999, 3) := by decide +kernel
theorem dX12_wantOwes_65 : decode cX12_wantOwes 65 = .ok (.invokevirtual 179, 3) := by decide +kernel
theorem dX12_wantOwes_68 : decode cX12_wantOwes 68 = .ok (.istore_n 3, 1) := by decide +kernel
theorem dX12_wantOwes_69 : decode cX12_wantOwes 69 = .ok (.aload_n 0, 1) := by decide +kernel
theorem dX12_wantOwes_70 : decode cX12_wantOwes 70 = .ok (.invokevirtual 190, 3) := by decide +kernel
theorem dX12_wantOwes_73 : decode cX12_wantOwes 73 = .ok (.aload_n 0, 1) := by decide +kernel
theorem dX12_wantOwes_74 : decode cX12_wantOwes 74 = .ok (.getfield 166, 3) := by decide +kernel
theorem dX12_wantOwes_77 : decode cX12_wantOwes 77 = .ok (.ifCond .eq 15, 3) := by decide +kernel
theorem dX12_wantOwes_80 : decode cX12_wantOwes 80 = .ok (.aload_n 0, 1) := by decide +kernel
theorem dX12_wantOwes_81 : decode cX12_wantOwes 81 = .ok (.getfield 50, 3) := by decide +kernel
theorem dX12_wantOwes_84 : decode cX12_wantOwes 84 = .ok (.bipush 8, 2) := by decide +kernel
theorem dX12_wantOwes_86 : decode cX12_wantOwes 86 = .ok (.iload_n 1, 1) := by decide +kernel
theorem dX12_wantOwes_87 : decode cX12_wantOwes 87 = .ok (.imul, 1) := by decide +kernel
theorem dX12_wantOwes_88 : decode cX12_wantOwes 88 = .ok (.iload_n 2, 1) := by decide +kernel
theorem dX12_wantOwes_89 : decode cX12_wantOwes 89 = .ok (.iadd, 1) := by decide +kernel
theorem dX12_wantOwes_90 : decode cX12_wantOwes 90 = .ok (.iload_n 3, 1) := by decide +kernel
theorem dX12_wantOwes_91 : decode cX12_wantOwes 91 = .ok (.iastore, 1) := by decide +kernel
theorem dX12_wantOwes_92 : decode cX12_wantOwes 92 = .ok (.return_, 1) := by decide +kernel
theorem dX12_wantAsleep_0 : decode cX12_wantAsleep 0 = .ok (.aload_n 0, 1) := by decide +kernel
theorem dX12_wantAsleep_1 : decode cX12_wantAsleep 1 = .ok (.invokevirtual 170, 3) := by decide +kernel
theorem dX12_wantAsleep_4 : decode cX12_wantAsleep 4 = .ok (.aload_n 0, 1) := by decide +kernel
theorem dX12_wantAsleep_5 : decode cX12_wantAsleep 5 = .ok (.getfield 134, 3) := by decide +kernel
theorem dX12_wantAsleep_8 : decode cX12_wantAsleep 8 = .ok (.iconst 2, 1) := by decide +kernel
theorem dX12_wantAsleep_9 : decode cX12_wantAsleep 9 = .ok (.if_icmp .ne 49, 3) := by decide +kernel
theorem dX12_wantAsleep_12 : decode cX12_wantAsleep 12 = .ok (.aload_n 0, 1) := by decide +kernel
theorem dX12_wantAsleep_13 : decode cX12_wantAsleep 13 = .ok (.getfield 141, 3) := by decide +kernel
theorem dX12_wantAsleep_16 : decode cX12_wantAsleep 16 = .ok (.iconst 0, 1) := by decide +kernel
theorem dX12_wantAsleep_17 : decode cX12_wantAsleep 17 = .ok (.aload_n 0, 1) := by decide +kernel
theorem dX12_wantAsleep_18 : decode cX12_wantAsleep 18 = .ok (.getfield 176, 3) := by decide +kernel
theorem dX12_wantAsleep_21 : decode cX12_wantAsleep 21 = .ok (.iconst 1, 1) := by decide +kernel
theorem dX12_wantAsleep_22 : decode cX12_wantAsleep 22 = .ok (.isub, 1) := by decide +kernel
theorem dX12_wantAsleep_23 : decode cX12_wantAsleep 23 = .ok (.invokestatic 108, 3) := by decide +kernel
theorem dX12_wantAsleep_26 : decode cX12_wantAsleep 26 = .ok (.ifCond .eq 32, 3) := by decide +kernel
theorem dX12_wantAsleep_29 : decode cX12_wantAsleep 29 = .ok (.aload_n 0, 1) := by decide +kernel
theorem dX12_wantAsleep_30 : decode cX12_wantAsleep 30 = .ok (.getfield 193, 3) := by decide +kernel
theorem dX12_wantAsleep_33 : decode cX12_wantAsleep 33 = .ok (.aload_n 0, 1) := by decide +kernel
theorem dX12_wantAsleep_34 : decode cX12_wantAsleep 34 = .ok (.getfield 141, 3) := by decide +kernel
theorem dX12_wantAsleep_37 : decode cX12_wantAsleep 37 = .ok (.invokestatic 196, 3) := by decide +kernel
theorem dX12_wantAsleep_40 : decode cX12_wantAsleep 40 = .ok (.ifCond .eq 18, 3) := by decide +kernel
theorem dX12_wantAsleep_43 : decode cX12_wantAsleep 43 = .ok (.aload_n 0, 1) := by decide +kernel
theorem dX12_wantAsleep_44 : decode cX12_wantAsleep 44 = .ok (.getfield 193, 3) := by decide +kernel
theorem dX12_wantAsleep_47 : decode cX12_wantAsleep 47 = .ok (.invokestatic 200, 3) := by decide +kernel
theorem dX12_wantAsleep_50 : decode cX12_wantAsleep 50 = .ok (.iconst 1, 1) := by decide +kernel
theorem dX12_wantAsleep_51 : decode cX12_wantAsleep 51 = .ok (.if_icmp .le 7, 3) := by decide +kernel
theorem dX12_wantAsleep_54 : decode cX12_wantAsleep 54 = .ok (.iconst 1, 1) := by decide +kernel
theorem dX12_wantAsleep_55 : decode cX12_wantAsleep 55 = .ok (.goto 4, 3) := by decide +kernel
theorem dX12_wantAsleep_58 : decode cX12_wantAsleep 58 = .ok (.iconst 0, 1) := by decide +kernel
theorem dX12_wantAsleep_59 : decode cX12_wantAsleep 59 = .ok (.istore_n 1, 1) := by decide +kernel
theorem dX12_wantAsleep_60 : decode cX12_wantAsleep 60 = .ok (.aload_n 0, 1) := by decide +kernel
theorem dX12_wantAsleep_61 : decode cX12_wantAsleep 61 = .ok (.iload_n 1, 1) := by decide +kernel
theorem dX12_wantAsleep_62 : decode cX12_wantAsleep 62 = .ok (.putfield 166, 3) := by decide +kernel
theorem dX12_wantAsleep_65 : decode cX12_wantAsleep 65 = .ok (.aload_n 0, 1) := by decide +kernel
theorem dX12_wantAsleep_66 : decode cX12_wantAsleep 66 = .ok (.iconst 0, 1) := by decide +kernel
theorem dX12_wantAsleep_67 : decode cX12_wantAsleep 67 = .ok (.bipush 7, 2) := by decide +kernel
theorem dX12_wantAsleep_69 : decode cX12_wantAsleep 69 = .ok (.invokevirtual 179, 3) := by decide +kernel
theorem dX12_wantAsleep_72 : decode cX12_wantAsleep 72 = .ok (.istore_n 2, 1) := by decide +kernel
theorem dX12_wantAsleep_73 : decode cX12_wantAsleep 73 = .ok (.aload_n 0, 1) := by decide +kernel
theorem dX12_wantAsleep_74 : decode cX12_wantAsleep 74 = .ok (.invokevirtual 190, 3) := by decide +kernel
theorem dX12_wantAsleep_77 : decode cX12_wantAsleep 77 = .ok (.aload_n 0, 1) := by decide +kernel
theorem dX12_wantAsleep_78 : decode cX12_wantAsleep 78 = .ok (.getfield 166, 3) := by decide +kernel
theorem dX12_wantAsleep_81 : decode cX12_wantAsleep 81 = .ok (.ifCond .eq 17, 3) := by decide +kernel
theorem dX12_wantAsleep_84 : decode cX12_wantAsleep 84 = .ok (.aload_n 0, 1) := by decide +kernel
theorem dX12_wantAsleep_85 : decode cX12_wantAsleep 85 = .ok (.dup, 1) := by decide +kernel
theorem dX12_wantAsleep_86 : decode cX12_wantAsleep 86 = .ok (.getfield 193, 3) := by decide +kernel
theorem dX12_wantAsleep_89 : decode cX12_wantAsleep 89 = .ok (.iconst 1, 1) := by decide +kernel
theorem dX12_wantAsleep_90 : decode cX12_wantAsleep 90 = .ok (.iload_n 2, 1) := by decide +kernel
theorem dX12_wantAsleep_91 : decode cX12_wantAsleep 91 = .ok (.ishl, 1) := by decide +kernel
theorem dX12_wantAsleep_92 : decode cX12_wantAsleep 92 = .ok (.iconst (-1), 1) := by decide +kernel
theorem dX12_wantAsleep_93 : decode cX12_wantAsleep 93 = .ok (.ixor, 1) := by decide +kernel
theorem dX12_wantAsleep_94 : decode cX12_wantAsleep 94 = .ok (.iand, 1) := by decide +kernel
theorem dX12_wantAsleep_95 : decode cX12_wantAsleep 95 = .ok (.putfield 193, 3) := by decide +kernel
theorem dX12_wantAsleep_98 : decode cX12_wantAsleep 98 = .ok (.return_, 1) := by decide +kernel
theorem dX12_wantClause_0 : decode cX12_wantClause 0 = .ok (.aload_n 0, 1) := by decide +kernel
theorem dX12_wantClause_1 : decode cX12_wantClause 1 = .ok (.invokevirtual 203, 3) := by decide +kernel
theorem dX12_wantClause_4 : decode cX12_wantClause 4 = .ok (.ifCond .lt 14, 3) := by decide +kernel
theorem dX12_wantClause_7 : decode cX12_wantClause 7 = .ok (.aload_n 0, 1) := by decide +kernel
theorem dX12_wantClause_8 : decode cX12_wantClause 8 = .ok (.aload_n 0, 1) := by decide +kernel
theorem dX12_wantClause_9 : decode cX12_wantClause 9 = .ok (.invokevirtual 203, 3) := by decide +kernel
theorem dX12_wantClause_12 : decode cX12_wantClause 12 = .ok (.invokevirtual 207, 3) := by decide +kernel
theorem dX12_wantClause_15 : decode cX12_wantClause 15 = .ok (.goto 42, 3) := by decide +kernel
theorem dX12_wantClause_18 : decode cX12_wantClause 18 = .ok (.aload_n 0, 1) := by decide +kernel
theorem dX12_wantClause_19 : decode cX12_wantClause 19 = .ok (.ldc2_w 211, 3) := by decide +kernel
theorem dX12_wantClause_22 : decode cX12_wantClause 22 = .ok (.invokevirtual 152, 3) := by decide +kernel
theorem dX12_wantClause_25 : decode cX12_wantClause 25 = .ok (.ifCond .eq 10, 3) := by decide +kernel
theorem dX12_wantClause_28 : decode cX12_wantClause 28 = .ok (.aload_n 0, 1) := by decide +kernel
theorem dX12_wantClause_29 : decode cX12_wantClause 29 = .ok (.invokevirtual 213, 3) := by decide +kernel
theorem dX12_wantClause_32 : decode cX12_wantClause 32 = .ok (.goto 25, 3) := by decide +kernel
theorem dX12_wantClause_35 : decode cX12_wantClause 35 = .ok (.aload_n 0, 1) := by decide +kernel
theorem dX12_wantClause_36 : decode cX12_wantClause 36 = .ok (.ldc2_w 216, 3) := by decide +kernel
theorem dX12_wantClause_39 : decode cX12_wantClause 39 = .ok (.invokevirtual 152, 3) := by decide +kernel
theorem dX12_wantClause_42 : decode cX12_wantClause 42 = .ok (.ifCond .eq 10, 3) := by decide +kernel
theorem dX12_wantClause_45 : decode cX12_wantClause 45 = .ok (.aload_n 0, 1) := by decide +kernel
theorem dX12_wantClause_46 : decode cX12_wantClause 46 = .ok (.invokevirtual 218, 3) := by decide +kernel
theorem dX12_wantClause_49 : decode cX12_wantClause 49 = .ok (.goto 8, 3) := by decide +kernel
theorem dX12_wantClause_52 : decode cX12_wantClause 52 = .ok (.aload_n 0, 1) := by decide +kernel
theorem dX12_wantClause_53 : decode cX12_wantClause 53 = .ok (.iconst 0, 1) := by decide +kernel
theorem dX12_wantClause_54 : decode cX12_wantClause 54 = .ok (.putfield 166, 3) := by decide +kernel
theorem dX12_wantClause_57 : decode cX12_wantClause 57 = .ok (.return_, 1) := by decide +kernel
theorem dX12_valley_0 : decode cX12_valley 0 = .ok (.aload_n 0, 1) := by decide +kernel
theorem dX12_valley_1 : decode cX12_valley 1 = .ok (.iconst 0, 1) := by decide +kernel
theorem dX12_valley_2 : decode cX12_valley 2 = .ok (.putfield 117, 3) := by decide +kernel
theorem dX12_valley_5 : decode cX12_valley 5 = .ok (.aload_n 0, 1) := by decide +kernel
theorem dX12_valley_6 : decode cX12_valley 6 = .ok (.iconst 1, 1) := by decide +kernel
theorem dX12_valley_7 : decode cX12_valley 7 = .ok (.putfield 166, 3) := by decide +kernel
theorem dX12_valley_10 : decode cX12_valley 10 = .ok (.aload_n 0, 1) := by decide +kernel
theorem dX12_valley_11 : decode cX12_valley 11 = .ok (.iconst 0, 1) := by decide +kernel
theorem dX12_valley_12 : decode cX12_valley 12 = .ok (.putfield 176, 3) := by decide +kernel
theorem dX12_valley_15 : decode cX12_valley 15 = .ok (.aload_n 0, 1) := by decide +kernel
theorem dX12_valley_16 : decode cX12_valley 16 = .ok (.iconst 0, 1) := by decide +kernel
theorem dX12_valley_17 : decode cX12_valley 17 = .ok (.putfield 193, 3) := by decide +kernel
theorem dX12_valley_20 : decode cX12_valley 20 = .ok (.iconst 0, 1) := by decide +kernel
theorem dX12_valley_21 : decode cX12_valley 21 = .ok (.istore_n 1, 1) := by decide +kernel
theorem dX12_valley_22 : decode cX12_valley 22 = .ok (.iload_n 1, 1) := by decide +kernel
theorem dX12_valley_23 : decode cX12_valley 23 = .ok (.bipush 64, 2) := by decide +kernel
theorem dX12_valley_25 : decode cX12_valley 25 = .ok (.if_icmp .ge 16, 3) := by decide +kernel
theorem dX12_valley_28 : decode cX12_valley 28 = .ok (.aload_n 0, 1) := by decide +kernel
theorem dX12_valley_29 : decode cX12_valley 29 = .ok (.getfield 50, 3) := by decide +kernel
theorem dX12_valley_32 : decode cX12_valley 32 = .ok (.iload_n 1, 1) := by decide +kernel
theorem dX12_valley_33 : decode cX12_valley 33 = .ok (.iconst 0, 1) := by decide +kernel
theorem dX12_valley_34 : decode cX12_valley 34 = .ok (.iastore, 1) := by decide +kernel
theorem dX12_valley_35 : decode cX12_valley 35 = .ok (.iinc 1 1, 3) := by decide +kernel
theorem dX12_valley_38 : decode cX12_valley 38 = .ok (.goto (-16), 3) := by decide +kernel
theorem dX12_valley_41 : decode cX12_valley 41 = .ok (.aload_n 0, 1) := by decide +kernel
theorem dX12_valley_42 : decode cX12_valley 42 = .ok (.invokevirtual 170, 3) := by decide +kernel
theorem dX12_valley_45 : decode cX12_valley 45 = .ok (.aload_n 0, 1) := by decide +kernel
theorem dX12_valley_46 : decode cX12_valley 46 = .ok (.getfield 166, 3) := by decide +kernel
theorem dX12_valley_49 : decode cX12_valley 49 = .ok (.ifCond .eq 17, 3) := by decide +kernel
theorem dX12_valley_52 : decode cX12_valley 52 = .ok (.aload_n 0, 1) := by decide +kernel
theorem dX12_valley_53 : decode cX12_valley 53 = .ok (.getfield 134, 3) := by decide +kernel
theorem dX12_valley_56 : decode cX12_valley 56 = .ok (.ifCond .eq 10, 3) := by decide +kernel
theorem dX12_valley_59 : decode cX12_valley 59 = .ok (.aload_n 0, 1) := by decide +kernel
theorem dX12_valley_60 : decode cX12_valley 60 = .ok (.invokevirtual 221, 3) := by decide +kernel
theorem dX12_valley_63 : decode cX12_valley 63 = .ok (.goto (-18), 3) := by decide +kernel
theorem dX12_valley_66 : decode cX12_valley 66 = .ok (.aload_n 0, 1) := by decide +kernel
theorem dX12_valley_67 : decode cX12_valley 67 = .ok (.iconst 0, 1) := by decide +kernel
theorem dX12_valley_68 : decode cX12_valley 68 = .ok (.putfield 112, 3) := by decide +kernel
theorem dX12_valley_71 : decode cX12_valley 71 = .ok (.aload_n 0, 1) := by decide +kernel
theorem dX12_valley_72 : decode cX12_valley 72 = .ok (.getfield 166, 3) := by decide +kernel
theorem dX12_valley_75 : decode cX12_valley 75 = .ok (.ifCond .ne 11, 3) := by decide +kernel
theorem dX12_valley_78 : decode cX12_valley 78 = .ok (.bipush (-100), 2) := by decide +kernel
theorem dX12_valley_80 : decode cX12_valley 80 = .ok (.aload_n 0, 1) := by decide +kernel
theorem dX12_valley_81 : decode cX12_valley 81 = .ok (.getfield 120, 3) := by decide +kernel
theorem dX12_valley_84 : decode cX12_valley 84 = .ok (.isub, 1) := by decide +kernel
theorem dX12_valley_85 : decode cX12_valley 85 = .ok (.ireturn, 1) := by decide +kernel
theorem dX12_valley_86 : decode cX12_valley 86 = .ok (.aload_n 0, 1) := by decide +kernel
theorem dX12_valley_87 : decode cX12_valley 87 = .ok (.aload_n 0, 1) := by decide +kernel
theorem dX12_valley_88 : decode cX12_valley 88 = .ok (.getfield 176, 3) := by decide +kernel
theorem dX12_valley_91 : decode cX12_valley 91 = .ok (.putfield 105, 3) := by decide +kernel
theorem dX12_valley_94 : decode cX12_valley 94 = .ok (.aload_n 0, 1) := by decide +kernel
theorem dX12_valley_95 : decode cX12_valley 95 = .ok (.aload_n 0, 1) := by decide +kernel
theorem dX12_valley_96 : decode cX12_valley 96 = .ok (.getfield 193, 3) := by decide +kernel
theorem dX12_valley_99 : decode cX12_valley 99 = .ok (.putfield 224, 3) := by decide +kernel
theorem dX12_valley_102 : decode cX12_valley 102 = .ok (.aload_n 0, 1) := by decide +kernel
theorem dX12_valley_103 : decode cX12_valley 103 = .ok (.iconst 0, 1) := by decide +kernel
theorem dX12_valley_104 : decode cX12_valley 104 = .ok (.putfield 227, 3) := by decide +kernel
theorem dX12_valley_107 : decode cX12_valley 107 = .ok (.iconst 0, 1) := by decide +kernel
theorem dX12_valley_108 : decode cX12_valley 108 = .ok (.istore_n 1, 1) := by decide +kernel
theorem dX12_valley_109 : decode cX12_valley 109 = .ok (.iload_n 1, 1) := by decide +kernel
theorem dX12_valley_110 : decode cX12_valley 110 = .ok (.bipush 8, 2) := by decide +kernel
theorem dX12_valley_112 : decode cX12_valley 112 = .ok (.if_icmp .ge 71, 3) := by decide +kernel
theorem dX12_valley_115 : decode cX12_valley 115 = .ok (.aload_n 0, 1) := by decide +kernel
theorem dX12_valley_116 : decode cX12_valley 116 = .ok (.getfield 7, 3) := by decide +kernel
theorem dX12_valley_119 : decode cX12_valley 119 = .ok (.iload_n 1, 1) := by decide +kernel
theorem dX12_valley_120 : decode cX12_valley 120 = .ok (.aload_n 0, 1) := by decide +kernel
theorem dX12_valley_121 : decode cX12_valley 121 = .ok (.getfield 38, 3) := by decide +kernel
theorem dX12_valley_124 : decode cX12_valley 124 = .ok (.iload_n 1, 1) := by decide +kernel
theorem dX12_valley_125 : decode cX12_valley 125 = .ok (.iaload, 1) := by decide +kernel
theorem dX12_valley_126 : decode cX12_valley 126 = .ok (.iastore, 1) := by decide +kernel
theorem dX12_valley_127 : decode cX12_valley 127 = .ok (.aload_n 0, 1) := by decide +kernel
theorem dX12_valley_128 : decode cX12_valley 128 = .ok (.getfield 13, 3) := by decide +kernel
theorem dX12_valley_131 : decode cX12_valley 131 = .ok (.iload_n 1, 1) := by decide +kernel
theorem dX12_valley_132 : decode cX12_valley 132 = .ok (.aload_n 0, 1) := by decide +kernel
theorem dX12_valley_133 : decode cX12_valley 133 = .ok (.getfield 41, 3) := by decide +kernel
theorem dX12_valley_136 : decode cX12_valley 136 = .ok (.iload_n 1, 1) := by decide +kernel
theorem dX12_valley_137 : decode cX12_valley 137 = .ok (.iaload, 1) := by decide +kernel
theorem dX12_valley_138 : decode cX12_valley 138 = .ok (.iastore, 1) := by decide +kernel
theorem dX12_valley_139 : decode cX12_valley 139 = .ok (.aload_n 0, 1) := by decide +kernel
theorem dX12_valley_140 : decode cX12_valley 140 = .ok (.getfield 16, 3) := by decide +kernel
theorem dX12_valley_143 : decode cX12_valley 143 = .ok (.iload_n 1, 1) := by decide +kernel
theorem dX12_valley_144 : decode cX12_valley 144 = .ok (.aload_n 0, 1) := by decide +kernel
theorem dX12_valley_145 : decode cX12_valley 145 = .ok (.getfield 44, 3) := by decide +kernel
theorem dX12_valley_148 : decode cX12_valley 148 = .ok (.iload_n 1, 1) := by decide +kernel
theorem dX12_valley_149 : decode cX12_valley 149 = .ok (.iaload, 1) := by decide +kernel
theorem dX12_valley_150 : decode cX12_valley 150 = .ok (.iastore, 1) := by decide +kernel
theorem dX12_valley_151 : decode cX12_valley 151 = .ok (.aload_n 0, 1) := by decide +kernel
theorem dX12_valley_152 : decode cX12_valley 152 = .ok (.getfield 19, 3) := by decide +kernel
theorem dX12_valley_155 : decode cX12_valley 155 = .ok (.iload_n 1, 1) := by decide +kernel
theorem dX12_valley_156 : decode cX12_valley 156 = .ok (.aload_n 0, 1) := by decide +kernel
theorem dX12_valley_157 : decode cX12_valley 157 = .ok (.getfield 47, 3) := by decide +kernel
theorem dX12_valley_160 : decode cX12_valley 160 = .ok (.iload_n 1, 1) := by decide +kernel
theorem dX12_valley_161 : decode cX12_valley 161 = .ok (.iaload, 1) := by decide +kernel
theorem dX12_valley_162 : decode cX12_valley 162 = .ok (.iastore, 1) := by decide +kernel
theorem dX12_valley_163 : decode cX12_valley 163 = .ok (.aload_n 0, 1) := by decide +kernel
theorem dX12_valley_164 : decode cX12_valley 164 = .ok (.getfield 22, 3) := by decide +kernel
theorem dX12_valley_167 : decode cX12_valley 167 = .ok (.iload_n 1, 1) := by decide +kernel
theorem dX12_valley_168 : decode cX12_valley 168 = .ok (.iconst 0, 1) := by decide +kernel
theorem dX12_valley_169 : decode cX12_valley 169 = .ok (.iastore, 1) := by decide +kernel
theorem dX12_valley_170 : decode cX12_valley 170 = .ok (.aload_n 0, 1) := by decide +kernel
theorem dX12_valley_171 : decode cX12_valley 171 = .ok (.getfield 25, 3) := by decide +kernel
theorem dX12_valley_174 : decode cX12_valley 174 = .ok (.iload_n 1, 1) := by decide +kernel
theorem dX12_valley_175 : decode cX12_valley 175 = .ok (.iconst 0, 1) := by decide +kernel
theorem dX12_valley_176 : decode cX12_valley 176 = .ok (.iastore, 1) := by decide +kernel
theorem dX12_valley_177 : decode cX12_valley 177 = .ok (.iinc 1 1, 3) := by decide +kernel
theorem dX12_valley_180 : decode cX12_valley 180 = .ok (.goto (-71), 3) := by decide +kernel
theorem dX12_valley_183 : decode cX12_valley 183 = .ok (.iconst 0, 1) := by decide +kernel
theorem dX12_valley_184 : decode cX12_valley 184 = .ok (.istore_n 1, 1) := by decide +kernel
theorem dX12_valley_185 : decode cX12_valley 185 = .ok (.iload_n 1, 1) := by decide +kernel
theorem dX12_valley_186 : decode cX12_valley 186 = .ok (.bipush 64, 2) := by decide +kernel
theorem dX12_valley_188 : decode cX12_valley 188 = .ok (.if_icmp .ge 21, 3) := by decide +kernel
theorem dX12_valley_191 : decode cX12_valley 191 = .ok (.aload_n 0, 1) := by decide +kernel
theorem dX12_valley_192 : decode cX12_valley 192 = .ok (.getfield 28, 3) := by decide +kernel
theorem dX12_valley_195 : decode cX12_valley 195 = .ok (.iload_n 1, 1) := by decide +kernel
theorem dX12_valley_196 : decode cX12_valley 196 = .ok (.aload_n 0, 1) := by decide +kernel
theorem dX12_valley_197 : decode cX12_valley 197 = .ok (.getfield 50, 3) := by decide +kernel
theorem dX12_valley_200 : decode cX12_valley 200 = .ok (.iload_n 1, 1) := by decide +kernel
theorem dX12_valley_201 : decode cX12_valley 201 = .ok (.iaload, 1) := by decide +kernel
theorem dX12_valley_202 : decode cX12_valley 202 = .ok (.iastore, 1) := by decide +kernel
theorem dX12_valley_203 : decode cX12_valley 203 = .ok (.iinc 1 1, 3) := by decide +kernel
theorem dX12_valley_206 : decode cX12_valley 206 = .ok (.goto (-21), 3) := by decide +kernel
theorem dX12_valley_209 : decode cX12_valley 209 = .ok (.aload_n 0, 1) := by decide +kernel
theorem dX12_valley_210 : decode cX12_valley 210 = .ok (.iconst 0, 1) := by decide +kernel
theorem dX12_valley_211 : decode cX12_valley 211 = .ok (.putfield 230, 3) := by decide +kernel
theorem dX12_valley_214 : decode cX12_valley 214 = .ok (.aload_n 0, 1) := by decide +kernel
theorem dX12_valley_215 : decode cX12_valley 215 = .ok (.getfield 105, 3) := by decide +kernel
theorem dX12_valley_218 : decode cX12_valley 218 = .ok (.ireturn, 1) := by decide +kernel
theorem dX12_person_0 : decode cX12_person 0 = .ok (.iload_n 1, 1) := by decide +kernel
theorem dX12_person_1 : decode cX12_person 1 = .ok (.iconst 0, 1) := by decide +kernel
theorem dX12_person_2 : decode cX12_person 2 = .ok (.iconst 5, 1) := by decide +kernel
theorem dX12_person_3 : decode cX12_person 3 = .ok (.invokestatic 108, 3) := by decide +kernel
theorem dX12_person_6 : decode cX12_person 6 = .ok (.ifCond .eq 13, 3) := by decide +kernel
theorem dX12_person_9 : decode cX12_person 9 = .ok (.iload_n 2, 1) := by decide +kernel
theorem dX12_person_10 : decode cX12_person 10 = .ok (.iconst 1, 1) := by decide +kernel
theorem dX12_person_11 : decode cX12_person 11 = .ok (.bipush 90, 2) := by decide +kernel
theorem dX12_person_13 : decode cX12_person 13 = .ok (.invokestatic 108, 3) := by decide +kernel
theorem dX12_person_16 : decode cX12_person 16 = .ok (.ifCond .ne 5, 3) := by decide +kernel
theorem dX12_person_19 : decode cX12_person 19 = .ok (.iconst (-1), 1) := by decide +kernel
theorem dX12_person_20 : decode cX12_person 20 = .ok (.ireturn, 1) := by decide +kernel
theorem dX12_person_21 : decode cX12_person 21 = .ok (.aload_n 0, 1) := by decide +kernel
theorem dX12_person_22 : decode cX12_person 22 = .ok (.getfield 105, 3) := by decide +kernel
theorem dX12_person_25 : decode cX12_person 25 = .ok (.bipush 8, 2) := by decide +kernel
theorem dX12_person_27 : decode cX12_person 27 = .ok (.if_icmp .ne 6, 3) := by decide +kernel
theorem dX12_person_30 : decode cX12_person 30 = .ok (.bipush (-2), 2) := by decide +kernel
theorem dX12_person_32 : decode cX12_person 32 = .ok (.ireturn, 1) := by decide +kernel
theorem dX12_person_33 : decode cX12_person 33 = .ok (.aload_n 0, 1) := by decide +kernel
theorem dX12_person_34 : decode cX12_person 34 = .ok (.getfield 7, 3) := by decide +kernel
theorem dX12_person_37 : decode cX12_person 37 = .ok (.aload_n 0, 1) := by decide +kernel
theorem dX12_person_38 : decode cX12_person 38 = .ok (.getfield 105, 3) := by decide +kernel
theorem dX12_person_41 : decode cX12_person 41 = .ok (.iload_n 1, 1) := by decide +kernel
theorem dX12_person_42 : decode cX12_person 42 = .ok (.iastore, 1) := by decide +kernel
theorem dX12_person_43 : decode cX12_person 43 = .ok (.aload_n 0, 1) := by decide +kernel
theorem dX12_person_44 : decode cX12_person 44 = .ok (.getfield 13, 3) := by decide +kernel
theorem dX12_person_47 : decode cX12_person 47 = .ok (.aload_n 0, 1) := by decide +kernel
theorem dX12_person_48 : decode cX12_person 48 = .ok (.getfield 105, 3) := by decide +kernel
theorem dX12_person_51 : decode cX12_person 51 = .ok (.iload_n 2, 1) := by decide +kernel
theorem dX12_person_52 : decode cX12_person 52 = .ok (.iastore, 1) := by decide +kernel
theorem dX12_person_53 : decode cX12_person 53 = .ok (.aload_n 0, 1) := by decide +kernel
theorem dX12_person_54 : decode cX12_person 54 = .ok (.getfield 16, 3) := by decide +kernel
theorem dX12_person_57 : decode cX12_person 57 = .ok (.aload_n 0, 1) := by decide +kernel
theorem dX12_person_58 : decode cX12_person 58 = .ok (.getfield 105, 3) := by decide +kernel
theorem dX12_person_61 : decode cX12_person 61 = .ok (.bipush 100, 2) := by decide +kernel
theorem dX12_person_63 : decode cX12_person 63 = .ok (.iastore, 1) := by decide +kernel
theorem dX12_person_64 : decode cX12_person 64 = .ok (.aload_n 0, 1) := by decide +kernel
theorem dX12_person_65 : decode cX12_person 65 = .ok (.getfield 19, 3) := by decide +kernel
theorem dX12_person_68 : decode cX12_person 68 = .ok (.aload_n 0, 1) := by decide +kernel
theorem dX12_person_69 : decode cX12_person 69 = .ok (.getfield 105, 3) := by decide +kernel
theorem dX12_person_72 : decode cX12_person 72 = .ok (.iconst 0, 1) := by decide +kernel
theorem dX12_person_73 : decode cX12_person 73 = .ok (.iastore, 1) := by decide +kernel
theorem dX12_person_74 : decode cX12_person 74 = .ok (.aload_n 0, 1) := by decide +kernel
theorem dX12_person_75 : decode cX12_person 75 = .ok (.getfield 22, 3) := by decide +kernel
theorem dX12_person_78 : decode cX12_person 78 = .ok (.aload_n 0, 1) := by decide +kernel
theorem dX12_person_79 : decode cX12_person 79 = .ok (.getfield 105, 3) := by decide +kernel
theorem dX12_person_82 : decode cX12_person 82 = .ok (.iconst 0, 1) := by decide +kernel
theorem dX12_person_83 : decode cX12_person 83 = .ok (.iastore, 1) := by decide +kernel
theorem dX12_person_84 : decode cX12_person 84 = .ok (.aload_n 0, 1) := by decide +kernel
theorem dX12_person_85 : decode cX12_person 85 = .ok (.getfield 25, 3) := by decide +kernel
theorem dX12_person_88 : decode cX12_person 88 = .ok (.aload_n 0, 1) := by decide +kernel
theorem dX12_person_89 : decode cX12_person 89 = .ok (.getfield 105, 3) := by decide +kernel
theorem dX12_person_92 : decode cX12_person 92 = .ok (.iconst 0, 1) := by decide +kernel
theorem dX12_person_93 : decode cX12_person 93 = .ok (.iastore, 1) := by decide +kernel
theorem dX12_person_94 : decode cX12_person 94 = .ok (.iconst 0, 1) := by decide +kernel
theorem dX12_person_95 : decode cX12_person 95 = .ok (.istore_n 3, 1) := by decide +kernel
theorem dX12_person_96 : decode cX12_person 96 = .ok (.iload_n 3, 1) := by decide +kernel
theorem dX12_person_97 : decode cX12_person 97 = .ok (.bipush 8, 2) := by decide +kernel
theorem dX12_person_99 : decode cX12_person 99 = .ok (.if_icmp .ge 39, 3) := by decide +kernel
theorem dX12_person_102 : decode cX12_person 102 = .ok (.aload_n 0, 1) := by decide +kernel
theorem dX12_person_103 : decode cX12_person 103 = .ok (.getfield 28, 3) := by decide +kernel
theorem dX12_person_106 : decode cX12_person 106 = .ok (.bipush 8, 2) := by decide +kernel
theorem dX12_person_108 : decode cX12_person 108 = .ok (.aload_n 0, 1) := by decide +kernel
theorem dX12_person_109 : decode cX12_person 109 = .ok (.getfield 105, 3) := by decide +kernel
theorem dX12_person_112 : decode cX12_person 112 = .ok (.imul, 1) := by decide +kernel
theorem dX12_person_113 : decode cX12_person 113 = .ok (.iload_n 3, 1) := by decide +kernel
theorem dX12_person_114 : decode cX12_person 114 = .ok (.iadd, 1) := by decide +kernel
theorem dX12_person_115 : decode cX12_person 115 = .ok (.iconst 0, 1) := by decide +kernel
theorem dX12_person_116 : decode cX12_person 116 = .ok (.iastore, 1) := by decide +kernel
theorem dX12_person_117 : decode cX12_person 117 = .ok (.aload_n 0, 1) := by decide +kernel
theorem dX12_person_118 : decode cX12_person 118 = .ok (.getfield 28, 3) := by decide +kernel
theorem dX12_person_121 : decode cX12_person 121 = .ok (.bipush 8, 2) := by decide +kernel
theorem dX12_person_123 : decode cX12_person 123 = .ok (.iload_n 3, 1) := by decide +kernel
theorem dX12_person_124 : decode cX12_person 124 = .ok (.imul, 1) := by decide +kernel
theorem dX12_person_125 : decode cX12_person 125 = .ok (.aload_n 0, 1) := by decide +kernel
theorem dX12_person_126 : decode cX12_person 126 = .ok (.getfield 105, 3) := by decide +kernel
theorem dX12_person_129 : decode cX12_person 129 = .ok (.iadd, 1) := by decide +kernel
theorem dX12_person_130 : decode cX12_person 130 = .ok (.iconst 0, 1) := by decide +kernel
theorem dX12_person_131 : decode cX12_person 131 = .ok (.iastore, 1) := by decide +kernel
theorem dX12_person_132 : decode cX12_person 132 = .ok (.iinc 3 1, 3) := by decide +kernel
theorem dX12_person_135 : decode cX12_person 135 = .ok (.goto (-39), 3) := by decide +kernel
theorem dX12_person_138 : decode cX12_person 138 = .ok (.aload_n 0, 1) := by decide +kernel
theorem dX12_person_139 : decode cX12_person 139 = .ok (.dup, 1) := by decide +kernel
theorem dX12_person_140 : decode cX12_person 140 = .ok (.getfield 224, 3) := by decide +kernel
theorem dX12_person_143 : decode cX12_person 143 = .ok (.iconst 1, 1) := by decide +kernel
theorem dX12_person_144 : decode cX12_person 144 = .ok (.aload_n 0, 1) := by decide +kernel
theorem dX12_person_145 : decode cX12_person 145 = .ok (.getfield 105, 3) := by decide +kernel
theorem dX12_person_148 : decode cX12_person 148 = .ok (.ishl, 1) := by decide +kernel
theorem dX12_person_149 : decode cX12_person 149 = .ok (.ior, 1) := by decide +kernel
theorem dX12_person_150 : decode cX12_person 150 = .ok (.putfield 224, 3) := by decide +kernel
theorem dX12_person_153 : decode cX12_person 153 = .ok (.aload_n 0, 1) := by decide +kernel
theorem dX12_person_154 : decode cX12_person 154 = .ok (.dup, 1) := by decide +kernel
theorem dX12_person_155 : decode cX12_person 155 = .ok (.getfield 105, 3) := by decide +kernel
theorem dX12_person_158 : decode cX12_person 158 = .ok (.iconst 1, 1) := by decide +kernel
theorem dX12_person_159 : decode cX12_person 159 = .ok (.iadd, 1) := by decide +kernel
theorem dX12_person_160 : decode cX12_person 160 = .ok (.putfield 105, 3) := by decide +kernel
theorem dX12_person_163 : decode cX12_person 163 = .ok (.aload_n 0, 1) := by decide +kernel
theorem dX12_person_164 : decode cX12_person 164 = .ok (.getfield 105, 3) := by decide +kernel
theorem dX12_person_167 : decode cX12_person 167 = .ok (.iconst 1, 1) := by decide +kernel
theorem dX12_person_168 : decode cX12_person 168 = .ok (.isub, 1) := by decide +kernel
theorem dX12_person_169 : decode cX12_person 169 = .ok (.ireturn, 1) := by decide +kernel
theorem dX12_needs_0 : decode cX12_needs 0 = .ok (.aload_n 0, 1) := by decide +kernel
theorem dX12_needs_1 : decode cX12_needs 1 = .ok (.getfield 7, 3) := by decide +kernel
theorem dX12_needs_4 : decode cX12_needs 4 = .ok (.iload_n 1, 1) := by decide +kernel
theorem dX12_needs_5 : decode cX12_needs 5 = .ok (.iaload, 1) := by decide +kernel
theorem dX12_needs_6 : decode cX12_needs 6 = .ok (.tableswitch 63 1 4 #[30, 54, 41, 54], 30) := by decide +kernel
theorem dX12_needs_36 : decode cX12_needs 36 = .ok (.aload_n 0, 1) := by decide +kernel
theorem dX12_needs_37 : decode cX12_needs 37 = .ok (.getfield 13, 3) := by decide +kernel
theorem dX12_needs_40 : decode cX12_needs 40 = .ok (.iload_n 1, 1) := by decide +kernel
theorem dX12_needs_41 : decode cX12_needs 41 = .ok (.iaload, 1) := by decide +kernel
theorem dX12_needs_42 : decode cX12_needs 42 = .ok (.iconst 2, 1) := by decide +kernel
theorem dX12_needs_43 : decode cX12_needs 43 = .ok (.idiv, 1) := by decide +kernel
theorem dX12_needs_44 : decode cX12_needs 44 = .ok (.iconst 1, 1) := by decide +kernel
theorem dX12_needs_45 : decode cX12_needs 45 = .ok (.iadd, 1) := by decide +kernel
theorem dX12_needs_46 : decode cX12_needs 46 = .ok (.ireturn, 1) := by decide +kernel
theorem dX12_needs_47 : decode cX12_needs 47 = .ok (.iconst 2, 1) := by decide +kernel
theorem dX12_needs_48 : decode cX12_needs 48 = .ok (.aload_n 0, 1) := by decide +kernel
theorem dX12_needs_49 : decode cX12_needs 49 = .ok (.getfield 13, 3) := by decide +kernel
theorem dX12_needs_52 : decode cX12_needs 52 = .ok (.iload_n 1, 1) := by decide +kernel
theorem dX12_needs_53 : decode cX12_needs 53 = .ok (.iaload, 1) := by decide +kernel
theorem dX12_needs_54 : decode cX12_needs 54 = .ok (.iconst 2, 1) := by decide +kernel
theorem dX12_needs_55 : decode cX12_needs 55 = .ok (.idiv, 1) := by decide +kernel
theorem dX12_needs_56 : decode cX12_needs 56 = .ok (.iconst 1, 1) := by decide +kernel
theorem dX12_needs_57 : decode cX12_needs 57 = .ok (.iadd, 1) := by decide +kernel
theorem dX12_needs_58 : decode cX12_needs 58 = .ok (.imul, 1) := by decide +kernel
theorem dX12_needs_59 : decode cX12_needs 59 = .ok (.ireturn, 1) := by decide +kernel
theorem dX12_needs_60 : decode cX12_needs 60 = .ok (.aload_n 0, 1) := by decide +kernel
theorem dX12_needs_61 : decode cX12_needs 61 = .ok (.getfield 13, 3) := by decide +kernel
theorem dX12_needs_64 : decode cX12_needs 64 = .ok (.iload_n 1, 1) := by decide +kernel
theorem dX12_needs_65 : decode cX12_needs 65 = .ok (.iaload, 1) := by decide +kernel
theorem dX12_needs_66 : decode cX12_needs 66 = .ok (.iconst 5, 1) := by decide +kernel
theorem dX12_needs_67 : decode cX12_needs 67 = .ok (.iadd, 1) := by decide +kernel
theorem dX12_needs_68 : decode cX12_needs 68 = .ok (.ireturn, 1) := by decide +kernel
theorem dX12_needs_69 : decode cX12_needs 69 = .ok (.aload_n 0, 1) := by decide +kernel
theorem dX12_needs_70 : decode cX12_needs 70 = .ok (.getfield 13, 3) := by decide +kernel
theorem dX12_needs_73 : decode cX12_needs 73 = .ok (.iload_n 1, 1) := by decide +kernel
theorem dX12_needs_74 : decode cX12_needs 74 = .ok (.iaload, 1) := by decide +kernel
theorem dX12_needs_75 : decode cX12_needs 75 = .ok (.ireturn, 1) := by decide +kernel
theorem dX12_personOf_0 : decode cX12_personOf 0 = .ok (.aload_n 0, 1) := by decide +kernel
theorem dX12_personOf_1 : decode cX12_personOf 1 = .ok (.iload_n 1, 1) := by decide +kernel
theorem dX12_personOf_2 : decode cX12_personOf 2 = .ok (.invokevirtual 233, 3) := by decide +kernel
theorem dX12_personOf_5 : decode cX12_personOf 5 = .ok (.ifCond .ne 5, 3) := by decide +kernel
theorem dX12_personOf_8 : decode cX12_personOf 8 = .ok (.iconst (-1), 1) := by decide +kernel
theorem dX12_personOf_9 : decode cX12_personOf 9 = .ok (.ireturn, 1) := by decide +kernel
theorem dX12_personOf_10 : decode cX12_personOf 10 = .ok (.iload_n 2, 1) := by decide +kernel
theorem dX12_personOf_11 : decode cX12_personOf 11 = .ok (.tableswitch 105 0 7 #[45, 52, 59, 66, 72, 79, 86, 95], 45) := by decide +kernel
theorem dX12_personOf_56 : decode cX12_personOf 56 = .ok (.aload_n 0, 1) := by decide +kernel
theorem dX12_personOf_57 : decode cX12_personOf 57 = .ok (.getfield 7, 3) := by decide +kernel
theorem dX12_personOf_60 : decode cX12_personOf 60 = .ok (.iload_n 1, 1) := by decide +kernel
theorem dX12_personOf_61 : decode cX12_personOf 61 = .ok (.iaload, 1) := by decide +kernel
theorem dX12_personOf_62 : decode cX12_personOf 62 = .ok (.ireturn, 1) := by decide +kernel
theorem dX12_personOf_63 : decode cX12_personOf 63 = .ok (.aload_n 0, 1) := by decide +kernel
theorem dX12_personOf_64 : decode cX12_personOf 64 = .ok (.getfield 13, 3) := by decide +kernel
theorem dX12_personOf_67 : decode cX12_personOf 67 = .ok (.iload_n 1, 1) := by decide +kernel
theorem dX12_personOf_68 : decode cX12_personOf 68 = .ok (.iaload, 1) := by decide +kernel
theorem dX12_personOf_69 : decode cX12_personOf 69 = .ok (.ireturn, 1) := by decide +kernel
