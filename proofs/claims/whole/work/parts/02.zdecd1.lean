theorem dX9_day_1 : decode cX9_day 1 = .ok (.iconst 0, 1) := by decide +kernel
theorem dX9_day_2 : decode cX9_day 2 = .ok (.sipush 9999, 3) := by decide +kernel
theorem dX9_day_5 : decode cX9_day 5 = .ok (.invokestatic 47, 3) := by decide +kernel
theorem dX9_day_8 : decode cX9_day 8 = .ok (.ifCond .eq 12, 3) := by decide +kernel
theorem dX9_day_11 : decode cX9_day 11 = .ok (.aload_n 0, 1) := by decide +kernel
theorem dX9_day_12 : decode cX9_day 12 = .ok (.iconst 0, 1) := by decide +kernel
theorem dX9_day_13 : decode cX9_day 13 = .ok (.iload_n 1, 1) := by decide +kernel
theorem dX9_day_14 : decode cX9_day 14 = .ok (.invokevirtual 162, 3) := by decide +kernel
theorem dX9_day_17 : decode cX9_day 17 = .ok (.goto 8, 3) := by decide +kernel
theorem dX9_day_20 : decode cX9_day 20 = .ok (.aload_n 0, 1) := by decide +kernel
theorem dX9_day_21 : decode cX9_day 21 = .ok (.iconst 1, 1) := by decide +kernel
theorem dX9_day_22 : decode cX9_day 22 = .ok (.invokevirtual 51, 3) := by decide +kernel
theorem dX9_day_25 : decode cX9_day 25 = .ok (.ireturn, 1) := by decide +kernel
theorem dX9_seed_0 : decode cX9_seed 0 = .ok (.aload_n 0, 1) := by decide +kernel
theorem dX9_seed_1 : decode cX9_seed 1 = .ok (.iconst 5, 1) := by decide +kernel
theorem dX9_seed_2 : decode cX9_seed 2 = .ok (.iload_n 1, 1) := by decide +kernel
theorem dX9_seed_3 : decode cX9_seed 3 = .ok (.invokevirtual 162, 3) := by decide +kernel
theorem dX9_seed_6 : decode cX9_seed 6 = .ok (.ireturn, 1) := by decide +kernel
theorem dX9_then_0 : decode cX9_then 0 = .ok (.iload_n 1, 1) := by decide +kernel
theorem dX9_then_1 : decode cX9_then 1 = .ok (.iconst 0, 1) := by decide +kernel
theorem dX9_then_2 : decode cX9_then 2 = .ok (.bipush 60, 2) := by decide +kernel
theorem dX9_then_4 : decode cX9_then 4 = .ok (.invokestatic 47, 3) := by decide +kernel
theorem dX9_then_7 : decode cX9_then 7 = .ok (.ifCond .eq 12, 3) := by decide +kernel
theorem dX9_then_10 : decode cX9_then 10 = .ok (.iload_n 2, 1) := by decide +kernel
theorem dX9_then_11 : decode cX9_then 11 = .ok (.iconst 0, 1) := by decide +kernel
theorem dX9_then_12 : decode cX9_then 12 = .ok (.iconst 3, 1) := by decide +kernel
theorem dX9_then_13 : decode cX9_then 13 = .ok (.invokestatic 47, 3) := by decide +kernel
theorem dX9_then_16 : decode cX9_then 16 = .ok (.ifCond .ne 9, 3) := by decide +kernel
theorem dX9_then_19 : decode cX9_then 19 = .ok (.aload_n 0, 1) := by decide +kernel
theorem dX9_then_20 : decode cX9_then 20 = .ok (.iconst 1, 1) := by decide +kernel
theorem dX9_then_21 : decode cX9_then 21 = .ok (.invokevirtual 51, 3) := by decide +kernel
theorem dX9_then_24 : decode cX9_then 24 = .ok (.ireturn, 1) := by decide +kernel
theorem dX9_then_25 : decode cX9_then 25 = .ok (.aload_n 0, 1) := by decide +kernel
theorem dX9_then_26 : decode cX9_then 26 = .ok (.invokevirtual 170, 3) := by decide +kernel
theorem dX9_then_29 : decode cX9_then 29 = .ok (.aload_n 0, 1) := by decide +kernel
theorem dX9_then_30 : decode cX9_then 30 = .ok (.iload_n 1, 1) := by decide +kernel
theorem dX9_then_31 : decode cX9_then 31 = .ok (.invokevirtual 165, 3) := by decide +kernel
theorem dX9_then_34 : decode cX9_then 34 = .ok (.iload_n 2, 1) := by decide +kernel
theorem dX9_then_35 : decode cX9_then 35 = .ok (.ifCond .ne 12, 3) := by decide +kernel
theorem dX9_then_38 : decode cX9_then 38 = .ok (.aload_n 0, 1) := by decide +kernel
theorem dX9_then_39 : decode cX9_then 39 = .ok (.getfield 7, 3) := by decide +kernel
theorem dX9_then_42 : decode cX9_then 42 = .ok (.iconst 1, 1) := by decide +kernel
theorem dX9_then_43 : decode cX9_then 43 = .ok (.iaload, 1) := by decide +kernel
theorem dX9_then_44 : decode cX9_then 44 = .ok (.goto 35, 3) := by decide +kernel
theorem dX9_then_47 : decode cX9_then 47 = .ok (.iload_n 2, 1) := by decide +kernel
theorem dX9_then_48 : decode cX9_then 48 = .ok (.iconst 1, 1) := by decide +kernel
theorem dX9_then_49 : decode cX9_then 49 = .ok (.if_icmp .ne 12, 3) := by decide +kernel
theorem dX9_then_52 : decode cX9_then 52 = .ok (.aload_n 0, 1) := by decide +kernel
theorem dX9_then_53 : decode cX9_then 53 = .ok (.getfield 7, 3) := by decide +kernel
theorem dX9_then_56 : decode cX9_then 56 = .ok (.iconst 2, 1) := by decide +kernel
theorem dX9_then_57 : decode cX9_then 57 = .ok (.iaload, 1) := by decide +kernel
theorem dX9_then_58 : decode cX9_then 58 = .ok (.goto 21, 3) := by decide +kernel
theorem dX9_then_61 : decode cX9_then 61 = .ok (.iload_n 2, 1) := by decide +kernel
theorem dX9_then_62 : decode cX9_then 62 = .ok (.iconst 2, 1) := by decide +kernel
theorem dX9_then_63 : decode cX9_then 63 = .ok (.if_icmp .ne 12, 3) := by decide +kernel
theorem dX9_then_66 : decode cX9_then 66 = .ok (.aload_n 0, 1) := by decide +kernel
theorem dX9_then_67 : decode cX9_then 67 = .ok (.getfield 7, 3) := by decide +kernel
theorem dX9_then_70 : decode cX9_then 70 = .ok (.iconst 4, 1) := by decide +kernel
theorem dX9_then_71 : decode cX9_then 71 = .ok (.iaload, 1) := by decide +kernel
theorem dX9_then_72 : decode cX9_then 72 = .ok (.goto 7, 3) := by decide +kernel
theorem dX9_then_75 : decode cX9_then 75 = .ok (.aload_n 0, 1) := by decide +kernel
theorem dX9_then_76 : decode cX9_then 76 = .ok (.invokevirtual 173, 3) := by decide +kernel
theorem dX9_then_79 : decode cX9_then 79 = .ok (.istore_n 3, 1) := by decide +kernel
theorem dX9_then_80 : decode cX9_then 80 = .ok (.aload_n 0, 1) := by decide +kernel
theorem dX9_then_81 : decode cX9_then 81 = .ok (.invokevirtual 176, 3) := by decide +kernel
theorem dX9_then_84 : decode cX9_then 84 = .ok (.iload_n 3, 1) := by decide +kernel
theorem dX9_then_85 : decode cX9_then 85 = .ok (.ireturn, 1) := by decide +kernel
theorem dX9_soonest_0 : decode cX9_soonest 0 = .ok (.aload_n 0, 1) := by decide +kernel
theorem dX9_soonest_1 : decode cX9_soonest 1 = .ok (.iload_n 1, 1) := by decide +kernel
theorem dX9_soonest_2 : decode cX9_soonest 2 = .ok (.invokevirtual 156, 3) := by decide +kernel
theorem dX9_soonest_5 : decode cX9_soonest 5 = .ok (.ifCond .eq 14, 3) := by decide +kernel
theorem dX9_soonest_8 : decode cX9_soonest 8 = .ok (.iload_n 2, 1) := by decide +kernel
theorem dX9_soonest_9 : decode cX9_soonest 9 = .ok (.iconst 0, 1) := by decide +kernel
theorem dX9_soonest_10 : decode cX9_soonest 10 = .ok (.sipush 9999, 3) := by decide +kernel
theorem dX9_soonest_13 : decode cX9_soonest 13 = .ok (.invokestatic 47, 3) := by decide +kernel
theorem dX9_soonest_16 : decode cX9_soonest 16 = .ok (.ifCond .ne 9, 3) := by decide +kernel
theorem dX9_soonest_19 : decode cX9_soonest 19 = .ok (.aload_n 0, 1) := by decide +kernel
theorem dX9_soonest_20 : decode cX9_soonest 20 = .ok (.iconst 1, 1) := by decide +kernel
theorem dX9_soonest_21 : decode cX9_soonest 21 = .ok (.invokevirtual 51, 3) := by decide +kernel
theorem dX9_soonest_24 : decode cX9_soonest 24 = .ok (.ireturn, 1) := by decide +kernel
theorem dX9_soonest_25 : decode cX9_soonest 25 = .ok (.aload_n 0, 1) := by decide +kernel
theorem dX9_soonest_26 : decode cX9_soonest 26 = .ok (.invokevirtual 170, 3) := by decide +kernel
theorem dX9_soonest_29 : decode cX9_soonest 29 = .ok (.iconst 0, 1) := by decide +kernel
theorem dX9_soonest_30 : decode cX9_soonest 30 = .ok (.istore_n 3, 1) := by decide +kernel
theorem dX9_soonest_31 : decode cX9_soonest 31 = .ok (.iload_n 3, 1) := by decide +kernel
theorem dX9_soonest_32 : decode cX9_soonest 32 = .ok (.bipush 60, 2) := by decide +kernel
theorem dX9_soonest_34 : decode cX9_soonest 34 = .ok (.if_icmp .gt 23, 3) := by decide +kernel
theorem dX9_soonest_37 : decode cX9_soonest 37 = .ok (.aload_n 0, 1) := by decide +kernel
theorem dX9_soonest_38 : decode cX9_soonest 38 = .ok (.iload_n 1, 1) := by decide +kernel
theorem dX9_soonest_39 : decode cX9_soonest 39 = .ok (.iconst 2, 1) := by decide +kernel
theorem dX9_soonest_40 : decode cX9_soonest 40 = .ok (.invokevirtual 111, 3) := by decide +kernel
theorem dX9_soonest_43 : decode cX9_soonest 43 = .ok (.iload_n 2, 1) := by decide +kernel
theorem dX9_soonest_44 : decode cX9_soonest 44 = .ok (.if_icmp .ge 13, 3) := by decide +kernel
theorem dX9_soonest_47 : decode cX9_soonest 47 = .ok (.aload_n 0, 1) := by decide +kernel
theorem dX9_soonest_48 : decode cX9_soonest 48 = .ok (.invokevirtual 150, 3) := by decide +kernel
theorem dX9_soonest_51 : decode cX9_soonest 51 = .ok (.iinc 3 1, 3) := by decide +kernel
theorem dX9_soonest_54 : decode cX9_soonest 54 = .ok (.goto (-23), 3) := by decide +kernel
theorem dX9_soonest_57 : decode cX9_soonest 57 = .ok (.aload_n 0, 1) := by decide +kernel
theorem dX9_soonest_58 : decode cX9_soonest 58 = .ok (.invokevirtual 176, 3) := by decide +kernel
theorem dX9_soonest_61 : decode cX9_soonest 61 = .ok (.iload_n 3, 1) := by decide +kernel
theorem dX9_soonest_62 : decode cX9_soonest 62 = .ok (.bipush 60, 2) := by decide +kernel
theorem dX9_soonest_64 : decode cX9_soonest 64 = .ok (.if_icmp .le 11, 3) := by decide +kernel
theorem dX9_soonest_67 : decode cX9_soonest 67 = .ok (.aload_n 0, 1) := by decide +kernel
theorem dX9_soonest_68 : decode cX9_soonest 68 = .ok (.iconst 2, 1) := by decide +kernel
theorem dX9_soonest_69 : decode cX9_soonest 69 = .ok (.invokevirtual 51, 3) := by decide +kernel
theorem dX9_soonest_72 : decode cX9_soonest 72 = .ok (.goto 4, 3) := by decide +kernel
theorem dX9_soonest_75 : decode cX9_soonest 75 = .ok (.iload_n 3, 1) := by decide +kernel
theorem dX9_soonest_76 : decode cX9_soonest 76 = .ok (.ireturn, 1) := by decide +kernel
theorem dX9_isAsked_0 : decode cX9_isAsked 0 = .ok (.iload_n 0, 1) := by decide +kernel
theorem dX9_isAsked_1 : decode cX9_isAsked 1 = .ok (.iconst 0, 1) := by decide +kernel
theorem dX9_isAsked_2 : decode cX9_isAsked 2 = .ok (.bipush 40, 2) := by decide +kernel
theorem dX9_isAsked_4 : decode cX9_isAsked 4 = .ok (.invokestatic 47, 3) := by decide +kernel
theorem dX9_isAsked_7 : decode cX9_isAsked 7 = .ok (.ifCond .eq 16, 3) := by decide +kernel
theorem dX9_isAsked_10 : decode cX9_isAsked 10 = .ok (.iload_n 1, 1) := by decide +kernel
theorem dX9_isAsked_11 : decode cX9_isAsked 11 = .ok (.iconst 0, 1) := by decide +kernel
theorem dX9_isAsked_12 : decode cX9_isAsked 12 = .ok (.iconst 1, 1) := by decide +kernel
theorem dX9_isAsked_13 : decode cX9_isAsked 13 = .ok (.invokestatic 47, 3) := by decide +kernel
theorem dX9_isAsked_16 : decode cX9_isAsked 16 = .ok (.ifCond .eq 7, 3) := by decide +kernel
theorem dX9_isAsked_19 : decode cX9_isAsked 19 = .ok (.iconst 1, 1) := by decide +kernel
theorem dX9_isAsked_20 : decode cX9_isAsked 20 = .ok (.goto 4, 3) := by decide +kernel
theorem dX9_isAsked_23 : decode cX9_isAsked 23 = .ok (.iconst 0, 1) := by decide +kernel
theorem dX9_isAsked_24 : decode cX9_isAsked 24 = .ok (.ireturn, 1) := by decide +kernel
theorem dX9_startFor_0 : decode cX9_startFor 0 = .ok (.aload_n 0, 1) := by decide +kernel
theorem dX9_startFor_1 : decode cX9_startFor 1 = .ok (.iload_n 1, 1) := by decide +kernel
theorem dX9_startFor_2 : decode cX9_startFor 2 = .ok (.invokevirtual 156, 3) := by decide +kernel
theorem dX9_startFor_5 : decode cX9_startFor 5 = .ok (.ifCond .eq 11, 3) := by decide +kernel
theorem dX9_startFor_8 : decode cX9_startFor 8 = .ok (.iload_n 2, 1) := by decide +kernel
theorem dX9_startFor_9 : decode cX9_startFor 9 = .ok (.iload_n 3, 1) := by decide +kernel
theorem dX9_startFor_10 : decode cX9_startFor 10 = .ok (.invokestatic 179, 3) := by decide +kernel
theorem dX9_startFor_13 : decode cX9_startFor 13 = .ok (.ifCond .ne 9, 3) := by decide +kernel
theorem dX9_startFor_16 : decode cX9_startFor 16 = .ok (.aload_n 0, 1) := by decide +kernel
theorem dX9_startFor_17 : decode cX9_startFor 17 = .ok (.iconst 1, 1) := by decide +kernel
theorem dX9_startFor_18 : decode cX9_startFor 18 = .ok (.invokevirtual 51, 3) := by decide +kernel
theorem dX9_startFor_21 : decode cX9_startFor 21 = .ok (.ireturn, 1) := by decide +kernel
theorem dX9_startFor_22 : decode cX9_startFor 22 = .ok (.iconst 0, 1) := by decide +kernel
theorem dX9_startFor_23 : decode cX9_startFor 23 = .ok (.istore 4, 2) := by decide +kernel
theorem dX9_startFor_25 : decode cX9_startFor 25 = .ok (.iconst (-1), 1) := by decide +kernel
theorem dX9_startFor_26 : decode cX9_startFor 26 = .ok (.istore 5, 2) := by decide +kernel
theorem dX9_startFor_28 : decode cX9_startFor 28 = .ok (.aload_n 0, 1) := by decide +kernel
theorem dX9_startFor_29 : decode cX9_startFor 29 = .ok (.invokevirtual 170, 3) := by decide +kernel
theorem dX9_startFor_32 : decode cX9_startFor 32 = .ok (.iconst 0, 1) := by decide +kernel
theorem dX9_startFor_33 : decode cX9_startFor 33 = .ok (.istore 6, 2) := by decide +kernel
theorem dX9_startFor_35 : decode cX9_startFor 35 = .ok (.iload 6, 2) := by decide +kernel
theorem dX9_startFor_37 : decode cX9_startFor 37 = .ok (.aload_n 0, 1) := by decide +kernel
theorem dX9_startFor_38 : decode cX9_startFor 38 = .ok (.getfield 7, 3) := by decide +kernel
theorem dX9_startFor_41 : decode cX9_startFor 41 = .ok (.bipush 8, 2) := by decide +kernel
theorem dX9_startFor_43 : decode cX9_startFor 43 = .ok (.iaload, 1) := by decide +kernel
theorem dX9_startFor_44 : decode cX9_startFor 44 = .ok (.if_icmp .ge 66, 3) := by decide +kernel
theorem dX9_startFor_47 : decode cX9_startFor 47 = .ok (.aload_n 0, 1) := by decide +kernel
theorem dX9_startFor_48 : decode cX9_startFor 48 = .ok (.getfield 7, 3) := by decide +kernel
theorem dX9_startFor_51 : decode cX9_startFor 51 = .ok (.iconst 4, 1) := by decide +kernel
theorem dX9_startFor_52 : decode cX9_startFor 52 = .ok (.iload 6, 2) := by decide +kernel
theorem dX9_startFor_54 : decode cX9_startFor 54 = .ok (.iastore, 1) := by decide +kernel
theorem dX9_startFor_55 : decode cX9_startFor 55 = .ok (.aload_n 0, 1) := by decide +kernel
theorem dX9_startFor_56 : decode cX9_startFor 56 = .ok (.iload_n 2, 1) := by decide +kernel
theorem dX9_startFor_57 : decode cX9_startFor 57 = .ok (.invokevirtual 165, 3) := by decide +kernel
theorem dX9_startFor_60 : decode cX9_startFor 60 = .ok (.aload_n 0, 1) := by decide +kernel
theorem dX9_startFor_61 : decode cX9_startFor 61 = .ok (.iload_n 1, 1) := by decide +kernel
theorem dX9_startFor_62 : decode cX9_startFor 62 = .ok (.iconst 2, 1) := by decide +kernel
theorem dX9_startFor_63 : decode cX9_startFor 63 = .ok (.invokevirtual 111, 3) := by decide +kernel
theorem dX9_startFor_66 : decode cX9_startFor 66 = .ok (.istore 7, 2) := by decide +kernel
theorem dX9_startFor_68 : decode cX9_startFor 68 = .ok (.aload_n 0, 1) := by decide +kernel
theorem dX9_startFor_69 : decode cX9_startFor 69 = .ok (.invokevirtual 176, 3) := by decide +kernel
theorem dX9_startFor_72 : decode cX9_startFor 72 = .ok (.iload 7, 2) := by decide +kernel
theorem dX9_startFor_74 : decode cX9_startFor 74 = .ok (.iload 5, 2) := by decide +kernel
theorem dX9_startFor_76 : decode cX9_startFor 76 = .ok (.if_icmp .le 8, 3) := by decide +kernel
theorem dX9_startFor_79 : decode cX9_startFor 79 = .ok (.iload 6, 2) := by decide +kernel
theorem dX9_startFor_81 : decode cX9_startFor 81 = .ok (.goto 5, 3) := by decide +kernel
theorem dX9_startFor_84 : decode cX9_startFor 84 = .ok (.iload 4, 2) := by decide +kernel
theorem dX9_startFor_86 : decode cX9_startFor 86 = .ok (.istore 4, 2) := by decide +kernel
theorem dX9_startFor_88 : decode cX9_startFor 88 = .ok (.iload 7, 2) := by decide +kernel
theorem dX9_startFor_90 : decode cX9_startFor 90 = .ok (.iload 5, 2) := by decide +kernel
theorem dX9_startFor_92 : decode cX9_startFor 92 = .ok (.if_icmp .le 8, 3) := by decide +kernel
theorem dX9_startFor_95 : decode cX9_startFor 95 = .ok (.iload 7, 2) := by decide +kernel
theorem dX9_startFor_97 : decode cX9_startFor 97 = .ok (.goto 5, 3) := by decide +kernel
theorem dX9_startFor_100 : decode cX9_startFor 100 = .ok (.iload 5, 2) := by decide +kernel
theorem dX9_startFor_102 : decode cX9_startFor 102 = .ok (.istore 5, 2) := by decide +kernel
theorem dX9_startFor_104 : decode cX9_startFor 104 = .ok (.iinc 6 1, 3) := by decide +kernel
theorem dX9_startFor_107 : decode cX9_startFor 107 = .ok (.goto (-72), 3) := by decide +kernel
theorem dX9_startFor_110 : decode cX9_startFor 110 = .ok (.iload_n 3, 1) := by decide +kernel
theorem dX9_startFor_111 : decode cX9_startFor 111 = .ok (.ifCond .ne 8, 3) := by decide +kernel
theorem dX9_startFor_114 : decode cX9_startFor 114 = .ok (.iload 4, 2) := by decide +kernel
theorem dX9_startFor_116 : decode cX9_startFor 116 = .ok (.goto 5, 3) := by decide +kernel
theorem dX9_startFor_119 : decode cX9_startFor 119 = .ok (.iload 5, 2) := by decide +kernel
theorem dX9_startFor_121 : decode cX9_startFor 121 = .ok (.ireturn, 1) := by decide +kernel
theorem dX9_changePlaces_0 : decode cX9_changePlaces 0 = .ok (.iconst 0, 1) := by decide +kernel
theorem dX9_changePlaces_1 : decode cX9_changePlaces 1 = .ok (.istore_n 3, 1) := by decide +kernel
theorem dX9_changePlaces_2 : decode cX9_changePlaces 2 = .ok (.iload_n 3, 1) := by decide +kernel
theorem dX9_changePlaces_3 : decode cX9_changePlaces 3 = .ok (.iconst 5, 1) := by decide +kernel
theorem dX9_changePlaces_4 : decode cX9_changePlaces 4 = .ok (.if_icmp .ge 37, 3) := by decide +kernel
theorem dX9_changePlaces_7 : decode cX9_changePlaces 7 = .ok (.aload_n 0, 1) := by decide +kernel
theorem dX9_changePlaces_8 : decode cX9_changePlaces 8 = .ok (.iload_n 1, 1) := by decide +kernel
theorem dX9_changePlaces_9 : decode cX9_changePlaces 9 = .ok (.iload_n 3, 1) := by decide +kernel
theorem dX9_changePlaces_10 : decode cX9_changePlaces 10 = .ok (.invokevirtual 111, 3) := by decide +kernel
theorem dX9_changePlaces_13 : decode cX9_changePlaces 13 = .ok (.istore 4, 2) := by decide +kernel
theorem dX9_changePlaces_15 : decode cX9_changePlaces 15 = .ok (.aload_n 0, 1) := by decide +kernel
theorem dX9_changePlaces_16 : decode cX9_changePlaces 16 = .ok (.iload_n 1, 1) := by decide +kernel
theorem dX9_changePlaces_17 : decode cX9_changePlaces 17 = .ok (.iload_n 3, 1) := by decide +kernel
theorem dX9_changePlaces_18 : decode cX9_changePlaces 18 = .ok (.aload_n 0, 1) := by decide +kernel
theorem dX9_changePlaces_19 : decode cX9_changePlaces 19 = .ok (.iload_n 2, 1) := by decide +kernel
theorem dX9_changePlaces_20 : decode cX9_changePlaces 20 = .ok (.iload_n 3, 1) := by decide +kernel
theorem dX9_changePlaces_21 : decode cX9_changePlaces 21 = .ok (.invokevirtual 111, 3) := by decide +kernel
theorem dX9_changePlaces_24 : decode cX9_changePlaces 24 = .ok (.invokevirtual 143, 3) := by decide +kernel
theorem dX9_changePlaces_27 : decode cX9_changePlaces 27 = .ok (.aload_n 0, 1) := by decide +kernel
theorem dX9_changePlaces_28 : decode cX9_changePlaces 28 = .ok (.iload_n 2, 1) := by decide +kernel
theorem dX9_changePlaces_29 : decode cX9_changePlaces 29 = .ok (.iload_n 3, 1) := by decide +kernel
theorem dX9_changePlaces_30 : decode cX9_changePlaces 30 = .ok (.iload 4, 2) := by decide +kernel
theorem dX9_changePlaces_32 : decode cX9_changePlaces 32 = .ok (.invokevirtual 143, 3) := by decide +kernel
theorem dX9_changePlaces_35 : decode cX9_changePlaces 35 = .ok (.iinc 3 1, 3) := by decide +kernel
theorem dX9_changePlaces_38 : decode cX9_changePlaces 38 = .ok (.goto (-36), 3) := by decide +kernel
theorem dX9_changePlaces_41 : decode cX9_changePlaces 41 = .ok (.return_, 1) := by decide +kernel
theorem dX9_swapFor_0 : decode cX9_swapFor 0 = .ok (.iload_n 1, 1) := by decide +kernel
theorem dX9_swapFor_1 : decode cX9_swapFor 1 = .ok (.iload_n 2, 1) := by decide +kernel
theorem dX9_swapFor_2 : decode cX9_swapFor 2 = .ok (.invokestatic 179, 3) := by decide +kernel
theorem dX9_swapFor_5 : decode cX9_swapFor 5 = .ok (.ifCond .ne 9, 3) := by decide +kernel
theorem dX9_swapFor_8 : decode cX9_swapFor 8 = .ok (.aload_n 0, 1) := by decide +kernel
theorem dX9_swapFor_9 : decode cX9_swapFor 9 = .ok (.iconst 1, 1) := by decide +kernel
theorem dX9_swapFor_10 : decode cX9_swapFor 10 = .ok (.invokevirtual 51, 3) := by decide +kernel
theorem dX9_swapFor_13 : decode cX9_swapFor 13 = .ok (.ireturn, 1) := by decide +kernel
theorem dX9_swapFor_14 : decode cX9_swapFor 14 = .ok (.aload_n 0, 1) := by decide +kernel
theorem dX9_swapFor_15 : decode cX9_swapFor 15 = .ok (.invokevirtual 170, 3) := by decide +kernel
theorem dX9_swapFor_18 : decode cX9_swapFor 18 = .ok (.aload_n 0, 1) := by decide +kernel
theorem dX9_swapFor_19 : decode cX9_swapFor 19 = .ok (.iload_n 1, 1) := by decide +kernel
theorem dX9_swapFor_20 : decode cX9_swapFor 20 = .ok (.invokevirtual 165, 3) := by decide +kernel
theorem dX9_swapFor_23 : decode cX9_swapFor 23 = .ok (.aload_n 0, 1) := by decide +kernel
theorem dX9_swapFor_24 : decode cX9_swapFor 24 = .ok (.invokevirtual 173, 3) := by decide +kernel
theorem dX9_swapFor_27 : decode cX9_swapFor 27 = .ok (.istore_n 3, 1) := by decide +kernel
theorem dX9_swapFor_28 : decode cX9_swapFor 28 = .ok (.aload_n 0, 1) := by decide +kernel
theorem dX9_swapFor_29 : decode cX9_swapFor 29 = .ok (.invokevirtual 176, 3) := by decide +kernel
theorem dX9_swapFor_32 : decode cX9_swapFor 32 = .ok (.iconst (-1), 1) := by decide +kernel
theorem dX9_swapFor_33 : decode cX9_swapFor 33 = .ok (.istore 4, 2) := by decide +kernel
theorem dX9_swapFor_35 : decode cX9_swapFor 35 = .ok (.iconst 0, 1) := by decide +kernel
theorem dX9_swapFor_36 : decode cX9_swapFor 36 = .ok (.istore 5, 2) := by decide +kernel
theorem dX9_swapFor_38 : decode cX9_swapFor 38 = .ok (.iload 5, 2) := by decide +kernel
theorem dX9_swapFor_40 : decode cX9_swapFor 40 = .ok (.aload_n 0, 1) := by decide +kernel
theorem dX9_swapFor_41 : decode cX9_swapFor 41 = .ok (.getfield 7, 3) := by decide +kernel
theorem dX9_swapFor_44 : decode cX9_swapFor 44 = .ok (.bipush 8, 2) := by decide +kernel
theorem dX9_swapFor_46 : decode cX9_swapFor 46 = .ok (.iaload, 1) := by decide +kernel
theorem dX9_swapFor_47 : decode cX9_swapFor 47 = .ok (.if_icmp .ge 90, 3) := by decide +kernel
theorem dX9_swapFor_50 : decode cX9_swapFor 50 = .ok (.iload 5, 2) := by decide +kernel
theorem dX9_swapFor_52 : decode cX9_swapFor 52 = .ok (.iconst 1, 1) := by decide +kernel
theorem dX9_swapFor_53 : decode cX9_swapFor 53 = .ok (.iadd, 1) := by decide +kernel
theorem dX9_swapFor_54 : decode cX9_swapFor 54 = .ok (.istore 6, 2) := by decide +kernel
theorem dX9_swapFor_56 : decode cX9_swapFor 56 = .ok (.iload 6, 2) := by decide +kernel
theorem dX9_swapFor_58 : decode cX9_swapFor 58 = .ok (.aload_n 0, 1) := by decide +kernel
theorem dX9_swapFor_59 : decode cX9_swapFor 59 = .ok (.getfield 7, 3) := by decide +kernel
theorem dX9_swapFor_62 : decode cX9_swapFor 62 = .ok (.bipush 8, 2) := by decide +kernel
theorem dX9_swapFor_64 : decode cX9_swapFor 64 = .ok (.iaload, 1) := by decide +kernel
theorem dX9_swapFor_65 : decode cX9_swapFor 65 = .ok (.if_icmp .ge 66, 3) := by decide +kernel
theorem dX9_swapFor_68 : decode cX9_swapFor 68 = .ok (.aload_n 0, 1) := by decide +kernel
theorem dX9_swapFor_69 : decode cX9_swapFor 69 = .ok (.iload 5, 2) := by decide +kernel
theorem dX9_swapFor_71 : decode cX9_swapFor 71 = .ok (.iload 6, 2) := by decide +kernel
theorem dX9_swapFor_73 : decode cX9_swapFor 73 = .ok (.invokevirtual 183, 3) := by decide +kernel
theorem dX9_swapFor_76 : decode cX9_swapFor 76 = .ok (.aload_n 0, 1) := by decide +kernel
theorem dX9_swapFor_77 : decode cX9_swapFor 77 = .ok (.iload_n 1, 1) := by decide +kernel
theorem dX9_swapFor_78 : decode cX9_swapFor 78 = .ok (.invokevirtual 165, 3) := by decide +kernel
theorem dX9_swapFor_81 : decode cX9_swapFor 81 = .ok (.aload_n 0, 1) := by decide +kernel
theorem dX9_swapFor_82 : decode cX9_swapFor 82 = .ok (.invokevirtual 173, 3) := by decide +kernel
theorem dX9_swapFor_85 : decode cX9_swapFor 85 = .ok (.istore 7, 2) := by decide +kernel
theorem dX9_swapFor_87 : decode cX9_swapFor 87 = .ok (.aload_n 0, 1) := by decide +kernel
theorem dX9_swapFor_88 : decode cX9_swapFor 88 = .ok (.invokevirtual 176, 3) := by decide +kernel
theorem dX9_swapFor_91 : decode cX9_swapFor 91 = .ok (.iload 7, 2) := by decide +kernel
theorem dX9_swapFor_93 : decode cX9_swapFor 93 = .ok (.iload_n 3, 1) := by decide +kernel
theorem dX9_swapFor_94 : decode cX9_swapFor 94 = .ok (.if_icmp .ge 14, 3) := by decide +kernel
theorem dX9_swapFor_97 : decode cX9_swapFor 97 = .ok (.bipush 10, 2) := by decide +kernel
theorem dX9_swapFor_99 : decode cX9_swapFor 99 = .ok (.iload 5, 2) := by decide +kernel
theorem dX9_swapFor_101 : decode cX9_swapFor 101 = .ok (.imul, 1) := by decide +kernel
theorem dX9_swapFor_102 : decode cX9_swapFor 102 = .ok (.iload 6, 2) := by decide +kernel
theorem dX9_swapFor_104 : decode cX9_swapFor 104 = .ok (.iadd, 1) := by decide +kernel
theorem dX9_swapFor_105 : decode cX9_swapFor 105 = .ok (.goto 5, 3) := by decide +kernel
theorem dX9_swapFor_108 : decode cX9_swapFor 108 = .ok (.iload 4, 2) := by decide +kernel
theorem dX9_swapFor_110 : decode cX9_swapFor 110 = .ok (.istore 4, 2) := by decide +kernel
theorem dX9_swapFor_112 : decode cX9_swapFor 112 = .ok (.iload 7, 2) := by decide +kernel
theorem dX9_swapFor_114 : decode cX9_swapFor 114 = .ok (.iload_n 3, 1) := by decide +kernel
theorem dX9_swapFor_115 : decode cX9_swapFor 115 = .ok (.if_icmp .ge 8, 3) := by decide +kernel
theorem dX9_swapFor_118 : decode cX9_swapFor 118 = .ok (.iload 7, 2) := by decide +kernel
theorem dX9_swapFor_120 : decode cX9_swapFor 120 = .ok (.goto 4, 3) := by decide +kernel
theorem dX9_swapFor_123 : decode cX9_swapFor 123 = .ok (.iload_n 3, 1) := by decide +kernel
theorem dX9_swapFor_124 : decode cX9_swapFor 124 = .ok (.istore_n 3, 1) := by decide +kernel
theorem dX9_swapFor_125 : decode cX9_swapFor 125 = .ok (.iinc 6 1, 3) := by decide +kernel
theorem dX9_swapFor_128 : decode cX9_swapFor 128 = .ok (.goto (-72), 3) := by decide +kernel
theorem dX9_swapFor_131 : decode cX9_swapFor 131 = .ok (.iinc 5 1, 3) := by decide +kernel
theorem dX9_swapFor_134 : decode cX9_swapFor 134 = .ok (.goto (-96), 3) := by decide +kernel
theorem dX9_swapFor_137 : decode cX9_swapFor 137 = .ok (.iload 4, 2) := by decide +kernel
theorem dX9_swapFor_139 : decode cX9_swapFor 139 = .ok (.ifCond .ge 11, 3) := by decide +kernel
theorem dX9_swapFor_142 : decode cX9_swapFor 142 = .ok (.aload_n 0, 1) := by decide +kernel
theorem dX9_swapFor_143 : decode cX9_swapFor 143 = .ok (.iconst 2, 1) := by decide +kernel
theorem dX9_swapFor_144 : decode cX9_swapFor 144 = .ok (.invokevirtual 51, 3) := by decide +kernel
theorem dX9_swapFor_147 : decode cX9_swapFor 147 = .ok (.goto 13, 3) := by decide +kernel
theorem dX9_swapFor_150 : decode cX9_swapFor 150 = .ok (.iload_n 2, 1) := by decide +kernel
theorem dX9_swapFor_151 : decode cX9_swapFor 151 = .ok (.ifCond .ne 8, 3) := by decide +kernel
theorem dX9_swapFor_154 : decode cX9_swapFor 154 = .ok (.iload 4, 2) := by decide +kernel
theorem dX9_swapFor_156 : decode cX9_swapFor 156 = .ok (.goto 4, 3) := by decide +kernel
theorem dX9_swapFor_159 : decode cX9_swapFor 159 = .ok (.iload_n 3, 1) := by decide +kernel
theorem dX9_swapFor_160 : decode cX9_swapFor 160 = .ok (.ireturn, 1) := by decide +kernel
theorem dX9_ones_0 : decode cX9_ones 0 = .ok (.iconst 0, 1) := by decide +kernel
theorem dX9_ones_1 : decode cX9_ones 1 = .ok (.istore_n 1, 1) := by decide +kernel
theorem dX9_ones_2 : decode cX9_ones 2 = .ok (.iload_n 0, 1) := by decide +kernel
theorem dX9_ones_3 : decode cX9_ones 3 = .ok (.istore_n 2, 1) := by decide +kernel
theorem dX9_ones_4 : decode cX9_ones 4 = .ok (.iload_n 2, 1) := by decide +kernel
theorem dX9_ones_5 : decode cX9_ones 5 = .ok (.ifCond .eq 15, 3) := by decide +kernel
theorem dX9_ones_8 : decode cX9_ones 8 = .ok (.iinc 1 1, 3) := by decide +kernel
theorem dX9_ones_11 : decode cX9_ones 11 = .ok (.iload_n 2, 1) := by decide +kernel
theorem dX9_ones_12 : decode cX9_ones 12 = .ok (.iload_n 2, 1) := by decide +kernel
theorem dX9_ones_13 : decode cX9_ones 13 = .ok (.iconst 1, 1) := by decide +kernel
theorem dX9_ones_14 : decode cX9_ones 14 = .ok (.isub, 1) := by decide +kernel
theorem dX9_ones_15 : decode cX9_ones 15 = .ok (.iand, 1) := by decide +kernel
theorem dX9_ones_16 : decode cX9_ones 16 = .ok (.istore_n 2, 1) := by decide +kernel
theorem dX9_ones_17 : decode cX9_ones 17 = .ok (.goto (-13), 3) := by decide +kernel
theorem dX9_ones_20 : decode cX9_ones 20 = .ok (.iload_n 1, 1) := by decide +kernel
theorem dX9_ones_21 : decode cX9_ones 21 = .ok (.ireturn, 1) := by decide +kernel
theorem dX9_viewWith_0 : decode cX9_viewWith 0 = .ok (.iconst 0, 1) := by decide +kernel
theorem dX9_viewWith_1 : decode cX9_viewWith 1 = .ok (.istore_n 3, 1) := by decide +kernel
theorem dX9_viewWith_2 : decode cX9_viewWith 2 = .ok (.iload_n 3, 1) := by decide +kernel
theorem dX9_viewWith_3 : decode cX9_viewWith 3 = .ok (.aload_n 0, 1) := by decide +kernel
theorem dX9_viewWith_4 : decode cX9_viewWith 4 = .ok (.getfield 7, 3) := by decide +kernel
theorem dX9_viewWith_7 : decode cX9_viewWith 7 = .ok (.bipush 8, 2) := by decide +kernel
theorem dX9_viewWith_9 : decode cX9_viewWith 9 = .ok (.iaload, 1) := by decide +kernel
theorem dX9_viewWith_10 : decode cX9_viewWith 10 = .ok (.if_icmp .ge 34, 3) := by decide +kernel
theorem dX9_viewWith_13 : decode cX9_viewWith 13 = .ok (.aload_n 0, 1) := by decide +kernel
theorem dX9_viewWith_14 : decode cX9_viewWith 14 = .ok (.iload_n 3, 1) := by decide +kernel
theorem dX9_viewWith_15 : decode cX9_viewWith 15 = .ok (.iconst 4, 1) := by decide +kernel
theorem dX9_viewWith_16 : decode cX9_viewWith 16 = .ok (.iload_n 1, 1) := by decide +kernel
theorem dX9_viewWith_17 : decode cX9_viewWith 17 = .ok (.iload_n 3, 1) := by decide +kernel
theorem dX9_viewWith_18 : decode cX9_viewWith 18 = .ok (.ishr, 1) := by decide +kernel
theorem dX9_viewWith_19 : decode cX9_viewWith 19 = .ok (.iconst 1, 1) := by decide +kernel
theorem dX9_viewWith_20 : decode cX9_viewWith 20 = .ok (.iand, 1) := by decide +kernel
theorem dX9_viewWith_21 : decode cX9_viewWith 21 = .ok (.iconst 1, 1) := by decide +kernel
theorem dX9_viewWith_22 : decode cX9_viewWith 22 = .ok (.if_icmp .ne 7, 3) := by decide +kernel
theorem dX9_viewWith_25 : decode cX9_viewWith 25 = .ok (.iconst 1, 1) := by decide +kernel
theorem dX9_viewWith_26 : decode cX9_viewWith 26 = .ok (.goto 9, 3) := by decide +kernel
theorem dX9_viewWith_29 : decode cX9_viewWith 29 = .ok (.aload_n 0, 1) := by decide +kernel
theorem dX9_viewWith_30 : decode cX9_viewWith 30 = .ok (.iload_n 3, 1) := by decide +kernel
theorem dX9_viewWith_31 : decode cX9_viewWith 31 = .ok (.iconst 4, 1) := by decide +kernel
theorem dX9_viewWith_32 : decode cX9_viewWith 32 = .ok (.invokevirtual 111, 3) := by decide +kernel
theorem dX9_viewWith_35 : decode cX9_viewWith 35 = .ok (.invokevirtual 143, 3) := by decide +kernel
theorem dX9_viewWith_38 : decode cX9_viewWith 38 = .ok (.iinc 3 1, 3) := by decide +kernel
theorem dX9_viewWith_41 : decode cX9_viewWith 41 = .ok (.goto (-39), 3) := by decide +kernel
theorem dX9_viewWith_44 : decode cX9_viewWith 44 = .ok (.aload_n 0, 1) := by decide +kernel
theorem dX9_viewWith_45 : decode cX9_viewWith 45 = .ok (.iload_n 2, 1) := by decide +kernel
theorem dX9_viewWith_46 : decode cX9_viewWith 46 = .ok (.invokevirtual 165, 3) := by decide +kernel
theorem dX9_viewWith_49 : decode cX9_viewWith 49 = .ok (.aload_n 0, 1) := by decide +kernel
theorem dX9_viewWith_50 : decode cX9_viewWith 50 = .ok (.getfield 7, 3) := by decide +kernel
theorem dX9_viewWith_53 : decode cX9_viewWith 53 = .ok (.iconst 1, 1) := by decide +kernel
theorem dX9_viewWith_54 : decode cX9_viewWith 54 = .ok (.iaload, 1) := by decide +kernel
theorem dX9_viewWith_55 : decode cX9_viewWith 55 = .ok (.istore_n 3, 1) := by decide +kernel
theorem dX9_viewWith_56 : decode cX9_viewWith 56 = .ok (.aload_n 0, 1) := by decide +kernel
theorem dX9_viewWith_57 : decode cX9_viewWith 57 = .ok (.invokevirtual 176, 3) := by decide +kernel
theorem dX9_viewWith_60 : decode cX9_viewWith 60 = .ok (.iload_n 3, 1) := by decide +kernel
theorem dX9_viewWith_61 : decode cX9_viewWith 61 = .ok (.ireturn, 1) := by decide +kernel
theorem dX9_spare_0 : decode cX9_spare 0 = .ok (.iload_n 1, 1) := by decide +kernel
theorem dX9_spare_1 : decode cX9_spare 1 = .ok (.iconst 0, 1) := by decide +kernel
theorem dX9_spare_2 : decode cX9_spare 2 = .ok (.bipush 40, 2) := by decide +kernel
theorem dX9_spare_4 : decode cX9_spare 4 = .ok (.invokestatic 47, 3) := by decide +kernel
theorem dX9_spare_7 : decode cX9_spare 7 = .ok (.ifCond .eq 13, 3) := by decide +kernel
theorem dX9_spare_10 : decode cX9_spare 10 = .ok (.iload_n 2, 1) := by decide +kernel
theorem dX9_spare_11 : decode cX9_spare 11 = .ok (.iconst 0, 1) := by decide +kernel
theorem dX9_spare_12 : decode cX9_spare 12 = .ok (.bipush 99, 2) := by decide +kernel
theorem dX9_spare_14 : decode cX9_spare 14 = .ok (.invokestatic 47, 3) := by decide +kernel
theorem dX9_spare_17 : decode cX9_spare 17 = .ok (.ifCond .ne 9, 3) := by decide +kernel
theorem dX9_spare_20 : decode cX9_spare 20 = .ok (.aload_n 0, 1) := by decide +kernel
theorem dX9_spare_21 : decode cX9_spare 21 = .ok (.iconst 1, 1) := by decide +kernel
theorem dX9_spare_22 : decode cX9_spare 22 = .ok (.invokevirtual 51, 3) := by decide +kernel
theorem dX9_spare_25 : decode cX9_spare 25 = .ok (.ireturn, 1) := by decide +kernel
theorem dX9_spare_26 : decode cX9_spare 26 = .ok (.iconst (-1), 1) := by decide +kernel
theorem dX9_spare_27 : decode cX9_spare 27 = .ok (.istore_n 3, 1) := by decide +kernel
theorem dX9_spare_28 : decode cX9_spare 28 = .ok (.aload_n 0, 1) := by decide +kernel
theorem dX9_spare_29 : decode cX9_spare 29 = .ok (.invokevirtual 170, 3) := by decide +kernel
theorem dX9_spare_32 : decode cX9_spare 32 = .ok (.iconst 0, 1) := by decide +kernel
theorem dX9_spare_33 : decode cX9_spare 33 = .ok (.istore 4, 2) := by decide +kernel
theorem dX9_spare_35 : decode cX9_spare 35 = .ok (.iload 4, 2) := by decide +kernel
theorem dX9_spare_37 : decode cX9_spare 37 = .ok (.iconst 1, 1) := by decide +kernel
theorem dX9_spare_38 : decode cX9_spare 38 = .ok (.aload_n 0, 1) := by decide +kernel
theorem dX9_spare_39 : decode cX9_spare 39 = .ok (.getfield 7, 3) := by decide +kernel
theorem dX9_spare_42 : decode cX9_spare 42 = .ok (.bipush 8, 2) := by decide +kernel
theorem dX9_spare_44 : decode cX9_spare 44 = .ok (.iaload, 1) := by decide +kernel
theorem dX9_spare_45 : decode cX9_spare 45 = .ok (.ishl, 1) := by decide +kernel
theorem dX9_spare_46 : decode cX9_spare 46 = .ok (.if_icmp .ge 55, 3) := by decide +kernel
theorem dX9_spare_49 : decode cX9_spare 49 = .ok (.iload_n 3, 1) := by decide +kernel
theorem dX9_spare_50 : decode cX9_spare 50 = .ok (.ifCond .lt 15, 3) := by decide +kernel
theorem dX9_spare_53 : decode cX9_spare 53 = .ok (.iload 4, 2) := by decide +kernel
theorem dX9_spare_55 : decode cX9_spare 55 = .ok (.invokestatic 186, 3) := by decide +kernel
theorem dX9_spare_58 : decode cX9_spare 58 = .ok (.iload_n 3, 1) := by decide +kernel
theorem dX9_spare_59 : decode cX9_spare 59 = .ok (.invokestatic 186, 3) := by decide +kernel
theorem dX9_spare_62 : decode cX9_spare 62 = .ok (.if_icmp .ge 7, 3) := by decide +kernel
theorem dX9_spare_65 : decode cX9_spare 65 = .ok (.iconst 1, 1) := by decide +kernel
theorem dX9_spare_66 : decode cX9_spare 66 = .ok (.goto 4, 3) := by decide +kernel
theorem dX9_spare_69 : decode cX9_spare 69 = .ok (.iconst 0, 1) := by decide +kernel
theorem dX9_spare_70 : decode cX9_spare 70 = .ok (.istore 5, 2) := by decide +kernel
theorem dX9_spare_72 : decode cX9_spare 72 = .ok (.iload 5, 2) := by decide +kernel
theorem dX9_spare_74 : decode cX9_spare 74 = .ok (.ifCond .eq 19, 3) := by decide +kernel
theorem dX9_spare_77 : decode cX9_spare 77 = .ok (.aload_n 0, 1) := by decide +kernel
theorem dX9_spare_78 : decode cX9_spare 78 = .ok (.iload 4, 2) := by decide +kernel
theorem dX9_spare_80 : decode cX9_spare 80 = .ok (.iload_n 1, 1) := by decide +kernel
theorem dX9_spare_81 : decode cX9_spare 81 = .ok (.invokevirtual 189, 3) := by decide +kernel
theorem dX9_spare_84 : decode cX9_spare 84 = .ok (.iload_n 2, 1) := by decide +kernel
theorem dX9_spare_85 : decode cX9_spare 85 = .ok (.if_icmp .gt 8, 3) := by decide +kernel
theorem dX9_spare_88 : decode cX9_spare 88 = .ok (.iload 4, 2) := by decide +kernel
theorem dX9_spare_90 : decode cX9_spare 90 = .ok (.goto 4, 3) := by decide +kernel
theorem dX9_spare_93 : decode cX9_spare 93 = .ok (.iload_n 3, 1) := by decide +kernel
theorem dX9_spare_94 : decode cX9_spare 94 = .ok (.istore_n 3, 1) := by decide +kernel
theorem dX9_spare_95 : decode cX9_spare 95 = .ok (.iinc 4 1, 3) := by decide +kernel
theorem dX9_spare_98 : decode cX9_spare 98 = .ok (.goto (-63), 3) := by decide +kernel
theorem dX9_spare_101 : decode cX9_spare 101 = .ok (.iload_n 3, 1) := by decide +kernel
theorem dX9_spare_102 : decode cX9_spare 102 = .ok (.ifCond .ge 11, 3) := by decide +kernel
theorem dX9_spare_105 : decode cX9_spare 105 = .ok (.aload_n 0, 1) := by decide +kernel
theorem dX9_spare_106 : decode cX9_spare 106 = .ok (.iconst 2, 1) := by decide +kernel
theorem dX9_spare_107 : decode cX9_spare 107 = .ok (.invokevirtual 51, 3) := by decide +kernel
theorem dX9_spare_110 : decode cX9_spare 110 = .ok (.goto 4, 3) := by decide +kernel
theorem dX9_spare_113 : decode cX9_spare 113 = .ok (.iload_n 3, 1) := by decide +kernel
theorem dX9_spare_114 : decode cX9_spare 114 = .ok (.ireturn, 1) := by decide +kernel
theorem dX9_common_0 : decode cX9_common 0 = .ok (.iload_n 0, 1) := by decide +kernel
theorem dX9_common_1 : decode cX9_common 1 = .ok (.istore_n 2, 1) := by decide +kernel
theorem dX9_common_2 : decode cX9_common 2 = .ok (.iload_n 1, 1) := by decide +kernel
theorem dX9_common_3 : decode cX9_common 3 = .ok (.istore_n 3, 1) := by decide +kernel
theorem dX9_common_4 : decode cX9_common 4 = .ok (.iload_n 3, 1) := by decide +kernel
theorem dX9_common_5 : decode cX9_common 5 = .ok (.ifCond .eq 16, 3) := by decide +kernel
theorem dX9_common_8 : decode cX9_common 8 = .ok (.iload_n 2, 1) := by decide +kernel
theorem dX9_common_9 : decode cX9_common 9 = .ok (.iload_n 3, 1) := by decide +kernel
theorem dX9_common_10 : decode cX9_common 10 = .ok (.irem, 1) := by decide +kernel
theorem dX9_common_11 : decode cX9_common 11 = .ok (.istore 4, 2) := by decide +kernel
theorem dX9_common_13 : decode cX9_common 13 = .ok (.iload_n 3, 1) := by decide +kernel
theorem dX9_common_14 : decode cX9_common 14 = .ok (.istore_n 2, 1) := by decide +kernel
theorem dX9_common_15 : decode cX9_common 15 = .ok (.iload 4, 2) := by decide +kernel
theorem dX9_common_17 : decode cX9_common 17 = .ok (.istore_n 3, 1) := by decide +kernel
theorem dX9_common_18 : decode cX9_common 18 = .ok (.goto (-14), 3) := by decide +kernel
theorem dX9_common_21 : decode cX9_common 21 = .ok (.iload_n 2, 1) := by decide +kernel
theorem dX9_common_22 : decode cX9_common 22 = .ok (.ireturn, 1) := by decide +kernel
theorem dX9_odds_0 : decode cX9_odds 0 = .ok (.aload_n 0, 1) := by decide +kernel
theorem dX9_odds_1 : decode cX9_odds 1 = .ok (.iload_n 1, 1) := by decide +kernel
theorem dX9_odds_2 : decode cX9_odds 2 = .ok (.invokevirtual 156, 3) := by decide +kernel
theorem dX9_odds_5 : decode cX9_odds 5 = .ok (.ifCond .eq 34, 3) := by decide +kernel
theorem dX9_odds_8 : decode cX9_odds 8 = .ok (.iload_n 2, 1) := by decide +kernel
theorem dX9_odds_9 : decode cX9_odds 9 = .ok (.iconst 0, 1) := by decide +kernel
theorem dX9_odds_10 : decode cX9_odds 10 = .ok (.sipush 9999, 3) := by decide +kernel
theorem dX9_odds_13 : decode cX9_odds 13 = .ok (.invokestatic 47, 3) := by decide +kernel
theorem dX9_odds_16 : decode cX9_odds 16 = .ok (.ifCond .eq 23, 3) := by decide +kernel
theorem dX9_odds_19 : decode cX9_odds 19 = .ok (.iload_n 3, 1) := by decide +kernel
theorem dX9_odds_20 : decode cX9_odds 20 = .ok (.iconst 0, 1) := by decide +kernel
theorem dX9_odds_21 : decode cX9_odds 21 = .ok (.bipush 40, 2) := by decide +kernel
theorem dX9_odds_23 : decode cX9_odds 23 = .ok (.invokestatic 47, 3) := by decide +kernel
theorem dX9_odds_26 : decode cX9_odds 26 = .ok (.ifCond .eq 13, 3) := by decide +kernel
theorem dX9_odds_29 : decode cX9_odds 29 = .ok (.iload 4, 2) := by decide +kernel
theorem dX9_odds_31 : decode cX9_odds 31 = .ok (.iconst 0, 1) := by decide +kernel
theorem dX9_odds_32 : decode cX9_odds 32 = .ok (.iconst 1, 1) := by decide +kernel
theorem dX9_odds_33 : decode cX9_odds 33 = .ok (.invokestatic 47, 3) := by decide +kernel
theorem dX9_odds_36 : decode cX9_odds 36 = .ok (.ifCond .ne 9, 3) := by decide +kernel
theorem dX9_odds_39 : decode cX9_odds 39 = .ok (.aload_n 0, 1) := by decide +kernel
theorem dX9_odds_40 : decode cX9_odds 40 = .ok (.iconst 1, 1) := by decide +kernel
theorem dX9_odds_41 : decode cX9_odds 41 = .ok (.invokevirtual 51, 3) := by decide +kernel
theorem dX9_odds_44 : decode cX9_odds 44 = .ok (.ireturn, 1) := by decide +kernel
theorem dX9_odds_45 : decode cX9_odds 45 = .ok (.iconst 0, 1) := by decide +kernel
theorem dX9_odds_46 : decode cX9_odds 46 = .ok (.istore 5, 2) := by decide +kernel
theorem dX9_odds_48 : decode cX9_odds 48 = .ok (.aload_n 0, 1) := by decide +kernel
theorem dX9_odds_49 : decode cX9_odds 49 = .ok (.invokevirtual 170, 3) := by decide +kernel
theorem dX9_odds_52 : decode cX9_odds 52 = .ok (.iconst 0, 1) := by decide +kernel
theorem dX9_odds_53 : decode cX9_odds 53 = .ok (.istore 6, 2) := by decide +kernel
theorem dX9_odds_55 : decode cX9_odds 55 = .ok (.iload 6, 2) := by decide +kernel
theorem dX9_odds_57 : decode cX9_odds 57 = .ok (.bipush 100, 2) := by decide +kernel
theorem dX9_odds_59 : decode cX9_odds 59 = .ok (.if_icmp .ge 46, 3) := by decide +kernel
theorem dX9_odds_62 : decode cX9_odds 62 = .ok (.aload_n 0, 1) := by decide +kernel
theorem dX9_odds_63 : decode cX9_odds 63 = .ok (.getfield 7, 3) := by decide +kernel
theorem dX9_odds_66 : decode cX9_odds 66 = .ok (.iconst 1, 1) := by decide +kernel
theorem dX9_odds_67 : decode cX9_odds 67 = .ok (.iload 6, 2) := by decide +kernel
theorem dX9_odds_69 : decode cX9_odds 69 = .ok (.iastore, 1) := by decide +kernel
theorem dX9_odds_70 : decode cX9_odds 70 = .ok (.aload_n 0, 1) := by decide +kernel
theorem dX9_odds_71 : decode cX9_odds 71 = .ok (.iload_n 3, 1) := by decide +kernel
theorem dX9_odds_72 : decode cX9_odds 72 = .ok (.invokevirtual 165, 3) := by decide +kernel
theorem dX9_odds_75 : decode cX9_odds 75 = .ok (.iload 5, 2) := by decide +kernel
theorem dX9_odds_77 : decode cX9_odds 77 = .ok (.aload_n 0, 1) := by decide +kernel
theorem dX9_odds_78 : decode cX9_odds 78 = .ok (.iload_n 1, 1) := by decide +kernel
theorem dX9_odds_79 : decode cX9_odds 79 = .ok (.iconst 2, 1) := by decide +kernel
theorem dX9_odds_80 : decode cX9_odds 80 = .ok (.invokevirtual 111, 3) := by decide +kernel
theorem dX9_odds_83 : decode cX9_odds 83 = .ok (.iload_n 2, 1) := by decide +kernel
theorem dX9_odds_84 : decode cX9_odds 84 = .ok (.if_icmp .lt 7, 3) := by decide +kernel
theorem dX9_odds_87 : decode cX9_odds 87 = .ok (.iconst 1, 1) := by decide +kernel
theorem dX9_odds_88 : decode cX9_odds 88 = .ok (.goto 4, 3) := by decide +kernel
theorem dX9_odds_91 : decode cX9_odds 91 = .ok (.iconst 0, 1) := by decide +kernel
theorem dX9_odds_92 : decode cX9_odds 92 = .ok (.iadd, 1) := by decide +kernel
theorem dX9_odds_93 : decode cX9_odds 93 = .ok (.istore 5, 2) := by decide +kernel
theorem dX9_odds_95 : decode cX9_odds 95 = .ok (.aload_n 0, 1) := by decide +kernel
theorem dX9_odds_96 : decode cX9_odds 96 = .ok (.invokevirtual 176, 3) := by decide +kernel
theorem dX9_odds_99 : decode cX9_odds 99 = .ok (.iinc 6 1, 3) := by decide +kernel
theorem dX9_odds_102 : decode cX9_odds 102 = .ok (.goto (-47), 3) := by decide +kernel
theorem dX9_odds_105 : decode cX9_odds 105 = .ok (.iload 4, 2) := by decide +kernel
theorem dX9_odds_107 : decode cX9_odds 107 = .ok (.ifCond .ne 8, 3) := by decide +kernel
theorem dX9_odds_110 : decode cX9_odds 110 = .ok (.iload 5, 2) := by decide +kernel
theorem dX9_odds_112 : decode cX9_odds 112 = .ok (.goto 5, 3) := by decide +kernel
theorem dX9_odds_115 : decode cX9_odds 115 = .ok (.bipush 100, 2) := by decide +kernel
theorem dX9_odds_117 : decode cX9_odds 117 = .ok (.iload 5, 2) := by decide +kernel
theorem dX9_odds_119 : decode cX9_odds 119 = .ok (.bipush 100, 2) := by decide +kernel
theorem dX9_odds_121 : decode cX9_odds 121 = .ok (.invokestatic 192, 3) := by decide +kernel
theorem dX9_odds_124 : decode cX9_odds 124 = .ok (.idiv, 1) := by decide +kernel
theorem dX9_odds_125 : decode cX9_odds 125 = .ok (.ireturn, 1) := by decide +kernel
theorem dX9_fits_0 : decode cX9_fits 0 = .ok (.iload_n 1, 1) := by decide +kernel
theorem dX9_fits_1 : decode cX9_fits 1 = .ok (.invokestatic 195, 3) := by decide +kernel
theorem dX9_fits_4 : decode cX9_fits 4 = .ok (.ifCond .eq 12, 3) := by decide +kernel
theorem dX9_fits_7 : decode cX9_fits 7 = .ok (.iload_n 2, 1) := by decide +kernel
theorem dX9_fits_8 : decode cX9_fits 8 = .ok (.iconst 0, 1) := by decide +kernel
theorem dX9_fits_9 : decode cX9_fits 9 = .ok (.iconst 1, 1) := by decide +kernel
theorem dX9_fits_10 : decode cX9_fits 10 = .ok (.invokestatic 47, 3) := by decide +kernel
theorem dX9_fits_13 : decode cX9_fits 13 = .ok (.ifCond .ne 9, 3) := by decide +kernel
theorem dX9_fits_16 : decode cX9_fits 16 = .ok (.aload_n 0, 1) := by decide +kernel
theorem dX9_fits_17 : decode cX9_fits 17 = .ok (.iconst 1, 1) := by decide +kernel
theorem dX9_fits_18 : decode cX9_fits 18 = .ok (.invokevirtual 51, 3) := by decide +kernel
theorem dX9_fits_21 : decode cX9_fits 21 = .ok (.ireturn, 1) := by decide +kernel
theorem dX9_fits_22 : decode cX9_fits 22 = .ok (.aload_n 0, 1) := by decide +kernel
theorem dX9_fits_23 : decode cX9_fits 23 = .ok (.getfield 34, 3) := by decide +kernel
theorem dX9_fits_26 : decode cX9_fits 26 = .ok (.iload_n 1, 1) := by decide +kernel
theorem dX9_fits_27 : decode cX9_fits 27 = .ok (.iaload, 1) := by decide +kernel
theorem dX9_fits_28 : decode cX9_fits 28 = .ok (.ifCond .ne 9, 3) := by decide +kernel
theorem dX9_fits_31 : decode cX9_fits 31 = .ok (.aload_n 0, 1) := by decide +kernel
theorem dX9_fits_32 : decode cX9_fits 32 = .ok (.iconst 2, 1) := by decide +kernel
theorem dX9_fits_33 : decode cX9_fits 33 = .ok (.invokevirtual 51, 3) := by decide +kernel
theorem dX9_fits_36 : decode cX9_fits 36 = .ok (.ireturn, 1) := by decide +kernel
theorem dX9_fits_37 : decode cX9_fits 37 = .ok (.iconst 0, 1) := by decide +kernel
theorem dX9_fits_38 : decode cX9_fits 38 = .ok (.istore_n 3, 1) := by decide +kernel
theorem dX9_fits_39 : decode cX9_fits 39 = .ok (.aload_n 0, 1) := by decide +kernel
theorem dX9_fits_40 : decode cX9_fits 40 = .ok (.invokevirtual 170, 3) := by decide +kernel
theorem dX9_fits_43 : decode cX9_fits 43 = .ok (.iconst 0, 1) := by decide +kernel
theorem dX9_fits_44 : decode cX9_fits 44 = .ok (.istore 4, 2) := by decide +kernel
theorem dX9_fits_46 : decode cX9_fits 46 = .ok (.iload 4, 2) := by decide +kernel
theorem dX9_fits_48 : decode cX9_fits 48 = .ok (.aload_n 0, 1) := by decide +kernel
theorem dX9_fits_49 : decode cX9_fits 49 = .ok (.getfield 7, 3) := by decide +kernel
theorem dX9_fits_52 : decode cX9_fits 52 = .ok (.bipush 8, 2) := by decide +kernel
theorem dX9_fits_54 : decode cX9_fits 54 = .ok (.iaload, 1) := by decide +kernel
theorem dX9_fits_55 : decode cX9_fits 55 = .ok (.if_icmp .ge 97, 3) := by decide +kernel
theorem dX9_fits_58 : decode cX9_fits 58 = .ok (.aload_n 0, 1) := by decide +kernel
theorem dX9_fits_59 : decode cX9_fits 59 = .ok (.getfield 7, 3) := by decide +kernel
theorem dX9_fits_62 : decode cX9_fits 62 = .ok (.iconst 4, 1) := by decide +kernel
theorem dX9_fits_63 : decode cX9_fits 63 = .ok (.iload 4, 2) := by decide +kernel
theorem dX9_fits_65 : decode cX9_fits 65 = .ok (.iastore, 1) := by decide +kernel
theorem dX9_fits_66 : decode cX9_fits 66 = .ok (.iconst 1, 1) := by decide +kernel
theorem dX9_fits_67 : decode cX9_fits 67 = .ok (.istore 5, 2) := by decide +kernel
theorem dX9_fits_69 : decode cX9_fits 69 = .ok (.iconst 0, 1) := by decide +kernel
theorem dX9_fits_70 : decode cX9_fits 70 = .ok (.istore 6, 2) := by decide +kernel
theorem dX9_fits_72 : decode cX9_fits 72 = .ok (.iload 6, 2) := by decide +kernel
theorem dX9_fits_74 : decode cX9_fits 74 = .ok (.aload_n 0, 1) := by decide +kernel
theorem dX9_fits_75 : decode cX9_fits 75 = .ok (.getfield 37, 3) := by decide +kernel
theorem dX9_fits_78 : decode cX9_fits 78 = .ok (.iload_n 1, 1) := by decide +kernel
theorem dX9_fits_79 : decode cX9_fits 79 = .ok (.iaload, 1) := by decide +kernel
theorem dX9_fits_80 : decode cX9_fits 80 = .ok (.if_icmp .ge 46, 3) := by decide +kernel
theorem dX9_fits_83 : decode cX9_fits 83 = .ok (.iload 5, 2) := by decide +kernel
theorem dX9_fits_85 : decode cX9_fits 85 = .ok (.ifCond .eq 41, 3) := by decide +kernel
theorem dX9_fits_88 : decode cX9_fits 88 = .ok (.aload_n 0, 1) := by decide +kernel
theorem dX9_fits_89 : decode cX9_fits 89 = .ok (.getfield 40, 3) := by decide +kernel
theorem dX9_fits_92 : decode cX9_fits 92 = .ok (.bipush 24, 2) := by decide +kernel
theorem dX9_fits_94 : decode cX9_fits 94 = .ok (.iload_n 1, 1) := by decide +kernel
theorem dX9_fits_95 : decode cX9_fits 95 = .ok (.imul, 1) := by decide +kernel
theorem dX9_fits_96 : decode cX9_fits 96 = .ok (.iload 6, 2) := by decide +kernel
theorem dX9_fits_98 : decode cX9_fits 98 = .ok (.iadd, 1) := by decide +kernel
theorem dX9_fits_99 : decode cX9_fits 99 = .ok (.iaload, 1) := by decide +kernel
theorem dX9_fits_100 : decode cX9_fits 100 = .ok (.aload_n 0, 1) := by decide +kernel
theorem dX9_fits_101 : decode cX9_fits 101 = .ok (.getfield 7, 3) := by decide +kernel
theorem dX9_fits_104 : decode cX9_fits 104 = .ok (.iconst 1, 1) := by decide +kernel
theorem dX9_fits_105 : decode cX9_fits 105 = .ok (.iaload, 1) := by decide +kernel
theorem dX9_fits_106 : decode cX9_fits 106 = .ok (.if_icmp .ne 7, 3) := by decide +kernel
theorem dX9_fits_109 : decode cX9_fits 109 = .ok (.iconst 1, 1) := by decide +kernel
theorem dX9_fits_110 : decode cX9_fits 110 = .ok (.goto 4, 3) := by decide +kernel
theorem dX9_fits_113 : decode cX9_fits 113 = .ok (.iconst 0, 1) := by decide +kernel
theorem dX9_fits_114 : decode cX9_fits 114 = .ok (.istore 5, 2) := by decide +kernel
theorem dX9_fits_116 : decode cX9_fits 116 = .ok (.aload_n 0, 1) := by decide +kernel
theorem dX9_fits_117 : decode cX9_fits 117 = .ok (.invokevirtual 150, 3) := by decide +kernel
theorem dX9_fits_120 : decode cX9_fits 120 = .ok (.iinc 6 1, 3) := by decide +kernel
theorem dX9_fits_123 : decode cX9_fits 123 = .ok (.goto (-51), 3) := by decide +kernel
theorem dX9_fits_126 : decode cX9_fits 126 = .ok (.aload_n 0, 1) := by decide +kernel
theorem dX9_fits_127 : decode cX9_fits 127 = .ok (.invokevirtual 176, 3) := by decide +kernel
theorem dX9_fits_130 : decode cX9_fits 130 = .ok (.iload_n 3, 1) := by decide +kernel
theorem dX9_fits_131 : decode cX9_fits 131 = .ok (.iload 5, 2) := by decide +kernel
theorem dX9_fits_133 : decode cX9_fits 133 = .ok (.ifCond .eq 10, 3) := by decide +kernel
theorem dX9_fits_136 : decode cX9_fits 136 = .ok (.iconst 1, 1) := by decide +kernel
theorem dX9_fits_137 : decode cX9_fits 137 = .ok (.iload 4, 2) := by decide +kernel
theorem dX9_fits_139 : decode cX9_fits 139 = .ok (.ishl, 1) := by decide +kernel
theorem dX9_fits_140 : decode cX9_fits 140 = .ok (.goto 4, 3) := by decide +kernel
theorem dX9_fits_143 : decode cX9_fits 143 = .ok (.iconst 0, 1) := by decide +kernel
theorem dX9_fits_144 : decode cX9_fits 144 = .ok (.ior, 1) := by decide +kernel
theorem dX9_fits_145 : decode cX9_fits 145 = .ok (.istore_n 3, 1) := by decide +kernel
theorem dX9_fits_146 : decode cX9_fits 146 = .ok (.iinc 4 1, 3) := by decide +kernel
theorem dX9_fits_149 : decode cX9_fits 149 = .ok (.goto (-103), 3) := by decide +kernel
theorem dX9_fits_152 : decode cX9_fits 152 = .ok (.iload_n 2, 1) := by decide +kernel
theorem dX9_fits_153 : decode cX9_fits 153 = .ok (.ifCond .ne 7, 3) := by decide +kernel
theorem dX9_fits_156 : decode cX9_fits 156 = .ok (.iload_n 3, 1) := by decide +kernel
theorem dX9_fits_157 : decode cX9_fits 157 = .ok (.goto 7, 3) := by decide +kernel
theorem dX9_fits_160 : decode cX9_fits 160 = .ok (.iload_n 3, 1) := by decide +kernel
theorem dX9_fits_161 : decode cX9_fits 161 = .ok (.invokestatic 186, 3) := by decide +kernel
theorem dX9_fits_164 : decode cX9_fits 164 = .ok (.ireturn, 1) := by decide +kernel
theorem dX9_begins_0 : decode cX9_begins 0 = .ok (.aload_n 0, 1) := by decide +kernel
theorem dX9_begins_1 : decode cX9_begins 1 = .ok (.getfield 198, 3) := by decide +kernel
theorem dX9_begins_4 : decode cX9_begins 4 = .ok (.bipush 30, 2) := by decide +kernel
theorem dX9_begins_6 : decode cX9_begins 6 = .ok (.if_icmp .ge 23, 3) := by decide +kernel
theorem dX9_begins_9 : decode cX9_begins 9 = .ok (.aload_n 0, 1) := by decide +kernel
theorem dX9_begins_10 : decode cX9_begins 10 = .ok (.getfield 31, 3) := by decide +kernel
theorem dX9_begins_13 : decode cX9_begins 13 = .ok (.aload_n 0, 1) := by decide +kernel
theorem dX9_begins_14 : decode cX9_begins 14 = .ok (.getfield 198, 3) := by decide +kernel
theorem dX9_begins_17 : decode cX9_begins 17 = .ok (.iload_n 1, 1) := by decide +kernel
theorem dX9_begins_18 : decode cX9_begins 18 = .ok (.iastore, 1) := by decide +kernel
theorem dX9_begins_19 : decode cX9_begins 19 = .ok (.aload_n 0, 1) := by decide +kernel
theorem dX9_begins_20 : decode cX9_begins 20 = .ok (.dup, 1) := by decide +kernel
theorem dX9_begins_21 : decode cX9_begins 21 = .ok (.getfield 198, 3) := by decide +kernel
theorem dX9_begins_24 : decode cX9_begins 24 = .ok (.iconst 1, 1) := by decide +kernel
theorem dX9_begins_25 : decode cX9_begins 25 = .ok (.iadd, 1) := by decide +kernel
theorem dX9_begins_26 : decode cX9_begins 26 = .ok (.putfield 198, 3) := by decide +kernel
theorem dX9_begins_29 : decode cX9_begins 29 = .ok (.return_, 1) := by decide +kernel
theorem dX9_above_0 : decode cX9_above 0 = .ok (.iload_n 0, 1) := by decide +kernel
theorem dX9_above_1 : decode cX9_above 1 = .ok (.iconst 4, 1) := by decide +kernel
theorem dX9_above_2 : decode cX9_above 2 = .ok (.if_icmp .ne 7, 3) := by decide +kernel
theorem dX9_above_5 : decode cX9_above 5 = .ok (.iconst 1, 1) := by decide +kernel
theorem dX9_above_6 : decode cX9_above 6 = .ok (.goto 13, 3) := by decide +kernel
theorem dX9_above_9 : decode cX9_above 9 = .ok (.iload_n 0, 1) := by decide +kernel
theorem dX9_above_10 : decode cX9_above 10 = .ok (.iconst 5, 1) := by decide +kernel
theorem dX9_above_11 : decode cX9_above 11 = .ok (.if_icmp .ne 7, 3) := by decide +kernel
theorem dX9_above_14 : decode cX9_above 14 = .ok (.iconst 2, 1) := by decide +kernel
theorem dX9_above_15 : decode cX9_above 15 = .ok (.goto 4, 3) := by decide +kernel
theorem dX9_above_18 : decode cX9_above 18 = .ok (.iconst 0, 1) := by decide +kernel
theorem dX9_above_19 : decode cX9_above 19 = .ok (.ireturn, 1) := by decide +kernel
theorem dX9_kindNow_0 : decode cX9_kindNow 0 = .ok (.aload_n 0, 1) := by decide +kernel
theorem dX9_kindNow_1 : decode cX9_kindNow 1 = .ok (.aload_n 0, 1) := by decide +kernel
theorem dX9_kindNow_2 : decode cX9_kindNow 2 = .ok (.getfield 201, 3) := by decide +kernel
theorem dX9_kindNow_5 : decode cX9_kindNow 5 = .ok (.iconst 0, 1) := by decide +kernel
theorem dX9_kindNow_6 : decode cX9_kindNow 6 = .ok (.invokevirtual 111, 3) := by decide +kernel
theorem dX9_kindNow_9 : decode cX9_kindNow 9 = .ok (.ireturn, 1) := by decide +kernel
theorem dX9_mNow_0 : decode cX9_mNow 0 = .ok (.aload_n 0, 1) := by decide +kernel
theorem dX9_mNow_1 : decode cX9_mNow 1 = .ok (.aload_n 0, 1) := by decide +kernel
theorem dX9_mNow_2 : decode cX9_mNow 2 = .ok (.getfield 201, 3) := by decide +kernel
theorem dX9_mNow_5 : decode cX9_mNow 5 = .ok (.iconst 1, 1) := by decide +kernel
theorem dX9_mNow_6 : decode cX9_mNow 6 = .ok (.invokevirtual 111, 3) := by decide +kernel
theorem dX9_mNow_9 : decode cX9_mNow 9 = .ok (.ireturn, 1) := by decide +kernel
theorem dX9_cutsAs_0 : decode cX9_cutsAs 0 = .ok (.iload_n 1, 1) := by decide +kernel
theorem dX9_cutsAs_1 : decode cX9_cutsAs 1 = .ok (.tableswitch 101 0 6 #[43, 56, 101, 101, 74, 101, 92], 43) := by decide +kernel
theorem dX9_cutsAs_44 : decode cX9_cutsAs 44 = .ok (.aload_n 0, 1) := by decide +kernel
theorem dX9_cutsAs_45 : decode cX9_cutsAs 45 = .ok (.bipush 10, 2) := by decide +kernel
theorem dX9_cutsAs_47 : decode cX9_cutsAs 47 = .ok (.invokevirtual 204, 3) := by decide +kernel
theorem dX9_cutsAs_50 : decode cX9_cutsAs 50 = .ok (.iload_n 2, 1) := by decide +kernel
theorem dX9_cutsAs_51 : decode cX9_cutsAs 51 = .ok (.aload_n 0, 1) := by decide +kernel
theorem dX9_cutsAs_52 : decode cX9_cutsAs 52 = .ok (.getfield 201, 3) := by decide +kernel
theorem dX9_cutsAs_55 : decode cX9_cutsAs 55 = .ok (.iadd, 1) := by decide +kernel
theorem dX9_cutsAs_56 : decode cX9_cutsAs 56 = .ok (.ireturn, 1) := by decide +kernel
theorem dX9_cutsAs_57 : decode cX9_cutsAs 57 = .ok (.aload_n 0, 1) := by decide +kernel
theorem dX9_cutsAs_58 : decode cX9_cutsAs 58 = .ok (.bipush 20, 2) := by decide +kernel
theorem dX9_cutsAs_60 : decode cX9_cutsAs 60 = .ok (.invokevirtual 204, 3) := by decide +kernel
theorem dX9_cutsAs_63 : decode cX9_cutsAs 63 = .ok (.aload_n 0, 1) := by decide +kernel
theorem dX9_cutsAs_64 : decode cX9_cutsAs 64 = .ok (.iconst 1, 1) := by decide +kernel
theorem dX9_cutsAs_65 : decode cX9_cutsAs 65 = .ok (.invokestatic 159, 3) := by decide +kernel
theorem dX9_cutsAs_68 : decode cX9_cutsAs 68 = .ok (.iload_n 2, 1) := by decide +kernel
theorem dX9_cutsAs_69 : decode cX9_cutsAs 69 = .ok (.invokevirtual 207, 3) := by decide +kernel
theorem dX9_cutsAs_72 : decode cX9_cutsAs 72 = .ok (.iconst 4, 1) := by decide +kernel
theorem dX9_cutsAs_73 : decode cX9_cutsAs 73 = .ok (.isub, 1) := by decide +kernel
theorem dX9_cutsAs_74 : decode cX9_cutsAs 74 = .ok (.ireturn, 1) := by decide +kernel
theorem dX9_cutsAs_75 : decode cX9_cutsAs 75 = .ok (.aload_n 0, 1) := by decide +kernel
theorem dX9_cutsAs_76 : decode cX9_cutsAs 76 = .ok (.bipush 50, 2) := by decide +kernel
theorem dX9_cutsAs_78 : decode cX9_cutsAs 78 = .ok (.invokevirtual 204, 3) := by decide +kernel
theorem dX9_cutsAs_81 : decode cX9_cutsAs 81 = .ok (.aload_n 0, 1) := by decide +kernel
theorem dX9_cutsAs_82 : decode cX9_cutsAs 82 = .ok (.iconst 4, 1) := by decide +kernel
theorem dX9_cutsAs_83 : decode cX9_cutsAs 83 = .ok (.invokestatic 159, 3) := by decide +kernel
theorem dX9_cutsAs_86 : decode cX9_cutsAs 86 = .ok (.iload_n 2, 1) := by decide +kernel
theorem dX9_cutsAs_87 : decode cX9_cutsAs 87 = .ok (.invokevirtual 207, 3) := by decide +kernel
theorem dX9_cutsAs_90 : decode cX9_cutsAs 90 = .ok (.iconst 3, 1) := by decide +kernel
theorem dX9_cutsAs_91 : decode cX9_cutsAs 91 = .ok (.imul, 1) := by decide +kernel
theorem dX9_cutsAs_92 : decode cX9_cutsAs 92 = .ok (.ireturn, 1) := by decide +kernel
theorem dX9_cutsAs_93 : decode cX9_cutsAs 93 = .ok (.aload_n 0, 1) := by decide +kernel
theorem dX9_cutsAs_94 : decode cX9_cutsAs 94 = .ok (.bipush 70, 2) := by decide +kernel
theorem dX9_cutsAs_96 : decode cX9_cutsAs 96 = .ok (.invokevirtual 204, 3) := by decide +kernel
theorem dX9_cutsAs_99 : decode cX9_cutsAs 99 = .ok (.bipush 9, 2) := by decide +kernel
theorem dX9_cutsAs_101 : decode cX9_cutsAs 101 = .ok (.ireturn, 1) := by decide +kernel
theorem dX9_cutsAs_102 : decode cX9_cutsAs 102 = .ok (.aload_n 0, 1) := by decide +kernel
theorem dX9_cutsAs_103 : decode cX9_cutsAs 103 = .ok (.iload_n 1, 1) := by decide +kernel
theorem dX9_cutsAs_104 : decode cX9_cutsAs 104 = .ok (.invokestatic 159, 3) := by decide +kernel
theorem dX9_cutsAs_107 : decode cX9_cutsAs 107 = .ok (.iload_n 2, 1) := by decide +kernel
theorem dX9_cutsAs_108 : decode cX9_cutsAs 108 = .ok (.invokevirtual 207, 3) := by decide +kernel
theorem dX9_cutsAs_111 : decode cX9_cutsAs 111 = .ok (.ireturn, 1) := by decide +kernel
theorem dX9_saysAs_0 : decode cX9_saysAs 0 = .ok (.iload_n 1, 1) := by decide +kernel
theorem dX9_saysAs_1 : decode cX9_saysAs 1 = .ok (.tableswitch 119 0 6 #[43, 119, 61, 119, 119, 79, 97], 43) := by decide +kernel
theorem dX9_saysAs_44 : decode cX9_saysAs 44 = .ok (.aload_n 0, 1) := by decide +kernel
theorem dX9_saysAs_45 : decode cX9_saysAs 45 = .ok (.bipush 11, 2) := by decide +kernel
theorem dX9_saysAs_47 : decode cX9_saysAs 47 = .ok (.invokevirtual 204, 3) := by decide +kernel
theorem dX9_saysAs_50 : decode cX9_saysAs 50 = .ok (.aload_n 0, 1) := by decide +kernel
theorem dX9_saysAs_51 : decode cX9_saysAs 51 = .ok (.aload_n 0, 1) := by decide +kernel
theorem dX9_saysAs_52 : decode cX9_saysAs 52 = .ok (.invokevirtual 210, 3) := by decide +kernel
theorem dX9_saysAs_55 : decode cX9_saysAs 55 = .ok (.iload_n 2, 1) := by decide +kernel
theorem dX9_saysAs_56 : decode cX9_saysAs 56 = .ok (.invokevirtual 207, 3) := by decide +kernel
theorem dX9_saysAs_59 : decode cX9_saysAs 59 = .ok (.iconst 2, 1) := by decide +kernel
theorem dX9_saysAs_60 : decode cX9_saysAs 60 = .ok (.imul, 1) := by decide +kernel
theorem dX9_saysAs_61 : decode cX9_saysAs 61 = .ok (.ireturn, 1) := by decide +kernel
theorem dX9_saysAs_62 : decode cX9_saysAs 62 = .ok (.aload_n 0, 1) := by decide +kernel
theorem dX9_saysAs_63 : decode cX9_saysAs 63 = .ok (.bipush 30, 2) := by decide +kernel
theorem dX9_saysAs_65 : decode cX9_saysAs 65 = .ok (.invokevirtual 204, 3) := by decide +kernel
theorem dX9_saysAs_68 : decode cX9_saysAs 68 = .ok (.iconst 0, 1) := by decide +kernel
theorem dX9_saysAs_69 : decode cX9_saysAs 69 = .ok (.aload_n 0, 1) := by decide +kernel
theorem dX9_saysAs_70 : decode cX9_saysAs 70 = .ok (.iconst 2, 1) := by decide +kernel
theorem dX9_saysAs_71 : decode cX9_saysAs 71 = .ok (.invokestatic 159, 3) := by decide +kernel
theorem dX9_saysAs_74 : decode cX9_saysAs 74 = .ok (.iload_n 2, 1) := by decide +kernel
theorem dX9_saysAs_75 : decode cX9_saysAs 75 = .ok (.invokevirtual 213, 3) := by decide +kernel
theorem dX9_saysAs_78 : decode cX9_saysAs 78 = .ok (.isub, 1) := by decide +kernel
theorem dX9_saysAs_79 : decode cX9_saysAs 79 = .ok (.ireturn, 1) := by decide +kernel
theorem dX9_saysAs_80 : decode cX9_saysAs 80 = .ok (.aload_n 0, 1) := by decide +kernel
theorem dX9_saysAs_81 : decode cX9_saysAs 81 = .ok (.bipush 60, 2) := by decide +kernel
theorem dX9_saysAs_83 : decode cX9_saysAs 83 = .ok (.invokevirtual 204, 3) := by decide +kernel
theorem dX9_saysAs_86 : decode cX9_saysAs 86 = .ok (.aload_n 0, 1) := by decide +kernel
theorem dX9_saysAs_87 : decode cX9_saysAs 87 = .ok (.iconst 5, 1) := by decide +kernel
theorem dX9_saysAs_88 : decode cX9_saysAs 88 = .ok (.invokestatic 159, 3) := by decide +kernel
theorem dX9_saysAs_91 : decode cX9_saysAs 91 = .ok (.iload_n 2, 1) := by decide +kernel
theorem dX9_saysAs_92 : decode cX9_saysAs 92 = .ok (.iconst 1, 1) := by decide +kernel
theorem dX9_saysAs_93 : decode cX9_saysAs 93 = .ok (.iadd, 1) := by decide +kernel
theorem dX9_saysAs_94 : decode cX9_saysAs 94 = .ok (.invokevirtual 213, 3) := by decide +kernel
theorem dX9_saysAs_97 : decode cX9_saysAs 97 = .ok (.ireturn, 1) := by decide +kernel
theorem dX9_saysAs_98 : decode cX9_saysAs 98 = .ok (.aload_n 0, 1) := by decide +kernel
theorem dX9_saysAs_99 : decode cX9_saysAs 99 = .ok (.bipush 71, 2) := by decide +kernel
theorem dX9_saysAs_101 : decode cX9_saysAs 101 = .ok (.invokevirtual 204, 3) := by decide +kernel
theorem dX9_saysAs_104 : decode cX9_saysAs 104 = .ok (.aload_n 0, 1) := by decide +kernel
theorem dX9_saysAs_105 : decode cX9_saysAs 105 = .ok (.bipush 6, 2) := by decide +kernel
theorem dX9_saysAs_107 : decode cX9_saysAs 107 = .ok (.invokestatic 159, 3) := by decide +kernel
theorem dX9_saysAs_110 : decode cX9_saysAs 110 = .ok (.iload_n 2, 1) := by decide +kernel
theorem dX9_saysAs_111 : decode cX9_saysAs 111 = .ok (.invokevirtual 213, 3) := by decide +kernel
theorem dX9_saysAs_114 : decode cX9_saysAs 114 = .ok (.aload_n 0, 1) := by decide +kernel
theorem dX9_saysAs_115 : decode cX9_saysAs 115 = .ok (.invokevirtual 216, 3) := by decide +kernel
theorem dX9_saysAs_118 : decode cX9_saysAs 118 = .ok (.iadd, 1) := by decide +kernel
theorem dX9_saysAs_119 : decode cX9_saysAs 119 = .ok (.ireturn, 1) := by decide +kernel
theorem dX9_saysAs_120 : decode cX9_saysAs 120 = .ok (.aload_n 0, 1) := by decide +kernel
theorem dX9_saysAs_121 : decode cX9_saysAs 121 = .ok (.iload_n 1, 1) := by decide +kernel
theorem dX9_saysAs_122 : decode cX9_saysAs 122 = .ok (.invokestatic 159, 3) := by decide +kernel
theorem dX9_saysAs_125 : decode cX9_saysAs 125 = .ok (.iload_n 2, 1) := by decide +kernel
theorem dX9_saysAs_126 : decode cX9_saysAs 126 = .ok (.invokevirtual 213, 3) := by decide +kernel
theorem dX9_saysAs_129 : decode cX9_saysAs 129 = .ok (.ireturn, 1) := by decide +kernel
theorem dX9_steelsAs_0 : decode cX9_steelsAs 0 = .ok (.iload_n 1, 1) := by decide +kernel
theorem dX9_steelsAs_1 : decode cX9_steelsAs 1 = .ok (.tableswitch 95 0 4 #[35, 95, 95, 56, 74], 35) := by decide +kernel
theorem dX9_steelsAs_36 : decode cX9_steelsAs 36 = .ok (.aload_n 0, 1) := by decide +kernel
theorem dX9_steelsAs_37 : decode cX9_steelsAs 37 = .ok (.bipush 12, 2) := by decide +kernel
theorem dX9_steelsAs_39 : decode cX9_steelsAs 39 = .ok (.invokevirtual 204, 3) := by decide +kernel
theorem dX9_steelsAs_42 : decode cX9_steelsAs 42 = .ok (.aload_n 0, 1) := by decide +kernel
theorem dX9_steelsAs_43 : decode cX9_steelsAs 43 = .ok (.aload_n 0, 1) := by decide +kernel
theorem dX9_steelsAs_44 : decode cX9_steelsAs 44 = .ok (.invokevirtual 210, 3) := by decide +kernel
theorem dX9_steelsAs_47 : decode cX9_steelsAs 47 = .ok (.iload_n 2, 1) := by decide +kernel
theorem dX9_steelsAs_48 : decode cX9_steelsAs 48 = .ok (.invokevirtual 213, 3) := by decide +kernel
theorem dX9_steelsAs_51 : decode cX9_steelsAs 51 = .ok (.aload_n 0, 1) := by decide +kernel
theorem dX9_steelsAs_52 : decode cX9_steelsAs 52 = .ok (.invokevirtual 216, 3) := by decide +kernel
theorem dX9_steelsAs_55 : decode cX9_steelsAs 55 = .ok (.isub, 1) := by decide +kernel
theorem dX9_steelsAs_56 : decode cX9_steelsAs 56 = .ok (.ireturn, 1) := by decide +kernel
theorem dX9_steelsAs_57 : decode cX9_steelsAs 57 = .ok (.aload_n 0, 1) := by decide +kernel
theorem dX9_steelsAs_58 : decode cX9_steelsAs 58 = .ok (.bipush 40, 2) := by decide +kernel
theorem dX9_steelsAs_60 : decode cX9_steelsAs 60 = .ok (.invokevirtual 204, 3) := by decide +kernel
theorem dX9_steelsAs_63 : decode cX9_steelsAs 63 = .ok (.aload_n 0, 1) := by decide +kernel
theorem dX9_steelsAs_64 : decode cX9_steelsAs 64 = .ok (.iconst 3, 1) := by decide +kernel
theorem dX9_steelsAs_65 : decode cX9_steelsAs 65 = .ok (.invokestatic 159, 3) := by decide +kernel
theorem dX9_steelsAs_68 : decode cX9_steelsAs 68 = .ok (.iload_n 2, 1) := by decide +kernel
theorem dX9_steelsAs_69 : decode cX9_steelsAs 69 = .ok (.iconst 2, 1) := by decide +kernel
theorem dX9_steelsAs_70 : decode cX9_steelsAs 70 = .ok (.idiv, 1) := by decide +kernel
theorem dX9_steelsAs_71 : decode cX9_steelsAs 71 = .ok (.invokevirtual 219, 3) := by decide +kernel
theorem dX9_steelsAs_74 : decode cX9_steelsAs 74 = .ok (.ireturn, 1) := by decide +kernel
theorem dX9_steelsAs_75 : decode cX9_steelsAs 75 = .ok (.aload_n 0, 1) := by decide +kernel
theorem dX9_steelsAs_76 : decode cX9_steelsAs 76 = .ok (.bipush 51, 2) := by decide +kernel
theorem dX9_steelsAs_78 : decode cX9_steelsAs 78 = .ok (.invokevirtual 204, 3) := by decide +kernel
theorem dX9_steelsAs_81 : decode cX9_steelsAs 81 = .ok (.aload_n 0, 1) := by decide +kernel
theorem dX9_steelsAs_82 : decode cX9_steelsAs 82 = .ok (.iconst 4, 1) := by decide +kernel
theorem dX9_steelsAs_83 : decode cX9_steelsAs 83 = .ok (.invokestatic 159, 3) := by decide +kernel
theorem dX9_steelsAs_86 : decode cX9_steelsAs 86 = .ok (.iload_n 2, 1) := by decide +kernel
theorem dX9_steelsAs_87 : decode cX9_steelsAs 87 = .ok (.invokevirtual 219, 3) := by decide +kernel
theorem dX9_steelsAs_90 : decode cX9_steelsAs 90 = .ok (.aload_n 0, 1) := by decide +kernel
theorem dX9_steelsAs_91 : decode cX9_steelsAs 91 = .ok (.getfield 201, 3) := by decide +kernel
theorem dX9_steelsAs_94 : decode cX9_steelsAs 94 = .ok (.ixor, 1) := by decide +kernel
theorem dX9_steelsAs_95 : decode cX9_steelsAs 95 = .ok (.ireturn, 1) := by decide +kernel
theorem dX9_steelsAs_96 : decode cX9_steelsAs 96 = .ok (.aload_n 0, 1) := by decide +kernel
theorem dX9_steelsAs_97 : decode cX9_steelsAs 97 = .ok (.iload_n 1, 1) := by decide +kernel
theorem dX9_steelsAs_98 : decode cX9_steelsAs 98 = .ok (.invokestatic 159, 3) := by decide +kernel
theorem dX9_steelsAs_101 : decode cX9_steelsAs 101 = .ok (.iload_n 2, 1) := by decide +kernel
theorem dX9_steelsAs_102 : decode cX9_steelsAs 102 = .ok (.invokevirtual 219, 3) := by decide +kernel
theorem dX9_steelsAs_105 : decode cX9_steelsAs 105 = .ok (.ireturn, 1) := by decide +kernel
theorem dX9_partsAs_0 : decode cX9_partsAs 0 = .ok (.iload_n 1, 1) := by decide +kernel
theorem dX9_partsAs_1 : decode cX9_partsAs 1 = .ok (.lookupswitch 119 #[(0, 27), (1, 78)], 27) := by decide +kernel
theorem dX9_partsAs_28 : decode cX9_partsAs 28 = .ok (.aload_n 0, 1) := by decide +kernel
theorem dX9_partsAs_29 : decode cX9_partsAs 29 = .ok (.bipush 13, 2) := by decide +kernel
theorem dX9_partsAs_31 : decode cX9_partsAs 31 = .ok (.invokevirtual 204, 3) := by decide +kernel
theorem dX9_partsAs_34 : decode cX9_partsAs 34 = .ok (.aload_n 0, 1) := by decide +kernel
theorem dX9_partsAs_35 : decode cX9_partsAs 35 = .ok (.invokevirtual 216, 3) := by decide +kernel
theorem dX9_partsAs_38 : decode cX9_partsAs 38 = .ok (.aload_n 0, 1) := by decide +kernel
theorem dX9_partsAs_39 : decode cX9_partsAs 39 = .ok (.getfield 201, 3) := by decide +kernel
theorem dX9_partsAs_42 : decode cX9_partsAs 42 = .ok (.isub, 1) := by decide +kernel
theorem dX9_partsAs_43 : decode cX9_partsAs 43 = .ok (.istore_n 3, 1) := by decide +kernel
theorem dX9_partsAs_44 : decode cX9_partsAs 44 = .ok (.aload_n 0, 1) := by decide +kernel
theorem dX9_partsAs_45 : decode cX9_partsAs 45 = .ok (.iload_n 3, 1) := by decide +kernel
theorem dX9_partsAs_46 : decode cX9_partsAs 46 = .ok (.ifCond .ne 7, 3) := by decide +kernel
theorem dX9_partsAs_49 : decode cX9_partsAs 49 = .ok (.iconst 1, 1) := by decide +kernel
theorem dX9_partsAs_50 : decode cX9_partsAs 50 = .ok (.goto 4, 3) := by decide +kernel
theorem dX9_partsAs_53 : decode cX9_partsAs 53 = .ok (.iconst 0, 1) := by decide +kernel
theorem dX9_partsAs_54 : decode cX9_partsAs 54 = .ok (.putfield 222, 3) := by decide +kernel
theorem dX9_partsAs_57 : decode cX9_partsAs 57 = .ok (.iload_n 3, 1) := by decide +kernel
theorem dX9_partsAs_58 : decode cX9_partsAs 58 = .ok (.ifCond .ne 7, 3) := by decide +kernel
theorem dX9_partsAs_61 : decode cX9_partsAs 61 = .ok (.iconst 0, 1) := by decide +kernel
theorem dX9_partsAs_62 : decode cX9_partsAs 62 = .ok (.goto 16, 3) := by decide +kernel
theorem dX9_partsAs_65 : decode cX9_partsAs 65 = .ok (.iload_n 3, 1) := by decide +kernel
theorem dX9_partsAs_66 : decode cX9_partsAs 66 = .ok (.iconst (-1), 1) := by decide +kernel
theorem dX9_partsAs_67 : decode cX9_partsAs 67 = .ok (.if_icmp .ne 8, 3) := by decide +kernel
theorem dX9_partsAs_70 : decode cX9_partsAs 70 = .ok (.iload_n 2, 1) := by decide +kernel
theorem dX9_partsAs_71 : decode cX9_partsAs 71 = .ok (.ineg, 1) := by decide +kernel
theorem dX9_partsAs_72 : decode cX9_partsAs 72 = .ok (.goto 6, 3) := by decide +kernel
theorem dX9_partsAs_75 : decode cX9_partsAs 75 = .ok (.iload_n 2, 1) := by decide +kernel
theorem dX9_partsAs_76 : decode cX9_partsAs 76 = .ok (.iload_n 3, 1) := by decide +kernel
theorem dX9_partsAs_77 : decode cX9_partsAs 77 = .ok (.idiv, 1) := by decide +kernel
theorem dX9_partsAs_78 : decode cX9_partsAs 78 = .ok (.ireturn, 1) := by decide +kernel
theorem dX9_partsAs_79 : decode cX9_partsAs 79 = .ok (.aload_n 0, 1) := by decide +kernel
theorem dX9_partsAs_80 : decode cX9_partsAs 80 = .ok (.bipush 21, 2) := by decide +kernel
theorem dX9_partsAs_82 : decode cX9_partsAs 82 = .ok (.invokevirtual 204, 3) := by decide +kernel
theorem dX9_partsAs_85 : decode cX9_partsAs 85 = .ok (.aload_n 0, 1) := by decide +kernel
theorem dX9_partsAs_86 : decode cX9_partsAs 86 = .ok (.iconst 1, 1) := by decide +kernel
theorem dX9_partsAs_87 : decode cX9_partsAs 87 = .ok (.invokestatic 159, 3) := by decide +kernel
theorem dX9_partsAs_90 : decode cX9_partsAs 90 = .ok (.iload_n 2, 1) := by decide +kernel
theorem dX9_partsAs_91 : decode cX9_partsAs 91 = .ok (.invokevirtual 226, 3) := by decide +kernel
theorem dX9_partsAs_94 : decode cX9_partsAs 94 = .ok (.istore 4, 2) := by decide +kernel
theorem dX9_partsAs_96 : decode cX9_partsAs 96 = .ok (.aload_n 0, 1) := by decide +kernel
theorem dX9_partsAs_97 : decode cX9_partsAs 97 = .ok (.getfield 222, 3) := by decide +kernel
theorem dX9_partsAs_100 : decode cX9_partsAs 100 = .ok (.ifCond .eq 7, 3) := by decide +kernel
theorem dX9_partsAs_103 : decode cX9_partsAs 103 = .ok (.iconst 0, 1) := by decide +kernel
theorem dX9_partsAs_104 : decode cX9_partsAs 104 = .ok (.goto 15, 3) := by decide +kernel
theorem dX9_partsAs_107 : decode cX9_partsAs 107 = .ok (.iload 4, 2) := by decide +kernel
theorem dX9_partsAs_109 : decode cX9_partsAs 109 = .ok (.aload_n 0, 1) := by decide +kernel
theorem dX9_partsAs_110 : decode cX9_partsAs 110 = .ok (.aload_n 0, 1) := by decide +kernel
theorem dX9_partsAs_111 : decode cX9_partsAs 111 = .ok (.invokevirtual 210, 3) := by decide +kernel
theorem dX9_partsAs_114 : decode cX9_partsAs 114 = .ok (.iconst 1, 1) := by decide +kernel
theorem dX9_partsAs_115 : decode cX9_partsAs 115 = .ok (.invokevirtual 213, 3) := by decide +kernel
theorem dX9_partsAs_118 : decode cX9_partsAs 118 = .ok (.iadd, 1) := by decide +kernel
theorem dX9_partsAs_119 : decode cX9_partsAs 119 = .ok (.ireturn, 1) := by decide +kernel
theorem dX9_partsAs_120 : decode cX9_partsAs 120 = .ok (.aload_n 0, 1) := by decide +kernel
theorem dX9_partsAs_121 : decode cX9_partsAs 121 = .ok (.iload_n 1, 1) := by decide +kernel
theorem dX9_partsAs_122 : decode cX9_partsAs 122 = .ok (.invokestatic 159, 3) := by decide +kernel
theorem dX9_partsAs_125 : decode cX9_partsAs 125 = .ok (.iload_n 2, 1) := by decide +kernel
theorem dX9_partsAs_126 : decode cX9_partsAs 126 = .ok (.invokevirtual 226, 3) := by decide +kernel
theorem dX9_partsAs_129 : decode cX9_partsAs 129 = .ok (.ireturn, 1) := by decide +kernel
theorem dX9_voice_0 : decode cX9_voice 0 = .ok (.aload_n 0, 1) := by decide +kernel
theorem dX9_voice_1 : decode cX9_voice 1 = .ok (.iload_n 1, 1) := by decide +kernel
theorem dX9_voice_2 : decode cX9_voice 2 = .ok (.invokevirtual 156, 3) := by decide +kernel
theorem dX9_voice_5 : decode cX9_voice 5 = .ok (.ifCond .eq 12, 3) := by decide +kernel
theorem dX9_voice_8 : decode cX9_voice 8 = .ok (.iload_n 2, 1) := by decide +kernel
theorem dX9_voice_9 : decode cX9_voice 9 = .ok (.iconst 0, 1) := by decide +kernel
theorem dX9_voice_10 : decode cX9_voice 10 = .ok (.iconst 3, 1) := by decide +kernel
theorem dX9_voice_11 : decode cX9_voice 11 = .ok (.invokestatic 47, 3) := by decide +kernel
theorem dX9_voice_14 : decode cX9_voice 14 = .ok (.ifCond .ne 9, 3) := by decide +kernel
theorem dX9_voice_17 : decode cX9_voice 17 = .ok (.aload_n 0, 1) := by decide +kernel
theorem dX9_voice_18 : decode cX9_voice 18 = .ok (.iconst 1, 1) := by decide +kernel
theorem dX9_voice_19 : decode cX9_voice 19 = .ok (.invokevirtual 51, 3) := by decide +kernel
theorem dX9_voice_22 : decode cX9_voice 22 = .ok (.ireturn, 1) := by decide +kernel
theorem dX9_voice_23 : decode cX9_voice 23 = .ok (.aload_n 0, 1) := by decide +kernel
theorem dX9_voice_24 : decode cX9_voice 24 = .ok (.iconst 0, 1) := by decide +kernel
theorem dX9_voice_25 : decode cX9_voice 25 = .ok (.putfield 198, 3) := by decide +kernel
theorem dX9_voice_28 : decode cX9_voice 28 = .ok (.aload_n 0, 1) := by decide +kernel
theorem dX9_voice_29 : decode cX9_voice 29 = .ok (.iload_n 1, 1) := by decide +kernel
theorem dX9_voice_30 : decode cX9_voice 30 = .ok (.putfield 201, 3) := by decide +kernel
theorem dX9_voice_33 : decode cX9_voice 33 = .ok (.aload_n 0, 1) := by decide +kernel
theorem dX9_voice_34 : decode cX9_voice 34 = .ok (.iconst 0, 1) := by decide +kernel
theorem dX9_voice_35 : decode cX9_voice 35 = .ok (.putfield 222, 3) := by decide +kernel
theorem dX9_voice_38 : decode cX9_voice 38 = .ok (.aload_n 0, 1) := by decide +kernel
theorem dX9_voice_39 : decode cX9_voice 39 = .ok (.invokevirtual 210, 3) := by decide +kernel
theorem dX9_voice_42 : decode cX9_voice 42 = .ok (.istore 4, 2) := by decide +kernel
theorem dX9_voice_44 : decode cX9_voice 44 = .ok (.iload_n 2, 1) := by decide +kernel
theorem dX9_voice_45 : decode cX9_voice 45 = .ok (.ifCond .ne 13, 3) := by decide +kernel
theorem dX9_voice_48 : decode cX9_voice 48 = .ok (.aload_n 0, 1) := by decide +kernel
theorem dX9_voice_49 : decode cX9_voice 49 = .ok (.iload 4, 2) := by decide +kernel
theorem dX9_voice_51 : decode cX9_voice 51 = .ok (.iload_n 3, 1) := by decide +kernel
theorem dX9_voice_52 : decode cX9_voice 52 = .ok (.invokevirtual 207, 3) := by decide +kernel
theorem dX9_voice_55 : decode cX9_voice 55 = .ok (.goto 40, 3) := by decide +kernel
theorem dX9_voice_58 : decode cX9_voice 58 = .ok (.iload_n 2, 1) := by decide +kernel
theorem dX9_voice_59 : decode cX9_voice 59 = .ok (.iconst 1, 1) := by decide +kernel
theorem dX9_voice_60 : decode cX9_voice 60 = .ok (.if_icmp .ne 13, 3) := by decide +kernel
theorem dX9_voice_63 : decode cX9_voice 63 = .ok (.aload_n 0, 1) := by decide +kernel
theorem dX9_voice_64 : decode cX9_voice 64 = .ok (.iload 4, 2) := by decide +kernel
theorem dX9_voice_66 : decode cX9_voice 66 = .ok (.iload_n 3, 1) := by decide +kernel
theorem dX9_voice_67 : decode cX9_voice 67 = .ok (.invokevirtual 213, 3) := by decide +kernel
theorem dX9_voice_70 : decode cX9_voice 70 = .ok (.goto 25, 3) := by decide +kernel
theorem dX9_voice_73 : decode cX9_voice 73 = .ok (.iload_n 2, 1) := by decide +kernel
theorem dX9_voice_74 : decode cX9_voice 74 = .ok (.iconst 2, 1) := by decide +kernel
theorem dX9_voice_75 : decode cX9_voice 75 = .ok (.if_icmp .ne 13, 3) := by decide +kernel
theorem dX9_voice_78 : decode cX9_voice 78 = .ok (.aload_n 0, 1) := by decide +kernel
theorem dX9_voice_79 : decode cX9_voice 79 = .ok (.iload 4, 2) := by decide +kernel
theorem dX9_voice_81 : decode cX9_voice 81 = .ok (.iload_n 3, 1) := by decide +kernel
theorem dX9_voice_82 : decode cX9_voice 82 = .ok (.invokevirtual 219, 3) := by decide +kernel
theorem dX9_voice_85 : decode cX9_voice 85 = .ok (.goto 10, 3) := by decide +kernel
theorem dX9_voice_88 : decode cX9_voice 88 = .ok (.aload_n 0, 1) := by decide +kernel
theorem dX9_voice_89 : decode cX9_voice 89 = .ok (.iload 4, 2) := by decide +kernel
theorem dX9_voice_91 : decode cX9_voice 91 = .ok (.iload_n 3, 1) := by decide +kernel
theorem dX9_voice_92 : decode cX9_voice 92 = .ok (.invokevirtual 226, 3) := by decide +kernel
theorem dX9_voice_95 : decode cX9_voice 95 = .ok (.istore 5, 2) := by decide +kernel
theorem dX9_voice_97 : decode cX9_voice 97 = .ok (.aload_n 0, 1) := by decide +kernel
theorem dX9_voice_98 : decode cX9_voice 98 = .ok (.getfield 222, 3) := by decide +kernel
theorem dX9_voice_101 : decode cX9_voice 101 = .ok (.ifCond .eq 12, 3) := by decide +kernel
theorem dX9_voice_104 : decode cX9_voice 104 = .ok (.aload_n 0, 1) := by decide +kernel
theorem dX9_voice_105 : decode cX9_voice 105 = .ok (.bipush 6, 2) := by decide +kernel
theorem dX9_voice_107 : decode cX9_voice 107 = .ok (.invokevirtual 51, 3) := by decide +kernel
theorem dX9_voice_110 : decode cX9_voice 110 = .ok (.goto 5, 3) := by decide +kernel
theorem dX9_voice_113 : decode cX9_voice 113 = .ok (.iload 5, 2) := by decide +kernel
theorem dX9_voice_115 : decode cX9_voice 115 = .ok (.ireturn, 1) := by decide +kernel
theorem dX9_body_0 : decode cX9_body 0 = .ok (.iload_n 1, 1) := by decide +kernel
theorem dX9_body_1 : decode cX9_body 1 = .ok (.iconst 0, 1) := by decide +kernel
theorem dX9_body_2 : decode cX9_body 2 = .ok (.aload_n 0, 1) := by decide +kernel
theorem dX9_body_3 : decode cX9_body 3 = .ok (.getfield 198, 3) := by decide +kernel
theorem dX9_body_6 : decode cX9_body 6 = .ok (.iconst 1, 1) := by decide +kernel
theorem dX9_body_7 : decode cX9_body 7 = .ok (.isub, 1) := by decide +kernel
theorem dX9_body_8 : decode cX9_body 8 = .ok (.invokestatic 47, 3) := by decide +kernel
theorem dX9_body_11 : decode cX9_body 11 = .ok (.ifCond .eq 12, 3) := by decide +kernel
theorem dX9_body_14 : decode cX9_body 14 = .ok (.aload_n 0, 1) := by decide +kernel
theorem dX9_body_15 : decode cX9_body 15 = .ok (.getfield 31, 3) := by decide +kernel
theorem dX9_body_18 : decode cX9_body 18 = .ok (.iload_n 1, 1) := by decide +kernel
theorem dX9_body_19 : decode cX9_body 19 = .ok (.iaload, 1) := by decide +kernel
theorem dX9_body_20 : decode cX9_body 20 = .ok (.goto 8, 3) := by decide +kernel
theorem dX9_body_23 : decode cX9_body 23 = .ok (.aload_n 0, 1) := by decide +kernel
theorem dX9_body_24 : decode cX9_body 24 = .ok (.iconst 2, 1) := by decide +kernel
theorem dX9_body_25 : decode cX9_body 25 = .ok (.invokevirtual 51, 3) := by decide +kernel
theorem dX9_body_28 : decode cX9_body 28 = .ok (.ireturn, 1) := by decide +kernel
theorem dX9_isSheet_0 : decode cX9_isSheet 0 = .ok (.iload_n 0, 1) := by decide +kernel
theorem dX9_isSheet_1 : decode cX9_isSheet 1 = .ok (.iconst 0, 1) := by decide +kernel
theorem dX9_isSheet_2 : decode cX9_isSheet 2 = .ok (.iconst 3, 1) := by decide +kernel
theorem dX9_isSheet_3 : decode cX9_isSheet 3 = .ok (.invokestatic 47, 3) := by decide +kernel
theorem dX9_isSheet_6 : decode cX9_isSheet 6 = .ok (.ireturn, 1) := by decide +kernel
theorem dX9_sheet_0 : decode cX9_sheet 0 = .ok (.iload_n 1, 1) := by decide +kernel
theorem dX9_sheet_1 : decode cX9_sheet 1 = .ok (.invokestatic 195, 3) := by decide +kernel
theorem dX9_sheet_4 : decode cX9_sheet 4 = .ok (.ifCond .eq 25, 3) := by decide +kernel
theorem dX9_sheet_7 : decode cX9_sheet 7 = .ok (.iload_n 2, 1) := by decide +kernel
theorem dX9_sheet_8 : decode cX9_sheet 8 = .ok (.ifCond .eq 27, 3) := by decide +kernel
theorem dX9_sheet_11 : decode cX9_sheet 11 = .ok (.iload_n 2, 1) := by decide +kernel
theorem dX9_sheet_12 : decode cX9_sheet 12 = .ok (.bipush 8, 2) := by decide +kernel
theorem dX9_sheet_14 : decode cX9_sheet 14 = .ok (.if_icmp .eq 21, 3) := by decide +kernel
theorem dX9_sheet_17 : decode cX9_sheet 17 = .ok (.iload_n 2, 1) := by decide +kernel
theorem dX9_sheet_18 : decode cX9_sheet 18 = .ok (.bipush 16, 2) := by decide +kernel
theorem dX9_sheet_20 : decode cX9_sheet 20 = .ok (.if_icmp .eq 15, 3) := by decide +kernel
theorem dX9_sheet_23 : decode cX9_sheet 23 = .ok (.iload_n 2, 1) := by decide +kernel
theorem dX9_sheet_24 : decode cX9_sheet 24 = .ok (.bipush 32, 2) := by decide +kernel
theorem dX9_sheet_26 : decode cX9_sheet 26 = .ok (.if_icmp .eq 9, 3) := by decide +kernel
theorem dX9_sheet_29 : decode cX9_sheet 29 = .ok (.aload_n 0, 1) := by decide +kernel
theorem dX9_sheet_30 : decode cX9_sheet 30 = .ok (.iconst 1, 1) := by decide +kernel
theorem dX9_sheet_31 : decode cX9_sheet 31 = .ok (.invokevirtual 51, 3) := by decide +kernel
theorem dX9_sheet_34 : decode cX9_sheet 34 = .ok (.ireturn, 1) := by decide +kernel
theorem dX9_sheet_35 : decode cX9_sheet 35 = .ok (.iload_n 2, 1) := by decide +kernel
theorem dX9_sheet_36 : decode cX9_sheet 36 = .ok (.ifCond .eq 13, 3) := by decide +kernel
theorem dX9_sheet_39 : decode cX9_sheet 39 = .ok (.iload_n 3, 1) := by decide +kernel
theorem dX9_sheet_40 : decode cX9_sheet 40 = .ok (.ifCond .ge 9, 3) := by decide +kernel
theorem dX9_sheet_43 : decode cX9_sheet 43 = .ok (.aload_n 0, 1) := by decide +kernel
theorem dX9_sheet_44 : decode cX9_sheet 44 = .ok (.iconst 3, 1) := by decide +kernel
theorem dX9_sheet_45 : decode cX9_sheet 45 = .ok (.invokevirtual 51, 3) := by decide +kernel
theorem dX9_sheet_48 : decode cX9_sheet 48 = .ok (.ireturn, 1) := by decide +kernel
theorem dX9_sheet_49 : decode cX9_sheet 49 = .ok (.iload_n 2, 1) := by decide +kernel
theorem dX9_sheet_50 : decode cX9_sheet 50 = .ok (.ifCond .eq 15, 3) := by decide +kernel
theorem dX9_sheet_53 : decode cX9_sheet 53 = .ok (.iload_n 3, 1) := by decide +kernel
theorem dX9_sheet_54 : decode cX9_sheet 54 = .ok (.bipush 24, 2) := by decide +kernel
theorem dX9_sheet_56 : decode cX9_sheet 56 = .ok (.if_icmp .le 9, 3) := by decide +kernel
theorem dX9_sheet_59 : decode cX9_sheet 59 = .ok (.aload_n 0, 1) := by decide +kernel
theorem dX9_sheet_60 : decode cX9_sheet 60 = .ok (.iconst 1, 1) := by decide +kernel
theorem dX9_sheet_61 : decode cX9_sheet 61 = .ok (.invokevirtual 51, 3) := by decide +kernel
theorem dX9_sheet_64 : decode cX9_sheet 64 = .ok (.ireturn, 1) := by decide +kernel
theorem dX9_sheet_65 : decode cX9_sheet 65 = .ok (.aload_n 0, 1) := by decide +kernel
theorem dX9_sheet_66 : decode cX9_sheet 66 = .ok (.getfield 34, 3) := by decide +kernel
theorem dX9_sheet_69 : decode cX9_sheet 69 = .ok (.iload_n 1, 1) := by decide +kernel
theorem dX9_sheet_70 : decode cX9_sheet 70 = .ok (.iload_n 2, 1) := by decide +kernel
theorem dX9_sheet_71 : decode cX9_sheet 71 = .ok (.iastore, 1) := by decide +kernel
theorem dX9_sheet_72 : decode cX9_sheet 72 = .ok (.aload_n 0, 1) := by decide +kernel
theorem dX9_sheet_73 : decode cX9_sheet 73 = .ok (.getfield 37, 3) := by decide +kernel
theorem dX9_sheet_76 : decode cX9_sheet 76 = .ok (.iload_n 1, 1) := by decide +kernel
theorem dX9_sheet_77 : decode cX9_sheet 77 = .ok (.iload_n 2, 1) := by decide +kernel
theorem dX9_sheet_78 : decode cX9_sheet 78 = .ok (.ifCond .ne 7, 3) := by decide +kernel
theorem dX9_sheet_81 : decode cX9_sheet 81 = .ok (.iconst 0, 1) := by decide +kernel
theorem dX9_sheet_82 : decode cX9_sheet 82 = .ok (.goto 4, 3) := by decide +kernel
theorem dX9_sheet_85 : decode cX9_sheet 85 = .ok (.iload_n 3, 1) := by decide +kernel
theorem dX9_sheet_86 : decode cX9_sheet 86 = .ok (.iastore, 1) := by decide +kernel
theorem dX9_sheet_87 : decode cX9_sheet 87 = .ok (.iconst 0, 1) := by decide +kernel
theorem dX9_sheet_88 : decode cX9_sheet 88 = .ok (.istore 4, 2) := by decide +kernel
theorem dX9_sheet_90 : decode cX9_sheet 90 = .ok (.iload 4, 2) := by decide +kernel
theorem dX9_sheet_92 : decode cX9_sheet 92 = .ok (.bipush 24, 2) := by decide +kernel
theorem dX9_sheet_94 : decode cX9_sheet 94 = .ok (.if_icmp .ge 22, 3) := by decide +kernel
theorem dX9_sheet_97 : decode cX9_sheet 97 = .ok (.aload_n 0, 1) := by decide +kernel
theorem dX9_sheet_98 : decode cX9_sheet 98 = .ok (.getfield 40, 3) := by decide +kernel
theorem dX9_sheet_101 : decode cX9_sheet 101 = .ok (.bipush 24, 2) := by decide +kernel
theorem dX9_sheet_103 : decode cX9_sheet 103 = .ok (.iload_n 1, 1) := by decide +kernel
theorem dX9_sheet_104 : decode cX9_sheet 104 = .ok (.imul, 1) := by decide +kernel
theorem dX9_sheet_105 : decode cX9_sheet 105 = .ok (.iload 4, 2) := by decide +kernel
theorem dX9_sheet_107 : decode cX9_sheet 107 = .ok (.iadd, 1) := by decide +kernel
theorem dX9_sheet_108 : decode cX9_sheet 108 = .ok (.iconst 0, 1) := by decide +kernel
theorem dX9_sheet_109 : decode cX9_sheet 109 = .ok (.iastore, 1) := by decide +kernel
theorem dX9_sheet_110 : decode cX9_sheet 110 = .ok (.iinc 4 1, 3) := by decide +kernel
theorem dX9_sheet_113 : decode cX9_sheet 113 = .ok (.goto (-23), 3) := by decide +kernel
theorem dX9_sheet_116 : decode cX9_sheet 116 = .ok (.iconst 1, 1) := by decide +kernel
theorem dX9_sheet_117 : decode cX9_sheet 117 = .ok (.ireturn, 1) := by decide +kernel
theorem dX9_put_0 : decode cX9_put 0 = .ok (.iload_n 1, 1) := by decide +kernel
theorem dX9_put_1 : decode cX9_put 1 = .ok (.invokestatic 195, 3) := by decide +kernel
theorem dX9_put_4 : decode cX9_put 4 = .ok (.ifCond .ne 9, 3) := by decide +kernel
theorem dX9_put_7 : decode cX9_put 7 = .ok (.aload_n 0, 1) := by decide +kernel
theorem dX9_put_8 : decode cX9_put 8 = .ok (.iconst 1, 1) := by decide +kernel
theorem dX9_put_9 : decode cX9_put 9 = .ok (.invokevirtual 51, 3) := by decide +kernel
theorem dX9_put_12 : decode cX9_put 12 = .ok (.ireturn, 1) := by decide +kernel
theorem dX9_put_13 : decode cX9_put 13 = .ok (.aload_n 0, 1) := by decide +kernel
theorem dX9_put_14 : decode cX9_put 14 = .ok (.getfield 34, 3) := by decide +kernel
theorem dX9_put_17 : decode cX9_put 17 = .ok (.iload_n 1, 1) := by decide +kernel
theorem dX9_put_18 : decode cX9_put 18 = .ok (.iaload, 1) := by decide +kernel
theorem dX9_put_19 : decode cX9_put 19 = .ok (.ifCond .ne 9, 3) := by decide +kernel
theorem dX9_put_22 : decode cX9_put 22 = .ok (.aload_n 0, 1) := by decide +kernel
theorem dX9_put_23 : decode cX9_put 23 = .ok (.iconst 2, 1) := by decide +kernel
theorem dX9_put_24 : decode cX9_put 24 = .ok (.invokevirtual 51, 3) := by decide +kernel
theorem dX9_put_27 : decode cX9_put 27 = .ok (.ireturn, 1) := by decide +kernel
theorem dX9_put_28 : decode cX9_put 28 = .ok (.iload_n 2, 1) := by decide +kernel
theorem dX9_put_29 : decode cX9_put 29 = .ok (.iconst 0, 1) := by decide +kernel
theorem dX9_put_30 : decode cX9_put 30 = .ok (.aload_n 0, 1) := by decide +kernel
theorem dX9_put_31 : decode cX9_put 31 = .ok (.getfield 37, 3) := by decide +kernel
theorem dX9_put_34 : decode cX9_put 34 = .ok (.iload_n 1, 1) := by decide +kernel
theorem dX9_put_35 : decode cX9_put 35 = .ok (.iaload, 1) := by decide +kernel
theorem dX9_put_36 : decode cX9_put 36 = .ok (.iconst 1, 1) := by decide +kernel
theorem dX9_put_37 : decode cX9_put 37 = .ok (.isub, 1) := by decide +kernel
theorem dX9_put_38 : decode cX9_put 38 = .ok (.invokestatic 47, 3) := by decide +kernel
theorem dX9_put_41 : decode cX9_put 41 = .ok (.ifCond .ne 9, 3) := by decide +kernel
theorem dX9_put_44 : decode cX9_put 44 = .ok (.aload_n 0, 1) := by decide +kernel
theorem dX9_put_45 : decode cX9_put 45 = .ok (.iconst 1, 1) := by decide +kernel
theorem dX9_put_46 : decode cX9_put 46 = .ok (.invokevirtual 51, 3) := by decide +kernel
theorem dX9_put_49 : decode cX9_put 49 = .ok (.ireturn, 1) := by decide +kernel
theorem dX9_put_50 : decode cX9_put 50 = .ok (.bipush 32, 2) := by decide +kernel
theorem dX9_put_52 : decode cX9_put 52 = .ok (.aload_n 0, 1) := by decide +kernel
theorem dX9_put_53 : decode cX9_put 53 = .ok (.getfield 34, 3) := by decide +kernel
theorem dX9_put_56 : decode cX9_put 56 = .ok (.iload_n 1, 1) := by decide +kernel
theorem dX9_put_57 : decode cX9_put 57 = .ok (.iaload, 1) := by decide +kernel
theorem dX9_put_58 : decode cX9_put 58 = .ok (.isub, 1) := by decide +kernel
theorem dX9_put_59 : decode cX9_put 59 = .ok (.istore 4, 2) := by decide +kernel
theorem dX9_put_61 : decode cX9_put 61 = .ok (.aload_n 0, 1) := by decide +kernel
theorem dX9_put_62 : decode cX9_put 62 = .ok (.getfield 40, 3) := by decide +kernel
theorem dX9_put_65 : decode cX9_put 65 = .ok (.bipush 24, 2) := by decide +kernel
theorem dX9_put_67 : decode cX9_put 67 = .ok (.iload_n 1, 1) := by decide +kernel
theorem dX9_put_68 : decode cX9_put 68 = .ok (.imul, 1) := by decide +kernel
theorem dX9_put_69 : decode cX9_put 69 = .ok (.iload_n 2, 1) := by decide +kernel
theorem dX9_put_70 : decode cX9_put 70 = .ok (.iadd, 1) := by decide +kernel
theorem dX9_put_71 : decode cX9_put 71 = .ok (.iload_n 3, 1) := by decide +kernel
theorem dX9_put_72 : decode cX9_put 72 = .ok (.iload 4, 2) := by decide +kernel
theorem dX9_put_74 : decode cX9_put 74 = .ok (.ishl, 1) := by decide +kernel
theorem dX9_put_75 : decode cX9_put 75 = .ok (.iload 4, 2) := by decide +kernel
theorem dX9_put_77 : decode cX9_put 77 = .ok (.ishr, 1) := by decide +kernel
theorem dX9_put_78 : decode cX9_put 78 = .ok (.iastore, 1) := by decide +kernel
theorem dX9_put_79 : decode cX9_put 79 = .ok (.iconst 1, 1) := by decide +kernel
theorem dX9_put_80 : decode cX9_put 80 = .ok (.ireturn, 1) := by decide +kernel
theorem dX9_move_0 : decode cX9_move 0 = .ok (.iload_n 1, 1) := by decide +kernel
theorem dX9_move_1 : decode cX9_move 1 = .ok (.invokestatic 195, 3) := by decide +kernel
theorem dX9_move_4 : decode cX9_move 4 = .ok (.ifCond .eq 10, 3) := by decide +kernel
theorem dX9_move_7 : decode cX9_move 7 = .ok (.iload_n 3, 1) := by decide +kernel
theorem dX9_move_8 : decode cX9_move 8 = .ok (.invokestatic 195, 3) := by decide +kernel
theorem dX9_move_11 : decode cX9_move 11 = .ok (.ifCond .ne 9, 3) := by decide +kernel
theorem dX9_move_14 : decode cX9_move 14 = .ok (.aload_n 0, 1) := by decide +kernel
theorem dX9_move_15 : decode cX9_move 15 = .ok (.iconst 1, 1) := by decide +kernel
theorem dX9_move_16 : decode cX9_move 16 = .ok (.invokevirtual 51, 3) := by decide +kernel
theorem dX9_move_19 : decode cX9_move 19 = .ok (.ireturn, 1) := by decide +kernel
theorem dX9_move_20 : decode cX9_move 20 = .ok (.aload_n 0, 1) := by decide +kernel
theorem dX9_move_21 : decode cX9_move 21 = .ok (.getfield 34, 3) := by decide +kernel
theorem dX9_move_24 : decode cX9_move 24 = .ok (.iload_n 1, 1) := by decide +kernel
theorem dX9_move_25 : decode cX9_move 25 = .ok (.iaload, 1) := by decide +kernel
theorem dX9_move_26 : decode cX9_move 26 = .ok (.ifCond .eq 12, 3) := by decide +kernel
theorem dX9_move_29 : decode cX9_move 29 = .ok (.aload_n 0, 1) := by decide +kernel
theorem dX9_move_30 : decode cX9_move 30 = .ok (.getfield 34, 3) := by decide +kernel
theorem dX9_move_33 : decode cX9_move 33 = .ok (.iload_n 3, 1) := by decide +kernel
theorem dX9_move_34 : decode cX9_move 34 = .ok (.iaload, 1) := by decide +kernel
theorem dX9_move_35 : decode cX9_move 35 = .ok (.ifCond .ne 9, 3) := by decide +kernel
theorem dX9_move_38 : decode cX9_move 38 = .ok (.aload_n 0, 1) := by decide +kernel
theorem dX9_move_39 : decode cX9_move 39 = .ok (.iconst 2, 1) := by decide +kernel
theorem dX9_move_40 : decode cX9_move 40 = .ok (.invokevirtual 51, 3) := by decide +kernel
theorem dX9_move_43 : decode cX9_move 43 = .ok (.ireturn, 1) := by decide +kernel
theorem dX9_move_44 : decode cX9_move 44 = .ok (.aload_n 0, 1) := by decide +kernel
theorem dX9_move_45 : decode cX9_move 45 = .ok (.getfield 34, 3) := by decide +kernel
theorem dX9_move_48 : decode cX9_move 48 = .ok (.iload_n 1, 1) := by decide +kernel
theorem dX9_move_49 : decode cX9_move 49 = .ok (.iaload, 1) := by decide +kernel
theorem dX9_move_50 : decode cX9_move 50 = .ok (.aload_n 0, 1) := by decide +kernel
theorem dX9_move_51 : decode cX9_move 51 = .ok (.getfield 34, 3) := by decide +kernel
theorem dX9_move_54 : decode cX9_move 54 = .ok (.iload_n 3, 1) := by decide +kernel
theorem dX9_move_55 : decode cX9_move 55 = .ok (.iaload, 1) := by decide +kernel
theorem dX9_move_56 : decode cX9_move 56 = .ok (.if_icmp .eq 9, 3) := by decide +kernel
theorem dX9_move_59 : decode cX9_move 59 = .ok (.aload_n 0, 1) := by decide +kernel
theorem dX9_move_60 : decode cX9_move 60 = .ok (.iconst 5, 1) := by decide +kernel
theorem dX9_move_61 : decode cX9_move 61 = .ok (.invokevirtual 51, 3) := by decide +kernel
theorem dX9_move_64 : decode cX9_move 64 = .ok (.ireturn, 1) := by decide +kernel
theorem dX9_move_65 : decode cX9_move 65 = .ok (.iload 5, 2) := by decide +kernel
theorem dX9_move_67 : decode cX9_move 67 = .ok (.ifCond .lt 39, 3) := by decide +kernel
theorem dX9_move_70 : decode cX9_move 70 = .ok (.iload_n 2, 1) := by decide +kernel
theorem dX9_move_71 : decode cX9_move 71 = .ok (.ifCond .lt 35, 3) := by decide +kernel
theorem dX9_move_74 : decode cX9_move 74 = .ok (.iload 4, 2) := by decide +kernel
theorem dX9_move_76 : decode cX9_move 76 = .ok (.ifCond .lt 30, 3) := by decide +kernel
theorem dX9_move_79 : decode cX9_move 79 = .ok (.iload_n 2, 1) := by decide +kernel
theorem dX9_move_80 : decode cX9_move 80 = .ok (.aload_n 0, 1) := by decide +kernel
theorem dX9_move_81 : decode cX9_move 81 = .ok (.getfield 37, 3) := by decide +kernel
theorem dX9_move_84 : decode cX9_move 84 = .ok (.iload_n 1, 1) := by decide +kernel
theorem dX9_move_85 : decode cX9_move 85 = .ok (.iaload, 1) := by decide +kernel
theorem dX9_move_86 : decode cX9_move 86 = .ok (.iload 5, 2) := by decide +kernel
theorem dX9_move_88 : decode cX9_move 88 = .ok (.isub, 1) := by decide +kernel
theorem dX9_move_89 : decode cX9_move 89 = .ok (.if_icmp .gt 17, 3) := by decide +kernel
theorem dX9_move_92 : decode cX9_move 92 = .ok (.iload 4, 2) := by decide +kernel
theorem dX9_move_94 : decode cX9_move 94 = .ok (.aload_n 0, 1) := by decide +kernel
theorem dX9_move_95 : decode cX9_move 95 = .ok (.getfield 37, 3) := by decide +kernel
theorem dX9_move_98 : decode cX9_move 98 = .ok (.iload_n 3, 1) := by decide +kernel
theorem dX9_move_99 : decode cX9_move 99 = .ok (.iaload, 1) := by decide +kernel
theorem dX9_move_100 : decode cX9_move 100 = .ok (.iload 5, 2) := by decide +kernel
theorem dX9_move_102 : decode cX9_move 102 = .ok (.isub, 1) := by decide +kernel
theorem dX9_move_103 : decode cX9_move 103 = .ok (.if_icmp .le 9, 3) := by decide +kernel
theorem dX9_move_106 : decode cX9_move 106 = .ok (.aload_n 0, 1) := by decide +kernel
theorem dX9_move_107 : decode cX9_move 107 = .ok (.iconst 1, 1) := by decide +kernel
theorem dX9_move_108 : decode cX9_move 108 = .ok (.invokevirtual 51, 3) := by decide +kernel
theorem dX9_move_111 : decode cX9_move 111 = .ok (.ireturn, 1) := by decide +kernel
theorem dX9_move_112 : decode cX9_move 112 = .ok (.iconst 0, 1) := by decide +kernel
theorem dX9_move_113 : decode cX9_move 113 = .ok (.istore 6, 2) := by decide +kernel
theorem dX9_move_115 : decode cX9_move 115 = .ok (.iload 6, 2) := by decide +kernel
theorem dX9_move_117 : decode cX9_move 117 = .ok (.iload 5, 2) := by decide +kernel
theorem dX9_move_119 : decode cX9_move 119 = .ok (.if_icmp .ge 30, 3) := by decide +kernel
theorem dX9_move_122 : decode cX9_move 122 = .ok (.aload_n 0, 1) := by decide +kernel
theorem dX9_move_123 : decode cX9_move 123 = .ok (.getfield 43, 3) := by decide +kernel
theorem dX9_move_126 : decode cX9_move 126 = .ok (.iload 6, 2) := by decide +kernel
theorem dX9_move_128 : decode cX9_move 128 = .ok (.aload_n 0, 1) := by decide +kernel
theorem dX9_move_129 : decode cX9_move 129 = .ok (.getfield 40, 3) := by decide +kernel
theorem dX9_move_132 : decode cX9_move 132 = .ok (.bipush 24, 2) := by decide +kernel
theorem dX9_move_134 : decode cX9_move 134 = .ok (.iload_n 1, 1) := by decide +kernel
theorem dX9_move_135 : decode cX9_move 135 = .ok (.imul, 1) := by decide +kernel
theorem dX9_move_136 : decode cX9_move 136 = .ok (.iload_n 2, 1) := by decide +kernel
theorem dX9_move_137 : decode cX9_move 137 = .ok (.iadd, 1) := by decide +kernel
theorem dX9_move_138 : decode cX9_move 138 = .ok (.iload 6, 2) := by decide +kernel
theorem dX9_move_140 : decode cX9_move 140 = .ok (.iadd, 1) := by decide +kernel
theorem dX9_move_141 : decode cX9_move 141 = .ok (.iaload, 1) := by decide +kernel
theorem dX9_move_142 : decode cX9_move 142 = .ok (.iastore, 1) := by decide +kernel
theorem dX9_move_143 : decode cX9_move 143 = .ok (.iinc 6 1, 3) := by decide +kernel
theorem dX9_move_146 : decode cX9_move 146 = .ok (.goto (-31), 3) := by decide +kernel
theorem dX9_move_149 : decode cX9_move 149 = .ok (.iconst 0, 1) := by decide +kernel
theorem dX9_move_150 : decode cX9_move 150 = .ok (.istore 6, 2) := by decide +kernel
theorem dX9_move_152 : decode cX9_move 152 = .ok (.iload 6, 2) := by decide +kernel
theorem dX9_move_154 : decode cX9_move 154 = .ok (.iload 5, 2) := by decide +kernel
theorem dX9_move_156 : decode cX9_move 156 = .ok (.if_icmp .ge 31, 3) := by decide +kernel
theorem dX9_move_159 : decode cX9_move 159 = .ok (.aload_n 0, 1) := by decide +kernel
theorem dX9_move_160 : decode cX9_move 160 = .ok (.getfield 40, 3) := by decide +kernel
theorem dX9_move_163 : decode cX9_move 163 = .ok (.bipush 24, 2) := by decide +kernel
theorem dX9_move_165 : decode cX9_move 165 = .ok (.iload_n 3, 1) := by decide +kernel
theorem dX9_move_166 : decode cX9_move 166 = .ok (.imul, 1) := by decide +kernel
theorem dX9_move_167 : decode cX9_move 167 = .ok (.iload 4, 2) := by decide +kernel
theorem dX9_move_169 : decode cX9_move 169 = .ok (.iadd, 1) := by decide +kernel
theorem dX9_move_170 : decode cX9_move 170 = .ok (.iload 6, 2) := by decide +kernel
theorem dX9_move_172 : decode cX9_move 172 = .ok (.iadd, 1) := by decide +kernel
theorem dX9_move_173 : decode cX9_move 173 = .ok (.aload_n 0, 1) := by decide +kernel
theorem dX9_move_174 : decode cX9_move 174 = .ok (.getfield 43, 3) := by decide +kernel
theorem dX9_move_177 : decode cX9_move 177 = .ok (.iload 6, 2) := by decide +kernel
theorem dX9_move_179 : decode cX9_move 179 = .ok (.iaload, 1) := by decide +kernel
theorem dX9_move_180 : decode cX9_move 180 = .ok (.iastore, 1) := by decide +kernel
theorem dX9_move_181 : decode cX9_move 181 = .ok (.iinc 6 1, 3) := by decide +kernel
theorem dX9_move_184 : decode cX9_move 184 = .ok (.goto (-32), 3) := by decide +kernel
theorem dX9_move_187 : decode cX9_move 187 = .ok (.iload 5, 2) := by decide +kernel
theorem dX9_move_189 : decode cX9_move 189 = .ok (.ireturn, 1) := by decide +kernel
theorem dX9_lacks_0 : decode cX9_lacks 0 = .ok (.iload_n 1, 1) := by decide +kernel
theorem dX9_lacks_1 : decode cX9_lacks 1 = .ok (.invokestatic 195, 3) := by decide +kernel
theorem dX9_lacks_4 : decode cX9_lacks 4 = .ok (.ifCond .ne 7, 3) := by decide +kernel
theorem dX9_lacks_7 : decode cX9_lacks 7 = .ok (.iconst 1, 1) := by decide +kernel
theorem dX9_lacks_8 : decode cX9_lacks 8 = .ok (.goto 17, 3) := by decide +kernel
theorem dX9_lacks_11 : decode cX9_lacks 11 = .ok (.aload_n 0, 1) := by decide +kernel
theorem dX9_lacks_12 : decode cX9_lacks 12 = .ok (.getfield 34, 3) := by decide +kernel
theorem dX9_lacks_15 : decode cX9_lacks 15 = .ok (.iload_n 1, 1) := by decide +kernel
theorem dX9_lacks_16 : decode cX9_lacks 16 = .ok (.iaload, 1) := by decide +kernel
theorem dX9_lacks_17 : decode cX9_lacks 17 = .ok (.ifCond .ne 7, 3) := by decide +kernel
theorem dX9_lacks_20 : decode cX9_lacks 20 = .ok (.iconst 2, 1) := by decide +kernel
theorem dX9_lacks_21 : decode cX9_lacks 21 = .ok (.goto 4, 3) := by decide +kernel
theorem dX9_lacks_24 : decode cX9_lacks 24 = .ok (.iconst 0, 1) := by decide +kernel
theorem dX9_lacks_25 : decode cX9_lacks 25 = .ok (.ireturn, 1) := by decide +kernel
theorem dX9_hearAll_0 : decode cX9_hearAll 0 = .ok (.aload_n 0, 1) := by decide +kernel
theorem dX9_hearAll_1 : decode cX9_hearAll 1 = .ok (.iload_n 1, 1) := by decide +kernel
theorem dX9_hearAll_2 : decode cX9_hearAll 2 = .ok (.invokevirtual 229, 3) := by decide +kernel
theorem dX9_hearAll_5 : decode cX9_hearAll 5 = .ok (.istore_n 2, 1) := by decide +kernel
theorem dX9_hearAll_6 : decode cX9_hearAll 6 = .ok (.iload_n 2, 1) := by decide +kernel
theorem dX9_hearAll_7 : decode cX9_hearAll 7 = .ok (.ifCond .eq 9, 3) := by decide +kernel
theorem dX9_hearAll_10 : decode cX9_hearAll 10 = .ok (.aload_n 0, 1) := by decide +kernel
theorem dX9_hearAll_11 : decode cX9_hearAll 11 = .ok (.iload_n 2, 1) := by decide +kernel
theorem dX9_hearAll_12 : decode cX9_hearAll 12 = .ok (.invokevirtual 51, 3) := by decide +kernel
theorem dX9_hearAll_15 : decode cX9_hearAll 15 = .ok (.ireturn, 1) := by decide +kernel
theorem dX9_hearAll_16 : decode cX9_hearAll 16 = .ok (.iconst 0, 1) := by decide +kernel
theorem dX9_hearAll_17 : decode cX9_hearAll 17 = .ok (.istore_n 3, 1) := by decide +kernel
theorem dX9_hearAll_18 : decode cX9_hearAll 18 = .ok (.iload_n 3, 1) := by decide +kernel
theorem dX9_hearAll_19 : decode cX9_hearAll 19 = .ok (.aload_n 0, 1) := by decide +kernel
theorem dX9_hearAll_20 : decode cX9_hearAll 20 = .ok (.getfield 37, 3) := by decide +kernel
theorem dX9_hearAll_23 : decode cX9_hearAll 23 = .ok (.iload_n 1, 1) := by decide +kernel
theorem dX9_hearAll_24 : decode cX9_hearAll 24 = .ok (.iaload, 1) := by decide +kernel
theorem dX9_hearAll_25 : decode cX9_hearAll 25 = .ok (.if_icmp .ge 58, 3) := by decide +kernel
theorem dX9_hearAll_28 : decode cX9_hearAll 28 = .ok (.iload_n 3, 1) := by decide +kernel
theorem dX9_hearAll_29 : decode cX9_hearAll 29 = .ok (.aload_n 0, 1) := by decide +kernel
theorem dX9_hearAll_30 : decode cX9_hearAll 30 = .ok (.getfield 7, 3) := by decide +kernel
theorem dX9_hearAll_33 : decode cX9_hearAll 33 = .ok (.bipush 8, 2) := by decide +kernel
theorem dX9_hearAll_35 : decode cX9_hearAll 35 = .ok (.iaload, 1) := by decide +kernel
theorem dX9_hearAll_36 : decode cX9_hearAll 36 = .ok (.if_icmp .ge 47, 3) := by decide +kernel
theorem dX9_hearAll_39 : decode cX9_hearAll 39 = .ok (.aload_n 0, 1) := by decide +kernel
theorem dX9_hearAll_40 : decode cX9_hearAll 40 = .ok (.getfield 40, 3) := by decide +kernel
theorem dX9_hearAll_43 : decode cX9_hearAll 43 = .ok (.bipush 24, 2) := by decide +kernel
theorem dX9_hearAll_45 : decode cX9_hearAll 45 = .ok (.iload_n 1, 1) := by decide +kernel
theorem dX9_hearAll_46 : decode cX9_hearAll 46 = .ok (.imul, 1) := by decide +kernel
theorem dX9_hearAll_47 : decode cX9_hearAll 47 = .ok (.iload_n 3, 1) := by decide +kernel
theorem dX9_hearAll_48 : decode cX9_hearAll 48 = .ok (.iadd, 1) := by decide +kernel
theorem dX9_hearAll_49 : decode cX9_hearAll 49 = .ok (.iaload, 1) := by decide +kernel
theorem dX9_hearAll_50 : decode cX9_hearAll 50 = .ok (.iconst 0, 1) := by decide +kernel
theorem dX9_hearAll_51 : decode cX9_hearAll 51 = .ok (.sipush 9999, 3) := by decide +kernel
theorem dX9_hearAll_54 : decode cX9_hearAll 54 = .ok (.invokestatic 47, 3) := by decide +kernel
theorem dX9_hearAll_57 : decode cX9_hearAll 57 = .ok (.ifCond .eq 26, 3) := by decide +kernel
theorem dX9_hearAll_60 : decode cX9_hearAll 60 = .ok (.aload_n 0, 1) := by decide +kernel
theorem dX9_hearAll_61 : decode cX9_hearAll 61 = .ok (.iload_n 3, 1) := by decide +kernel
theorem dX9_hearAll_62 : decode cX9_hearAll 62 = .ok (.iconst 2, 1) := by decide +kernel
theorem dX9_hearAll_63 : decode cX9_hearAll 63 = .ok (.aload_n 0, 1) := by decide +kernel
theorem dX9_hearAll_64 : decode cX9_hearAll 64 = .ok (.getfield 40, 3) := by decide +kernel
theorem dX9_hearAll_67 : decode cX9_hearAll 67 = .ok (.bipush 24, 2) := by decide +kernel
theorem dX9_hearAll_69 : decode cX9_hearAll 69 = .ok (.iload_n 1, 1) := by decide +kernel
theorem dX9_hearAll_70 : decode cX9_hearAll 70 = .ok (.imul, 1) := by decide +kernel
theorem dX9_hearAll_71 : decode cX9_hearAll 71 = .ok (.iload_n 3, 1) := by decide +kernel
theorem dX9_hearAll_72 : decode cX9_hearAll 72 = .ok (.iadd, 1) := by decide +kernel
theorem dX9_hearAll_73 : decode cX9_hearAll 73 = .ok (.iaload, 1) := by decide +kernel
theorem dX9_hearAll_74 : decode cX9_hearAll 74 = .ok (.invokevirtual 143, 3) := by decide +kernel
theorem dX9_hearAll_77 : decode cX9_hearAll 77 = .ok (.iinc 3 1, 3) := by decide +kernel
theorem dX9_hearAll_80 : decode cX9_hearAll 80 = .ok (.goto (-62), 3) := by decide +kernel
theorem dX9_hearAll_83 : decode cX9_hearAll 83 = .ok (.iload_n 3, 1) := by decide +kernel
theorem dX9_hearAll_84 : decode cX9_hearAll 84 = .ok (.ireturn, 1) := by decide +kernel
theorem dX9_judge_0 : decode cX9_judge 0 = .ok (.aload_n 0, 1) := by decide +kernel
theorem dX9_judge_1 : decode cX9_judge 1 = .ok (.iload_n 1, 1) := by decide +kernel
theorem dX9_judge_2 : decode cX9_judge 2 = .ok (.invokevirtual 229, 3) := by decide +kernel
theorem dX9_judge_5 : decode cX9_judge 5 = .ok (.istore_n 2, 1) := by decide +kernel
theorem dX9_judge_6 : decode cX9_judge 6 = .ok (.iload_n 2, 1) := by decide +kernel
theorem dX9_judge_7 : decode cX9_judge 7 = .ok (.ifCond .eq 9, 3) := by decide +kernel
theorem dX9_judge_10 : decode cX9_judge 10 = .ok (.aload_n 0, 1) := by decide +kernel
theorem dX9_judge_11 : decode cX9_judge 11 = .ok (.iload_n 2, 1) := by decide +kernel
theorem dX9_judge_12 : decode cX9_judge 12 = .ok (.invokevirtual 51, 3) := by decide +kernel
theorem dX9_judge_15 : decode cX9_judge 15 = .ok (.ireturn, 1) := by decide +kernel
theorem dX9_judge_16 : decode cX9_judge 16 = .ok (.iconst 0, 1) := by decide +kernel
theorem dX9_judge_17 : decode cX9_judge 17 = .ok (.istore_n 3, 1) := by decide +kernel
theorem dX9_judge_18 : decode cX9_judge 18 = .ok (.iload_n 3, 1) := by decide +kernel
theorem dX9_judge_19 : decode cX9_judge 19 = .ok (.aload_n 0, 1) := by decide +kernel
theorem dX9_judge_20 : decode cX9_judge 20 = .ok (.getfield 37, 3) := by decide +kernel
theorem dX9_judge_23 : decode cX9_judge 23 = .ok (.iload_n 1, 1) := by decide +kernel
theorem dX9_judge_24 : decode cX9_judge 24 = .ok (.iaload, 1) := by decide +kernel
theorem dX9_judge_25 : decode cX9_judge 25 = .ok (.if_icmp .ge 40, 3) := by decide +kernel
theorem dX9_judge_28 : decode cX9_judge 28 = .ok (.iload_n 3, 1) := by decide +kernel
theorem dX9_judge_29 : decode cX9_judge 29 = .ok (.aload_n 0, 1) := by decide +kernel
theorem dX9_judge_30 : decode cX9_judge 30 = .ok (.getfield 7, 3) := by decide +kernel
theorem dX9_judge_33 : decode cX9_judge 33 = .ok (.bipush 8, 2) := by decide +kernel
theorem dX9_judge_35 : decode cX9_judge 35 = .ok (.iaload, 1) := by decide +kernel
theorem dX9_judge_36 : decode cX9_judge 36 = .ok (.if_icmp .ge 29, 3) := by decide +kernel
theorem dX9_judge_39 : decode cX9_judge 39 = .ok (.aload_n 0, 1) := by decide +kernel
theorem dX9_judge_40 : decode cX9_judge 40 = .ok (.getfield 40, 3) := by decide +kernel
theorem dX9_judge_43 : decode cX9_judge 43 = .ok (.bipush 24, 2) := by decide +kernel
theorem dX9_judge_45 : decode cX9_judge 45 = .ok (.iload_n 1, 1) := by decide +kernel
theorem dX9_judge_46 : decode cX9_judge 46 = .ok (.imul, 1) := by decide +kernel
theorem dX9_judge_47 : decode cX9_judge 47 = .ok (.iload_n 3, 1) := by decide +kernel
theorem dX9_judge_48 : decode cX9_judge 48 = .ok (.iadd, 1) := by decide +kernel
theorem dX9_judge_49 : decode cX9_judge 49 = .ok (.iaload, 1) := by decide +kernel
theorem dX9_judge_50 : decode cX9_judge 50 = .ok (.aload_n 0, 1) := by decide +kernel
theorem dX9_judge_51 : decode cX9_judge 51 = .ok (.iload_n 3, 1) := by decide +kernel
theorem dX9_judge_52 : decode cX9_judge 52 = .ok (.iconst 3, 1) := by decide +kernel
theorem dX9_judge_53 : decode cX9_judge 53 = .ok (.invokevirtual 111, 3) := by decide +kernel
theorem dX9_judge_56 : decode cX9_judge 56 = .ok (.if_icmp .ne 9, 3) := by decide +kernel
theorem dX9_judge_59 : decode cX9_judge 59 = .ok (.iinc 3 1, 3) := by decide +kernel
theorem dX9_judge_62 : decode cX9_judge 62 = .ok (.goto (-44), 3) := by decide +kernel
theorem dX9_judge_65 : decode cX9_judge 65 = .ok (.iload_n 3, 1) := by decide +kernel
theorem dX9_judge_66 : decode cX9_judge 66 = .ok (.ireturn, 1) := by decide +kernel
theorem dX9_image_0 : decode cX9_image 0 = .ok (.aload_n 0, 1) := by decide +kernel
theorem dX9_image_1 : decode cX9_image 1 = .ok (.getfield 7, 3) := by decide +kernel
theorem dX9_image_4 : decode cX9_image 4 = .ok (.aload_n 0, 1) := by decide +kernel
theorem dX9_image_5 : decode cX9_image 5 = .ok (.getfield 13, 3) := by decide +kernel
theorem dX9_image_8 : decode cX9_image 8 = .ok (.invokestatic 232, 3) := by decide +kernel
theorem dX9_image_11 : decode cX9_image 11 = .ok (.aload_n 0, 1) := by decide +kernel
theorem dX9_image_12 : decode cX9_image 12 = .ok (.dup, 1) := by decide +kernel
theorem dX9_image_13 : decode cX9_image 13 = .ok (.getfield 236, 3) := by decide +kernel
theorem dX9_image_16 : decode cX9_image 16 = .ok (.iconst 1, 1) := by decide +kernel
theorem dX9_image_17 : decode cX9_image 17 = .ok (.iadd, 1) := by decide +kernel
theorem dX9_image_18 : decode cX9_image 18 = .ok (.putfield 236, 3) := by decide +kernel
theorem dX9_image_21 : decode cX9_image 21 = .ok (.aload_n 0, 1) := by decide +kernel
theorem dX9_image_22 : decode cX9_image 22 = .ok (.getfield 236, 3) := by decide +kernel
theorem dX9_image_25 : decode cX9_image 25 = .ok (.ireturn, 1) := by decide +kernel
theorem dX9_restore_0 : decode cX9_restore 0 = .ok (.aload_n 0, 1) := by decide +kernel
theorem dX9_restore_1 : decode cX9_restore 1 = .ok (.getfield 236, 3) := by decide +kernel
theorem dX9_restore_4 : decode cX9_restore 4 = .ok (.ifCond .ne 9, 3) := by decide +kernel
theorem dX9_restore_7 : decode cX9_restore 7 = .ok (.aload_n 0, 1) := by decide +kernel
theorem dX9_restore_8 : decode cX9_restore 8 = .ok (.iconst 2, 1) := by decide +kernel
theorem dX9_restore_9 : decode cX9_restore 9 = .ok (.invokevirtual 51, 3) := by decide +kernel
theorem dX9_restore_12 : decode cX9_restore 12 = .ok (.ireturn, 1) := by decide +kernel
theorem dX9_restore_13 : decode cX9_restore 13 = .ok (.aload_n 0, 1) := by decide +kernel
theorem dX9_restore_14 : decode cX9_restore 14 = .ok (.getfield 13, 3) := by decide +kernel
theorem dX9_restore_17 : decode cX9_restore 17 = .ok (.aload_n 0, 1) := by decide +kernel
theorem dX9_restore_18 : decode cX9_restore 18 = .ok (.getfield 7, 3) := by decide +kernel
theorem dX9_restore_21 : decode cX9_restore 21 = .ok (.invokestatic 232, 3) := by decide +kernel
theorem dX9_restore_24 : decode cX9_restore 24 = .ok (.aload_n 0, 1) := by decide +kernel
theorem dX9_restore_25 : decode cX9_restore 25 = .ok (.getfield 7, 3) := by decide +kernel
theorem dX9_restore_28 : decode cX9_restore 28 = .ok (.iconst 0, 1) := by decide +kernel
theorem dX9_restore_29 : decode cX9_restore 29 = .ok (.iaload, 1) := by decide +kernel
theorem dX9_restore_30 : decode cX9_restore 30 = .ok (.ireturn, 1) := by decide +kernel
theorem dX9_tell_0 : decode cX9_tell 0 = .ok (.aload_n 0, 1) := by decide +kernel
theorem dX9_tell_1 : decode cX9_tell 1 = .ok (.getfield 7, 3) := by decide +kernel
theorem dX9_tell_4 : decode cX9_tell 4 = .ok (.bipush 7, 2) := by decide +kernel
theorem dX9_tell_6 : decode cX9_tell 6 = .ok (.iaload, 1) := by decide +kernel
theorem dX9_tell_7 : decode cX9_tell 7 = .ok (.bipush 24, 2) := by decide +kernel
theorem dX9_tell_9 : decode cX9_tell 9 = .ok (.if_icmp .ne 9, 3) := by decide +kernel
theorem dX9_tell_12 : decode cX9_tell 12 = .ok (.aload_n 0, 1) := by decide +kernel
theorem dX9_tell_13 : decode cX9_tell 13 = .ok (.iconst 4, 1) := by decide +kernel
theorem dX9_tell_14 : decode cX9_tell 14 = .ok (.invokevirtual 51, 3) := by decide +kernel
theorem dX9_tell_17 : decode cX9_tell 17 = .ok (.ireturn, 1) := by decide +kernel
theorem dX9_tell_18 : decode cX9_tell 18 = .ok (.aload_n 0, 1) := by decide +kernel
theorem dX9_tell_19 : decode cX9_tell 19 = .ok (.getfield 7, 3) := by decide +kernel
theorem dX9_tell_22 : decode cX9_tell 22 = .ok (.sipush 359, 3) := by decide +kernel
theorem dX9_tell_25 : decode cX9_tell 25 = .ok (.aload_n 0, 1) := by decide +kernel
theorem dX9_tell_26 : decode cX9_tell 26 = .ok (.getfield 7, 3) := by decide +kernel
theorem dX9_tell_29 : decode cX9_tell 29 = .ok (.bipush 7, 2) := by decide +kernel
theorem dX9_tell_31 : decode cX9_tell 31 = .ok (.iaload, 1) := by decide +kernel
theorem dX9_tell_32 : decode cX9_tell 32 = .ok (.iadd, 1) := by decide +kernel
theorem dX9_tell_33 : decode cX9_tell 33 = .ok (.iload_n 1, 1) := by decide +kernel
theorem dX9_tell_34 : decode cX9_tell 34 = .ok (.iastore, 1) := by decide +kernel
theorem dX9_tell_35 : decode cX9_tell 35 = .ok (.aload_n 0, 1) := by decide +kernel
theorem dX9_tell_36 : decode cX9_tell 36 = .ok (.getfield 7, 3) := by decide +kernel
theorem dX9_tell_39 : decode cX9_tell 39 = .ok (.bipush 7, 2) := by decide +kernel
theorem dX9_tell_41 : decode cX9_tell 41 = .ok (.dup2, 1) := by decide +kernel
theorem dX9_tell_42 : decode cX9_tell 42 = .ok (.iaload, 1) := by decide +kernel
theorem dX9_tell_43 : decode cX9_tell 43 = .ok (.iconst 1, 1) := by decide +kernel
theorem dX9_tell_44 : decode cX9_tell 44 = .ok (.iadd, 1) := by decide +kernel
theorem dX9_tell_45 : decode cX9_tell 45 = .ok (.iastore, 1) := by decide +kernel
theorem dX9_tell_46 : decode cX9_tell 46 = .ok (.aload_n 0, 1) := by decide +kernel
theorem dX9_tell_47 : decode cX9_tell 47 = .ok (.getfield 7, 3) := by decide +kernel
theorem dX9_tell_50 : decode cX9_tell 50 = .ok (.bipush 7, 2) := by decide +kernel
theorem dX9_tell_52 : decode cX9_tell 52 = .ok (.iaload, 1) := by decide +kernel
theorem dX9_tell_53 : decode cX9_tell 53 = .ok (.ireturn, 1) := by decide +kernel
theorem dX9_check_0 : decode cX9_check 0 = .ok (.aload_n 0, 1) := by decide +kernel
theorem dX9_check_1 : decode cX9_check 1 = .ok (.getfield 7, 3) := by decide +kernel
theorem dX9_check_4 : decode cX9_check 4 = .ok (.bipush 7, 2) := by decide +kernel
theorem dX9_check_6 : decode cX9_check 6 = .ok (.iaload, 1) := by decide +kernel
theorem dX9_check_7 : decode cX9_check 7 = .ok (.istore_n 1, 1) := by decide +kernel
theorem dX9_check_8 : decode cX9_check 8 = .ok (.aload_n 0, 1) := by decide +kernel
theorem dX9_check_9 : decode cX9_check 9 = .ok (.getfield 7, 3) := by decide +kernel
theorem dX9_check_12 : decode cX9_check 12 = .ok (.bipush 7, 2) := by decide +kernel
theorem dX9_check_14 : decode cX9_check 14 = .ok (.iconst 0, 1) := by decide +kernel
theorem dX9_check_15 : decode cX9_check 15 = .ok (.iastore, 1) := by decide +kernel
theorem dX9_check_16 : decode cX9_check 16 = .ok (.iconst 0, 1) := by decide +kernel
theorem dX9_check_17 : decode cX9_check 17 = .ok (.istore_n 2, 1) := by decide +kernel
theorem dX9_check_18 : decode cX9_check 18 = .ok (.iload_n 2, 1) := by decide +kernel
theorem dX9_check_19 : decode cX9_check 19 = .ok (.iload_n 1, 1) := by decide +kernel
theorem dX9_check_20 : decode cX9_check 20 = .ok (.if_icmp .ge 39, 3) := by decide +kernel
theorem dX9_check_23 : decode cX9_check 23 = .ok (.aload_n 0, 1) := by decide +kernel
theorem dX9_check_24 : decode cX9_check 24 = .ok (.iload_n 2, 1) := by decide +kernel
theorem dX9_check_25 : decode cX9_check 25 = .ok (.invokevirtual 156, 3) := by decide +kernel
theorem dX9_check_28 : decode cX9_check 28 = .ok (.ifCond .eq 21, 3) := by decide +kernel
theorem dX9_check_31 : decode cX9_check 31 = .ok (.aload_n 0, 1) := by decide +kernel
theorem dX9_check_32 : decode cX9_check 32 = .ok (.getfield 7, 3) := by decide +kernel
theorem dX9_check_35 : decode cX9_check 35 = .ok (.sipush 359, 3) := by decide +kernel
theorem dX9_check_38 : decode cX9_check 38 = .ok (.iload_n 2, 1) := by decide +kernel
theorem dX9_check_39 : decode cX9_check 39 = .ok (.iadd, 1) := by decide +kernel
theorem dX9_check_40 : decode cX9_check 40 = .ok (.iaload, 1) := by decide +kernel
theorem dX9_check_41 : decode cX9_check 41 = .ok (.aload_n 0, 1) := by decide +kernel
theorem dX9_check_42 : decode cX9_check 42 = .ok (.iload_n 2, 1) := by decide +kernel
theorem dX9_check_43 : decode cX9_check 43 = .ok (.invokevirtual 134, 3) := by decide +kernel
theorem dX9_check_46 : decode cX9_check 46 = .ok (.if_icmp .eq 7, 3) := by decide +kernel
theorem dX9_check_49 : decode cX9_check 49 = .ok (.iconst 1, 1) := by decide +kernel
theorem dX9_check_50 : decode cX9_check 50 = .ok (.iload_n 2, 1) := by decide +kernel
theorem dX9_check_51 : decode cX9_check 51 = .ok (.iadd, 1) := by decide +kernel
theorem dX9_check_52 : decode cX9_check 52 = .ok (.ireturn, 1) := by decide +kernel
theorem dX9_check_53 : decode cX9_check 53 = .ok (.iinc 2 1, 3) := by decide +kernel
theorem dX9_check_56 : decode cX9_check 56 = .ok (.goto (-38), 3) := by decide +kernel
theorem dX9_check_59 : decode cX9_check 59 = .ok (.iconst 0, 1) := by decide +kernel
theorem dX9_check_60 : decode cX9_check 60 = .ok (.ireturn, 1) := by decide +kernel
theorem dX9_pastNow_0 : decode cX9_pastNow 0 = .ok (.iconst 0, 1) := by decide +kernel
theorem dX9_pastNow_1 : decode cX9_pastNow 1 = .ok (.istore_n 1, 1) := by decide +kernel
theorem dX9_pastNow_2 : decode cX9_pastNow 2 = .ok (.iconst 0, 1) := by decide +kernel
theorem dX9_pastNow_3 : decode cX9_pastNow 3 = .ok (.istore_n 2, 1) := by decide +kernel
theorem dX9_pastNow_4 : decode cX9_pastNow 4 = .ok (.iload_n 2, 1) := by decide +kernel
theorem dX9_pastNow_5 : decode cX9_pastNow 5 = .ok (.aload_n 0, 1) := by decide +kernel
theorem dX9_pastNow_6 : decode cX9_pastNow 6 = .ok (.getfield 7, 3) := by decide +kernel
theorem dX9_pastNow_9 : decode cX9_pastNow 9 = .ok (.bipush 8, 2) := by decide +kernel
theorem dX9_pastNow_11 : decode cX9_pastNow 11 = .ok (.iaload, 1) := by decide +kernel
theorem dX9_pastNow_12 : decode cX9_pastNow 12 = .ok (.if_icmp .ge 20, 3) := by decide +kernel
theorem dX9_pastNow_15 : decode cX9_pastNow 15 = .ok (.iload_n 1, 1) := by decide +kernel
theorem dX9_pastNow_16 : decode cX9_pastNow 16 = .ok (.aload_n 0, 1) := by decide +kernel
theorem dX9_pastNow_17 : decode cX9_pastNow 17 = .ok (.iload_n 2, 1) := by decide +kernel
theorem dX9_pastNow_18 : decode cX9_pastNow 18 = .ok (.iconst 4, 1) := by decide +kernel
theorem dX9_pastNow_19 : decode cX9_pastNow 19 = .ok (.invokevirtual 111, 3) := by decide +kernel
theorem dX9_pastNow_22 : decode cX9_pastNow 22 = .ok (.iload_n 2, 1) := by decide +kernel
theorem dX9_pastNow_23 : decode cX9_pastNow 23 = .ok (.ishl, 1) := by decide +kernel
theorem dX9_pastNow_24 : decode cX9_pastNow 24 = .ok (.ior, 1) := by decide +kernel
theorem dX9_pastNow_25 : decode cX9_pastNow 25 = .ok (.istore_n 1, 1) := by decide +kernel
theorem dX9_pastNow_26 : decode cX9_pastNow 26 = .ok (.iinc 2 1, 3) := by decide +kernel
theorem dX9_pastNow_29 : decode cX9_pastNow 29 = .ok (.goto (-25), 3) := by decide +kernel
theorem dX9_pastNow_32 : decode cX9_pastNow 32 = .ok (.iload_n 1, 1) := by decide +kernel
theorem dX9_pastNow_33 : decode cX9_pastNow 33 = .ok (.ireturn, 1) := by decide +kernel
theorem dX9_count_0 : decode cX9_count 0 = .ok (.iload_n 1, 1) := by decide +kernel
theorem dX9_count_1 : decode cX9_count 1 = .ok (.tableswitch 134 0 11 #[63, 71, 78, 85, 85, 85, 96, 101, 106, 114, 122, 127], 63) := by decide +kernel
theorem dX9_count_64 : decode cX9_count 64 = .ok (.aload_n 0, 1) := by decide +kernel
theorem dX9_count_65 : decode cX9_count 65 = .ok (.getfield 7, 3) := by decide +kernel
theorem dX9_count_68 : decode cX9_count 68 = .ok (.bipush 8, 2) := by decide +kernel
theorem dX9_count_70 : decode cX9_count 70 = .ok (.iaload, 1) := by decide +kernel
theorem dX9_count_71 : decode cX9_count 71 = .ok (.ireturn, 1) := by decide +kernel
theorem dX9_count_72 : decode cX9_count 72 = .ok (.aload_n 0, 1) := by decide +kernel
theorem dX9_count_73 : decode cX9_count 73 = .ok (.getfield 7, 3) := by decide +kernel
theorem dX9_count_76 : decode cX9_count 76 = .ok (.iconst 0, 1) := by decide +kernel
theorem dX9_count_77 : decode cX9_count 77 = .ok (.iaload, 1) := by decide +kernel
theorem dX9_count_78 : decode cX9_count 78 = .ok (.ireturn, 1) := by decide +kernel
theorem dX9_count_79 : decode cX9_count 79 = .ok (.aload_n 0, 1) := by decide +kernel
theorem dX9_count_80 : decode cX9_count 80 = .ok (.getfield 7, 3) := by decide +kernel
theorem dX9_count_83 : decode cX9_count 83 = .ok (.iconst 4, 1) := by decide +kernel
theorem dX9_count_84 : decode cX9_count 84 = .ok (.iaload, 1) := by decide +kernel
theorem dX9_count_85 : decode cX9_count 85 = .ok (.ireturn, 1) := by decide +kernel
theorem dX9_count_86 : decode cX9_count 86 = .ok (.aload_n 0, 1) := by decide +kernel
theorem dX9_count_87 : decode cX9_count 87 = .ok (.getfield 7, 3) := by decide +kernel
theorem dX9_count_90 : decode cX9_count 90 = .ok (.iconst 1, 1) := by decide +kernel
theorem dX9_count_91 : decode cX9_count 91 = .ok (.iload_n 1, 1) := by decide +kernel
theorem dX9_count_92 : decode cX9_count 92 = .ok (.iadd, 1) := by decide +kernel
theorem dX9_count_93 : decode cX9_count 93 = .ok (.iconst 3, 1) := by decide +kernel
theorem dX9_count_94 : decode cX9_count 94 = .ok (.isub, 1) := by decide +kernel
theorem dX9_count_95 : decode cX9_count 95 = .ok (.iaload, 1) := by decide +kernel
theorem dX9_count_96 : decode cX9_count 96 = .ok (.ireturn, 1) := by decide +kernel
theorem dX9_count_97 : decode cX9_count 97 = .ok (.aload_n 0, 1) := by decide +kernel
theorem dX9_count_98 : decode cX9_count 98 = .ok (.invokevirtual 173, 3) := by decide +kernel
theorem dX9_count_101 : decode cX9_count 101 = .ok (.ireturn, 1) := by decide +kernel
theorem dX9_count_102 : decode cX9_count 102 = .ok (.aload_n 0, 1) := by decide +kernel
theorem dX9_count_103 : decode cX9_count 103 = .ok (.invokevirtual 239, 3) := by decide +kernel
theorem dX9_count_106 : decode cX9_count 106 = .ok (.ireturn, 1) := by decide +kernel
theorem dX9_count_107 : decode cX9_count 107 = .ok (.aload_n 0, 1) := by decide +kernel
theorem dX9_count_108 : decode cX9_count 108 = .ok (.getfield 7, 3) := by decide +kernel
theorem dX9_count_111 : decode cX9_count 111 = .ok (.bipush 6, 2) := by decide +kernel
theorem dX9_count_113 : decode cX9_count 113 = .ok (.iaload, 1) := by decide +kernel
theorem dX9_count_114 : decode cX9_count 114 = .ok (.ireturn, 1) := by decide +kernel
theorem dX9_count_115 : decode cX9_count 115 = .ok (.aload_n 0, 1) := by decide +kernel
theorem dX9_count_116 : decode cX9_count 116 = .ok (.getfield 7, 3) := by decide +kernel
theorem dX9_count_119 : decode cX9_count 119 = .ok (.bipush 7, 2) := by decide +kernel
theorem dX9_count_121 : decode cX9_count 121 = .ok (.iaload, 1) := by decide +kernel
theorem dX9_count_122 : decode cX9_count 122 = .ok (.ireturn, 1) := by decide +kernel
theorem dX9_count_123 : decode cX9_count 123 = .ok (.aload_n 0, 1) := by decide +kernel
theorem dX9_count_124 : decode cX9_count 124 = .ok (.getfield 198, 3) := by decide +kernel
theorem dX9_count_127 : decode cX9_count 127 = .ok (.ireturn, 1) := by decide +kernel
theorem dX9_count_128 : decode cX9_count 128 = .ok (.aload_n 0, 1) := by decide +kernel
theorem dX9_count_129 : decode cX9_count 129 = .ok (.getfield 7, 3) := by decide +kernel
theorem dX9_count_132 : decode cX9_count 132 = .ok (.iconst 5, 1) := by decide +kernel
theorem dX9_count_133 : decode cX9_count 133 = .ok (.iaload, 1) := by decide +kernel
theorem dX9_count_134 : decode cX9_count 134 = .ok (.ireturn, 1) := by decide +kernel
theorem dX9_count_135 : decode cX9_count 135 = .ok (.aload_n 0, 1) := by decide +kernel
theorem dX9_count_136 : decode cX9_count 136 = .ok (.iconst 1, 1) := by decide +kernel
theorem dX9_count_137 : decode cX9_count 137 = .ok (.invokevirtual 51, 3) := by decide +kernel
theorem dX9_count_140 : decode cX9_count 140 = .ok (.ireturn, 1) := by decide +kernel
theorem dX9_told_0 : decode cX9_told 0 = .ok (.iload_n 1, 1) := by decide +kernel
theorem dX9_told_1 : decode cX9_told 1 = .ok (.iconst 1, 1) := by decide +kernel
theorem dX9_told_2 : decode cX9_told 2 = .ok (.bipush 6, 2) := by decide +kernel
theorem dX9_told_4 : decode cX9_told 4 = .ok (.invokestatic 47, 3) := by decide +kernel
theorem dX9_told_7 : decode cX9_told 7 = .ok (.ifCond .eq 12, 3) := by decide +kernel
theorem dX9_told_10 : decode cX9_told 10 = .ok (.aload_n 0, 1) := by decide +kernel
theorem dX9_told_11 : decode cX9_told 11 = .ok (.getfield 19, 3) := by decide +kernel
theorem dX9_told_14 : decode cX9_told 14 = .ok (.iload_n 1, 1) := by decide +kernel
theorem dX9_told_15 : decode cX9_told 15 = .ok (.iaload, 1) := by decide +kernel
theorem dX9_told_16 : decode cX9_told 16 = .ok (.goto 8, 3) := by decide +kernel
theorem dX9_told_19 : decode cX9_told 19 = .ok (.aload_n 0, 1) := by decide +kernel
theorem dX9_told_20 : decode cX9_told 20 = .ok (.iconst 1, 1) := by decide +kernel
theorem dX9_told_21 : decode cX9_told 21 = .ok (.invokevirtual 51, 3) := by decide +kernel
theorem dX9_told_24 : decode cX9_told 24 = .ok (.ireturn, 1) := by decide +kernel
