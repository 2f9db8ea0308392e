theorem dX9_init_0 : decode cX9_init 0 = .ok (.aload_n 0, 1) := by decide +kernel
theorem dX9_init_1 : decode cX9_init 1 = .ok (.invokespecial 1, 3) := by decide +kernel
theorem dX9_init_4 : decode cX9_init 4 = .ok (.aload_n 0, 1) := by decide +kernel
theorem dX9_init_5 : decode cX9_init 5 = .ok (.sipush 383, 3) := by decide +kernel
theorem dX9_init_8 : decode cX9_init 8 = .ok (.newarray .int, 2) := by decide +kernel
theorem dX9_init_10 : decode cX9_init 10 = .ok (.putfield 7, 3) := by decide +kernel
theorem dX9_init_13 : decode cX9_init 13 = .ok (.aload_n 0, 1) := by decide +kernel
theorem dX9_init_14 : decode cX9_init 14 = .ok (.sipush 383, 3) := by decide +kernel
theorem dX9_init_17 : decode cX9_init 17 = .ok (.newarray .int, 2) := by decide +kernel
theorem dX9_init_19 : decode cX9_init 19 = .ok (.putfield 13, 3) := by decide +kernel
theorem dX9_init_22 : decode cX9_init 22 = .ok (.aload_n 0, 1) := by decide +kernel
theorem dX9_init_23 : decode cX9_init 23 = .ok (.bipush 49, 2) := by decide +kernel
theorem dX9_init_25 : decode cX9_init 25 = .ok (.newarray .int, 2) := by decide +kernel
theorem dX9_init_27 : decode cX9_init 27 = .ok (.putfield 16, 3) := by decide +kernel
theorem dX9_init_30 : decode cX9_init 30 = .ok (.aload_n 0, 1) := by decide +kernel
theorem dX9_init_31 : decode cX9_init 31 = .ok (.bipush 7, 2) := by decide +kernel
theorem dX9_init_33 : decode cX9_init 33 = .ok (.newarray .int, 2) := by decide +kernel
theorem dX9_init_35 : decode cX9_init 35 = .ok (.putfield 19, 3) := by decide +kernel
theorem dX9_init_38 : decode cX9_init 38 = .ok (.aload_n 0, 1) := by decide +kernel
theorem dX9_init_39 : decode cX9_init 39 = .ok (.bipush 124, 2) := by decide +kernel
theorem dX9_init_41 : decode cX9_init 41 = .ok (.newarray .int, 2) := by decide +kernel
theorem dX9_init_43 : decode cX9_init 43 = .ok (.putfield 22, 3) := by decide +kernel
theorem dX9_init_46 : decode cX9_init 46 = .ok (.aload_n 0, 1) := by decide +kernel
theorem dX9_init_47 : decode cX9_init 47 = .ok (.sipush 128, 3) := by decide +kernel
theorem dX9_init_50 : decode cX9_init 50 = .ok (.newarray .int, 2) := by decide +kernel
theorem dX9_init_52 : decode cX9_init 52 = .ok (.putfield 25, 3) := by decide +kernel
theorem dX9_init_55 : decode cX9_init 55 = .ok (.aload_n 0, 1) := by decide +kernel
theorem dX9_init_56 : decode cX9_init 56 = .ok (.bipush 64, 2) := by decide +kernel
theorem dX9_init_58 : decode cX9_init 58 = .ok (.newarray .int, 2) := by decide +kernel
theorem dX9_init_60 : decode cX9_init 60 = .ok (.putfield 28, 3) := by decide +kernel
theorem dX9_init_63 : decode cX9_init 63 = .ok (.aload_n 0, 1) := by decide +kernel
theorem dX9_init_64 : decode cX9_init 64 = .ok (.bipush 30, 2) := by decide +kernel
theorem dX9_init_66 : decode cX9_init 66 = .ok (.newarray .int, 2) := by decide +kernel
theorem dX9_init_68 : decode cX9_init 68 = .ok (.putfield 31, 3) := by decide +kernel
theorem dX9_init_71 : decode cX9_init 71 = .ok (.aload_n 0, 1) := by decide +kernel
theorem dX9_init_72 : decode cX9_init 72 = .ok (.iconst 4, 1) := by decide +kernel
theorem dX9_init_73 : decode cX9_init 73 = .ok (.newarray .int, 2) := by decide +kernel
theorem dX9_init_75 : decode cX9_init 75 = .ok (.putfield 34, 3) := by decide +kernel
theorem dX9_init_78 : decode cX9_init 78 = .ok (.aload_n 0, 1) := by decide +kernel
theorem dX9_init_79 : decode cX9_init 79 = .ok (.iconst 4, 1) := by decide +kernel
theorem dX9_init_80 : decode cX9_init 80 = .ok (.newarray .int, 2) := by decide +kernel
theorem dX9_init_82 : decode cX9_init 82 = .ok (.putfield 37, 3) := by decide +kernel
theorem dX9_init_85 : decode cX9_init 85 = .ok (.aload_n 0, 1) := by decide +kernel
theorem dX9_init_86 : decode cX9_init 86 = .ok (.bipush 96, 2) := by decide +kernel
theorem dX9_init_88 : decode cX9_init 88 = .ok (.newarray .int, 2) := by decide +kernel
theorem dX9_init_90 : decode cX9_init 90 = .ok (.putfield 40, 3) := by decide +kernel
theorem dX9_init_93 : decode cX9_init 93 = .ok (.aload_n 0, 1) := by decide +kernel
theorem dX9_init_94 : decode cX9_init 94 = .ok (.bipush 24, 2) := by decide +kernel
theorem dX9_init_96 : decode cX9_init 96 = .ok (.newarray .int, 2) := by decide +kernel
theorem dX9_init_98 : decode cX9_init 98 = .ok (.putfield 43, 3) := by decide +kernel
theorem dX9_init_101 : decode cX9_init 101 = .ok (.aload_n 0, 1) := by decide +kernel
theorem dX9_init_102 : decode cX9_init 102 = .ok (.getfield 7, 3) := by decide +kernel
theorem dX9_init_105 : decode cX9_init 105 = .ok (.iconst 5, 1) := by decide +kernel
theorem dX9_init_106 : decode cX9_init 106 = .ok (.iconst 1, 1) := by decide +kernel
theorem dX9_init_107 : decode cX9_init 107 = .ok (.iastore, 1) := by decide +kernel
theorem dX9_init_108 : decode cX9_init 108 = .ok (.aload_n 0, 1) := by decide +kernel
theorem dX9_init_109 : decode cX9_init 109 = .ok (.getfield 7, 3) := by decide +kernel
theorem dX9_init_112 : decode cX9_init 112 = .ok (.iconst 2, 1) := by decide +kernel
theorem dX9_init_113 : decode cX9_init 113 = .ok (.bipush 99, 2) := by decide +kernel
theorem dX9_init_115 : decode cX9_init 115 = .ok (.iastore, 1) := by decide +kernel
theorem dX9_init_116 : decode cX9_init 116 = .ok (.aload_n 0, 1) := by decide +kernel
theorem dX9_init_117 : decode cX9_init 117 = .ok (.getfield 7, 3) := by decide +kernel
theorem dX9_init_120 : decode cX9_init 120 = .ok (.iconst 3, 1) := by decide +kernel
theorem dX9_init_121 : decode cX9_init 121 = .ok (.bipush 7, 2) := by decide +kernel
theorem dX9_init_123 : decode cX9_init 123 = .ok (.iastore, 1) := by decide +kernel
theorem dX9_init_124 : decode cX9_init 124 = .ok (.return_, 1) := by decide +kernel
theorem dX9_error_0 : decode cX9_error 0 = .ok (.aload_n 0, 1) := by decide +kernel
theorem dX9_error_1 : decode cX9_error 1 = .ok (.getfield 19, 3) := by decide +kernel
theorem dX9_error_4 : decode cX9_error 4 = .ok (.iload_n 1, 1) := by decide +kernel
theorem dX9_error_5 : decode cX9_error 5 = .ok (.dup2, 1) := by decide +kernel
theorem dX9_error_6 : decode cX9_error 6 = .ok (.iaload, 1) := by decide +kernel
theorem dX9_error_7 : decode cX9_error 7 = .ok (.iconst 1, 1) := by decide +kernel
theorem dX9_error_8 : decode cX9_error 8 = .ok (.iadd, 1) := by decide +kernel
theorem dX9_error_9 : decode cX9_error 9 = .ok (.iastore, 1) := by decide +kernel
theorem dX9_error_10 : decode cX9_error 10 = .ok (.ldc 46, 2) := by decide +kernel
theorem dX9_error_12 : decode cX9_error 12 = .ok (.iload_n 1, 1) := by decide +kernel
theorem dX9_error_13 : decode cX9_error 13 = .ok (.isub, 1) := by decide +kernel
theorem dX9_error_14 : decode cX9_error 14 = .ok (.ireturn, 1) := by decide +kernel
theorem dX9_in_0 : decode cX9_in 0 = .ok (.iload_n 0, 1) := by decide +kernel
theorem dX9_in_1 : decode cX9_in 1 = .ok (.iload_n 1, 1) := by decide +kernel
theorem dX9_in_2 : decode cX9_in 2 = .ok (.if_icmp .lt 12, 3) := by decide +kernel
theorem dX9_in_5 : decode cX9_in 5 = .ok (.iload_n 0, 1) := by decide +kernel
theorem dX9_in_6 : decode cX9_in 6 = .ok (.iload_n 2, 1) := by decide +kernel
theorem dX9_in_7 : decode cX9_in 7 = .ok (.if_icmp .gt 7, 3) := by decide +kernel
theorem dX9_in_10 : decode cX9_in 10 = .ok (.iconst 1, 1) := by decide +kernel
theorem dX9_in_11 : decode cX9_in 11 = .ok (.goto 4, 3) := by decide +kernel
theorem dX9_in_14 : decode cX9_in 14 = .ok (.iconst 0, 1) := by decide +kernel
theorem dX9_in_15 : decode cX9_in 15 = .ok (.ireturn, 1) := by decide +kernel
theorem dX9_held_0 : decode cX9_held 0 = .ok (.iload_n 0, 1) := by decide +kernel
theorem dX9_held_1 : decode cX9_held 1 = .ok (.iload_n 1, 1) := by decide +kernel
theorem dX9_held_2 : decode cX9_held 2 = .ok (.if_icmp .ge 7, 3) := by decide +kernel
theorem dX9_held_5 : decode cX9_held 5 = .ok (.iload_n 1, 1) := by decide +kernel
theorem dX9_held_6 : decode cX9_held 6 = .ok (.goto 13, 3) := by decide +kernel
theorem dX9_held_9 : decode cX9_held 9 = .ok (.iload_n 0, 1) := by decide +kernel
theorem dX9_held_10 : decode cX9_held 10 = .ok (.iload_n 2, 1) := by decide +kernel
theorem dX9_held_11 : decode cX9_held 11 = .ok (.if_icmp .le 7, 3) := by decide +kernel
theorem dX9_held_14 : decode cX9_held 14 = .ok (.iload_n 2, 1) := by decide +kernel
theorem dX9_held_15 : decode cX9_held 15 = .ok (.goto 4, 3) := by decide +kernel
theorem dX9_held_18 : decode cX9_held 18 = .ok (.iload_n 0, 1) := by decide +kernel
theorem dX9_held_19 : decode cX9_held 19 = .ok (.ireturn, 1) := by decide +kernel
theorem dX9_copyAll_0 : decode cX9_copyAll 0 = .ok (.iconst 0, 1) := by decide +kernel
theorem dX9_copyAll_1 : decode cX9_copyAll 1 = .ok (.istore_n 2, 1) := by decide +kernel
theorem dX9_copyAll_2 : decode cX9_copyAll 2 = .ok (.iload_n 2, 1) := by decide +kernel
theorem dX9_copyAll_3 : decode cX9_copyAll 3 = .ok (.sipush 383, 3) := by decide +kernel
theorem dX9_copyAll_6 : decode cX9_copyAll 6 = .ok (.if_icmp .ge 15, 3) := by decide +kernel
theorem dX9_copyAll_9 : decode cX9_copyAll 9 = .ok (.aload_n 1, 1) := by decide +kernel
theorem dX9_copyAll_10 : decode cX9_copyAll 10 = .ok (.iload_n 2, 1) := by decide +kernel
theorem dX9_copyAll_11 : decode cX9_copyAll 11 = .ok (.aload_n 0, 1) := by decide +kernel
theorem dX9_copyAll_12 : decode cX9_copyAll 12 = .ok (.iload_n 2, 1) := by decide +kernel
theorem dX9_copyAll_13 : decode cX9_copyAll 13 = .ok (.iaload, 1) := by decide +kernel
theorem dX9_copyAll_14 : decode cX9_copyAll 14 = .ok (.iastore, 1) := by decide +kernel
theorem dX9_copyAll_15 : decode cX9_copyAll 15 = .ok (.iinc 2 1, 3) := by decide +kernel
theorem dX9_copyAll_18 : decode cX9_copyAll 18 = .ok (.goto (-16), 3) := by decide +kernel
theorem dX9_copyAll_21 : decode cX9_copyAll 21 = .ok (.return_, 1) := by decide +kernel
theorem dX9_saves_0 : decode cX9_saves 0 = .ok (.iconst 0, 1) := by decide +kernel
theorem dX9_saves_1 : decode cX9_saves 1 = .ok (.istore_n 1, 1) := by decide +kernel
theorem dX9_saves_2 : decode cX9_saves 2 = .ok (.iload_n 1, 1) := by decide +kernel
theorem dX9_saves_3 : decode cX9_saves 3 = .ok (.bipush 49, 2) := by decide +kernel
theorem dX9_saves_5 : decode cX9_saves 5 = .ok (.if_icmp .ge 21, 3) := by decide +kernel
theorem dX9_saves_8 : decode cX9_saves 8 = .ok (.aload_n 0, 1) := by decide +kernel
theorem dX9_saves_9 : decode cX9_saves 9 = .ok (.getfield 16, 3) := by decide +kernel
theorem dX9_saves_12 : decode cX9_saves 12 = .ok (.iload_n 1, 1) := by decide +kernel
theorem dX9_saves_13 : decode cX9_saves 13 = .ok (.aload_n 0, 1) := by decide +kernel
theorem dX9_saves_14 : decode cX9_saves 14 = .ok (.getfield 7, 3) := by decide +kernel
theorem dX9_saves_17 : decode cX9_saves 17 = .ok (.iload_n 1, 1) := by decide +kernel
theorem dX9_saves_18 : decode cX9_saves 18 = .ok (.iaload, 1) := by decide +kernel
theorem dX9_saves_19 : decode cX9_saves 19 = .ok (.iastore, 1) := by decide +kernel
theorem dX9_saves_20 : decode cX9_saves 20 = .ok (.iinc 1 1, 3) := by decide +kernel
theorem dX9_saves_23 : decode cX9_saves 23 = .ok (.goto (-21), 3) := by decide +kernel
theorem dX9_saves_26 : decode cX9_saves 26 = .ok (.return_, 1) := by decide +kernel
theorem dX9_putsBack_0 : decode cX9_putsBack 0 = .ok (.iconst 0, 1) := by decide +kernel
theorem dX9_putsBack_1 : decode cX9_putsBack 1 = .ok (.istore_n 1, 1) := by decide +kernel
theorem dX9_putsBack_2 : decode cX9_putsBack 2 = .ok (.iload_n 1, 1) := by decide +kernel
theorem dX9_putsBack_3 : decode cX9_putsBack 3 = .ok (.bipush 49, 2) := by decide +kernel
theorem dX9_putsBack_5 : decode cX9_putsBack 5 = .ok (.if_icmp .ge 21, 3) := by decide +kernel
theorem dX9_putsBack_8 : decode cX9_putsBack 8 = .ok (.aload_n 0, 1) := by decide +kernel
theorem dX9_putsBack_9 : decode cX9_putsBack 9 = .ok (.getfield 7, 3) := by decide +kernel
theorem dX9_putsBack_12 : decode cX9_putsBack 12 = .ok (.iload_n 1, 1) := by decide +kernel
theorem dX9_putsBack_13 : decode cX9_putsBack 13 = .ok (.aload_n 0, 1) := by decide +kernel
theorem dX9_putsBack_14 : decode cX9_putsBack 14 = .ok (.getfield 16, 3) := by decide +kernel
theorem dX9_putsBack_17 : decode cX9_putsBack 17 = .ok (.iload_n 1, 1) := by decide +kernel
theorem dX9_putsBack_18 : decode cX9_putsBack 18 = .ok (.iaload, 1) := by decide +kernel
theorem dX9_putsBack_19 : decode cX9_putsBack 19 = .ok (.iastore, 1) := by decide +kernel
theorem dX9_putsBack_20 : decode cX9_putsBack 20 = .ok (.iinc 1 1, 3) := by decide +kernel
theorem dX9_putsBack_23 : decode cX9_putsBack 23 = .ok (.goto (-21), 3) := by decide +kernel
theorem dX9_putsBack_26 : decode cX9_putsBack 26 = .ok (.return_, 1) := by decide +kernel
theorem dX9_isHome_0 : decode cX9_isHome 0 = .ok (.iload_n 1, 1) := by decide +kernel
theorem dX9_isHome_1 : decode cX9_isHome 1 = .ok (.iconst 0, 1) := by decide +kernel
theorem dX9_isHome_2 : decode cX9_isHome 2 = .ok (.aload_n 0, 1) := by decide +kernel
theorem dX9_isHome_3 : decode cX9_isHome 3 = .ok (.getfield 7, 3) := by decide +kernel
theorem dX9_isHome_6 : decode cX9_isHome 6 = .ok (.bipush 8, 2) := by decide +kernel
theorem dX9_isHome_8 : decode cX9_isHome 8 = .ok (.iaload, 1) := by decide +kernel
theorem dX9_isHome_9 : decode cX9_isHome 9 = .ok (.iconst 1, 1) := by decide +kernel
theorem dX9_isHome_10 : decode cX9_isHome 10 = .ok (.isub, 1) := by decide +kernel
theorem dX9_isHome_11 : decode cX9_isHome 11 = .ok (.invokestatic 47, 3) := by decide +kernel
theorem dX9_isHome_14 : decode cX9_isHome 14 = .ok (.ireturn, 1) := by decide +kernel
theorem dX9_its_0 : decode cX9_its 0 = .ok (.aload_n 0, 1) := by decide +kernel
theorem dX9_its_1 : decode cX9_its 1 = .ok (.getfield 7, 3) := by decide +kernel
theorem dX9_its_4 : decode cX9_its 4 = .ok (.bipush 9, 2) := by decide +kernel
theorem dX9_its_6 : decode cX9_its 6 = .ok (.iconst 5, 1) := by decide +kernel
theorem dX9_its_7 : decode cX9_its 7 = .ok (.iload_n 1, 1) := by decide +kernel
theorem dX9_its_8 : decode cX9_its 8 = .ok (.imul, 1) := by decide +kernel
theorem dX9_its_9 : decode cX9_its 9 = .ok (.iadd, 1) := by decide +kernel
theorem dX9_its_10 : decode cX9_its 10 = .ok (.iload_n 2, 1) := by decide +kernel
theorem dX9_its_11 : decode cX9_its 11 = .ok (.iadd, 1) := by decide +kernel
theorem dX9_its_12 : decode cX9_its 12 = .ok (.iaload, 1) := by decide +kernel
theorem dX9_its_13 : decode cX9_its 13 = .ok (.ireturn, 1) := by decide +kernel
theorem dX9_lays1_0 : decode cX9_lays1 0 = .ok (.aload_n 0, 1) := by decide +kernel
theorem dX9_lays1_1 : decode cX9_lays1 1 = .ok (.getfield 7, 3) := by decide +kernel
theorem dX9_lays1_4 : decode cX9_lays1 4 = .ok (.bipush 9, 2) := by decide +kernel
theorem dX9_lays1_6 : decode cX9_lays1 6 = .ok (.iconst 5, 1) := by decide +kernel
theorem dX9_lays1_7 : decode cX9_lays1 7 = .ok (.iload_n 1, 1) := by decide +kernel
theorem dX9_lays1_8 : decode cX9_lays1 8 = .ok (.imul, 1) := by decide +kernel
theorem dX9_lays1_9 : decode cX9_lays1 9 = .ok (.iadd, 1) := by decide +kernel
theorem dX9_lays1_10 : decode cX9_lays1 10 = .ok (.iload_n 2, 1) := by decide +kernel
theorem dX9_lays1_11 : decode cX9_lays1 11 = .ok (.iadd, 1) := by decide +kernel
theorem dX9_lays1_12 : decode cX9_lays1 12 = .ok (.iload_n 3, 1) := by decide +kernel
theorem dX9_lays1_13 : decode cX9_lays1 13 = .ok (.iastore, 1) := by decide +kernel
theorem dX9_lays1_14 : decode cX9_lays1 14 = .ok (.return_, 1) := by decide +kernel
theorem dX9_change1_0 : decode cX9_change1 0 = .ok (.aload_n 0, 1) := by decide +kernel
theorem dX9_change1_1 : decode cX9_change1 1 = .ok (.getfield 7, 3) := by decide +kernel
theorem dX9_change1_4 : decode cX9_change1 4 = .ok (.iload_n 1, 1) := by decide +kernel
theorem dX9_change1_5 : decode cX9_change1 5 = .ok (.iaload, 1) := by decide +kernel
theorem dX9_change1_6 : decode cX9_change1 6 = .ok (.istore_n 3, 1) := by decide +kernel
theorem dX9_change1_7 : decode cX9_change1 7 = .ok (.aload_n 0, 1) := by decide +kernel
theorem dX9_change1_8 : decode cX9_change1 8 = .ok (.getfield 7, 3) := by decide +kernel
theorem dX9_change1_11 : decode cX9_change1 11 = .ok (.iload_n 1, 1) := by decide +kernel
theorem dX9_change1_12 : decode cX9_change1 12 = .ok (.iload_n 2, 1) := by decide +kernel
theorem dX9_change1_13 : decode cX9_change1 13 = .ok (.iastore, 1) := by decide +kernel
theorem dX9_change1_14 : decode cX9_change1 14 = .ok (.iload_n 3, 1) := by decide +kernel
theorem dX9_change1_15 : decode cX9_change1 15 = .ok (.ireturn, 1) := by decide +kernel
theorem dX9_feed_0 : decode cX9_feed 0 = .ok (.iload_n 3, 1) := by decide +kernel
theorem dX9_feed_1 : decode cX9_feed 1 = .ok (.iconst 1, 1) := by decide +kernel
theorem dX9_feed_2 : decode cX9_feed 2 = .ok (.bipush 8, 2) := by decide +kernel
theorem dX9_feed_4 : decode cX9_feed 4 = .ok (.invokestatic 47, 3) := by decide +kernel
theorem dX9_feed_7 : decode cX9_feed 7 = .ok (.ifCond .ne 9, 3) := by decide +kernel
theorem dX9_feed_10 : decode cX9_feed 10 = .ok (.aload_n 0, 1) := by decide +kernel
theorem dX9_feed_11 : decode cX9_feed 11 = .ok (.iconst 1, 1) := by decide +kernel
theorem dX9_feed_12 : decode cX9_feed 12 = .ok (.invokevirtual 51, 3) := by decide +kernel
theorem dX9_feed_15 : decode cX9_feed 15 = .ok (.ireturn, 1) := by decide +kernel
theorem dX9_feed_16 : decode cX9_feed 16 = .ok (.aload_n 0, 1) := by decide +kernel
theorem dX9_feed_17 : decode cX9_feed 17 = .ok (.getfield 7, 3) := by decide +kernel
theorem dX9_feed_20 : decode cX9_feed 20 = .ok (.bipush 6, 2) := by decide +kernel
theorem dX9_feed_22 : decode cX9_feed 22 = .ok (.iaload, 1) := by decide +kernel
theorem dX9_feed_23 : decode cX9_feed 23 = .ok (.iload_n 3, 1) := by decide +kernel
theorem dX9_feed_24 : decode cX9_feed 24 = .ok (.iadd, 1) := by decide +kernel
theorem dX9_feed_25 : decode cX9_feed 25 = .ok (.bipush 60, 2) := by decide +kernel
theorem dX9_feed_27 : decode cX9_feed 27 = .ok (.if_icmp .le 9, 3) := by decide +kernel
theorem dX9_feed_30 : decode cX9_feed 30 = .ok (.aload_n 0, 1) := by decide +kernel
theorem dX9_feed_31 : decode cX9_feed 31 = .ok (.iconst 4, 1) := by decide +kernel
theorem dX9_feed_32 : decode cX9_feed 32 = .ok (.invokevirtual 51, 3) := by decide +kernel
theorem dX9_feed_35 : decode cX9_feed 35 = .ok (.ireturn, 1) := by decide +kernel
theorem dX9_feed_36 : decode cX9_feed 36 = .ok (.iconst 0, 1) := by decide +kernel
theorem dX9_feed_37 : decode cX9_feed 37 = .ok (.istore 4, 2) := by decide +kernel
theorem dX9_feed_39 : decode cX9_feed 39 = .ok (.iload 4, 2) := by decide +kernel
theorem dX9_feed_41 : decode cX9_feed 41 = .ok (.iload_n 3, 1) := by decide +kernel
theorem dX9_feed_42 : decode cX9_feed 42 = .ok (.if_icmp .ge 48, 3) := by decide +kernel
theorem dX9_feed_45 : decode cX9_feed 45 = .ok (.aload_n 0, 1) := by decide +kernel
theorem dX9_feed_46 : decode cX9_feed 46 = .ok (.getfield 7, 3) := by decide +kernel
theorem dX9_feed_49 : decode cX9_feed 49 = .ok (.sipush 299, 3) := by decide +kernel
theorem dX9_feed_52 : decode cX9_feed 52 = .ok (.aload_n 0, 1) := by decide +kernel
theorem dX9_feed_53 : decode cX9_feed 53 = .ok (.getfield 7, 3) := by decide +kernel
theorem dX9_feed_56 : decode cX9_feed 56 = .ok (.bipush 6, 2) := by decide +kernel
theorem dX9_feed_58 : decode cX9_feed 58 = .ok (.iaload, 1) := by decide +kernel
theorem dX9_feed_59 : decode cX9_feed 59 = .ok (.iadd, 1) := by decide +kernel
theorem dX9_feed_60 : decode cX9_feed 60 = .ok (.lload_n 1, 1) := by decide +kernel
theorem dX9_feed_61 : decode cX9_feed 61 = .ok (.bipush 8, 2) := by decide +kernel
theorem dX9_feed_63 : decode cX9_feed 63 = .ok (.iload 4, 2) := by decide +kernel
theorem dX9_feed_65 : decode cX9_feed 65 = .ok (.imul, 1) := by decide +kernel
theorem dX9_feed_66 : decode cX9_feed 66 = .ok (.lshr, 1) := by decide +kernel
theorem dX9_feed_67 : decode cX9_feed 67 = .ok (.ldc2_w 55, 3) := by decide +kernel
theorem dX9_feed_70 : decode cX9_feed 70 = .ok (.land, 1) := by decide +kernel
theorem dX9_feed_71 : decode cX9_feed 71 = .ok (.l2i, 1) := by decide +kernel
theorem dX9_feed_72 : decode cX9_feed 72 = .ok (.iastore, 1) := by decide +kernel
theorem dX9_feed_73 : decode cX9_feed 73 = .ok (.aload_n 0, 1) := by decide +kernel
theorem dX9_feed_74 : decode cX9_feed 74 = .ok (.getfield 7, 3) := by decide +kernel
theorem dX9_feed_77 : decode cX9_feed 77 = .ok (.bipush 6, 2) := by decide +kernel
theorem dX9_feed_79 : decode cX9_feed 79 = .ok (.dup2, 1) := by decide +kernel
theorem dX9_feed_80 : decode cX9_feed 80 = .ok (.iaload, 1) := by decide +kernel
theorem dX9_feed_81 : decode cX9_feed 81 = .ok (.iconst 1, 1) := by decide +kernel
theorem dX9_feed_82 : decode cX9_feed 82 = .ok (.iadd, 1) := by decide +kernel
theorem dX9_feed_83 : decode cX9_feed 83 = .ok (.iastore, 1) := by decide +kernel
theorem dX9_feed_84 : decode cX9_feed 84 = .ok (.iinc 4 1, 3) := by decide +kernel
theorem dX9_feed_87 : decode cX9_feed 87 = .ok (.goto (-48), 3) := by decide +kernel
theorem dX9_feed_90 : decode cX9_feed 90 = .ok (.aload_n 0, 1) := by decide +kernel
theorem dX9_feed_91 : decode cX9_feed 91 = .ok (.getfield 7, 3) := by decide +kernel
theorem dX9_feed_94 : decode cX9_feed 94 = .ok (.bipush 6, 2) := by decide +kernel
theorem dX9_feed_96 : decode cX9_feed 96 = .ok (.iaload, 1) := by decide +kernel
theorem dX9_feed_97 : decode cX9_feed 97 = .ok (.ireturn, 1) := by decide +kernel
theorem dX9_look_0 : decode cX9_look 0 = .ok (.aload_n 0, 1) := by decide +kernel
theorem dX9_look_1 : decode cX9_look 1 = .ok (.getfield 57, 3) := by decide +kernel
theorem dX9_look_4 : decode cX9_look 4 = .ok (.aload_n 0, 1) := by decide +kernel
theorem dX9_look_5 : decode cX9_look 5 = .ok (.getfield 7, 3) := by decide +kernel
theorem dX9_look_8 : decode cX9_look 8 = .ok (.bipush 6, 2) := by decide +kernel
theorem dX9_look_10 : decode cX9_look 10 = .ok (.iaload, 1) := by decide +kernel
theorem dX9_look_11 : decode cX9_look 11 = .ok (.if_icmp .ge 19, 3) := by decide +kernel
theorem dX9_look_14 : decode cX9_look 14 = .ok (.aload_n 0, 1) := by decide +kernel
theorem dX9_look_15 : decode cX9_look 15 = .ok (.getfield 7, 3) := by decide +kernel
theorem dX9_look_18 : decode cX9_look 18 = .ok (.sipush 299, 3) := by decide +kernel
theorem dX9_look_21 : decode cX9_look 21 = .ok (.aload_n 0, 1) := by decide +kernel
theorem dX9_look_22 : decode cX9_look 22 = .ok (.getfield 57, 3) := by decide +kernel
theorem dX9_look_25 : decode cX9_look 25 = .ok (.iadd, 1) := by decide +kernel
theorem dX9_look_26 : decode cX9_look 26 = .ok (.iaload, 1) := by decide +kernel
theorem dX9_look_27 : decode cX9_look 27 = .ok (.goto 4, 3) := by decide +kernel
theorem dX9_look_30 : decode cX9_look 30 = .ok (.iconst (-1), 1) := by decide +kernel
theorem dX9_look_31 : decode cX9_look 31 = .ok (.ireturn, 1) := by decide +kernel
theorem dX9_isName_0 : decode cX9_isName 0 = .ok (.iload_n 1, 1) := by decide +kernel
theorem dX9_isName_1 : decode cX9_isName 1 = .ok (.bipush 115, 2) := by decide +kernel
theorem dX9_isName_3 : decode cX9_isName 3 = .ok (.if_icmp .eq 27, 3) := by decide +kernel
theorem dX9_isName_6 : decode cX9_isName 6 = .ok (.iload_n 1, 1) := by decide +kernel
theorem dX9_isName_7 : decode cX9_isName 7 = .ok (.bipush 100, 2) := by decide +kernel
theorem dX9_isName_9 : decode cX9_isName 9 = .ok (.if_icmp .eq 21, 3) := by decide +kernel
theorem dX9_isName_12 : decode cX9_isName 12 = .ok (.iload_n 1, 1) := by decide +kernel
theorem dX9_isName_13 : decode cX9_isName 13 = .ok (.aload_n 0, 1) := by decide +kernel
theorem dX9_isName_14 : decode cX9_isName 14 = .ok (.getfield 61, 3) := by decide +kernel
theorem dX9_isName_17 : decode cX9_isName 17 = .ok (.ifCond .ne 8, 3) := by decide +kernel
theorem dX9_isName_20 : decode cX9_isName 20 = .ok (.bipush 118, 2) := by decide +kernel
theorem dX9_isName_22 : decode cX9_isName 22 = .ok (.goto 5, 3) := by decide +kernel
theorem dX9_isName_25 : decode cX9_isName 25 = .ok (.bipush 108, 2) := by decide +kernel
theorem dX9_isName_27 : decode cX9_isName 27 = .ok (.if_icmp .ne 7, 3) := by decide +kernel
theorem dX9_isName_30 : decode cX9_isName 30 = .ok (.iconst 1, 1) := by decide +kernel
theorem dX9_isName_31 : decode cX9_isName 31 = .ok (.goto 4, 3) := by decide +kernel
theorem dX9_isName_34 : decode cX9_isName 34 = .ok (.iconst 0, 1) := by decide +kernel
theorem dX9_isName_35 : decode cX9_isName 35 = .ok (.ireturn, 1) := by decide +kernel
theorem dX9_step1_0 : decode cX9_step1 0 = .ok (.aload_n 0, 1) := by decide +kernel
theorem dX9_step1_1 : decode cX9_step1 1 = .ok (.getfield 22, 3) := by decide +kernel
theorem dX9_step1_4 : decode cX9_step1 4 = .ok (.iconst 2, 1) := by decide +kernel
theorem dX9_step1_5 : decode cX9_step1 5 = .ok (.aload_n 0, 1) := by decide +kernel
theorem dX9_step1_6 : decode cX9_step1 6 = .ok (.getfield 64, 3) := by decide +kernel
theorem dX9_step1_9 : decode cX9_step1 9 = .ok (.imul, 1) := by decide +kernel
theorem dX9_step1_10 : decode cX9_step1 10 = .ok (.iload_n 1, 1) := by decide +kernel
theorem dX9_step1_11 : decode cX9_step1 11 = .ok (.iastore, 1) := by decide +kernel
theorem dX9_step1_12 : decode cX9_step1 12 = .ok (.aload_n 0, 1) := by decide +kernel
theorem dX9_step1_13 : decode cX9_step1 13 = .ok (.getfield 22, 3) := by decide +kernel
theorem dX9_step1_16 : decode cX9_step1 16 = .ok (.iconst 2, 1) := by decide +kernel
theorem dX9_step1_17 : decode cX9_step1 17 = .ok (.aload_n 0, 1) := by decide +kernel
theorem dX9_step1_18 : decode cX9_step1 18 = .ok (.getfield 64, 3) := by decide +kernel
theorem dX9_step1_21 : decode cX9_step1 21 = .ok (.imul, 1) := by decide +kernel
theorem dX9_step1_22 : decode cX9_step1 22 = .ok (.iconst 1, 1) := by decide +kernel
theorem dX9_step1_23 : decode cX9_step1 23 = .ok (.iadd, 1) := by decide +kernel
theorem dX9_step1_24 : decode cX9_step1 24 = .ok (.iload_n 2, 1) := by decide +kernel
theorem dX9_step1_25 : decode cX9_step1 25 = .ok (.iastore, 1) := by decide +kernel
theorem dX9_step1_26 : decode cX9_step1 26 = .ok (.aload_n 0, 1) := by decide +kernel
theorem dX9_step1_27 : decode cX9_step1 27 = .ok (.dup, 1) := by decide +kernel
theorem dX9_step1_28 : decode cX9_step1 28 = .ok (.getfield 64, 3) := by decide +kernel
theorem dX9_step1_31 : decode cX9_step1 31 = .ok (.iconst 1, 1) := by decide +kernel
theorem dX9_step1_32 : decode cX9_step1 32 = .ok (.iadd, 1) := by decide +kernel
theorem dX9_step1_33 : decode cX9_step1 33 = .ok (.putfield 64, 3) := by decide +kernel
theorem dX9_step1_36 : decode cX9_step1 36 = .ok (.return_, 1) := by decide +kernel
theorem dX9_whole_0 : decode cX9_whole 0 = .ok (.aload_n 0, 1) := by decide +kernel
theorem dX9_whole_1 : decode cX9_whole 1 = .ok (.invokevirtual 67, 3) := by decide +kernel
theorem dX9_whole_4 : decode cX9_whole 4 = .ok (.ifCond .ne 5, 3) := by decide +kernel
theorem dX9_whole_7 : decode cX9_whole 7 = .ok (.iconst 0, 1) := by decide +kernel
theorem dX9_whole_8 : decode cX9_whole 8 = .ok (.ireturn, 1) := by decide +kernel
theorem dX9_whole_9 : decode cX9_whole 9 = .ok (.aload_n 0, 1) := by decide +kernel
theorem dX9_whole_10 : decode cX9_whole 10 = .ok (.invokevirtual 71, 3) := by decide +kernel
theorem dX9_whole_13 : decode cX9_whole 13 = .ok (.bipush 124, 2) := by decide +kernel
theorem dX9_whole_15 : decode cX9_whole 15 = .ok (.if_icmp .ne 32, 3) := by decide +kernel
theorem dX9_whole_18 : decode cX9_whole 18 = .ok (.aload_n 0, 1) := by decide +kernel
theorem dX9_whole_19 : decode cX9_whole 19 = .ok (.dup, 1) := by decide +kernel
theorem dX9_whole_20 : decode cX9_whole 20 = .ok (.getfield 57, 3) := by decide +kernel
theorem dX9_whole_23 : decode cX9_whole 23 = .ok (.iconst 1, 1) := by decide +kernel
theorem dX9_whole_24 : decode cX9_whole 24 = .ok (.iadd, 1) := by decide +kernel
theorem dX9_whole_25 : decode cX9_whole 25 = .ok (.putfield 57, 3) := by decide +kernel
theorem dX9_whole_28 : decode cX9_whole 28 = .ok (.aload_n 0, 1) := by decide +kernel
theorem dX9_whole_29 : decode cX9_whole 29 = .ok (.invokevirtual 67, 3) := by decide +kernel
theorem dX9_whole_32 : decode cX9_whole 32 = .ok (.ifCond .ne 5, 3) := by decide +kernel
theorem dX9_whole_35 : decode cX9_whole 35 = .ok (.iconst 0, 1) := by decide +kernel
theorem dX9_whole_36 : decode cX9_whole 36 = .ok (.ireturn, 1) := by decide +kernel
theorem dX9_whole_37 : decode cX9_whole 37 = .ok (.aload_n 0, 1) := by decide +kernel
theorem dX9_whole_38 : decode cX9_whole 38 = .ok (.iconst 3, 1) := by decide +kernel
theorem dX9_whole_39 : decode cX9_whole 39 = .ok (.bipush 124, 2) := by decide +kernel
theorem dX9_whole_41 : decode cX9_whole 41 = .ok (.invokevirtual 75, 3) := by decide +kernel
theorem dX9_whole_44 : decode cX9_whole 44 = .ok (.goto (-35), 3) := by decide +kernel
theorem dX9_whole_47 : decode cX9_whole 47 = .ok (.iconst 1, 1) := by decide +kernel
theorem dX9_whole_48 : decode cX9_whole 48 = .ok (.ireturn, 1) := by decide +kernel
theorem dX9_both_0 : decode cX9_both 0 = .ok (.aload_n 0, 1) := by decide +kernel
theorem dX9_both_1 : decode cX9_both 1 = .ok (.invokevirtual 79, 3) := by decide +kernel
theorem dX9_both_4 : decode cX9_both 4 = .ok (.ifCond .ne 5, 3) := by decide +kernel
theorem dX9_both_7 : decode cX9_both 7 = .ok (.iconst 0, 1) := by decide +kernel
theorem dX9_both_8 : decode cX9_both 8 = .ok (.ireturn, 1) := by decide +kernel
theorem dX9_both_9 : decode cX9_both 9 = .ok (.aload_n 0, 1) := by decide +kernel
theorem dX9_both_10 : decode cX9_both 10 = .ok (.invokevirtual 71, 3) := by decide +kernel
theorem dX9_both_13 : decode cX9_both 13 = .ok (.bipush 38, 2) := by decide +kernel
theorem dX9_both_15 : decode cX9_both 15 = .ok (.if_icmp .ne 32, 3) := by decide +kernel
theorem dX9_both_18 : decode cX9_both 18 = .ok (.aload_n 0, 1) := by decide +kernel
theorem dX9_both_19 : decode cX9_both 19 = .ok (.dup, 1) := by decide +kernel
theorem dX9_both_20 : decode cX9_both 20 = .ok (.getfield 57, 3) := by decide +kernel
theorem dX9_both_23 : decode cX9_both 23 = .ok (.iconst 1, 1) := by decide +kernel
theorem dX9_both_24 : decode cX9_both 24 = .ok (.iadd, 1) := by decide +kernel
theorem dX9_both_25 : decode cX9_both 25 = .ok (.putfield 57, 3) := by decide +kernel
theorem dX9_both_28 : decode cX9_both 28 = .ok (.aload_n 0, 1) := by decide +kernel
theorem dX9_both_29 : decode cX9_both 29 = .ok (.invokevirtual 79, 3) := by decide +kernel
theorem dX9_both_32 : decode cX9_both 32 = .ok (.ifCond .ne 5, 3) := by decide +kernel
theorem dX9_both_35 : decode cX9_both 35 = .ok (.iconst 0, 1) := by decide +kernel
theorem dX9_both_36 : decode cX9_both 36 = .ok (.ireturn, 1) := by decide +kernel
theorem dX9_both_37 : decode cX9_both 37 = .ok (.aload_n 0, 1) := by decide +kernel
theorem dX9_both_38 : decode cX9_both 38 = .ok (.iconst 3, 1) := by decide +kernel
theorem dX9_both_39 : decode cX9_both 39 = .ok (.bipush 38, 2) := by decide +kernel
theorem dX9_both_41 : decode cX9_both 41 = .ok (.invokevirtual 75, 3) := by decide +kernel
theorem dX9_both_44 : decode cX9_both 44 = .ok (.goto (-35), 3) := by decide +kernel
theorem dX9_both_47 : decode cX9_both 47 = .ok (.iconst 1, 1) := by decide +kernel
theorem dX9_both_48 : decode cX9_both 48 = .ok (.ireturn, 1) := by decide +kernel
theorem dX9_compared_0 : decode cX9_compared 0 = .ok (.aload_n 0, 1) := by decide +kernel
theorem dX9_compared_1 : decode cX9_compared 1 = .ok (.invokevirtual 82, 3) := by decide +kernel
theorem dX9_compared_4 : decode cX9_compared 4 = .ok (.ifCond .ne 5, 3) := by decide +kernel
theorem dX9_compared_7 : decode cX9_compared 7 = .ok (.iconst 0, 1) := by decide +kernel
theorem dX9_compared_8 : decode cX9_compared 8 = .ok (.ireturn, 1) := by decide +kernel
theorem dX9_compared_9 : decode cX9_compared 9 = .ok (.aload_n 0, 1) := by decide +kernel
theorem dX9_compared_10 : decode cX9_compared 10 = .ok (.invokevirtual 71, 3) := by decide +kernel
theorem dX9_compared_13 : decode cX9_compared 13 = .ok (.istore_n 1, 1) := by decide +kernel
theorem dX9_compared_14 : decode cX9_compared 14 = .ok (.iload_n 1, 1) := by decide +kernel
theorem dX9_compared_15 : decode cX9_compared 15 = .ok (.bipush 60, 2) := by decide +kernel
theorem dX9_compared_17 : decode cX9_compared 17 = .ok (.if_icmp .eq 17, 3) := by decide +kernel
theorem dX9_compared_20 : decode cX9_compared 20 = .ok (.iload_n 1, 1) := by decide +kernel
theorem dX9_compared_21 : decode cX9_compared 21 = .ok (.bipush 61, 2) := by decide +kernel
theorem dX9_compared_23 : decode cX9_compared 23 = .ok (.if_icmp .eq 11, 3) := by decide +kernel
theorem dX9_compared_26 : decode cX9_compared 26 = .ok (.iload_n 1, 1) := by decide +kernel
theorem dX9_compared_27 : decode cX9_compared 27 = .ok (.bipush 62, 2) := by decide +kernel
theorem dX9_compared_29 : decode cX9_compared 29 = .ok (.if_icmp .eq 5, 3) := by decide +kernel
theorem dX9_compared_32 : decode cX9_compared 32 = .ok (.iconst 1, 1) := by decide +kernel
theorem dX9_compared_33 : decode cX9_compared 33 = .ok (.ireturn, 1) := by decide +kernel
theorem dX9_compared_34 : decode cX9_compared 34 = .ok (.aload_n 0, 1) := by decide +kernel
theorem dX9_compared_35 : decode cX9_compared 35 = .ok (.dup, 1) := by decide +kernel
theorem dX9_compared_36 : decode cX9_compared 36 = .ok (.getfield 57, 3) := by decide +kernel
theorem dX9_compared_39 : decode cX9_compared 39 = .ok (.iconst 1, 1) := by decide +kernel
theorem dX9_compared_40 : decode cX9_compared 40 = .ok (.iadd, 1) := by decide +kernel
theorem dX9_compared_41 : decode cX9_compared 41 = .ok (.putfield 57, 3) := by decide +kernel
theorem dX9_compared_44 : decode cX9_compared 44 = .ok (.aload_n 0, 1) := by decide +kernel
theorem dX9_compared_45 : decode cX9_compared 45 = .ok (.invokevirtual 82, 3) := by decide +kernel
theorem dX9_compared_48 : decode cX9_compared 48 = .ok (.ifCond .ne 5, 3) := by decide +kernel
theorem dX9_compared_51 : decode cX9_compared 51 = .ok (.iconst 0, 1) := by decide +kernel
theorem dX9_compared_52 : decode cX9_compared 52 = .ok (.ireturn, 1) := by decide +kernel
theorem dX9_compared_53 : decode cX9_compared 53 = .ok (.aload_n 0, 1) := by decide +kernel
theorem dX9_compared_54 : decode cX9_compared 54 = .ok (.iconst 3, 1) := by decide +kernel
theorem dX9_compared_55 : decode cX9_compared 55 = .ok (.iload_n 1, 1) := by decide +kernel
theorem dX9_compared_56 : decode cX9_compared 56 = .ok (.invokevirtual 75, 3) := by decide +kernel
theorem dX9_compared_59 : decode cX9_compared 59 = .ok (.iconst 1, 1) := by decide +kernel
theorem dX9_compared_60 : decode cX9_compared 60 = .ok (.ireturn, 1) := by decide +kernel
theorem dX9_sum_0 : decode cX9_sum 0 = .ok (.aload_n 0, 1) := by decide +kernel
theorem dX9_sum_1 : decode cX9_sum 1 = .ok (.invokevirtual 85, 3) := by decide +kernel
theorem dX9_sum_4 : decode cX9_sum 4 = .ok (.ifCond .ne 5, 3) := by decide +kernel
theorem dX9_sum_7 : decode cX9_sum 7 = .ok (.iconst 0, 1) := by decide +kernel
theorem dX9_sum_8 : decode cX9_sum 8 = .ok (.ireturn, 1) := by decide +kernel
theorem dX9_sum_9 : decode cX9_sum 9 = .ok (.aload_n 0, 1) := by decide +kernel
theorem dX9_sum_10 : decode cX9_sum 10 = .ok (.invokevirtual 71, 3) := by decide +kernel
theorem dX9_sum_13 : decode cX9_sum 13 = .ok (.bipush 43, 2) := by decide +kernel
theorem dX9_sum_15 : decode cX9_sum 15 = .ok (.if_icmp .eq 12, 3) := by decide +kernel
theorem dX9_sum_18 : decode cX9_sum 18 = .ok (.aload_n 0, 1) := by decide +kernel
theorem dX9_sum_19 : decode cX9_sum 19 = .ok (.invokevirtual 71, 3) := by decide +kernel
theorem dX9_sum_22 : decode cX9_sum 22 = .ok (.bipush 45, 2) := by decide +kernel
theorem dX9_sum_24 : decode cX9_sum 24 = .ok (.if_icmp .ne 36, 3) := by decide +kernel
theorem dX9_sum_27 : decode cX9_sum 27 = .ok (.aload_n 0, 1) := by decide +kernel
theorem dX9_sum_28 : decode cX9_sum 28 = .ok (.invokevirtual 71, 3) := by decide +kernel
theorem dX9_sum_31 : decode cX9_sum 31 = .ok (.istore_n 1, 1) := by decide +kernel
theorem dX9_sum_32 : decode cX9_sum 32 = .ok (.aload_n 0, 1) := by decide +kernel
theorem dX9_sum_33 : decode cX9_sum 33 = .ok (.dup, 1) := by decide +kernel
theorem dX9_sum_34 : decode cX9_sum 34 = .ok (.getfield 57, 3) := by decide +kernel
theorem dX9_sum_37 : decode cX9_sum 37 = .ok (.iconst 1, 1) := by decide +kernel
theorem dX9_sum_38 : decode cX9_sum 38 = .ok (.iadd, 1) := by decide +kernel
theorem dX9_sum_39 : decode cX9_sum 39 = .ok (.putfield 57, 3) := by decide +kernel
theorem dX9_sum_42 : decode cX9_sum 42 = .ok (.aload_n 0, 1) := by decide +kernel
theorem dX9_sum_43 : decode cX9_sum 43 = .ok (.invokevirtual 85, 3) := by decide +kernel
theorem dX9_sum_46 : decode cX9_sum 46 = .ok (.ifCond .ne 5, 3) := by decide +kernel
theorem dX9_sum_49 : decode cX9_sum 49 = .ok (.iconst 0, 1) := by decide +kernel
theorem dX9_sum_50 : decode cX9_sum 50 = .ok (.ireturn, 1) := by decide +kernel
theorem dX9_sum_51 : decode cX9_sum 51 = .ok (.aload_n 0, 1) := by decide +kernel
theorem dX9_sum_52 : decode cX9_sum 52 = .ok (.iconst 3, 1) := by decide +kernel
theorem dX9_sum_53 : decode cX9_sum 53 = .ok (.iload_n 1, 1) := by decide +kernel
theorem dX9_sum_54 : decode cX9_sum 54 = .ok (.invokevirtual 75, 3) := by decide +kernel
theorem dX9_sum_57 : decode cX9_sum 57 = .ok (.goto (-48), 3) := by decide +kernel
theorem dX9_sum_60 : decode cX9_sum 60 = .ok (.iconst 1, 1) := by decide +kernel
theorem dX9_sum_61 : decode cX9_sum 61 = .ok (.ireturn, 1) := by decide +kernel
theorem dX9_product_0 : decode cX9_product 0 = .ok (.aload_n 0, 1) := by decide +kernel
theorem dX9_product_1 : decode cX9_product 1 = .ok (.invokevirtual 88, 3) := by decide +kernel
theorem dX9_product_4 : decode cX9_product 4 = .ok (.ifCond .ne 5, 3) := by decide +kernel
theorem dX9_product_7 : decode cX9_product 7 = .ok (.iconst 0, 1) := by decide +kernel
theorem dX9_product_8 : decode cX9_product 8 = .ok (.ireturn, 1) := by decide +kernel
theorem dX9_product_9 : decode cX9_product 9 = .ok (.aload_n 0, 1) := by decide +kernel
theorem dX9_product_10 : decode cX9_product 10 = .ok (.invokevirtual 71, 3) := by decide +kernel
theorem dX9_product_13 : decode cX9_product 13 = .ok (.bipush 42, 2) := by decide +kernel
theorem dX9_product_15 : decode cX9_product 15 = .ok (.if_icmp .eq 21, 3) := by decide +kernel
theorem dX9_product_18 : decode cX9_product 18 = .ok (.aload_n 0, 1) := by decide +kernel
theorem dX9_product_19 : decode cX9_product 19 = .ok (.invokevirtual 71, 3) := by decide +kernel
theorem dX9_product_22 : decode cX9_product 22 = .ok (.bipush 47, 2) := by decide +kernel
theorem dX9_product_24 : decode cX9_product 24 = .ok (.if_icmp .eq 12, 3) := by decide +kernel
theorem dX9_product_27 : decode cX9_product 27 = .ok (.aload_n 0, 1) := by decide +kernel
theorem dX9_product_28 : decode cX9_product 28 = .ok (.invokevirtual 71, 3) := by decide +kernel
theorem dX9_product_31 : decode cX9_product 31 = .ok (.bipush 37, 2) := by decide +kernel
theorem dX9_product_33 : decode cX9_product 33 = .ok (.if_icmp .ne 36, 3) := by decide +kernel
theorem dX9_product_36 : decode cX9_product 36 = .ok (.aload_n 0, 1) := by decide +kernel
theorem dX9_product_37 : decode cX9_product 37 = .ok (.invokevirtual 71, 3) := by decide +kernel
theorem dX9_product_40 : decode cX9_product 40 = .ok (.istore_n 1, 1) := by decide +kernel
theorem dX9_product_41 : decode cX9_product 41 = .ok (.aload_n 0, 1) := by decide +kernel
theorem dX9_product_42 : decode cX9_product 42 = .ok (.dup, 1) := by decide +kernel
theorem dX9_product_43 : decode cX9_product 43 = .ok (.getfield 57, 3) := by decide +kernel
theorem dX9_product_46 : decode cX9_product 46 = .ok (.iconst 1, 1) := by decide +kernel
theorem dX9_product_47 : decode cX9_product 47 = .ok (.iadd, 1) := by decide +kernel
theorem dX9_product_48 : decode cX9_product 48 = .ok (.putfield 57, 3) := by decide +kernel
theorem dX9_product_51 : decode cX9_product 51 = .ok (.aload_n 0, 1) := by decide +kernel
theorem dX9_product_52 : decode cX9_product 52 = .ok (.invokevirtual 88, 3) := by decide +kernel
theorem dX9_product_55 : decode cX9_product 55 = .ok (.ifCond .ne 5, 3) := by decide +kernel
theorem dX9_product_58 : decode cX9_product 58 = .ok (.iconst 0, 1) := by decide +kernel
theorem dX9_product_59 : decode cX9_product 59 = .ok (.ireturn, 1) := by decide +kernel
theorem dX9_product_60 : decode cX9_product 60 = .ok (.aload_n 0, 1) := by decide +kernel
theorem dX9_product_61 : decode cX9_product 61 = .ok (.iconst 3, 1) := by decide +kernel
theorem dX9_product_62 : decode cX9_product 62 = .ok (.iload_n 1, 1) := by decide +kernel
theorem dX9_product_63 : decode cX9_product 63 = .ok (.invokevirtual 75, 3) := by decide +kernel
theorem dX9_product_66 : decode cX9_product 66 = .ok (.goto (-57), 3) := by decide +kernel
theorem dX9_product_69 : decode cX9_product 69 = .ok (.iconst 1, 1) := by decide +kernel
theorem dX9_product_70 : decode cX9_product 70 = .ok (.ireturn, 1) := by decide +kernel
theorem dX9_opens_0 : decode cX9_opens 0 = .ok (.aload_n 0, 1) := by decide +kernel
theorem dX9_opens_1 : decode cX9_opens 1 = .ok (.getfield 91, 3) := by decide +kernel
theorem dX9_opens_4 : decode cX9_opens 4 = .ok (.iconst 5, 1) := by decide +kernel
theorem dX9_opens_5 : decode cX9_opens 5 = .ok (.if_icmp .ne 5, 3) := by decide +kernel
theorem dX9_opens_8 : decode cX9_opens 8 = .ok (.iconst 0, 1) := by decide +kernel
theorem dX9_opens_9 : decode cX9_opens 9 = .ok (.ireturn, 1) := by decide +kernel
theorem dX9_opens_10 : decode cX9_opens 10 = .ok (.aload_n 0, 1) := by decide +kernel
theorem dX9_opens_11 : decode cX9_opens 11 = .ok (.dup, 1) := by decide +kernel
theorem dX9_opens_12 : decode cX9_opens 12 = .ok (.getfield 91, 3) := by decide +kernel
theorem dX9_opens_15 : decode cX9_opens 15 = .ok (.iconst 1, 1) := by decide +kernel
theorem dX9_opens_16 : decode cX9_opens 16 = .ok (.iadd, 1) := by decide +kernel
theorem dX9_opens_17 : decode cX9_opens 17 = .ok (.putfield 91, 3) := by decide +kernel
theorem dX9_opens_20 : decode cX9_opens 20 = .ok (.aload_n 0, 1) := by decide +kernel
theorem dX9_opens_21 : decode cX9_opens 21 = .ok (.dup, 1) := by decide +kernel
theorem dX9_opens_22 : decode cX9_opens 22 = .ok (.getfield 57, 3) := by decide +kernel
theorem dX9_opens_25 : decode cX9_opens 25 = .ok (.iconst 1, 1) := by decide +kernel
theorem dX9_opens_26 : decode cX9_opens 26 = .ok (.iadd, 1) := by decide +kernel
theorem dX9_opens_27 : decode cX9_opens 27 = .ok (.putfield 57, 3) := by decide +kernel
theorem dX9_opens_30 : decode cX9_opens 30 = .ok (.iconst 1, 1) := by decide +kernel
theorem dX9_opens_31 : decode cX9_opens 31 = .ok (.ireturn, 1) := by decide +kernel
theorem dX9_one_0 : decode cX9_one 0 = .ok (.aload_n 0, 1) := by decide +kernel
theorem dX9_one_1 : decode cX9_one 1 = .ok (.invokevirtual 71, 3) := by decide +kernel
theorem dX9_one_4 : decode cX9_one 4 = .ok (.istore_n 1, 1) := by decide +kernel
theorem dX9_one_5 : decode cX9_one 5 = .ok (.aload_n 0, 1) := by decide +kernel
theorem dX9_one_6 : decode cX9_one 6 = .ok (.iload_n 1, 1) := by decide +kernel
theorem dX9_one_7 : decode cX9_one 7 = .ok (.invokevirtual 94, 3) := by decide +kernel
theorem dX9_one_10 : decode cX9_one 10 = .ok (.ifCond .eq 21, 3) := by decide +kernel
theorem dX9_one_13 : decode cX9_one 13 = .ok (.aload_n 0, 1) := by decide +kernel
theorem dX9_one_14 : decode cX9_one 14 = .ok (.dup, 1) := by decide +kernel
theorem dX9_one_15 : decode cX9_one 15 = .ok (.getfield 57, 3) := by decide +kernel
theorem dX9_one_18 : decode cX9_one 18 = .ok (.iconst 1, 1) := by decide +kernel
theorem dX9_one_19 : decode cX9_one 19 = .ok (.iadd, 1) := by decide +kernel
theorem dX9_one_20 : decode cX9_one 20 = .ok (.putfield 57, 3) := by decide +kernel
theorem dX9_one_23 : decode cX9_one 23 = .ok (.aload_n 0, 1) := by decide +kernel
theorem dX9_one_24 : decode cX9_one 24 = .ok (.iconst 1, 1) := by decide +kernel
theorem dX9_one_25 : decode cX9_one 25 = .ok (.iload_n 1, 1) := by decide +kernel
theorem dX9_one_26 : decode cX9_one 26 = .ok (.invokevirtual 75, 3) := by decide +kernel
theorem dX9_one_29 : decode cX9_one 29 = .ok (.iconst 1, 1) := by decide +kernel
theorem dX9_one_30 : decode cX9_one 30 = .ok (.ireturn, 1) := by decide +kernel
theorem dX9_one_31 : decode cX9_one 31 = .ok (.iload_n 1, 1) := by decide +kernel
theorem dX9_one_32 : decode cX9_one 32 = .ok (.bipush 48, 2) := by decide +kernel
theorem dX9_one_34 : decode cX9_one 34 = .ok (.bipush 57, 2) := by decide +kernel
theorem dX9_one_36 : decode cX9_one 36 = .ok (.invokestatic 47, 3) := by decide +kernel
theorem dX9_one_39 : decode cX9_one 39 = .ok (.ifCond .eq 63, 3) := by decide +kernel
theorem dX9_one_42 : decode cX9_one 42 = .ok (.iconst 0, 1) := by decide +kernel
theorem dX9_one_43 : decode cX9_one 43 = .ok (.istore_n 2, 1) := by decide +kernel
theorem dX9_one_44 : decode cX9_one 44 = .ok (.iconst 0, 1) := by decide +kernel
theorem dX9_one_45 : decode cX9_one 45 = .ok (.istore_n 3, 1) := by decide +kernel
theorem dX9_one_46 : decode cX9_one 46 = .ok (.iload_n 3, 1) := by decide +kernel
theorem dX9_one_47 : decode cX9_one 47 = .ok (.iconst 4, 1) := by decide +kernel
theorem dX9_one_48 : decode cX9_one 48 = .ok (.if_icmp .ge 46, 3) := by decide +kernel
theorem dX9_one_51 : decode cX9_one 51 = .ok (.aload_n 0, 1) := by decide +kernel
theorem dX9_one_52 : decode cX9_one 52 = .ok (.invokevirtual 71, 3) := by decide +kernel
theorem dX9_one_55 : decode cX9_one 55 = .ok (.bipush 48, 2) := by decide +kernel
theorem dX9_one_57 : decode cX9_one 57 = .ok (.bipush 57, 2) := by decide +kernel
theorem dX9_one_59 : decode cX9_one 59 = .ok (.invokestatic 47, 3) := by decide +kernel
theorem dX9_one_62 : decode cX9_one 62 = .ok (.ifCond .eq 32, 3) := by decide +kernel
theorem dX9_one_65 : decode cX9_one 65 = .ok (.bipush 10, 2) := by decide +kernel
theorem dX9_one_67 : decode cX9_one 67 = .ok (.iload_n 2, 1) := by decide +kernel
theorem dX9_one_68 : decode cX9_one 68 = .ok (.imul, 1) := by decide +kernel
theorem dX9_one_69 : decode cX9_one 69 = .ok (.aload_n 0, 1) := by decide +kernel
theorem dX9_one_70 : decode cX9_one 70 = .ok (.invokevirtual 71, 3) := by decide +kernel
theorem dX9_one_73 : decode cX9_one 73 = .ok (.iadd, 1) := by decide +kernel
theorem dX9_one_74 : decode cX9_one 74 = .ok (.bipush 48, 2) := by decide +kernel
theorem dX9_one_76 : decode cX9_one 76 = .ok (.isub, 1) := by decide +kernel
theorem dX9_one_77 : decode cX9_one 77 = .ok (.istore_n 2, 1) := by decide +kernel
theorem dX9_one_78 : decode cX9_one 78 = .ok (.aload_n 0, 1) := by decide +kernel
theorem dX9_one_79 : decode cX9_one 79 = .ok (.dup, 1) := by decide +kernel
theorem dX9_one_80 : decode cX9_one 80 = .ok (.getfield 57, 3) := by decide +kernel
theorem dX9_one_83 : decode cX9_one 83 = .ok (.iconst 1, 1) := by decide +kernel
theorem dX9_one_84 : decode cX9_one 84 = .ok (.iadd, 1) := by decide +kernel
theorem dX9_one_85 : decode cX9_one 85 = .ok (.putfield 57, 3) := by decide +kernel
theorem dX9_one_88 : decode cX9_one 88 = .ok (.iinc 3 1, 3) := by decide +kernel
theorem dX9_one_91 : decode cX9_one 91 = .ok (.goto (-45), 3) := by decide +kernel
theorem dX9_one_94 : decode cX9_one 94 = .ok (.aload_n 0, 1) := by decide +kernel
theorem dX9_one_95 : decode cX9_one 95 = .ok (.iconst 0, 1) := by decide +kernel
theorem dX9_one_96 : decode cX9_one 96 = .ok (.iload_n 2, 1) := by decide +kernel
theorem dX9_one_97 : decode cX9_one 97 = .ok (.invokevirtual 75, 3) := by decide +kernel
theorem dX9_one_100 : decode cX9_one 100 = .ok (.iconst 1, 1) := by decide +kernel
theorem dX9_one_101 : decode cX9_one 101 = .ok (.ireturn, 1) := by decide +kernel
theorem dX9_one_102 : decode cX9_one 102 = .ok (.iload_n 1, 1) := by decide +kernel
theorem dX9_one_103 : decode cX9_one 103 = .ok (.bipush 33, 2) := by decide +kernel
theorem dX9_one_105 : decode cX9_one 105 = .ok (.if_icmp .ne 37, 3) := by decide +kernel
theorem dX9_one_108 : decode cX9_one 108 = .ok (.aload_n 0, 1) := by decide +kernel
theorem dX9_one_109 : decode cX9_one 109 = .ok (.invokevirtual 98, 3) := by decide +kernel
theorem dX9_one_112 : decode cX9_one 112 = .ok (.ifCond .eq 10, 3) := by decide +kernel
theorem dX9_one_115 : decode cX9_one 115 = .ok (.aload_n 0, 1) := by decide +kernel
theorem dX9_one_116 : decode cX9_one 116 = .ok (.invokevirtual 88, 3) := by decide +kernel
theorem dX9_one_119 : decode cX9_one 119 = .ok (.ifCond .ne 5, 3) := by decide +kernel
theorem dX9_one_122 : decode cX9_one 122 = .ok (.iconst 0, 1) := by decide +kernel
theorem dX9_one_123 : decode cX9_one 123 = .ok (.ireturn, 1) := by decide +kernel
theorem dX9_one_124 : decode cX9_one 124 = .ok (.aload_n 0, 1) := by decide +kernel
theorem dX9_one_125 : decode cX9_one 125 = .ok (.dup, 1) := by decide +kernel
theorem dX9_one_126 : decode cX9_one 126 = .ok (.getfield 91, 3) := by decide +kernel
theorem dX9_one_129 : decode cX9_one 129 = .ok (.iconst 1, 1) := by decide +kernel
theorem dX9_one_130 : decode cX9_one 130 = .ok (.isub, 1) := by decide +kernel
theorem dX9_one_131 : decode cX9_one 131 = .ok (.putfield 91, 3) := by decide +kernel
theorem dX9_one_134 : decode cX9_one 134 = .ok (.aload_n 0, 1) := by decide +kernel
theorem dX9_one_135 : decode cX9_one 135 = .ok (.iconst 2, 1) := by decide +kernel
theorem dX9_one_136 : decode cX9_one 136 = .ok (.iconst 0, 1) := by decide +kernel
theorem dX9_one_137 : decode cX9_one 137 = .ok (.invokevirtual 75, 3) := by decide +kernel
theorem dX9_one_140 : decode cX9_one 140 = .ok (.iconst 1, 1) := by decide +kernel
theorem dX9_one_141 : decode cX9_one 141 = .ok (.ireturn, 1) := by decide +kernel
theorem dX9_one_142 : decode cX9_one 142 = .ok (.iload_n 1, 1) := by decide +kernel
theorem dX9_one_143 : decode cX9_one 143 = .ok (.bipush 40, 2) := by decide +kernel
theorem dX9_one_145 : decode cX9_one 145 = .ok (.if_icmp .ne 26, 3) := by decide +kernel
theorem dX9_one_148 : decode cX9_one 148 = .ok (.aload_n 0, 1) := by decide +kernel
theorem dX9_one_149 : decode cX9_one 149 = .ok (.invokevirtual 98, 3) := by decide +kernel
theorem dX9_one_152 : decode cX9_one 152 = .ok (.ifCond .eq 19, 3) := by decide +kernel
theorem dX9_one_155 : decode cX9_one 155 = .ok (.aload_n 0, 1) := by decide +kernel
theorem dX9_one_156 : decode cX9_one 156 = .ok (.invokevirtual 101, 3) := by decide +kernel
theorem dX9_one_159 : decode cX9_one 159 = .ok (.ifCond .eq 12, 3) := by decide +kernel
theorem dX9_one_162 : decode cX9_one 162 = .ok (.aload_n 0, 1) := by decide +kernel
theorem dX9_one_163 : decode cX9_one 163 = .ok (.invokevirtual 71, 3) := by decide +kernel
theorem dX9_one_166 : decode cX9_one 166 = .ok (.bipush 41, 2) := by decide +kernel
theorem dX9_one_168 : decode cX9_one 168 = .ok (.if_icmp .eq 5, 3) := by decide +kernel
theorem dX9_one_171 : decode cX9_one 171 = .ok (.iconst 0, 1) := by decide +kernel
theorem dX9_one_172 : decode cX9_one 172 = .ok (.ireturn, 1) := by decide +kernel
theorem dX9_one_173 : decode cX9_one 173 = .ok (.aload_n 0, 1) := by decide +kernel
theorem dX9_one_174 : decode cX9_one 174 = .ok (.dup, 1) := by decide +kernel
theorem dX9_one_175 : decode cX9_one 175 = .ok (.getfield 57, 3) := by decide +kernel
theorem dX9_one_178 : decode cX9_one 178 = .ok (.iconst 1, 1) := by decide +kernel
theorem dX9_one_179 : decode cX9_one 179 = .ok (.iadd, 1) := by decide +kernel
theorem dX9_one_180 : decode cX9_one 180 = .ok (.putfield 57, 3) := by decide +kernel
theorem dX9_one_183 : decode cX9_one 183 = .ok (.aload_n 0, 1) := by decide +kernel
theorem dX9_one_184 : decode cX9_one 184 = .ok (.dup, 1) := by decide +kernel
theorem dX9_one_185 : decode cX9_one 185 = .ok (.getfield 91, 3) := by decide +kernel
theorem dX9_one_188 : decode cX9_one 188 = .ok (.iconst 1, 1) := by decide +kernel
theorem dX9_one_189 : decode cX9_one 189 = .ok (.isub, 1) := by decide +kernel
theorem dX9_one_190 : decode cX9_one 190 = .ok (.putfield 91, 3) := by decide +kernel
theorem dX9_one_193 : decode cX9_one 193 = .ok (.iconst 1, 1) := by decide +kernel
theorem dX9_one_194 : decode cX9_one 194 = .ok (.ireturn, 1) := by decide +kernel
theorem dX9_hasText_0 : decode cX9_hasText 0 = .ok (.aload_n 0, 1) := by decide +kernel
theorem dX9_hasText_1 : decode cX9_hasText 1 = .ok (.getfield 7, 3) := by decide +kernel
theorem dX9_hasText_4 : decode cX9_hasText 4 = .ok (.bipush 49, 2) := by decide +kernel
theorem dX9_hasText_6 : decode cX9_hasText 6 = .ok (.bipush 125, 2) := by decide +kernel
theorem dX9_hasText_8 : decode cX9_hasText 8 = .ok (.iload_n 1, 1) := by decide +kernel
theorem dX9_hasText_9 : decode cX9_hasText 9 = .ok (.imul, 1) := by decide +kernel
theorem dX9_hasText_10 : decode cX9_hasText 10 = .ok (.iadd, 1) := by decide +kernel
theorem dX9_hasText_11 : decode cX9_hasText 11 = .ok (.iaload, 1) := by decide +kernel
theorem dX9_hasText_12 : decode cX9_hasText 12 = .ok (.ifCond .le 7, 3) := by decide +kernel
theorem dX9_hasText_15 : decode cX9_hasText 15 = .ok (.iconst 1, 1) := by decide +kernel
theorem dX9_hasText_16 : decode cX9_hasText 16 = .ok (.goto 4, 3) := by decide +kernel
theorem dX9_hasText_19 : decode cX9_hasText 19 = .ok (.iconst 0, 1) := by decide +kernel
theorem dX9_hasText_20 : decode cX9_hasText 20 = .ok (.ireturn, 1) := by decide +kernel
theorem dX9_text_0 : decode cX9_text 0 = .ok (.iload_n 1, 1) := by decide +kernel
theorem dX9_text_1 : decode cX9_text 1 = .ok (.iconst 0, 1) := by decide +kernel
theorem dX9_text_2 : decode cX9_text 2 = .ok (.iconst 1, 1) := by decide +kernel
theorem dX9_text_3 : decode cX9_text 3 = .ok (.invokestatic 47, 3) := by decide +kernel
theorem dX9_text_6 : decode cX9_text 6 = .ok (.ifCond .ne 9, 3) := by decide +kernel
theorem dX9_text_9 : decode cX9_text 9 = .ok (.aload_n 0, 1) := by decide +kernel
theorem dX9_text_10 : decode cX9_text 10 = .ok (.iconst 1, 1) := by decide +kernel
theorem dX9_text_11 : decode cX9_text 11 = .ok (.invokevirtual 51, 3) := by decide +kernel
theorem dX9_text_14 : decode cX9_text 14 = .ok (.ireturn, 1) := by decide +kernel
theorem dX9_text_15 : decode cX9_text 15 = .ok (.aload_n 0, 1) := by decide +kernel
theorem dX9_text_16 : decode cX9_text 16 = .ok (.iload_n 1, 1) := by decide +kernel
theorem dX9_text_17 : decode cX9_text 17 = .ok (.putfield 61, 3) := by decide +kernel
theorem dX9_text_20 : decode cX9_text 20 = .ok (.aload_n 0, 1) := by decide +kernel
theorem dX9_text_21 : decode cX9_text 21 = .ok (.iconst 0, 1) := by decide +kernel
theorem dX9_text_22 : decode cX9_text 22 = .ok (.putfield 57, 3) := by decide +kernel
theorem dX9_text_25 : decode cX9_text 25 = .ok (.aload_n 0, 1) := by decide +kernel
theorem dX9_text_26 : decode cX9_text 26 = .ok (.iconst 0, 1) := by decide +kernel
theorem dX9_text_27 : decode cX9_text 27 = .ok (.putfield 91, 3) := by decide +kernel
theorem dX9_text_30 : decode cX9_text 30 = .ok (.aload_n 0, 1) := by decide +kernel
theorem dX9_text_31 : decode cX9_text 31 = .ok (.iconst 0, 1) := by decide +kernel
theorem dX9_text_32 : decode cX9_text 32 = .ok (.putfield 64, 3) := by decide +kernel
theorem dX9_text_35 : decode cX9_text 35 = .ok (.aload_n 0, 1) := by decide +kernel
theorem dX9_text_36 : decode cX9_text 36 = .ok (.invokevirtual 101, 3) := by decide +kernel
theorem dX9_text_39 : decode cX9_text 39 = .ok (.ifCond .eq 21, 3) := by decide +kernel
theorem dX9_text_42 : decode cX9_text 42 = .ok (.aload_n 0, 1) := by decide +kernel
theorem dX9_text_43 : decode cX9_text 43 = .ok (.getfield 57, 3) := by decide +kernel
theorem dX9_text_46 : decode cX9_text 46 = .ok (.aload_n 0, 1) := by decide +kernel
theorem dX9_text_47 : decode cX9_text 47 = .ok (.getfield 7, 3) := by decide +kernel
theorem dX9_text_50 : decode cX9_text 50 = .ok (.bipush 6, 2) := by decide +kernel
theorem dX9_text_52 : decode cX9_text 52 = .ok (.iaload, 1) := by decide +kernel
theorem dX9_text_53 : decode cX9_text 53 = .ok (.if_icmp .ne 7, 3) := by decide +kernel
theorem dX9_text_56 : decode cX9_text 56 = .ok (.iconst 1, 1) := by decide +kernel
theorem dX9_text_57 : decode cX9_text 57 = .ok (.goto 4, 3) := by decide +kernel
theorem dX9_text_60 : decode cX9_text 60 = .ok (.iconst 0, 1) := by decide +kernel
theorem dX9_text_61 : decode cX9_text 61 = .ok (.istore_n 2, 1) := by decide +kernel
theorem dX9_text_62 : decode cX9_text 62 = .ok (.aload_n 0, 1) := by decide +kernel
theorem dX9_text_63 : decode cX9_text 63 = .ok (.getfield 7, 3) := by decide +kernel
theorem dX9_text_66 : decode cX9_text 66 = .ok (.bipush 6, 2) := by decide +kernel
theorem dX9_text_68 : decode cX9_text 68 = .ok (.iconst 0, 1) := by decide +kernel
theorem dX9_text_69 : decode cX9_text 69 = .ok (.iastore, 1) := by decide +kernel
theorem dX9_text_70 : decode cX9_text 70 = .ok (.iload_n 2, 1) := by decide +kernel
theorem dX9_text_71 : decode cX9_text 71 = .ok (.ifCond .ne 11, 3) := by decide +kernel
theorem dX9_text_74 : decode cX9_text 74 = .ok (.bipush (-10), 2) := by decide +kernel
theorem dX9_text_76 : decode cX9_text 76 = .ok (.aload_n 0, 1) := by decide +kernel
theorem dX9_text_77 : decode cX9_text 77 = .ok (.getfield 57, 3) := by decide +kernel
theorem dX9_text_80 : decode cX9_text 80 = .ok (.isub, 1) := by decide +kernel
theorem dX9_text_81 : decode cX9_text 81 = .ok (.ireturn, 1) := by decide +kernel
theorem dX9_text_82 : decode cX9_text 82 = .ok (.bipush 49, 2) := by decide +kernel
theorem dX9_text_84 : decode cX9_text 84 = .ok (.bipush 125, 2) := by decide +kernel
theorem dX9_text_86 : decode cX9_text 86 = .ok (.iload_n 1, 1) := by decide +kernel
theorem dX9_text_87 : decode cX9_text 87 = .ok (.imul, 1) := by decide +kernel
theorem dX9_text_88 : decode cX9_text 88 = .ok (.iadd, 1) := by decide +kernel
theorem dX9_text_89 : decode cX9_text 89 = .ok (.istore_n 3, 1) := by decide +kernel
theorem dX9_text_90 : decode cX9_text 90 = .ok (.aload_n 0, 1) := by decide +kernel
theorem dX9_text_91 : decode cX9_text 91 = .ok (.getfield 7, 3) := by decide +kernel
theorem dX9_text_94 : decode cX9_text 94 = .ok (.iload_n 3, 1) := by decide +kernel
theorem dX9_text_95 : decode cX9_text 95 = .ok (.aload_n 0, 1) := by decide +kernel
theorem dX9_text_96 : decode cX9_text 96 = .ok (.getfield 64, 3) := by decide +kernel
theorem dX9_text_99 : decode cX9_text 99 = .ok (.iastore, 1) := by decide +kernel
theorem dX9_text_100 : decode cX9_text 100 = .ok (.iconst 0, 1) := by decide +kernel
theorem dX9_text_101 : decode cX9_text 101 = .ok (.istore 4, 2) := by decide +kernel
theorem dX9_text_103 : decode cX9_text 103 = .ok (.iload 4, 2) := by decide +kernel
theorem dX9_text_105 : decode cX9_text 105 = .ok (.iconst 2, 1) := by decide +kernel
theorem dX9_text_106 : decode cX9_text 106 = .ok (.aload_n 0, 1) := by decide +kernel
theorem dX9_text_107 : decode cX9_text 107 = .ok (.getfield 64, 3) := by decide +kernel
theorem dX9_text_110 : decode cX9_text 110 = .ok (.imul, 1) := by decide +kernel
theorem dX9_text_111 : decode cX9_text 111 = .ok (.if_icmp .ge 27, 3) := by decide +kernel
theorem dX9_text_114 : decode cX9_text 114 = .ok (.aload_n 0, 1) := by decide +kernel
theorem dX9_text_115 : decode cX9_text 115 = .ok (.getfield 7, 3) := by decide +kernel
theorem dX9_text_118 : decode cX9_text 118 = .ok (.iload_n 3, 1) := by decide +kernel
theorem dX9_text_119 : decode cX9_text 119 = .ok (.iconst 1, 1) := by decide +kernel
theorem dX9_text_120 : decode cX9_text 120 = .ok (.iadd, 1) := by decide +kernel
theorem dX9_text_121 : decode cX9_text 121 = .ok (.iload 4, 2) := by decide +kernel
theorem dX9_text_123 : decode cX9_text 123 = .ok (.iadd, 1) := by decide +kernel
theorem dX9_text_124 : decode cX9_text 124 = .ok (.aload_n 0, 1) := by decide +kernel
theorem dX9_text_125 : decode cX9_text 125 = .ok (.getfield 22, 3) := by decide +kernel
theorem dX9_text_128 : decode cX9_text 128 = .ok (.iload 4, 2) := by decide +kernel
theorem dX9_text_130 : decode cX9_text 130 = .ok (.iaload, 1) := by decide +kernel
theorem dX9_text_131 : decode cX9_text 131 = .ok (.iastore, 1) := by decide +kernel
theorem dX9_text_132 : decode cX9_text 132 = .ok (.iinc 4 1, 3) := by decide +kernel
theorem dX9_text_135 : decode cX9_text 135 = .ok (.goto (-32), 3) := by decide +kernel
theorem dX9_text_138 : decode cX9_text 138 = .ok (.iconst 1, 1) := by decide +kernel
theorem dX9_text_139 : decode cX9_text 139 = .ok (.ireturn, 1) := by decide +kernel
theorem dX9_untell_0 : decode cX9_untell 0 = .ok (.iload_n 1, 1) := by decide +kernel
theorem dX9_untell_1 : decode cX9_untell 1 = .ok (.iconst 0, 1) := by decide +kernel
theorem dX9_untell_2 : decode cX9_untell 2 = .ok (.iconst 1, 1) := by decide +kernel
theorem dX9_untell_3 : decode cX9_untell 3 = .ok (.invokestatic 47, 3) := by decide +kernel
theorem dX9_untell_6 : decode cX9_untell 6 = .ok (.ifCond .ne 9, 3) := by decide +kernel
theorem dX9_untell_9 : decode cX9_untell 9 = .ok (.aload_n 0, 1) := by decide +kernel
theorem dX9_untell_10 : decode cX9_untell 10 = .ok (.iconst 1, 1) := by decide +kernel
theorem dX9_untell_11 : decode cX9_untell 11 = .ok (.invokevirtual 51, 3) := by decide +kernel
theorem dX9_untell_14 : decode cX9_untell 14 = .ok (.ireturn, 1) := by decide +kernel
theorem dX9_untell_15 : decode cX9_untell 15 = .ok (.aload_n 0, 1) := by decide +kernel
theorem dX9_untell_16 : decode cX9_untell 16 = .ok (.iload_n 1, 1) := by decide +kernel
theorem dX9_untell_17 : decode cX9_untell 17 = .ok (.invokevirtual 104, 3) := by decide +kernel
theorem dX9_untell_20 : decode cX9_untell 20 = .ok (.ifCond .eq 7, 3) := by decide +kernel
theorem dX9_untell_23 : decode cX9_untell 23 = .ok (.iconst 1, 1) := by decide +kernel
theorem dX9_untell_24 : decode cX9_untell 24 = .ok (.goto 4, 3) := by decide +kernel
theorem dX9_untell_27 : decode cX9_untell 27 = .ok (.iconst 0, 1) := by decide +kernel
theorem dX9_untell_28 : decode cX9_untell 28 = .ok (.istore_n 2, 1) := by decide +kernel
theorem dX9_untell_29 : decode cX9_untell 29 = .ok (.aload_n 0, 1) := by decide +kernel
theorem dX9_untell_30 : decode cX9_untell 30 = .ok (.getfield 7, 3) := by decide +kernel
theorem dX9_untell_33 : decode cX9_untell 33 = .ok (.bipush 49, 2) := by decide +kernel
theorem dX9_untell_35 : decode cX9_untell 35 = .ok (.bipush 125, 2) := by decide +kernel
theorem dX9_untell_37 : decode cX9_untell 37 = .ok (.iload_n 1, 1) := by decide +kernel
theorem dX9_untell_38 : decode cX9_untell 38 = .ok (.imul, 1) := by decide +kernel
theorem dX9_untell_39 : decode cX9_untell 39 = .ok (.iadd, 1) := by decide +kernel
theorem dX9_untell_40 : decode cX9_untell 40 = .ok (.iconst 0, 1) := by decide +kernel
theorem dX9_untell_41 : decode cX9_untell 41 = .ok (.iastore, 1) := by decide +kernel
theorem dX9_untell_42 : decode cX9_untell 42 = .ok (.iload_n 2, 1) := by decide +kernel
theorem dX9_untell_43 : decode cX9_untell 43 = .ok (.ireturn, 1) := by decide +kernel
theorem dX9_joined_0 : decode cX9_joined 0 = .ok (.iload_n 0, 1) := by decide +kernel
theorem dX9_joined_1 : decode cX9_joined 1 = .ok (.tableswitch 217 37 62 #[153, 203, 217, 217, 217, 127, 119, 217, 123, 217, 131, 217, 217, 217, 217, 217, 217, 217, 217, 217, 217, 217, 217, 170, 192, 181], 119) := by decide +kernel
theorem dX9_joined_120 : decode cX9_joined 120 = .ok (.iload_n 1, 1) := by decide +kernel
theorem dX9_joined_121 : decode cX9_joined 121 = .ok (.iload_n 2, 1) := by decide +kernel
theorem dX9_joined_122 : decode cX9_joined 122 = .ok (.iadd, 1) := by decide +kernel
theorem dX9_joined_123 : decode cX9_joined 123 = .ok (.ireturn, 1) := by decide +kernel
theorem dX9_joined_124 : decode cX9_joined 124 = .ok (.iload_n 1, 1) := by decide +kernel
theorem dX9_joined_125 : decode cX9_joined 125 = .ok (.iload_n 2, 1) := by decide +kernel
theorem dX9_joined_126 : decode cX9_joined 126 = .ok (.isub, 1) := by decide +kernel
theorem dX9_joined_127 : decode cX9_joined 127 = .ok (.ireturn, 1) := by decide +kernel
theorem dX9_joined_128 : decode cX9_joined 128 = .ok (.iload_n 1, 1) := by decide +kernel
theorem dX9_joined_129 : decode cX9_joined 129 = .ok (.iload_n 2, 1) := by decide +kernel
theorem dX9_joined_130 : decode cX9_joined 130 = .ok (.imul, 1) := by decide +kernel
theorem dX9_joined_131 : decode cX9_joined 131 = .ok (.ireturn, 1) := by decide +kernel
theorem dX9_joined_132 : decode cX9_joined 132 = .ok (.iload_n 2, 1) := by decide +kernel
theorem dX9_joined_133 : decode cX9_joined 133 = .ok (.ifCond .ne 7, 3) := by decide +kernel
theorem dX9_joined_136 : decode cX9_joined 136 = .ok (.iconst 0, 1) := by decide +kernel
theorem dX9_joined_137 : decode cX9_joined 137 = .ok (.goto 16, 3) := by decide +kernel
theorem dX9_joined_140 : decode cX9_joined 140 = .ok (.iload_n 2, 1) := by decide +kernel
theorem dX9_joined_141 : decode cX9_joined 141 = .ok (.iconst (-1), 1) := by decide +kernel
theorem dX9_joined_142 : decode cX9_joined 142 = .ok (.if_icmp .ne 8, 3) := by decide +kernel
theorem dX9_joined_145 : decode cX9_joined 145 = .ok (.iload_n 1, 1) := by decide +kernel
theorem dX9_joined_146 : decode cX9_joined 146 = .ok (.ineg, 1) := by decide +kernel
theorem dX9_joined_147 : decode cX9_joined 147 = .ok (.goto 6, 3) := by decide +kernel
theorem dX9_joined_150 : decode cX9_joined 150 = .ok (.iload_n 1, 1) := by decide +kernel
theorem dX9_joined_151 : decode cX9_joined 151 = .ok (.iload_n 2, 1) := by decide +kernel
theorem dX9_joined_152 : decode cX9_joined 152 = .ok (.idiv, 1) := by decide +kernel
theorem dX9_joined_153 : decode cX9_joined 153 = .ok (.ireturn, 1) := by decide +kernel
theorem dX9_joined_154 : decode cX9_joined 154 = .ok (.iload_n 2, 1) := by decide +kernel
theorem dX9_joined_155 : decode cX9_joined 155 = .ok (.ifCond .eq 8, 3) := by decide +kernel
theorem dX9_joined_158 : decode cX9_joined 158 = .ok (.iload_n 2, 1) := by decide +kernel
theorem dX9_joined_159 : decode cX9_joined 159 = .ok (.iconst (-1), 1) := by decide +kernel
theorem dX9_joined_160 : decode cX9_joined 160 = .ok (.if_icmp .ne 7, 3) := by decide +kernel
theorem dX9_joined_163 : decode cX9_joined 163 = .ok (.iconst 0, 1) := by decide +kernel
theorem dX9_joined_164 : decode cX9_joined 164 = .ok (.goto 6, 3) := by decide +kernel
theorem dX9_joined_167 : decode cX9_joined 167 = .ok (.iload_n 1, 1) := by decide +kernel
theorem dX9_joined_168 : decode cX9_joined 168 = .ok (.iload_n 2, 1) := by decide +kernel
theorem dX9_joined_169 : decode cX9_joined 169 = .ok (.irem, 1) := by decide +kernel
theorem dX9_joined_170 : decode cX9_joined 170 = .ok (.ireturn, 1) := by decide +kernel
theorem dX9_joined_171 : decode cX9_joined 171 = .ok (.iload_n 1, 1) := by decide +kernel
theorem dX9_joined_172 : decode cX9_joined 172 = .ok (.iload_n 2, 1) := by decide +kernel
theorem dX9_joined_173 : decode cX9_joined 173 = .ok (.if_icmp .ge 7, 3) := by decide +kernel
theorem dX9_joined_176 : decode cX9_joined 176 = .ok (.iconst 1, 1) := by decide +kernel
theorem dX9_joined_177 : decode cX9_joined 177 = .ok (.goto 4, 3) := by decide +kernel
theorem dX9_joined_180 : decode cX9_joined 180 = .ok (.iconst 0, 1) := by decide +kernel
theorem dX9_joined_181 : decode cX9_joined 181 = .ok (.ireturn, 1) := by decide +kernel
theorem dX9_joined_182 : decode cX9_joined 182 = .ok (.iload_n 1, 1) := by decide +kernel
theorem dX9_joined_183 : decode cX9_joined 183 = .ok (.iload_n 2, 1) := by decide +kernel
theorem dX9_joined_184 : decode cX9_joined 184 = .ok (.if_icmp .le 7, 3) := by decide +kernel
theorem dX9_joined_187 : decode cX9_joined 187 = .ok (.iconst 1, 1) := by decide +kernel
theorem dX9_joined_188 : decode cX9_joined 188 = .ok (.goto 4, 3) := by decide +kernel
theorem dX9_joined_191 : decode cX9_joined 191 = .ok (.iconst 0, 1) := by decide +kernel
theorem dX9_joined_192 : decode cX9_joined 192 = .ok (.ireturn, 1) := by decide +kernel
theorem dX9_joined_193 : decode cX9_joined 193 = .ok (.iload_n 1, 1) := by decide +kernel
theorem dX9_joined_194 : decode cX9_joined 194 = .ok (.iload_n 2, 1) := by decide +kernel
theorem dX9_joined_195 : decode cX9_joined 195 = .ok (.if_icmp .ne 7, 3) := by decide +kernel
theorem dX9_joined_198 : decode cX9_joined 198 = .ok (.iconst 1, 1) := by decide +kernel
theorem dX9_joined_199 : decode cX9_joined 199 = .ok (.goto 4, 3) := by decide +kernel
theorem dX9_joined_202 : decode cX9_joined 202 = .ok (.iconst 0, 1) := by decide +kernel
theorem dX9_joined_203 : decode cX9_joined 203 = .ok (.ireturn, 1) := by decide +kernel
theorem dX9_joined_204 : decode cX9_joined 204 = .ok (.iload_n 1, 1) := by decide +kernel
theorem dX9_joined_205 : decode cX9_joined 205 = .ok (.ifCond .eq 11, 3) := by decide +kernel
theorem dX9_joined_208 : decode cX9_joined 208 = .ok (.iload_n 2, 1) := by decide +kernel
theorem dX9_joined_209 : decode cX9_joined 209 = .ok (.ifCond .eq 7, 3) := by decide +kernel
theorem dX9_joined_212 : decode cX9_joined 212 = .ok (.iconst 1, 1) := by decide +kernel
theorem dX9_joined_213 : decode cX9_joined 213 = .ok (.goto 4, 3) := by decide +kernel
theorem dX9_joined_216 : decode cX9_joined 216 = .ok (.iconst 0, 1) := by decide +kernel
theorem dX9_joined_217 : decode cX9_joined 217 = .ok (.ireturn, 1) := by decide +kernel
theorem dX9_joined_218 : decode cX9_joined 218 = .ok (.iload_n 1, 1) := by decide +kernel
theorem dX9_joined_219 : decode cX9_joined 219 = .ok (.ifCond .ne 7, 3) := by decide +kernel
theorem dX9_joined_222 : decode cX9_joined 222 = .ok (.iload_n 2, 1) := by decide +kernel
theorem dX9_joined_223 : decode cX9_joined 223 = .ok (.ifCond .eq 7, 3) := by decide +kernel
theorem dX9_joined_226 : decode cX9_joined 226 = .ok (.iconst 1, 1) := by decide +kernel
theorem dX9_joined_227 : decode cX9_joined 227 = .ok (.goto 4, 3) := by decide +kernel
theorem dX9_joined_230 : decode cX9_joined 230 = .ok (.iconst 0, 1) := by decide +kernel
theorem dX9_joined_231 : decode cX9_joined 231 = .ok (.ireturn, 1) := by decide +kernel
theorem dX9_worked_0 : decode cX9_worked 0 = .ok (.bipush 49, 2) := by decide +kernel
theorem dX9_worked_2 : decode cX9_worked 2 = .ok (.bipush 125, 2) := by decide +kernel
theorem dX9_worked_4 : decode cX9_worked 4 = .ok (.iload_n 1, 1) := by decide +kernel
theorem dX9_worked_5 : decode cX9_worked 5 = .ok (.imul, 1) := by decide +kernel
theorem dX9_worked_6 : decode cX9_worked 6 = .ok (.iadd, 1) := by decide +kernel
theorem dX9_worked_7 : decode cX9_worked 7 = .ok (.istore_n 2, 1) := by decide +kernel
theorem dX9_worked_8 : decode cX9_worked 8 = .ok (.iconst 0, 1) := by decide +kernel
theorem dX9_worked_9 : decode cX9_worked 9 = .ok (.istore_n 3, 1) := by decide +kernel
theorem dX9_worked_10 : decode cX9_worked 10 = .ok (.iconst 0, 1) := by decide +kernel
theorem dX9_worked_11 : decode cX9_worked 11 = .ok (.istore 4, 2) := by decide +kernel
theorem dX9_worked_13 : decode cX9_worked 13 = .ok (.iload 4, 2) := by decide +kernel
theorem dX9_worked_15 : decode cX9_worked 15 = .ok (.aload_n 0, 1) := by decide +kernel
theorem dX9_worked_16 : decode cX9_worked 16 = .ok (.getfield 7, 3) := by decide +kernel
theorem dX9_worked_19 : decode cX9_worked 19 = .ok (.iload_n 2, 1) := by decide +kernel
theorem dX9_worked_20 : decode cX9_worked 20 = .ok (.iaload, 1) := by decide +kernel
theorem dX9_worked_21 : decode cX9_worked 21 = .ok (.if_icmp .ge 142, 3) := by decide +kernel
theorem dX9_worked_24 : decode cX9_worked 24 = .ok (.aload_n 0, 1) := by decide +kernel
theorem dX9_worked_25 : decode cX9_worked 25 = .ok (.getfield 7, 3) := by decide +kernel
theorem dX9_worked_28 : decode cX9_worked 28 = .ok (.iload_n 2, 1) := by decide +kernel
theorem dX9_worked_29 : decode cX9_worked 29 = .ok (.iconst 1, 1) := by decide +kernel
theorem dX9_worked_30 : decode cX9_worked 30 = .ok (.iadd, 1) := by decide +kernel
theorem dX9_worked_31 : decode cX9_worked 31 = .ok (.iconst 2, 1) := by decide +kernel
theorem dX9_worked_32 : decode cX9_worked 32 = .ok (.iload 4, 2) := by decide +kernel
theorem dX9_worked_34 : decode cX9_worked 34 = .ok (.imul, 1) := by decide +kernel
theorem dX9_worked_35 : decode cX9_worked 35 = .ok (.iadd, 1) := by decide +kernel
theorem dX9_worked_36 : decode cX9_worked 36 = .ok (.iaload, 1) := by decide +kernel
theorem dX9_worked_37 : decode cX9_worked 37 = .ok (.istore 5, 2) := by decide +kernel
theorem dX9_worked_39 : decode cX9_worked 39 = .ok (.aload_n 0, 1) := by decide +kernel
theorem dX9_worked_40 : decode cX9_worked 40 = .ok (.getfield 7, 3) := by decide +kernel
theorem dX9_worked_43 : decode cX9_worked 43 = .ok (.iload_n 2, 1) := by decide +kernel
theorem dX9_worked_44 : decode cX9_worked 44 = .ok (.iconst 2, 1) := by decide +kernel
theorem dX9_worked_45 : decode cX9_worked 45 = .ok (.iadd, 1) := by decide +kernel
theorem dX9_worked_46 : decode cX9_worked 46 = .ok (.iconst 2, 1) := by decide +kernel
theorem dX9_worked_47 : decode cX9_worked 47 = .ok (.iload 4, 2) := by decide +kernel
theorem dX9_worked_49 : decode cX9_worked 49 = .ok (.imul, 1) := by decide +kernel
theorem dX9_worked_50 : decode cX9_worked 50 = .ok (.iadd, 1) := by decide +kernel
theorem dX9_worked_51 : decode cX9_worked 51 = .ok (.iaload, 1) := by decide +kernel
theorem dX9_worked_52 : decode cX9_worked 52 = .ok (.istore 6, 2) := by decide +kernel
theorem dX9_worked_54 : decode cX9_worked 54 = .ok (.iload 5, 2) := by decide +kernel
theorem dX9_worked_56 : decode cX9_worked 56 = .ok (.ifCond .eq 9, 3) := by decide +kernel
theorem dX9_worked_59 : decode cX9_worked 59 = .ok (.iload 5, 2) := by decide +kernel
theorem dX9_worked_61 : decode cX9_worked 61 = .ok (.iconst 1, 1) := by decide +kernel
theorem dX9_worked_62 : decode cX9_worked 62 = .ok (.if_icmp .ne 32, 3) := by decide +kernel
theorem dX9_worked_65 : decode cX9_worked 65 = .ok (.aload_n 0, 1) := by decide +kernel
theorem dX9_worked_66 : decode cX9_worked 66 = .ok (.getfield 28, 3) := by decide +kernel
theorem dX9_worked_69 : decode cX9_worked 69 = .ok (.iload_n 3, 1) := by decide +kernel
theorem dX9_worked_70 : decode cX9_worked 70 = .ok (.iload 5, 2) := by decide +kernel
theorem dX9_worked_72 : decode cX9_worked 72 = .ok (.ifCond .ne 8, 3) := by decide +kernel
theorem dX9_worked_75 : decode cX9_worked 75 = .ok (.iload 6, 2) := by decide +kernel
theorem dX9_worked_77 : decode cX9_worked 77 = .ok (.goto 10, 3) := by decide +kernel
theorem dX9_worked_80 : decode cX9_worked 80 = .ok (.aload_n 0, 1) := by decide +kernel
theorem dX9_worked_81 : decode cX9_worked 81 = .ok (.getfield 25, 3) := by decide +kernel
theorem dX9_worked_84 : decode cX9_worked 84 = .ok (.iload 6, 2) := by decide +kernel
theorem dX9_worked_86 : decode cX9_worked 86 = .ok (.iaload, 1) := by decide +kernel
theorem dX9_worked_87 : decode cX9_worked 87 = .ok (.iastore, 1) := by decide +kernel
theorem dX9_worked_88 : decode cX9_worked 88 = .ok (.iinc 3 1, 3) := by decide +kernel
theorem dX9_worked_91 : decode cX9_worked 91 = .ok (.goto 66, 3) := by decide +kernel
theorem dX9_worked_94 : decode cX9_worked 94 = .ok (.iload 5, 2) := by decide +kernel
theorem dX9_worked_96 : decode cX9_worked 96 = .ok (.iconst 2, 1) := by decide +kernel
theorem dX9_worked_97 : decode cX9_worked 97 = .ok (.if_icmp .ne 30, 3) := by decide +kernel
theorem dX9_worked_100 : decode cX9_worked 100 = .ok (.aload_n 0, 1) := by decide +kernel
theorem dX9_worked_101 : decode cX9_worked 101 = .ok (.getfield 28, 3) := by decide +kernel
theorem dX9_worked_104 : decode cX9_worked 104 = .ok (.iload_n 3, 1) := by decide +kernel
theorem dX9_worked_105 : decode cX9_worked 105 = .ok (.iconst 1, 1) := by decide +kernel
theorem dX9_worked_106 : decode cX9_worked 106 = .ok (.isub, 1) := by decide +kernel
theorem dX9_worked_107 : decode cX9_worked 107 = .ok (.aload_n 0, 1) := by decide +kernel
theorem dX9_worked_108 : decode cX9_worked 108 = .ok (.getfield 28, 3) := by decide +kernel
theorem dX9_worked_111 : decode cX9_worked 111 = .ok (.iload_n 3, 1) := by decide +kernel
theorem dX9_worked_112 : decode cX9_worked 112 = .ok (.iconst 1, 1) := by decide +kernel
theorem dX9_worked_113 : decode cX9_worked 113 = .ok (.isub, 1) := by decide +kernel
theorem dX9_worked_114 : decode cX9_worked 114 = .ok (.iaload, 1) := by decide +kernel
theorem dX9_worked_115 : decode cX9_worked 115 = .ok (.ifCond .ne 7, 3) := by decide +kernel
theorem dX9_worked_118 : decode cX9_worked 118 = .ok (.iconst 1, 1) := by decide +kernel
theorem dX9_worked_119 : decode cX9_worked 119 = .ok (.goto 4, 3) := by decide +kernel
theorem dX9_worked_122 : decode cX9_worked 122 = .ok (.iconst 0, 1) := by decide +kernel
theorem dX9_worked_123 : decode cX9_worked 123 = .ok (.iastore, 1) := by decide +kernel
theorem dX9_worked_124 : decode cX9_worked 124 = .ok (.goto 33, 3) := by decide +kernel
theorem dX9_worked_127 : decode cX9_worked 127 = .ok (.iinc 3 (-1), 3) := by decide +kernel
theorem dX9_worked_130 : decode cX9_worked 130 = .ok (.aload_n 0, 1) := by decide +kernel
theorem dX9_worked_131 : decode cX9_worked 131 = .ok (.getfield 28, 3) := by decide +kernel
theorem dX9_worked_134 : decode cX9_worked 134 = .ok (.iload_n 3, 1) := by decide +kernel
theorem dX9_worked_135 : decode cX9_worked 135 = .ok (.iconst 1, 1) := by decide +kernel
theorem dX9_worked_136 : decode cX9_worked 136 = .ok (.isub, 1) := by decide +kernel
theorem dX9_worked_137 : decode cX9_worked 137 = .ok (.iload 6, 2) := by decide +kernel
theorem dX9_worked_139 : decode cX9_worked 139 = .ok (.aload_n 0, 1) := by decide +kernel
theorem dX9_worked_140 : decode cX9_worked 140 = .ok (.getfield 28, 3) := by decide +kernel
theorem dX9_worked_143 : decode cX9_worked 143 = .ok (.iload_n 3, 1) := by decide +kernel
theorem dX9_worked_144 : decode cX9_worked 144 = .ok (.iconst 1, 1) := by decide +kernel
theorem dX9_worked_145 : decode cX9_worked 145 = .ok (.isub, 1) := by decide +kernel
theorem dX9_worked_146 : decode cX9_worked 146 = .ok (.iaload, 1) := by decide +kernel
theorem dX9_worked_147 : decode cX9_worked 147 = .ok (.aload_n 0, 1) := by decide +kernel
theorem dX9_worked_148 : decode cX9_worked 148 = .ok (.getfield 28, 3) := by decide +kernel
theorem dX9_worked_151 : decode cX9_worked 151 = .ok (.iload_n 3, 1) := by decide +kernel
theorem dX9_worked_152 : decode cX9_worked 152 = .ok (.iaload, 1) := by decide +kernel
theorem dX9_worked_153 : decode cX9_worked 153 = .ok (.invokestatic 107, 3) := by decide +kernel
theorem dX9_worked_156 : decode cX9_worked 156 = .ok (.iastore, 1) := by decide +kernel
theorem dX9_worked_157 : decode cX9_worked 157 = .ok (.iinc 4 1, 3) := by decide +kernel
theorem dX9_worked_160 : decode cX9_worked 160 = .ok (.goto (-147), 3) := by decide +kernel
theorem dX9_worked_163 : decode cX9_worked 163 = .ok (.aload_n 0, 1) := by decide +kernel
theorem dX9_worked_164 : decode cX9_worked 164 = .ok (.getfield 28, 3) := by decide +kernel
theorem dX9_worked_167 : decode cX9_worked 167 = .ok (.iconst 0, 1) := by decide +kernel
theorem dX9_worked_168 : decode cX9_worked 168 = .ok (.iaload, 1) := by decide +kernel
theorem dX9_worked_169 : decode cX9_worked 169 = .ok (.ireturn, 1) := by decide +kernel
theorem dX9_tellsOf_0 : decode cX9_tellsOf 0 = .ok (.aload_n 0, 1) := by decide +kernel
theorem dX9_tellsOf_1 : decode cX9_tellsOf 1 = .ok (.getfield 7, 3) := by decide +kernel
theorem dX9_tellsOf_4 : decode cX9_tellsOf 4 = .ok (.iconst 1, 1) := by decide +kernel
theorem dX9_tellsOf_5 : decode cX9_tellsOf 5 = .ok (.iaload, 1) := by decide +kernel
theorem dX9_tellsOf_6 : decode cX9_tellsOf 6 = .ok (.istore_n 2, 1) := by decide +kernel
theorem dX9_tellsOf_7 : decode cX9_tellsOf 7 = .ok (.iload_n 2, 1) := by decide +kernel
theorem dX9_tellsOf_8 : decode cX9_tellsOf 8 = .ok (.aload_n 0, 1) := by decide +kernel
theorem dX9_tellsOf_9 : decode cX9_tellsOf 9 = .ok (.getfield 7, 3) := by decide +kernel
theorem dX9_tellsOf_12 : decode cX9_tellsOf 12 = .ok (.iconst 2, 1) := by decide +kernel
theorem dX9_tellsOf_13 : decode cX9_tellsOf 13 = .ok (.iaload, 1) := by decide +kernel
theorem dX9_tellsOf_14 : decode cX9_tellsOf 14 = .ok (.iconst 1, 1) := by decide +kernel
theorem dX9_tellsOf_15 : decode cX9_tellsOf 15 = .ok (.iadd, 1) := by decide +kernel
theorem dX9_tellsOf_16 : decode cX9_tellsOf 16 = .ok (.imul, 1) := by decide +kernel
theorem dX9_tellsOf_17 : decode cX9_tellsOf 17 = .ok (.bipush 100, 2) := by decide +kernel
theorem dX9_tellsOf_19 : decode cX9_tellsOf 19 = .ok (.idiv, 1) := by decide +kernel
theorem dX9_tellsOf_20 : decode cX9_tellsOf 20 = .ok (.istore_n 3, 1) := by decide +kernel
theorem dX9_tellsOf_21 : decode cX9_tellsOf 21 = .ok (.aload_n 0, 1) := by decide +kernel
theorem dX9_tellsOf_22 : decode cX9_tellsOf 22 = .ok (.iload_n 1, 1) := by decide +kernel
theorem dX9_tellsOf_23 : decode cX9_tellsOf 23 = .ok (.iconst 0, 1) := by decide +kernel
theorem dX9_tellsOf_24 : decode cX9_tellsOf 24 = .ok (.invokevirtual 111, 3) := by decide +kernel
theorem dX9_tellsOf_27 : decode cX9_tellsOf 27 = .ok (.tableswitch 75 1 6 #[37, 42, 44, 57, 69, 73], 37) := by decide +kernel
theorem dX9_tellsOf_64 : decode cX9_tellsOf 64 = .ok (.iload_n 2, 1) := by decide +kernel
theorem dX9_tellsOf_65 : decode cX9_tellsOf 65 = .ok (.bipush 10, 2) := by decide +kernel
theorem dX9_tellsOf_67 : decode cX9_tellsOf 67 = .ok (.iadd, 1) := by decide +kernel
theorem dX9_tellsOf_68 : decode cX9_tellsOf 68 = .ok (.ireturn, 1) := by decide +kernel
theorem dX9_tellsOf_69 : decode cX9_tellsOf 69 = .ok (.iload_n 3, 1) := by decide +kernel
theorem dX9_tellsOf_70 : decode cX9_tellsOf 70 = .ok (.ireturn, 1) := by decide +kernel
theorem dX9_tellsOf_71 : decode cX9_tellsOf 71 = .ok (.iload_n 2, 1) := by decide +kernel
theorem dX9_tellsOf_72 : decode cX9_tellsOf 72 = .ok (.bipush 50, 2) := by decide +kernel
theorem dX9_tellsOf_74 : decode cX9_tellsOf 74 = .ok (.if_icmp .le 8, 3) := by decide +kernel
theorem dX9_tellsOf_77 : decode cX9_tellsOf 77 = .ok (.bipush 77, 2) := by decide +kernel
theorem dX9_tellsOf_79 : decode cX9_tellsOf 79 = .ok (.goto 4, 3) := by decide +kernel
theorem dX9_tellsOf_82 : decode cX9_tellsOf 82 = .ok (.iload_n 2, 1) := by decide +kernel
theorem dX9_tellsOf_83 : decode cX9_tellsOf 83 = .ok (.ireturn, 1) := by decide +kernel
theorem dX9_tellsOf_84 : decode cX9_tellsOf 84 = .ok (.iload_n 2, 1) := by decide +kernel
theorem dX9_tellsOf_85 : decode cX9_tellsOf 85 = .ok (.bipush 10, 2) := by decide +kernel
theorem dX9_tellsOf_87 : decode cX9_tellsOf 87 = .ok (.iadd, 1) := by decide +kernel
theorem dX9_tellsOf_88 : decode cX9_tellsOf 88 = .ok (.aload_n 0, 1) := by decide +kernel
theorem dX9_tellsOf_89 : decode cX9_tellsOf 89 = .ok (.iload_n 1, 1) := by decide +kernel
theorem dX9_tellsOf_90 : decode cX9_tellsOf 90 = .ok (.iconst 1, 1) := by decide +kernel
theorem dX9_tellsOf_91 : decode cX9_tellsOf 91 = .ok (.invokevirtual 111, 3) := by decide +kernel
theorem dX9_tellsOf_94 : decode cX9_tellsOf 94 = .ok (.isub, 1) := by decide +kernel
theorem dX9_tellsOf_95 : decode cX9_tellsOf 95 = .ok (.ireturn, 1) := by decide +kernel
theorem dX9_tellsOf_96 : decode cX9_tellsOf 96 = .ok (.iconst 2, 1) := by decide +kernel
theorem dX9_tellsOf_97 : decode cX9_tellsOf 97 = .ok (.iload_n 3, 1) := by decide +kernel
theorem dX9_tellsOf_98 : decode cX9_tellsOf 98 = .ok (.imul, 1) := by decide +kernel
theorem dX9_tellsOf_99 : decode cX9_tellsOf 99 = .ok (.ireturn, 1) := by decide +kernel
theorem dX9_tellsOf_100 : decode cX9_tellsOf 100 = .ok (.iconst 0, 1) := by decide +kernel
theorem dX9_tellsOf_101 : decode cX9_tellsOf 101 = .ok (.ireturn, 1) := by decide +kernel
theorem dX9_tellsOf_102 : decode cX9_tellsOf 102 = .ok (.iload_n 2, 1) := by decide +kernel
theorem dX9_tellsOf_103 : decode cX9_tellsOf 103 = .ok (.ireturn, 1) := by decide +kernel
theorem dX9_leavesOf_0 : decode cX9_leavesOf 0 = .ok (.aload_n 0, 1) := by decide +kernel
theorem dX9_leavesOf_1 : decode cX9_leavesOf 1 = .ok (.iload_n 1, 1) := by decide +kernel
theorem dX9_leavesOf_2 : decode cX9_leavesOf 2 = .ok (.iconst 1, 1) := by decide +kernel
theorem dX9_leavesOf_3 : decode cX9_leavesOf 3 = .ok (.invokevirtual 111, 3) := by decide +kernel
theorem dX9_leavesOf_6 : decode cX9_leavesOf 6 = .ok (.istore_n 2, 1) := by decide +kernel
theorem dX9_leavesOf_7 : decode cX9_leavesOf 7 = .ok (.aload_n 0, 1) := by decide +kernel
theorem dX9_leavesOf_8 : decode cX9_leavesOf 8 = .ok (.getfield 7, 3) := by decide +kernel
theorem dX9_leavesOf_11 : decode cX9_leavesOf 11 = .ok (.iconst 1, 1) := by decide +kernel
theorem dX9_leavesOf_12 : decode cX9_leavesOf 12 = .ok (.iaload, 1) := by decide +kernel
theorem dX9_leavesOf_13 : decode cX9_leavesOf 13 = .ok (.iload_n 2, 1) := by decide +kernel
theorem dX9_leavesOf_14 : decode cX9_leavesOf 14 = .ok (.iadd, 1) := by decide +kernel
theorem dX9_leavesOf_15 : decode cX9_leavesOf 15 = .ok (.istore_n 3, 1) := by decide +kernel
theorem dX9_leavesOf_16 : decode cX9_leavesOf 16 = .ok (.iload_n 3, 1) := by decide +kernel
theorem dX9_leavesOf_17 : decode cX9_leavesOf 17 = .ok (.iconst 2, 1) := by decide +kernel
theorem dX9_leavesOf_18 : decode cX9_leavesOf 18 = .ok (.idiv, 1) := by decide +kernel
theorem dX9_leavesOf_19 : decode cX9_leavesOf 19 = .ok (.iconst 5, 1) := by decide +kernel
theorem dX9_leavesOf_20 : decode cX9_leavesOf 20 = .ok (.iload_n 2, 1) := by decide +kernel
theorem dX9_leavesOf_21 : decode cX9_leavesOf 21 = .ok (.imul, 1) := by decide +kernel
theorem dX9_leavesOf_22 : decode cX9_leavesOf 22 = .ok (.iadd, 1) := by decide +kernel
theorem dX9_leavesOf_23 : decode cX9_leavesOf 23 = .ok (.istore 4, 2) := by decide +kernel
theorem dX9_leavesOf_25 : decode cX9_leavesOf 25 = .ok (.iload_n 3, 1) := by decide +kernel
theorem dX9_leavesOf_26 : decode cX9_leavesOf 26 = .ok (.aload_n 0, 1) := by decide +kernel
theorem dX9_leavesOf_27 : decode cX9_leavesOf 27 = .ok (.getfield 7, 3) := by decide +kernel
theorem dX9_leavesOf_30 : decode cX9_leavesOf 30 = .ok (.bipush 8, 2) := by decide +kernel
theorem dX9_leavesOf_32 : decode cX9_leavesOf 32 = .ok (.iaload, 1) := by decide +kernel
theorem dX9_leavesOf_33 : decode cX9_leavesOf 33 = .ok (.iadd, 1) := by decide +kernel
theorem dX9_leavesOf_34 : decode cX9_leavesOf 34 = .ok (.istore 5, 2) := by decide +kernel
theorem dX9_leavesOf_36 : decode cX9_leavesOf 36 = .ok (.aload_n 0, 1) := by decide +kernel
theorem dX9_leavesOf_37 : decode cX9_leavesOf 37 = .ok (.iload_n 1, 1) := by decide +kernel
theorem dX9_leavesOf_38 : decode cX9_leavesOf 38 = .ok (.iconst 0, 1) := by decide +kernel
theorem dX9_leavesOf_39 : decode cX9_leavesOf 39 = .ok (.invokevirtual 111, 3) := by decide +kernel
theorem dX9_leavesOf_42 : decode cX9_leavesOf 42 = .ok (.tableswitch 83 1 6 #[38, 41, 44, 62, 68, 81], 38) := by decide +kernel
theorem dX9_leavesOf_80 : decode cX9_leavesOf 80 = .ok (.iload 4, 2) := by decide +kernel
theorem dX9_leavesOf_82 : decode cX9_leavesOf 82 = .ok (.ireturn, 1) := by decide +kernel
theorem dX9_leavesOf_83 : decode cX9_leavesOf 83 = .ok (.iload 5, 2) := by decide +kernel
theorem dX9_leavesOf_85 : decode cX9_leavesOf 85 = .ok (.ireturn, 1) := by decide +kernel
theorem dX9_leavesOf_86 : decode cX9_leavesOf 86 = .ok (.aload_n 0, 1) := by decide +kernel
theorem dX9_leavesOf_87 : decode cX9_leavesOf 87 = .ok (.getfield 7, 3) := by decide +kernel
theorem dX9_leavesOf_90 : decode cX9_leavesOf 90 = .ok (.iconst 0, 1) := by decide +kernel
theorem dX9_leavesOf_91 : decode cX9_leavesOf 91 = .ok (.iaload, 1) := by decide +kernel
theorem dX9_leavesOf_92 : decode cX9_leavesOf 92 = .ok (.iconst 2, 1) := by decide +kernel
theorem dX9_leavesOf_93 : decode cX9_leavesOf 93 = .ok (.irem, 1) := by decide +kernel
theorem dX9_leavesOf_94 : decode cX9_leavesOf 94 = .ok (.ifCond .ne 8, 3) := by decide +kernel
theorem dX9_leavesOf_97 : decode cX9_leavesOf 97 = .ok (.bipush 77, 2) := by decide +kernel
theorem dX9_leavesOf_99 : decode cX9_leavesOf 99 = .ok (.goto 4, 3) := by decide +kernel
theorem dX9_leavesOf_102 : decode cX9_leavesOf 102 = .ok (.iload_n 3, 1) := by decide +kernel
theorem dX9_leavesOf_103 : decode cX9_leavesOf 103 = .ok (.ireturn, 1) := by decide +kernel
theorem dX9_leavesOf_104 : decode cX9_leavesOf 104 = .ok (.bipush 99, 2) := by decide +kernel
theorem dX9_leavesOf_106 : decode cX9_leavesOf 106 = .ok (.iload 4, 2) := by decide +kernel
theorem dX9_leavesOf_108 : decode cX9_leavesOf 108 = .ok (.isub, 1) := by decide +kernel
theorem dX9_leavesOf_109 : decode cX9_leavesOf 109 = .ok (.ireturn, 1) := by decide +kernel
theorem dX9_leavesOf_110 : decode cX9_leavesOf 110 = .ok (.iload 5, 2) := by decide +kernel
theorem dX9_leavesOf_112 : decode cX9_leavesOf 112 = .ok (.aload_n 0, 1) := by decide +kernel
theorem dX9_leavesOf_113 : decode cX9_leavesOf 113 = .ok (.getfield 7, 3) := by decide +kernel
theorem dX9_leavesOf_116 : decode cX9_leavesOf 116 = .ok (.iconst 2, 1) := by decide +kernel
theorem dX9_leavesOf_117 : decode cX9_leavesOf 117 = .ok (.iaload, 1) := by decide +kernel
theorem dX9_leavesOf_118 : decode cX9_leavesOf 118 = .ok (.bipush 10, 2) := by decide +kernel
theorem dX9_leavesOf_120 : decode cX9_leavesOf 120 = .ok (.idiv, 1) := by decide +kernel
theorem dX9_leavesOf_121 : decode cX9_leavesOf 121 = .ok (.iadd, 1) := by decide +kernel
theorem dX9_leavesOf_122 : decode cX9_leavesOf 122 = .ok (.ireturn, 1) := by decide +kernel
theorem dX9_leavesOf_123 : decode cX9_leavesOf 123 = .ok (.iconst 0, 1) := by decide +kernel
theorem dX9_leavesOf_124 : decode cX9_leavesOf 124 = .ok (.ireturn, 1) := by decide +kernel
theorem dX9_leavesOf_125 : decode cX9_leavesOf 125 = .ok (.iload_n 3, 1) := by decide +kernel
theorem dX9_leavesOf_126 : decode cX9_leavesOf 126 = .ok (.ireturn, 1) := by decide +kernel
theorem dX9_bluntsOf_0 : decode cX9_bluntsOf 0 = .ok (.aload_n 0, 1) := by decide +kernel
theorem dX9_bluntsOf_1 : decode cX9_bluntsOf 1 = .ok (.iload_n 1, 1) := by decide +kernel
theorem dX9_bluntsOf_2 : decode cX9_bluntsOf 2 = .ok (.iconst 1, 1) := by decide +kernel
theorem dX9_bluntsOf_3 : decode cX9_bluntsOf 3 = .ok (.invokevirtual 111, 3) := by decide +kernel
theorem dX9_bluntsOf_6 : decode cX9_bluntsOf 6 = .ok (.istore_n 2, 1) := by decide +kernel
theorem dX9_bluntsOf_7 : decode cX9_bluntsOf 7 = .ok (.aload_n 0, 1) := by decide +kernel
theorem dX9_bluntsOf_8 : decode cX9_bluntsOf 8 = .ok (.iload_n 1, 1) := by decide +kernel
theorem dX9_bluntsOf_9 : decode cX9_bluntsOf 9 = .ok (.iconst 0, 1) := by decide +kernel
theorem dX9_bluntsOf_10 : decode cX9_bluntsOf 10 = .ok (.invokevirtual 111, 3) := by decide +kernel
theorem dX9_bluntsOf_13 : decode cX9_bluntsOf 13 = .ok (.tableswitch 67 1 6 #[39, 67, 45, 47, 53, 56], 39) := by decide +kernel
theorem dX9_bluntsOf_52 : decode cX9_bluntsOf 52 = .ok (.iconst 3, 1) := by decide +kernel
theorem dX9_bluntsOf_53 : decode cX9_bluntsOf 53 = .ok (.iload_n 2, 1) := by decide +kernel
theorem dX9_bluntsOf_54 : decode cX9_bluntsOf 54 = .ok (.iconst 2, 1) := by decide +kernel
theorem dX9_bluntsOf_55 : decode cX9_bluntsOf 55 = .ok (.idiv, 1) := by decide +kernel
theorem dX9_bluntsOf_56 : decode cX9_bluntsOf 56 = .ok (.iadd, 1) := by decide +kernel
theorem dX9_bluntsOf_57 : decode cX9_bluntsOf 57 = .ok (.ireturn, 1) := by decide +kernel
theorem dX9_bluntsOf_58 : decode cX9_bluntsOf 58 = .ok (.iconst 5, 1) := by decide +kernel
theorem dX9_bluntsOf_59 : decode cX9_bluntsOf 59 = .ok (.ireturn, 1) := by decide +kernel
theorem dX9_bluntsOf_60 : decode cX9_bluntsOf 60 = .ok (.iconst 1, 1) := by decide +kernel
theorem dX9_bluntsOf_61 : decode cX9_bluntsOf 61 = .ok (.iload_n 2, 1) := by decide +kernel
theorem dX9_bluntsOf_62 : decode cX9_bluntsOf 62 = .ok (.iconst 2, 1) := by decide +kernel
theorem dX9_bluntsOf_63 : decode cX9_bluntsOf 63 = .ok (.idiv, 1) := by decide +kernel
theorem dX9_bluntsOf_64 : decode cX9_bluntsOf 64 = .ok (.iadd, 1) := by decide +kernel
theorem dX9_bluntsOf_65 : decode cX9_bluntsOf 65 = .ok (.ireturn, 1) := by decide +kernel
theorem dX9_bluntsOf_66 : decode cX9_bluntsOf 66 = .ok (.bipush 6, 2) := by decide +kernel
theorem dX9_bluntsOf_68 : decode cX9_bluntsOf 68 = .ok (.ireturn, 1) := by decide +kernel
theorem dX9_bluntsOf_69 : decode cX9_bluntsOf 69 = .ok (.iload_n 2, 1) := by decide +kernel
theorem dX9_bluntsOf_70 : decode cX9_bluntsOf 70 = .ok (.iconst 4, 1) := by decide +kernel
theorem dX9_bluntsOf_71 : decode cX9_bluntsOf 71 = .ok (.if_icmp .le 7, 3) := by decide +kernel
theorem dX9_bluntsOf_74 : decode cX9_bluntsOf 74 = .ok (.iconst 3, 1) := by decide +kernel
theorem dX9_bluntsOf_75 : decode cX9_bluntsOf 75 = .ok (.goto 4, 3) := by decide +kernel
theorem dX9_bluntsOf_78 : decode cX9_bluntsOf 78 = .ok (.iconst 0, 1) := by decide +kernel
theorem dX9_bluntsOf_79 : decode cX9_bluntsOf 79 = .ok (.ireturn, 1) := by decide +kernel
theorem dX9_bluntsOf_80 : decode cX9_bluntsOf 80 = .ok (.iconst 3, 1) := by decide +kernel
theorem dX9_bluntsOf_81 : decode cX9_bluntsOf 81 = .ok (.ireturn, 1) := by decide +kernel
theorem dX9_restOf_0 : decode cX9_restOf 0 = .ok (.iload_n 0, 1) := by decide +kernel
theorem dX9_restOf_1 : decode cX9_restOf 1 = .ok (.bipush 100, 2) := by decide +kernel
theorem dX9_restOf_3 : decode cX9_restOf 3 = .ok (.irem, 1) := by decide +kernel
theorem dX9_restOf_4 : decode cX9_restOf 4 = .ok (.istore_n 1, 1) := by decide +kernel
theorem dX9_restOf_5 : decode cX9_restOf 5 = .ok (.iload_n 1, 1) := by decide +kernel
theorem dX9_restOf_6 : decode cX9_restOf 6 = .ok (.ifCond .ge 10, 3) := by decide +kernel
theorem dX9_restOf_9 : decode cX9_restOf 9 = .ok (.iload_n 1, 1) := by decide +kernel
theorem dX9_restOf_10 : decode cX9_restOf 10 = .ok (.bipush 100, 2) := by decide +kernel
theorem dX9_restOf_12 : decode cX9_restOf 12 = .ok (.iadd, 1) := by decide +kernel
theorem dX9_restOf_13 : decode cX9_restOf 13 = .ok (.goto 4, 3) := by decide +kernel
theorem dX9_restOf_16 : decode cX9_restOf 16 = .ok (.iload_n 1, 1) := by decide +kernel
theorem dX9_restOf_17 : decode cX9_restOf 17 = .ok (.ireturn, 1) := by decide +kernel
theorem dX9_givenBy_0 : decode cX9_givenBy 0 = .ok (.aload_n 0, 1) := by decide +kernel
theorem dX9_givenBy_1 : decode cX9_givenBy 1 = .ok (.getfield 25, 3) := by decide +kernel
theorem dX9_givenBy_4 : decode cX9_givenBy 4 = .ok (.iload_n 1, 1) := by decide +kernel
theorem dX9_givenBy_5 : decode cX9_givenBy 5 = .ok (.ifCond .ne 8, 3) := by decide +kernel
theorem dX9_givenBy_8 : decode cX9_givenBy 8 = .ok (.bipush 115, 2) := by decide +kernel
theorem dX9_givenBy_10 : decode cX9_givenBy 10 = .ok (.goto 5, 3) := by decide +kernel
theorem dX9_givenBy_13 : decode cX9_givenBy 13 = .ok (.bipush 108, 2) := by decide +kernel
theorem dX9_givenBy_15 : decode cX9_givenBy 15 = .ok (.iload_n 2, 1) := by decide +kernel
theorem dX9_givenBy_16 : decode cX9_givenBy 16 = .ok (.iastore, 1) := by decide +kernel
theorem dX9_givenBy_17 : decode cX9_givenBy 17 = .ok (.aload_n 0, 1) := by decide +kernel
theorem dX9_givenBy_18 : decode cX9_givenBy 18 = .ok (.getfield 25, 3) := by decide +kernel
theorem dX9_givenBy_21 : decode cX9_givenBy 21 = .ok (.iload_n 1, 1) := by decide +kernel
theorem dX9_givenBy_22 : decode cX9_givenBy 22 = .ok (.ifCond .ne 8, 3) := by decide +kernel
theorem dX9_givenBy_25 : decode cX9_givenBy 25 = .ok (.bipush 118, 2) := by decide +kernel
theorem dX9_givenBy_27 : decode cX9_givenBy 27 = .ok (.goto 5, 3) := by decide +kernel
theorem dX9_givenBy_30 : decode cX9_givenBy 30 = .ok (.bipush 115, 2) := by decide +kernel
theorem dX9_givenBy_32 : decode cX9_givenBy 32 = .ok (.iload_n 3, 1) := by decide +kernel
theorem dX9_givenBy_33 : decode cX9_givenBy 33 = .ok (.iastore, 1) := by decide +kernel
theorem dX9_givenBy_34 : decode cX9_givenBy 34 = .ok (.aload_n 0, 1) := by decide +kernel
theorem dX9_givenBy_35 : decode cX9_givenBy 35 = .ok (.getfield 25, 3) := by decide +kernel
theorem dX9_givenBy_38 : decode cX9_givenBy 38 = .ok (.bipush 100, 2) := by decide +kernel
theorem dX9_givenBy_40 : decode cX9_givenBy 40 = .ok (.iload 4, 2) := by decide +kernel
theorem dX9_givenBy_42 : decode cX9_givenBy 42 = .ok (.iastore, 1) := by decide +kernel
theorem dX9_givenBy_43 : decode cX9_givenBy 43 = .ok (.aload_n 0, 1) := by decide +kernel
theorem dX9_givenBy_44 : decode cX9_givenBy 44 = .ok (.iload_n 1, 1) := by decide +kernel
theorem dX9_givenBy_45 : decode cX9_givenBy 45 = .ok (.invokevirtual 104, 3) := by decide +kernel
theorem dX9_givenBy_48 : decode cX9_givenBy 48 = .ok (.ifCond .eq 11, 3) := by decide +kernel
theorem dX9_givenBy_51 : decode cX9_givenBy 51 = .ok (.aload_n 0, 1) := by decide +kernel
theorem dX9_givenBy_52 : decode cX9_givenBy 52 = .ok (.iload_n 1, 1) := by decide +kernel
theorem dX9_givenBy_53 : decode cX9_givenBy 53 = .ok (.invokevirtual 115, 3) := by decide +kernel
theorem dX9_givenBy_56 : decode cX9_givenBy 56 = .ok (.goto 4, 3) := by decide +kernel
theorem dX9_givenBy_59 : decode cX9_givenBy 59 = .ok (.iload_n 2, 1) := by decide +kernel
theorem dX9_givenBy_60 : decode cX9_givenBy 60 = .ok (.istore 5, 2) := by decide +kernel
theorem dX9_givenBy_62 : decode cX9_givenBy 62 = .ok (.iload_n 1, 1) := by decide +kernel
theorem dX9_givenBy_63 : decode cX9_givenBy 63 = .ok (.ifCond .ne 14, 3) := by decide +kernel
theorem dX9_givenBy_66 : decode cX9_givenBy 66 = .ok (.iload 5, 2) := by decide +kernel
theorem dX9_givenBy_68 : decode cX9_givenBy 68 = .ok (.iconst 0, 1) := by decide +kernel
theorem dX9_givenBy_69 : decode cX9_givenBy 69 = .ok (.bipush 99, 2) := by decide +kernel
theorem dX9_givenBy_71 : decode cX9_givenBy 71 = .ok (.invokestatic 118, 3) := by decide +kernel
theorem dX9_givenBy_74 : decode cX9_givenBy 74 = .ok (.goto 8, 3) := by decide +kernel
theorem dX9_givenBy_77 : decode cX9_givenBy 77 = .ok (.iload 5, 2) := by decide +kernel
theorem dX9_givenBy_79 : decode cX9_givenBy 79 = .ok (.invokestatic 121, 3) := by decide +kernel
theorem dX9_givenBy_82 : decode cX9_givenBy 82 = .ok (.ireturn, 1) := by decide +kernel
theorem dX9_saidAt_0 : decode cX9_saidAt 0 = .ok (.aload_n 0, 1) := by decide +kernel
theorem dX9_saidAt_1 : decode cX9_saidAt 1 = .ok (.iconst 0, 1) := by decide +kernel
theorem dX9_saidAt_2 : decode cX9_saidAt 2 = .ok (.aload_n 0, 1) := by decide +kernel
theorem dX9_saidAt_3 : decode cX9_saidAt 3 = .ok (.iload_n 1, 1) := by decide +kernel
theorem dX9_saidAt_4 : decode cX9_saidAt 4 = .ok (.invokevirtual 124, 3) := by decide +kernel
theorem dX9_saidAt_7 : decode cX9_saidAt 7 = .ok (.aload_n 0, 1) := by decide +kernel
theorem dX9_saidAt_8 : decode cX9_saidAt 8 = .ok (.getfield 7, 3) := by decide +kernel
theorem dX9_saidAt_11 : decode cX9_saidAt 11 = .ok (.iconst 1, 1) := by decide +kernel
theorem dX9_saidAt_12 : decode cX9_saidAt 12 = .ok (.iaload, 1) := by decide +kernel
theorem dX9_saidAt_13 : decode cX9_saidAt 13 = .ok (.bipush 10, 2) := by decide +kernel
theorem dX9_saidAt_15 : decode cX9_saidAt 15 = .ok (.idiv, 1) := by decide +kernel
theorem dX9_saidAt_16 : decode cX9_saidAt 16 = .ok (.aload_n 0, 1) := by decide +kernel
theorem dX9_saidAt_17 : decode cX9_saidAt 17 = .ok (.getfield 7, 3) := by decide +kernel
theorem dX9_saidAt_20 : decode cX9_saidAt 20 = .ok (.iconst 0, 1) := by decide +kernel
theorem dX9_saidAt_21 : decode cX9_saidAt 21 = .ok (.iaload, 1) := by decide +kernel
theorem dX9_saidAt_22 : decode cX9_saidAt 22 = .ok (.bipush 8, 2) := by decide +kernel
theorem dX9_saidAt_24 : decode cX9_saidAt 24 = .ok (.irem, 1) := by decide +kernel
theorem dX9_saidAt_25 : decode cX9_saidAt 25 = .ok (.invokevirtual 127, 3) := by decide +kernel
theorem dX9_saidAt_28 : decode cX9_saidAt 28 = .ok (.ireturn, 1) := by decide +kernel
theorem dX9_behindAt_0 : decode cX9_behindAt 0 = .ok (.aload_n 0, 1) := by decide +kernel
theorem dX9_behindAt_1 : decode cX9_behindAt 1 = .ok (.iconst 1, 1) := by decide +kernel
theorem dX9_behindAt_2 : decode cX9_behindAt 2 = .ok (.aload_n 0, 1) := by decide +kernel
theorem dX9_behindAt_3 : decode cX9_behindAt 3 = .ok (.iload_n 1, 1) := by decide +kernel
theorem dX9_behindAt_4 : decode cX9_behindAt 4 = .ok (.invokevirtual 131, 3) := by decide +kernel
theorem dX9_behindAt_7 : decode cX9_behindAt 7 = .ok (.aload_n 0, 1) := by decide +kernel
theorem dX9_behindAt_8 : decode cX9_behindAt 8 = .ok (.getfield 7, 3) := by decide +kernel
theorem dX9_behindAt_11 : decode cX9_behindAt 11 = .ok (.iconst 2, 1) := by decide +kernel
theorem dX9_behindAt_12 : decode cX9_behindAt 12 = .ok (.iaload, 1) := by decide +kernel
theorem dX9_behindAt_13 : decode cX9_behindAt 13 = .ok (.bipush 10, 2) := by decide +kernel
theorem dX9_behindAt_15 : decode cX9_behindAt 15 = .ok (.idiv, 1) := by decide +kernel
theorem dX9_behindAt_16 : decode cX9_behindAt 16 = .ok (.aload_n 0, 1) := by decide +kernel
theorem dX9_behindAt_17 : decode cX9_behindAt 17 = .ok (.getfield 7, 3) := by decide +kernel
theorem dX9_behindAt_20 : decode cX9_behindAt 20 = .ok (.iconst 0, 1) := by decide +kernel
theorem dX9_behindAt_21 : decode cX9_behindAt 21 = .ok (.iaload, 1) := by decide +kernel
theorem dX9_behindAt_22 : decode cX9_behindAt 22 = .ok (.bipush 8, 2) := by decide +kernel
theorem dX9_behindAt_24 : decode cX9_behindAt 24 = .ok (.irem, 1) := by decide +kernel
theorem dX9_behindAt_25 : decode cX9_behindAt 25 = .ok (.invokevirtual 127, 3) := by decide +kernel
theorem dX9_behindAt_28 : decode cX9_behindAt 28 = .ok (.ireturn, 1) := by decide +kernel
theorem dX9_nextOne_0 : decode cX9_nextOne 0 = .ok (.iconst 1, 1) := by decide +kernel
theorem dX9_nextOne_1 : decode cX9_nextOne 1 = .ok (.istore_n 1, 1) := by decide +kernel
theorem dX9_nextOne_2 : decode cX9_nextOne 2 = .ok (.iload_n 1, 1) := by decide +kernel
theorem dX9_nextOne_3 : decode cX9_nextOne 3 = .ok (.aload_n 0, 1) := by decide +kernel
theorem dX9_nextOne_4 : decode cX9_nextOne 4 = .ok (.getfield 7, 3) := by decide +kernel
theorem dX9_nextOne_7 : decode cX9_nextOne 7 = .ok (.bipush 8, 2) := by decide +kernel
theorem dX9_nextOne_9 : decode cX9_nextOne 9 = .ok (.iaload, 1) := by decide +kernel
theorem dX9_nextOne_10 : decode cX9_nextOne 10 = .ok (.if_icmp .ge 37, 3) := by decide +kernel
theorem dX9_nextOne_13 : decode cX9_nextOne 13 = .ok (.aload_n 0, 1) := by decide +kernel
theorem dX9_nextOne_14 : decode cX9_nextOne 14 = .ok (.getfield 7, 3) := by decide +kernel
theorem dX9_nextOne_17 : decode cX9_nextOne 17 = .ok (.iconst 4, 1) := by decide +kernel
theorem dX9_nextOne_18 : decode cX9_nextOne 18 = .ok (.iaload, 1) := by decide +kernel
theorem dX9_nextOne_19 : decode cX9_nextOne 19 = .ok (.iload_n 1, 1) := by decide +kernel
theorem dX9_nextOne_20 : decode cX9_nextOne 20 = .ok (.iadd, 1) := by decide +kernel
theorem dX9_nextOne_21 : decode cX9_nextOne 21 = .ok (.aload_n 0, 1) := by decide +kernel
theorem dX9_nextOne_22 : decode cX9_nextOne 22 = .ok (.getfield 7, 3) := by decide +kernel
theorem dX9_nextOne_25 : decode cX9_nextOne 25 = .ok (.bipush 8, 2) := by decide +kernel
theorem dX9_nextOne_27 : decode cX9_nextOne 27 = .ok (.iaload, 1) := by decide +kernel
theorem dX9_nextOne_28 : decode cX9_nextOne 28 = .ok (.irem, 1) := by decide +kernel
theorem dX9_nextOne_29 : decode cX9_nextOne 29 = .ok (.istore_n 2, 1) := by decide +kernel
theorem dX9_nextOne_30 : decode cX9_nextOne 30 = .ok (.aload_n 0, 1) := by decide +kernel
theorem dX9_nextOne_31 : decode cX9_nextOne 31 = .ok (.iload_n 2, 1) := by decide +kernel
theorem dX9_nextOne_32 : decode cX9_nextOne 32 = .ok (.iconst 4, 1) := by decide +kernel
theorem dX9_nextOne_33 : decode cX9_nextOne 33 = .ok (.invokevirtual 111, 3) := by decide +kernel
theorem dX9_nextOne_36 : decode cX9_nextOne 36 = .ok (.ifCond .ne 5, 3) := by decide +kernel
theorem dX9_nextOne_39 : decode cX9_nextOne 39 = .ok (.iload_n 2, 1) := by decide +kernel
theorem dX9_nextOne_40 : decode cX9_nextOne 40 = .ok (.ireturn, 1) := by decide +kernel
theorem dX9_nextOne_41 : decode cX9_nextOne 41 = .ok (.iinc 1 1, 3) := by decide +kernel
theorem dX9_nextOne_44 : decode cX9_nextOne 44 = .ok (.goto (-42), 3) := by decide +kernel
theorem dX9_nextOne_47 : decode cX9_nextOne 47 = .ok (.aload_n 0, 1) := by decide +kernel
theorem dX9_nextOne_48 : decode cX9_nextOne 48 = .ok (.getfield 7, 3) := by decide +kernel
theorem dX9_nextOne_51 : decode cX9_nextOne 51 = .ok (.iconst 4, 1) := by decide +kernel
theorem dX9_nextOne_52 : decode cX9_nextOne 52 = .ok (.iaload, 1) := by decide +kernel
theorem dX9_nextOne_53 : decode cX9_nextOne 53 = .ok (.ireturn, 1) := by decide +kernel
theorem dX9_day1_0 : decode cX9_day1 0 = .ok (.aload_n 0, 1) := by decide +kernel
theorem dX9_day1_1 : decode cX9_day1 1 = .ok (.getfield 7, 3) := by decide +kernel
theorem dX9_day1_4 : decode cX9_day1 4 = .ok (.bipush 8, 2) := by decide +kernel
theorem dX9_day1_6 : decode cX9_day1 6 = .ok (.iaload, 1) := by decide +kernel
theorem dX9_day1_7 : decode cX9_day1 7 = .ok (.ifCond .le 109, 3) := by decide +kernel
theorem dX9_day1_10 : decode cX9_day1 10 = .ok (.aload_n 0, 1) := by decide +kernel
theorem dX9_day1_11 : decode cX9_day1 11 = .ok (.getfield 7, 3) := by decide +kernel
theorem dX9_day1_14 : decode cX9_day1 14 = .ok (.iconst 4, 1) := by decide +kernel
theorem dX9_day1_15 : decode cX9_day1 15 = .ok (.iaload, 1) := by decide +kernel
theorem dX9_day1_16 : decode cX9_day1 16 = .ok (.istore_n 1, 1) := by decide +kernel
theorem dX9_day1_17 : decode cX9_day1 17 = .ok (.aload_n 0, 1) := by decide +kernel
theorem dX9_day1_18 : decode cX9_day1 18 = .ok (.iload_n 1, 1) := by decide +kernel
theorem dX9_day1_19 : decode cX9_day1 19 = .ok (.invokevirtual 134, 3) := by decide +kernel
theorem dX9_day1_22 : decode cX9_day1 22 = .ok (.istore_n 2, 1) := by decide +kernel
theorem dX9_day1_23 : decode cX9_day1 23 = .ok (.aload_n 0, 1) := by decide +kernel
theorem dX9_day1_24 : decode cX9_day1 24 = .ok (.iload_n 1, 1) := by decide +kernel
theorem dX9_day1_25 : decode cX9_day1 25 = .ok (.invokevirtual 137, 3) := by decide +kernel
theorem dX9_day1_28 : decode cX9_day1 28 = .ok (.istore_n 3, 1) := by decide +kernel
theorem dX9_day1_29 : decode cX9_day1 29 = .ok (.aload_n 0, 1) := by decide +kernel
theorem dX9_day1_30 : decode cX9_day1 30 = .ok (.iload_n 1, 1) := by decide +kernel
theorem dX9_day1_31 : decode cX9_day1 31 = .ok (.invokevirtual 140, 3) := by decide +kernel
theorem dX9_day1_34 : decode cX9_day1 34 = .ok (.istore 4, 2) := by decide +kernel
theorem dX9_day1_36 : decode cX9_day1 36 = .ok (.aload_n 0, 1) := by decide +kernel
theorem dX9_day1_37 : decode cX9_day1 37 = .ok (.iload_n 1, 1) := by decide +kernel
theorem dX9_day1_38 : decode cX9_day1 38 = .ok (.iconst 2, 1) := by decide +kernel
theorem dX9_day1_39 : decode cX9_day1 39 = .ok (.aload_n 0, 1) := by decide +kernel
theorem dX9_day1_40 : decode cX9_day1 40 = .ok (.iload_n 1, 1) := by decide +kernel
theorem dX9_day1_41 : decode cX9_day1 41 = .ok (.iconst 2, 1) := by decide +kernel
theorem dX9_day1_42 : decode cX9_day1 42 = .ok (.invokevirtual 111, 3) := by decide +kernel
theorem dX9_day1_45 : decode cX9_day1 45 = .ok (.iload_n 2, 1) := by decide +kernel
theorem dX9_day1_46 : decode cX9_day1 46 = .ok (.iadd, 1) := by decide +kernel
theorem dX9_day1_47 : decode cX9_day1 47 = .ok (.iconst 0, 1) := by decide +kernel
theorem dX9_day1_48 : decode cX9_day1 48 = .ok (.sipush 9999, 3) := by decide +kernel
theorem dX9_day1_51 : decode cX9_day1 51 = .ok (.invokestatic 118, 3) := by decide +kernel
theorem dX9_day1_54 : decode cX9_day1 54 = .ok (.invokevirtual 143, 3) := by decide +kernel
theorem dX9_day1_57 : decode cX9_day1 57 = .ok (.aload_n 0, 1) := by decide +kernel
theorem dX9_day1_58 : decode cX9_day1 58 = .ok (.iload_n 1, 1) := by decide +kernel
theorem dX9_day1_59 : decode cX9_day1 59 = .ok (.iconst 3, 1) := by decide +kernel
theorem dX9_day1_60 : decode cX9_day1 60 = .ok (.aload_n 0, 1) := by decide +kernel
theorem dX9_day1_61 : decode cX9_day1 61 = .ok (.iload_n 1, 1) := by decide +kernel
theorem dX9_day1_62 : decode cX9_day1 62 = .ok (.iconst 3, 1) := by decide +kernel
theorem dX9_day1_63 : decode cX9_day1 63 = .ok (.invokevirtual 111, 3) := by decide +kernel
theorem dX9_day1_66 : decode cX9_day1 66 = .ok (.iconst 1, 1) := by decide +kernel
theorem dX9_day1_67 : decode cX9_day1 67 = .ok (.iadd, 1) := by decide +kernel
theorem dX9_day1_68 : decode cX9_day1 68 = .ok (.iconst 0, 1) := by decide +kernel
theorem dX9_day1_69 : decode cX9_day1 69 = .ok (.sipush 9999, 3) := by decide +kernel
theorem dX9_day1_72 : decode cX9_day1 72 = .ok (.invokestatic 118, 3) := by decide +kernel
theorem dX9_day1_75 : decode cX9_day1 75 = .ok (.invokevirtual 143, 3) := by decide +kernel
theorem dX9_day1_78 : decode cX9_day1 78 = .ok (.aload_n 0, 1) := by decide +kernel
theorem dX9_day1_79 : decode cX9_day1 79 = .ok (.getfield 7, 3) := by decide +kernel
theorem dX9_day1_82 : decode cX9_day1 82 = .ok (.iconst 1, 1) := by decide +kernel
theorem dX9_day1_83 : decode cX9_day1 83 = .ok (.iload_n 3, 1) := by decide +kernel
theorem dX9_day1_84 : decode cX9_day1 84 = .ok (.iastore, 1) := by decide +kernel
theorem dX9_day1_85 : decode cX9_day1 85 = .ok (.aload_n 0, 1) := by decide +kernel
theorem dX9_day1_86 : decode cX9_day1 86 = .ok (.getfield 7, 3) := by decide +kernel
theorem dX9_day1_89 : decode cX9_day1 89 = .ok (.iconst 2, 1) := by decide +kernel
theorem dX9_day1_90 : decode cX9_day1 90 = .ok (.aload_n 0, 1) := by decide +kernel
theorem dX9_day1_91 : decode cX9_day1 91 = .ok (.getfield 7, 3) := by decide +kernel
theorem dX9_day1_94 : decode cX9_day1 94 = .ok (.iconst 2, 1) := by decide +kernel
theorem dX9_day1_95 : decode cX9_day1 95 = .ok (.iaload, 1) := by decide +kernel
theorem dX9_day1_96 : decode cX9_day1 96 = .ok (.iload 4, 2) := by decide +kernel
theorem dX9_day1_98 : decode cX9_day1 98 = .ok (.isub, 1) := by decide +kernel
theorem dX9_day1_99 : decode cX9_day1 99 = .ok (.iconst 0, 1) := by decide +kernel
theorem dX9_day1_100 : decode cX9_day1 100 = .ok (.bipush 99, 2) := by decide +kernel
theorem dX9_day1_102 : decode cX9_day1 102 = .ok (.invokestatic 118, 3) := by decide +kernel
theorem dX9_day1_105 : decode cX9_day1 105 = .ok (.iastore, 1) := by decide +kernel
theorem dX9_day1_106 : decode cX9_day1 106 = .ok (.aload_n 0, 1) := by decide +kernel
theorem dX9_day1_107 : decode cX9_day1 107 = .ok (.getfield 7, 3) := by decide +kernel
theorem dX9_day1_110 : decode cX9_day1 110 = .ok (.iconst 4, 1) := by decide +kernel
theorem dX9_day1_111 : decode cX9_day1 111 = .ok (.aload_n 0, 1) := by decide +kernel
theorem dX9_day1_112 : decode cX9_day1 112 = .ok (.invokevirtual 147, 3) := by decide +kernel
theorem dX9_day1_115 : decode cX9_day1 115 = .ok (.iastore, 1) := by decide +kernel
theorem dX9_day1_116 : decode cX9_day1 116 = .ok (.aload_n 0, 1) := by decide +kernel
theorem dX9_day1_117 : decode cX9_day1 117 = .ok (.getfield 7, 3) := by decide +kernel
theorem dX9_day1_120 : decode cX9_day1 120 = .ok (.iconst 0, 1) := by decide +kernel
theorem dX9_day1_121 : decode cX9_day1 121 = .ok (.dup2, 1) := by decide +kernel
theorem dX9_day1_122 : decode cX9_day1 122 = .ok (.iaload, 1) := by decide +kernel
theorem dX9_day1_123 : decode cX9_day1 123 = .ok (.iconst 1, 1) := by decide +kernel
theorem dX9_day1_124 : decode cX9_day1 124 = .ok (.iadd, 1) := by decide +kernel
theorem dX9_day1_125 : decode cX9_day1 125 = .ok (.iastore, 1) := by decide +kernel
theorem dX9_day1_126 : decode cX9_day1 126 = .ok (.aload_n 0, 1) := by decide +kernel
theorem dX9_day1_127 : decode cX9_day1 127 = .ok (.getfield 7, 3) := by decide +kernel
theorem dX9_day1_130 : decode cX9_day1 130 = .ok (.iconst 0, 1) := by decide +kernel
theorem dX9_day1_131 : decode cX9_day1 131 = .ok (.iaload, 1) := by decide +kernel
theorem dX9_day1_132 : decode cX9_day1 132 = .ok (.aload_n 0, 1) := by decide +kernel
theorem dX9_day1_133 : decode cX9_day1 133 = .ok (.getfield 7, 3) := by decide +kernel
theorem dX9_day1_136 : decode cX9_day1 136 = .ok (.iconst 3, 1) := by decide +kernel
theorem dX9_day1_137 : decode cX9_day1 137 = .ok (.iaload, 1) := by decide +kernel
theorem dX9_day1_138 : decode cX9_day1 138 = .ok (.irem, 1) := by decide +kernel
theorem dX9_day1_139 : decode cX9_day1 139 = .ok (.ifCond .ne 11, 3) := by decide +kernel
theorem dX9_day1_142 : decode cX9_day1 142 = .ok (.aload_n 0, 1) := by decide +kernel
theorem dX9_day1_143 : decode cX9_day1 143 = .ok (.getfield 7, 3) := by decide +kernel
theorem dX9_day1_146 : decode cX9_day1 146 = .ok (.iconst 2, 1) := by decide +kernel
theorem dX9_day1_147 : decode cX9_day1 147 = .ok (.bipush 99, 2) := by decide +kernel
theorem dX9_day1_149 : decode cX9_day1 149 = .ok (.iastore, 1) := by decide +kernel
theorem dX9_day1_150 : decode cX9_day1 150 = .ok (.return_, 1) := by decide +kernel
theorem dX9_goesOn_0 : decode cX9_goesOn 0 = .ok (.iconst 0, 1) := by decide +kernel
theorem dX9_goesOn_1 : decode cX9_goesOn 1 = .ok (.istore_n 2, 1) := by decide +kernel
theorem dX9_goesOn_2 : decode cX9_goesOn 2 = .ok (.iload_n 2, 1) := by decide +kernel
theorem dX9_goesOn_3 : decode cX9_goesOn 3 = .ok (.iload_n 1, 1) := by decide +kernel
theorem dX9_goesOn_4 : decode cX9_goesOn 4 = .ok (.if_icmp .ge 13, 3) := by decide +kernel
theorem dX9_goesOn_7 : decode cX9_goesOn 7 = .ok (.aload_n 0, 1) := by decide +kernel
theorem dX9_goesOn_8 : decode cX9_goesOn 8 = .ok (.invokevirtual 150, 3) := by decide +kernel
theorem dX9_goesOn_11 : decode cX9_goesOn 11 = .ok (.iinc 2 1, 3) := by decide +kernel
theorem dX9_goesOn_14 : decode cX9_goesOn 14 = .ok (.goto (-12), 3) := by decide +kernel
theorem dX9_goesOn_17 : decode cX9_goesOn 17 = .ok (.return_, 1) := by decide +kernel
theorem dX9_heardAll_0 : decode cX9_heardAll 0 = .ok (.iconst 0, 1) := by decide +kernel
theorem dX9_heardAll_1 : decode cX9_heardAll 1 = .ok (.istore_n 1, 1) := by decide +kernel
theorem dX9_heardAll_2 : decode cX9_heardAll 2 = .ok (.iconst 0, 1) := by decide +kernel
theorem dX9_heardAll_3 : decode cX9_heardAll 3 = .ok (.istore_n 2, 1) := by decide +kernel
theorem dX9_heardAll_4 : decode cX9_heardAll 4 = .ok (.iload_n 2, 1) := by decide +kernel
theorem dX9_heardAll_5 : decode cX9_heardAll 5 = .ok (.aload_n 0, 1) := by decide +kernel
theorem dX9_heardAll_6 : decode cX9_heardAll 6 = .ok (.getfield 7, 3) := by decide +kernel
theorem dX9_heardAll_9 : decode cX9_heardAll 9 = .ok (.bipush 8, 2) := by decide +kernel
theorem dX9_heardAll_11 : decode cX9_heardAll 11 = .ok (.iaload, 1) := by decide +kernel
theorem dX9_heardAll_12 : decode cX9_heardAll 12 = .ok (.if_icmp .ge 18, 3) := by decide +kernel
theorem dX9_heardAll_15 : decode cX9_heardAll 15 = .ok (.iload_n 1, 1) := by decide +kernel
theorem dX9_heardAll_16 : decode cX9_heardAll 16 = .ok (.aload_n 0, 1) := by decide +kernel
theorem dX9_heardAll_17 : decode cX9_heardAll 17 = .ok (.iload_n 2, 1) := by decide +kernel
theorem dX9_heardAll_18 : decode cX9_heardAll 18 = .ok (.iconst 2, 1) := by decide +kernel
theorem dX9_heardAll_19 : decode cX9_heardAll 19 = .ok (.invokevirtual 111, 3) := by decide +kernel
theorem dX9_heardAll_22 : decode cX9_heardAll 22 = .ok (.iadd, 1) := by decide +kernel
theorem dX9_heardAll_23 : decode cX9_heardAll 23 = .ok (.istore_n 1, 1) := by decide +kernel
theorem dX9_heardAll_24 : decode cX9_heardAll 24 = .ok (.iinc 2 1, 3) := by decide +kernel
theorem dX9_heardAll_27 : decode cX9_heardAll 27 = .ok (.goto (-23), 3) := by decide +kernel
theorem dX9_heardAll_30 : decode cX9_heardAll 30 = .ok (.iload_n 1, 1) := by decide +kernel
theorem dX9_heardAll_31 : decode cX9_heardAll 31 = .ok (.ireturn, 1) := by decide +kernel
theorem dX9_isKm_0 : decode cX9_isKm 0 = .ok (.iload_n 0, 1) := by decide +kernel
theorem dX9_isKm_1 : decode cX9_isKm 1 = .ok (.iconst 0, 1) := by decide +kernel
theorem dX9_isKm_2 : decode cX9_isKm 2 = .ok (.bipush 69, 2) := by decide +kernel
theorem dX9_isKm_4 : decode cX9_isKm 4 = .ok (.invokestatic 47, 3) := by decide +kernel
theorem dX9_isKm_7 : decode cX9_isKm 7 = .ok (.ireturn, 1) := by decide +kernel
theorem dX9_home_0 : decode cX9_home 0 = .ok (.iload_n 1, 1) := by decide +kernel
theorem dX9_home_1 : decode cX9_home 1 = .ok (.invokestatic 153, 3) := by decide +kernel
theorem dX9_home_4 : decode cX9_home 4 = .ok (.ifCond .ne 9, 3) := by decide +kernel
theorem dX9_home_7 : decode cX9_home 7 = .ok (.aload_n 0, 1) := by decide +kernel
theorem dX9_home_8 : decode cX9_home 8 = .ok (.iconst 1, 1) := by decide +kernel
theorem dX9_home_9 : decode cX9_home 9 = .ok (.invokevirtual 51, 3) := by decide +kernel
theorem dX9_home_12 : decode cX9_home 12 = .ok (.ireturn, 1) := by decide +kernel
theorem dX9_home_13 : decode cX9_home 13 = .ok (.aload_n 0, 1) := by decide +kernel
theorem dX9_home_14 : decode cX9_home 14 = .ok (.getfield 7, 3) := by decide +kernel
theorem dX9_home_17 : decode cX9_home 17 = .ok (.bipush 8, 2) := by decide +kernel
theorem dX9_home_19 : decode cX9_home 19 = .ok (.iaload, 1) := by decide +kernel
theorem dX9_home_20 : decode cX9_home 20 = .ok (.bipush 8, 2) := by decide +kernel
theorem dX9_home_22 : decode cX9_home 22 = .ok (.if_icmp .ne 9, 3) := by decide +kernel
theorem dX9_home_25 : decode cX9_home 25 = .ok (.aload_n 0, 1) := by decide +kernel
theorem dX9_home_26 : decode cX9_home 26 = .ok (.iconst 4, 1) := by decide +kernel
theorem dX9_home_27 : decode cX9_home 27 = .ok (.invokevirtual 51, 3) := by decide +kernel
theorem dX9_home_30 : decode cX9_home 30 = .ok (.ireturn, 1) := by decide +kernel
theorem dX9_home_31 : decode cX9_home 31 = .ok (.aload_n 0, 1) := by decide +kernel
theorem dX9_home_32 : decode cX9_home 32 = .ok (.getfield 7, 3) := by decide +kernel
theorem dX9_home_35 : decode cX9_home 35 = .ok (.bipush 8, 2) := by decide +kernel
theorem dX9_home_37 : decode cX9_home 37 = .ok (.iaload, 1) := by decide +kernel
theorem dX9_home_38 : decode cX9_home 38 = .ok (.istore_n 2, 1) := by decide +kernel
theorem dX9_home_39 : decode cX9_home 39 = .ok (.aload_n 0, 1) := by decide +kernel
theorem dX9_home_40 : decode cX9_home 40 = .ok (.iload_n 2, 1) := by decide +kernel
theorem dX9_home_41 : decode cX9_home 41 = .ok (.iconst 0, 1) := by decide +kernel
theorem dX9_home_42 : decode cX9_home 42 = .ok (.iload_n 1, 1) := by decide +kernel
theorem dX9_home_43 : decode cX9_home 43 = .ok (.bipush 10, 2) := by decide +kernel
theorem dX9_home_45 : decode cX9_home 45 = .ok (.idiv, 1) := by decide +kernel
theorem dX9_home_46 : decode cX9_home 46 = .ok (.invokevirtual 143, 3) := by decide +kernel
theorem dX9_home_49 : decode cX9_home 49 = .ok (.aload_n 0, 1) := by decide +kernel
theorem dX9_home_50 : decode cX9_home 50 = .ok (.iload_n 2, 1) := by decide +kernel
theorem dX9_home_51 : decode cX9_home 51 = .ok (.iconst 1, 1) := by decide +kernel
theorem dX9_home_52 : decode cX9_home 52 = .ok (.iload_n 1, 1) := by decide +kernel
theorem dX9_home_53 : decode cX9_home 53 = .ok (.bipush 10, 2) := by decide +kernel
theorem dX9_home_55 : decode cX9_home 55 = .ok (.irem, 1) := by decide +kernel
theorem dX9_home_56 : decode cX9_home 56 = .ok (.invokevirtual 143, 3) := by decide +kernel
theorem dX9_home_59 : decode cX9_home 59 = .ok (.aload_n 0, 1) := by decide +kernel
theorem dX9_home_60 : decode cX9_home 60 = .ok (.iload_n 2, 1) := by decide +kernel
theorem dX9_home_61 : decode cX9_home 61 = .ok (.iconst 2, 1) := by decide +kernel
theorem dX9_home_62 : decode cX9_home 62 = .ok (.iconst 0, 1) := by decide +kernel
theorem dX9_home_63 : decode cX9_home 63 = .ok (.invokevirtual 143, 3) := by decide +kernel
theorem dX9_home_66 : decode cX9_home 66 = .ok (.aload_n 0, 1) := by decide +kernel
theorem dX9_home_67 : decode cX9_home 67 = .ok (.iload_n 2, 1) := by decide +kernel
theorem dX9_home_68 : decode cX9_home 68 = .ok (.iconst 3, 1) := by decide +kernel
theorem dX9_home_69 : decode cX9_home 69 = .ok (.iconst 0, 1) := by decide +kernel
theorem dX9_home_70 : decode cX9_home 70 = .ok (.invokevirtual 143, 3) := by decide +kernel
theorem dX9_home_73 : decode cX9_home 73 = .ok (.aload_n 0, 1) := by decide +kernel
theorem dX9_home_74 : decode cX9_home 74 = .ok (.iload_n 2, 1) := by decide +kernel
theorem dX9_home_75 : decode cX9_home 75 = .ok (.iconst 4, 1) := by decide +kernel
theorem dX9_home_76 : decode cX9_home 76 = .ok (.iconst 0, 1) := by decide +kernel
theorem dX9_home_77 : decode cX9_home 77 = .ok (.invokevirtual 143, 3) := by decide +kernel
theorem dX9_home_80 : decode cX9_home 80 = .ok (.aload_n 0, 1) := by decide +kernel
theorem dX9_home_81 : decode cX9_home 81 = .ok (.getfield 7, 3) := by decide +kernel
theorem dX9_home_84 : decode cX9_home 84 = .ok (.bipush 8, 2) := by decide +kernel
theorem dX9_home_86 : decode cX9_home 86 = .ok (.dup2, 1) := by decide +kernel
theorem dX9_home_87 : decode cX9_home 87 = .ok (.iaload, 1) := by decide +kernel
theorem dX9_home_88 : decode cX9_home 88 = .ok (.iconst 1, 1) := by decide +kernel
theorem dX9_home_89 : decode cX9_home 89 = .ok (.iadd, 1) := by decide +kernel
theorem dX9_home_90 : decode cX9_home 90 = .ok (.iastore, 1) := by decide +kernel
theorem dX9_home_91 : decode cX9_home 91 = .ok (.iload_n 2, 1) := by decide +kernel
theorem dX9_home_92 : decode cX9_home 92 = .ok (.ireturn, 1) := by decide +kernel
theorem dX9_homeIs_0 : decode cX9_homeIs 0 = .ok (.aload_n 0, 1) := by decide +kernel
theorem dX9_homeIs_1 : decode cX9_homeIs 1 = .ok (.iload_n 1, 1) := by decide +kernel
theorem dX9_homeIs_2 : decode cX9_homeIs 2 = .ok (.invokevirtual 156, 3) := by decide +kernel
theorem dX9_homeIs_5 : decode cX9_homeIs 5 = .ok (.ifCond .eq 13, 3) := by decide +kernel
theorem dX9_homeIs_8 : decode cX9_homeIs 8 = .ok (.iload_n 2, 1) := by decide +kernel
theorem dX9_homeIs_9 : decode cX9_homeIs 9 = .ok (.iconst 0, 1) := by decide +kernel
theorem dX9_homeIs_10 : decode cX9_homeIs 10 = .ok (.bipush 7, 2) := by decide +kernel
theorem dX9_homeIs_12 : decode cX9_homeIs 12 = .ok (.invokestatic 47, 3) := by decide +kernel
theorem dX9_homeIs_15 : decode cX9_homeIs 15 = .ok (.ifCond .ne 9, 3) := by decide +kernel
theorem dX9_homeIs_18 : decode cX9_homeIs 18 = .ok (.aload_n 0, 1) := by decide +kernel
theorem dX9_homeIs_19 : decode cX9_homeIs 19 = .ok (.iconst 1, 1) := by decide +kernel
theorem dX9_homeIs_20 : decode cX9_homeIs 20 = .ok (.invokevirtual 51, 3) := by decide +kernel
theorem dX9_homeIs_23 : decode cX9_homeIs 23 = .ok (.ireturn, 1) := by decide +kernel
theorem dX9_homeIs_24 : decode cX9_homeIs 24 = .ok (.iload_n 2, 1) := by decide +kernel
theorem dX9_homeIs_25 : decode cX9_homeIs 25 = .ok (.iconst 5, 1) := by decide +kernel
theorem dX9_homeIs_26 : decode cX9_homeIs 26 = .ok (.if_icmp .ne 11, 3) := by decide +kernel
theorem dX9_homeIs_29 : decode cX9_homeIs 29 = .ok (.aload_n 0, 1) := by decide +kernel
theorem dX9_homeIs_30 : decode cX9_homeIs 30 = .ok (.iload_n 1, 1) := by decide +kernel
theorem dX9_homeIs_31 : decode cX9_homeIs 31 = .ok (.invokevirtual 134, 3) := by decide +kernel
theorem dX9_homeIs_34 : decode cX9_homeIs 34 = .ok (.goto 37, 3) := by decide +kernel
theorem dX9_homeIs_37 : decode cX9_homeIs 37 = .ok (.iload_n 2, 1) := by decide +kernel
theorem dX9_homeIs_38 : decode cX9_homeIs 38 = .ok (.bipush 6, 2) := by decide +kernel
theorem dX9_homeIs_40 : decode cX9_homeIs 40 = .ok (.if_icmp .ne 11, 3) := by decide +kernel
theorem dX9_homeIs_43 : decode cX9_homeIs 43 = .ok (.aload_n 0, 1) := by decide +kernel
theorem dX9_homeIs_44 : decode cX9_homeIs 44 = .ok (.iload_n 1, 1) := by decide +kernel
theorem dX9_homeIs_45 : decode cX9_homeIs 45 = .ok (.invokevirtual 137, 3) := by decide +kernel
theorem dX9_homeIs_48 : decode cX9_homeIs 48 = .ok (.goto 23, 3) := by decide +kernel
theorem dX9_homeIs_51 : decode cX9_homeIs 51 = .ok (.iload_n 2, 1) := by decide +kernel
theorem dX9_homeIs_52 : decode cX9_homeIs 52 = .ok (.bipush 7, 2) := by decide +kernel
theorem dX9_homeIs_54 : decode cX9_homeIs 54 = .ok (.if_icmp .ne 11, 3) := by decide +kernel
theorem dX9_homeIs_57 : decode cX9_homeIs 57 = .ok (.aload_n 0, 1) := by decide +kernel
theorem dX9_homeIs_58 : decode cX9_homeIs 58 = .ok (.iload_n 1, 1) := by decide +kernel
theorem dX9_homeIs_59 : decode cX9_homeIs 59 = .ok (.invokevirtual 140, 3) := by decide +kernel
theorem dX9_homeIs_62 : decode cX9_homeIs 62 = .ok (.goto 9, 3) := by decide +kernel
theorem dX9_homeIs_65 : decode cX9_homeIs 65 = .ok (.aload_n 0, 1) := by decide +kernel
theorem dX9_homeIs_66 : decode cX9_homeIs 66 = .ok (.iload_n 1, 1) := by decide +kernel
theorem dX9_homeIs_67 : decode cX9_homeIs 67 = .ok (.iload_n 2, 1) := by decide +kernel
theorem dX9_homeIs_68 : decode cX9_homeIs 68 = .ok (.invokevirtual 111, 3) := by decide +kernel
theorem dX9_homeIs_71 : decode cX9_homeIs 71 = .ok (.ireturn, 1) := by decide +kernel
theorem dX9_become_0 : decode cX9_become 0 = .ok (.aload_n 0, 1) := by decide +kernel
theorem dX9_become_1 : decode cX9_become 1 = .ok (.iload_n 1, 1) := by decide +kernel
theorem dX9_become_2 : decode cX9_become 2 = .ok (.invokevirtual 156, 3) := by decide +kernel
theorem dX9_become_5 : decode cX9_become 5 = .ok (.ifCond .eq 10, 3) := by decide +kernel
theorem dX9_become_8 : decode cX9_become 8 = .ok (.iload_n 2, 1) := by decide +kernel
theorem dX9_become_9 : decode cX9_become 9 = .ok (.invokestatic 153, 3) := by decide +kernel
theorem dX9_become_12 : decode cX9_become 12 = .ok (.ifCond .ne 9, 3) := by decide +kernel
theorem dX9_become_15 : decode cX9_become 15 = .ok (.aload_n 0, 1) := by decide +kernel
theorem dX9_become_16 : decode cX9_become 16 = .ok (.iconst 1, 1) := by decide +kernel
theorem dX9_become_17 : decode cX9_become 17 = .ok (.invokevirtual 51, 3) := by decide +kernel
theorem dX9_become_20 : decode cX9_become 20 = .ok (.ireturn, 1) := by decide +kernel
theorem dX9_become_21 : decode cX9_become 21 = .ok (.aload_n 0, 1) := by decide +kernel
theorem dX9_become_22 : decode cX9_become 22 = .ok (.iload_n 1, 1) := by decide +kernel
theorem dX9_become_23 : decode cX9_become 23 = .ok (.iconst 0, 1) := by decide +kernel
theorem dX9_become_24 : decode cX9_become 24 = .ok (.invokevirtual 111, 3) := by decide +kernel
theorem dX9_become_27 : decode cX9_become 27 = .ok (.istore_n 3, 1) := by decide +kernel
theorem dX9_become_28 : decode cX9_become 28 = .ok (.aload_n 0, 1) := by decide +kernel
theorem dX9_become_29 : decode cX9_become 29 = .ok (.iload_n 1, 1) := by decide +kernel
theorem dX9_become_30 : decode cX9_become 30 = .ok (.iconst 0, 1) := by decide +kernel
theorem dX9_become_31 : decode cX9_become 31 = .ok (.iload_n 2, 1) := by decide +kernel
theorem dX9_become_32 : decode cX9_become 32 = .ok (.bipush 10, 2) := by decide +kernel
theorem dX9_become_34 : decode cX9_become 34 = .ok (.idiv, 1) := by decide +kernel
theorem dX9_become_35 : decode cX9_become 35 = .ok (.invokevirtual 143, 3) := by decide +kernel
theorem dX9_become_38 : decode cX9_become 38 = .ok (.aload_n 0, 1) := by decide +kernel
theorem dX9_become_39 : decode cX9_become 39 = .ok (.iload_n 1, 1) := by decide +kernel
theorem dX9_become_40 : decode cX9_become 40 = .ok (.iconst 1, 1) := by decide +kernel
theorem dX9_become_41 : decode cX9_become 41 = .ok (.iload_n 2, 1) := by decide +kernel
theorem dX9_become_42 : decode cX9_become 42 = .ok (.bipush 10, 2) := by decide +kernel
theorem dX9_become_44 : decode cX9_become 44 = .ok (.irem, 1) := by decide +kernel
theorem dX9_become_45 : decode cX9_become 45 = .ok (.invokevirtual 143, 3) := by decide +kernel
theorem dX9_become_48 : decode cX9_become 48 = .ok (.iload_n 3, 1) := by decide +kernel
theorem dX9_become_49 : decode cX9_become 49 = .ok (.ireturn, 1) := by decide +kernel
theorem dX9_as_0 : decode cX9_as 0 = .ok (.aload_n 0, 1) := by decide +kernel
theorem dX9_as_1 : decode cX9_as 1 = .ok (.iload_n 1, 1) := by decide +kernel
theorem dX9_as_2 : decode cX9_as 2 = .ok (.invokevirtual 156, 3) := by decide +kernel
theorem dX9_as_5 : decode cX9_as 5 = .ok (.ifCond .eq 13, 3) := by decide +kernel
theorem dX9_as_8 : decode cX9_as 8 = .ok (.iload_n 2, 1) := by decide +kernel
theorem dX9_as_9 : decode cX9_as 9 = .ok (.iconst 0, 1) := by decide +kernel
theorem dX9_as_10 : decode cX9_as 10 = .ok (.bipush 6, 2) := by decide +kernel
theorem dX9_as_12 : decode cX9_as 12 = .ok (.invokestatic 47, 3) := by decide +kernel
theorem dX9_as_15 : decode cX9_as 15 = .ok (.ifCond .ne 9, 3) := by decide +kernel
theorem dX9_as_18 : decode cX9_as 18 = .ok (.aload_n 0, 1) := by decide +kernel
theorem dX9_as_19 : decode cX9_as 19 = .ok (.iconst 1, 1) := by decide +kernel
theorem dX9_as_20 : decode cX9_as 20 = .ok (.invokevirtual 51, 3) := by decide +kernel
theorem dX9_as_23 : decode cX9_as 23 = .ok (.ireturn, 1) := by decide +kernel
theorem dX9_as_24 : decode cX9_as 24 = .ok (.aload_n 0, 1) := by decide +kernel
theorem dX9_as_25 : decode cX9_as 25 = .ok (.iload_n 1, 1) := by decide +kernel
theorem dX9_as_26 : decode cX9_as 26 = .ok (.iconst 0, 1) := by decide +kernel
theorem dX9_as_27 : decode cX9_as 27 = .ok (.invokevirtual 111, 3) := by decide +kernel
theorem dX9_as_30 : decode cX9_as 30 = .ok (.istore_n 3, 1) := by decide +kernel
theorem dX9_as_31 : decode cX9_as 31 = .ok (.iload_n 2, 1) := by decide +kernel
theorem dX9_as_32 : decode cX9_as 32 = .ok (.ifCond .eq 16, 3) := by decide +kernel
theorem dX9_as_35 : decode cX9_as 35 = .ok (.iload_n 3, 1) := by decide +kernel
theorem dX9_as_36 : decode cX9_as 36 = .ok (.iload_n 2, 1) := by decide +kernel
theorem dX9_as_37 : decode cX9_as 37 = .ok (.if_icmp .eq 11, 3) := by decide +kernel
theorem dX9_as_40 : decode cX9_as 40 = .ok (.iload_n 3, 1) := by decide +kernel
theorem dX9_as_41 : decode cX9_as 41 = .ok (.invokestatic 159, 3) := by decide +kernel
theorem dX9_as_44 : decode cX9_as 44 = .ok (.iload_n 2, 1) := by decide +kernel
theorem dX9_as_45 : decode cX9_as 45 = .ok (.if_icmp .ne 7, 3) := by decide +kernel
theorem dX9_as_48 : decode cX9_as 48 = .ok (.iconst 1, 1) := by decide +kernel
theorem dX9_as_49 : decode cX9_as 49 = .ok (.goto 4, 3) := by decide +kernel
theorem dX9_as_52 : decode cX9_as 52 = .ok (.iconst 0, 1) := by decide +kernel
theorem dX9_as_53 : decode cX9_as 53 = .ok (.istore 4, 2) := by decide +kernel
theorem dX9_as_55 : decode cX9_as 55 = .ok (.iload 4, 2) := by decide +kernel
theorem dX9_as_57 : decode cX9_as 57 = .ok (.ifCond .eq 12, 3) := by decide +kernel
theorem dX9_as_60 : decode cX9_as 60 = .ok (.aload_n 0, 1) := by decide +kernel
theorem dX9_as_61 : decode cX9_as 61 = .ok (.iload_n 1, 1) := by decide +kernel
theorem dX9_as_62 : decode cX9_as 62 = .ok (.iconst 1, 1) := by decide +kernel
theorem dX9_as_63 : decode cX9_as 63 = .ok (.invokevirtual 111, 3) := by decide +kernel
theorem dX9_as_66 : decode cX9_as 66 = .ok (.goto 8, 3) := by decide +kernel
theorem dX9_as_69 : decode cX9_as 69 = .ok (.aload_n 0, 1) := by decide +kernel
theorem dX9_as_70 : decode cX9_as 70 = .ok (.iconst 5, 1) := by decide +kernel
theorem dX9_as_71 : decode cX9_as 71 = .ok (.invokevirtual 51, 3) := by decide +kernel
theorem dX9_as_74 : decode cX9_as 74 = .ok (.ireturn, 1) := by decide +kernel
theorem dX9_past_0 : decode cX9_past 0 = .ok (.aload_n 0, 1) := by decide +kernel
theorem dX9_past_1 : decode cX9_past 1 = .ok (.iload_n 1, 1) := by decide +kernel
theorem dX9_past_2 : decode cX9_past 2 = .ok (.invokevirtual 156, 3) := by decide +kernel
theorem dX9_past_5 : decode cX9_past 5 = .ok (.ifCond .eq 28, 3) := by decide +kernel
theorem dX9_past_8 : decode cX9_past 8 = .ok (.iload_n 2, 1) := by decide +kernel
theorem dX9_past_9 : decode cX9_past 9 = .ok (.iconst 0, 1) := by decide +kernel
theorem dX9_past_10 : decode cX9_past 10 = .ok (.iconst 1, 1) := by decide +kernel
theorem dX9_past_11 : decode cX9_past 11 = .ok (.invokestatic 47, 3) := by decide +kernel
theorem dX9_past_14 : decode cX9_past 14 = .ok (.ifCond .eq 19, 3) := by decide +kernel
theorem dX9_past_17 : decode cX9_past 17 = .ok (.aload_n 0, 1) := by decide +kernel
theorem dX9_past_18 : decode cX9_past 18 = .ok (.bipush 9, 2) := by decide +kernel
theorem dX9_past_20 : decode cX9_past 20 = .ok (.iconst 5, 1) := by decide +kernel
theorem dX9_past_21 : decode cX9_past 21 = .ok (.iload_n 1, 1) := by decide +kernel
theorem dX9_past_22 : decode cX9_past 22 = .ok (.imul, 1) := by decide +kernel
theorem dX9_past_23 : decode cX9_past 23 = .ok (.iadd, 1) := by decide +kernel
theorem dX9_past_24 : decode cX9_past 24 = .ok (.iconst 4, 1) := by decide +kernel
theorem dX9_past_25 : decode cX9_past 25 = .ok (.iadd, 1) := by decide +kernel
theorem dX9_past_26 : decode cX9_past 26 = .ok (.iload_n 2, 1) := by decide +kernel
theorem dX9_past_27 : decode cX9_past 27 = .ok (.invokevirtual 162, 3) := by decide +kernel
theorem dX9_past_30 : decode cX9_past 30 = .ok (.goto 8, 3) := by decide +kernel
theorem dX9_past_33 : decode cX9_past 33 = .ok (.aload_n 0, 1) := by decide +kernel
theorem dX9_past_34 : decode cX9_past 34 = .ok (.iconst 1, 1) := by decide +kernel
theorem dX9_past_35 : decode cX9_past 35 = .ok (.invokevirtual 51, 3) := by decide +kernel
theorem dX9_past_38 : decode cX9_past 38 = .ok (.ireturn, 1) := by decide +kernel
theorem dX9_goes_0 : decode cX9_goes 0 = .ok (.aload_n 0, 1) := by decide +kernel
theorem dX9_goes_1 : decode cX9_goes 1 = .ok (.iload_n 1, 1) := by decide +kernel
theorem dX9_goes_2 : decode cX9_goes 2 = .ok (.invokevirtual 156, 3) := by decide +kernel
theorem dX9_goes_5 : decode cX9_goes 5 = .ok (.ifCond .eq 12, 3) := by decide +kernel
theorem dX9_goes_8 : decode cX9_goes 8 = .ok (.aload_n 0, 1) := by decide +kernel
theorem dX9_goes_9 : decode cX9_goes 9 = .ok (.iconst 4, 1) := by decide +kernel
theorem dX9_goes_10 : decode cX9_goes 10 = .ok (.iload_n 1, 1) := by decide +kernel
theorem dX9_goes_11 : decode cX9_goes 11 = .ok (.invokevirtual 162, 3) := by decide +kernel
theorem dX9_goes_14 : decode cX9_goes 14 = .ok (.goto 8, 3) := by decide +kernel
theorem dX9_goes_17 : decode cX9_goes 17 = .ok (.aload_n 0, 1) := by decide +kernel
theorem dX9_goes_18 : decode cX9_goes 18 = .ok (.iconst 1, 1) := by decide +kernel
theorem dX9_goes_19 : decode cX9_goes 19 = .ok (.invokevirtual 51, 3) := by decide +kernel
theorem dX9_goes_22 : decode cX9_goes 22 = .ok (.ireturn, 1) := by decide +kernel
theorem dX9_set_0 : decode cX9_set 0 = .ok (.iload_n 1, 1) := by decide +kernel
theorem dX9_set_1 : decode cX9_set 1 = .ok (.iconst 0, 1) := by decide +kernel
theorem dX9_set_2 : decode cX9_set 2 = .ok (.iconst 2, 1) := by decide +kernel
theorem dX9_set_3 : decode cX9_set 3 = .ok (.invokestatic 47, 3) := by decide +kernel
theorem dX9_set_6 : decode cX9_set 6 = .ok (.ifCond .eq 36, 3) := by decide +kernel
theorem dX9_set_9 : decode cX9_set 9 = .ok (.iload_n 2, 1) := by decide +kernel
theorem dX9_set_10 : decode cX9_set 10 = .ok (.iload_n 1, 1) := by decide +kernel
theorem dX9_set_11 : decode cX9_set 11 = .ok (.iconst 2, 1) := by decide +kernel
theorem dX9_set_12 : decode cX9_set 12 = .ok (.if_icmp .ne 7, 3) := by decide +kernel
theorem dX9_set_15 : decode cX9_set 15 = .ok (.iconst 1, 1) := by decide +kernel
theorem dX9_set_16 : decode cX9_set 16 = .ok (.goto 4, 3) := by decide +kernel
theorem dX9_set_19 : decode cX9_set 19 = .ok (.iconst 0, 1) := by decide +kernel
theorem dX9_set_20 : decode cX9_set 20 = .ok (.iload_n 1, 1) := by decide +kernel
theorem dX9_set_21 : decode cX9_set 21 = .ok (.iconst 2, 1) := by decide +kernel
theorem dX9_set_22 : decode cX9_set 22 = .ok (.if_icmp .ne 8, 3) := by decide +kernel
theorem dX9_set_25 : decode cX9_set 25 = .ok (.bipush 40, 2) := by decide +kernel
theorem dX9_set_27 : decode cX9_set 27 = .ok (.goto 5, 3) := by decide +kernel
theorem dX9_set_30 : decode cX9_set 30 = .ok (.bipush 99, 2) := by decide +kernel
theorem dX9_set_32 : decode cX9_set 32 = .ok (.invokestatic 47, 3) := by decide +kernel
theorem dX9_set_35 : decode cX9_set 35 = .ok (.ifCond .eq 7, 3) := by decide +kernel
theorem dX9_set_38 : decode cX9_set 38 = .ok (.iconst 1, 1) := by decide +kernel
theorem dX9_set_39 : decode cX9_set 39 = .ok (.goto 4, 3) := by decide +kernel
theorem dX9_set_42 : decode cX9_set 42 = .ok (.iconst 0, 1) := by decide +kernel
theorem dX9_set_43 : decode cX9_set 43 = .ok (.istore_n 3, 1) := by decide +kernel
theorem dX9_set_44 : decode cX9_set 44 = .ok (.iload_n 3, 1) := by decide +kernel
theorem dX9_set_45 : decode cX9_set 45 = .ok (.ifCond .eq 14, 3) := by decide +kernel
theorem dX9_set_48 : decode cX9_set 48 = .ok (.aload_n 0, 1) := by decide +kernel
theorem dX9_set_49 : decode cX9_set 49 = .ok (.iconst 1, 1) := by decide +kernel
theorem dX9_set_50 : decode cX9_set 50 = .ok (.iload_n 1, 1) := by decide +kernel
theorem dX9_set_51 : decode cX9_set 51 = .ok (.iadd, 1) := by decide +kernel
theorem dX9_set_52 : decode cX9_set 52 = .ok (.iload_n 2, 1) := by decide +kernel
theorem dX9_set_53 : decode cX9_set 53 = .ok (.invokevirtual 162, 3) := by decide +kernel
theorem dX9_set_56 : decode cX9_set 56 = .ok (.goto 8, 3) := by decide +kernel
theorem dX9_set_59 : decode cX9_set 59 = .ok (.aload_n 0, 1) := by decide +kernel
theorem dX9_set_60 : decode cX9_set 60 = .ok (.iconst 1, 1) := by decide +kernel
theorem dX9_set_61 : decode cX9_set 61 = .ok (.invokevirtual 51, 3) := by decide +kernel
theorem dX9_set_64 : decode cX9_set 64 = .ok (.ireturn, 1) := by decide +kernel
theorem dX9_hears_0 : decode cX9_hears 0 = .ok (.aload_n 0, 1) := by decide +kernel
theorem dX9_hears_1 : decode cX9_hears 1 = .ok (.iload_n 1, 1) := by decide +kernel
theorem dX9_hears_2 : decode cX9_hears 2 = .ok (.invokevirtual 156, 3) := by decide +kernel
theorem dX9_hears_5 : decode cX9_hears 5 = .ok (.ifCond .eq 30, 3) := by decide +kernel
theorem dX9_hears_8 : decode cX9_hears 8 = .ok (.iload_n 2, 1) := by decide +kernel
theorem dX9_hears_9 : decode cX9_hears 9 = .ok (.iconst 0, 1) := by decide +kernel
theorem dX9_hears_10 : decode cX9_hears 10 = .ok (.sipush 9999, 3) := by decide +kernel
theorem dX9_hears_13 : decode cX9_hears 13 = .ok (.invokestatic 47, 3) := by decide +kernel
theorem dX9_hears_16 : decode cX9_hears 16 = .ok (.ifCond .eq 19, 3) := by decide +kernel
theorem dX9_hears_19 : decode cX9_hears 19 = .ok (.aload_n 0, 1) := by decide +kernel
theorem dX9_hears_20 : decode cX9_hears 20 = .ok (.bipush 9, 2) := by decide +kernel
theorem dX9_hears_22 : decode cX9_hears 22 = .ok (.iconst 5, 1) := by decide +kernel
theorem dX9_hears_23 : decode cX9_hears 23 = .ok (.iload_n 1, 1) := by decide +kernel
theorem dX9_hears_24 : decode cX9_hears 24 = .ok (.imul, 1) := by decide +kernel
theorem dX9_hears_25 : decode cX9_hears 25 = .ok (.iadd, 1) := by decide +kernel
theorem dX9_hears_26 : decode cX9_hears 26 = .ok (.iconst 2, 1) := by decide +kernel
theorem dX9_hears_27 : decode cX9_hears 27 = .ok (.iadd, 1) := by decide +kernel
theorem dX9_hears_28 : decode cX9_hears 28 = .ok (.iload_n 2, 1) := by decide +kernel
theorem dX9_hears_29 : decode cX9_hears 29 = .ok (.invokevirtual 162, 3) := by decide +kernel
theorem dX9_hears_32 : decode cX9_hears 32 = .ok (.goto 8, 3) := by decide +kernel
theorem dX9_hears_35 : decode cX9_hears 35 = .ok (.aload_n 0, 1) := by decide +kernel
theorem dX9_hears_36 : decode cX9_hears 36 = .ok (.iconst 1, 1) := by decide +kernel
theorem dX9_hears_37 : decode cX9_hears 37 = .ok (.invokevirtual 51, 3) := by decide +kernel
theorem dX9_hears_40 : decode cX9_hears 40 = .ok (.ireturn, 1) := by decide +kernel
theorem dX9_law_0 : decode cX9_law 0 = .ok (.iload_n 1, 1) := by decide +kernel
theorem dX9_law_1 : decode cX9_law 1 = .ok (.iconst 0, 1) := by decide +kernel
theorem dX9_law_2 : decode cX9_law 2 = .ok (.iconst 1, 1) := by decide +kernel
theorem dX9_law_3 : decode cX9_law 3 = .ok (.invokestatic 47, 3) := by decide +kernel
theorem dX9_law_6 : decode cX9_law 6 = .ok (.ifCond .eq 15, 3) := by decide +kernel
theorem dX9_law_9 : decode cX9_law 9 = .ok (.aload_n 0, 1) := by decide +kernel
theorem dX9_law_10 : decode cX9_law 10 = .ok (.iload_n 1, 1) := by decide +kernel
theorem dX9_law_11 : decode cX9_law 11 = .ok (.iload_n 2, 1) := by decide +kernel
theorem dX9_law_12 : decode cX9_law 12 = .ok (.iload_n 3, 1) := by decide +kernel
theorem dX9_law_13 : decode cX9_law 13 = .ok (.iload 4, 2) := by decide +kernel
theorem dX9_law_15 : decode cX9_law 15 = .ok (.invokevirtual 127, 3) := by decide +kernel
theorem dX9_law_18 : decode cX9_law 18 = .ok (.goto 8, 3) := by decide +kernel
theorem dX9_law_21 : decode cX9_law 21 = .ok (.aload_n 0, 1) := by decide +kernel
theorem dX9_law_22 : decode cX9_law 22 = .ok (.iconst 1, 1) := by decide +kernel
theorem dX9_law_23 : decode cX9_law 23 = .ok (.invokevirtual 51, 3) := by decide +kernel
theorem dX9_law_26 : decode cX9_law 26 = .ok (.ireturn, 1) := by decide +kernel
theorem dX9_days_0 : decode cX9_days 0 = .ok (.iload_n 1, 1) := by decide +kernel
theorem dX9_days_1 : decode cX9_days 1 = .ok (.iconst 1, 1) := by decide +kernel
theorem dX9_days_2 : decode cX9_days 2 = .ok (.bipush 60, 2) := by decide +kernel
theorem dX9_days_4 : decode cX9_days 4 = .ok (.invokestatic 47, 3) := by decide +kernel
theorem dX9_days_7 : decode cX9_days 7 = .ok (.ifCond .ne 9, 3) := by decide +kernel
theorem dX9_days_10 : decode cX9_days 10 = .ok (.aload_n 0, 1) := by decide +kernel
theorem dX9_days_11 : decode cX9_days 11 = .ok (.iconst 1, 1) := by decide +kernel
theorem dX9_days_12 : decode cX9_days 12 = .ok (.invokevirtual 51, 3) := by decide +kernel
theorem dX9_days_15 : decode cX9_days 15 = .ok (.ireturn, 1) := by decide +kernel
theorem dX9_days_16 : decode cX9_days 16 = .ok (.aload_n 0, 1) := by decide +kernel
theorem dX9_days_17 : decode cX9_days 17 = .ok (.getfield 7, 3) := by decide +kernel
theorem dX9_days_20 : decode cX9_days 20 = .ok (.iconst 0, 1) := by decide +kernel
theorem dX9_days_21 : decode cX9_days 21 = .ok (.iaload, 1) := by decide +kernel
theorem dX9_days_22 : decode cX9_days 22 = .ok (.iload_n 1, 1) := by decide +kernel
theorem dX9_days_23 : decode cX9_days 23 = .ok (.iadd, 1) := by decide +kernel
theorem dX9_days_24 : decode cX9_days 24 = .ok (.sipush 9999, 3) := by decide +kernel
theorem dX9_days_27 : decode cX9_days 27 = .ok (.if_icmp .le 9, 3) := by decide +kernel
theorem dX9_days_30 : decode cX9_days 30 = .ok (.aload_n 0, 1) := by decide +kernel
theorem dX9_days_31 : decode cX9_days 31 = .ok (.iconst 3, 1) := by decide +kernel
theorem dX9_days_32 : decode cX9_days 32 = .ok (.invokevirtual 51, 3) := by decide +kernel
theorem dX9_days_35 : decode cX9_days 35 = .ok (.ireturn, 1) := by decide +kernel
theorem dX9_days_36 : decode cX9_days 36 = .ok (.aload_n 0, 1) := by decide +kernel
theorem dX9_days_37 : decode cX9_days 37 = .ok (.iload_n 1, 1) := by decide +kernel
theorem dX9_days_38 : decode cX9_days 38 = .ok (.invokevirtual 165, 3) := by decide +kernel
theorem dX9_days_41 : decode cX9_days 41 = .ok (.aload_n 0, 1) := by decide +kernel
theorem dX9_days_42 : decode cX9_days 42 = .ok (.getfield 7, 3) := by decide +kernel
theorem dX9_days_45 : decode cX9_days 45 = .ok (.iconst 1, 1) := by decide +kernel
theorem dX9_days_46 : decode cX9_days 46 = .ok (.iaload, 1) := by decide +kernel
theorem dX9_days_47 : decode cX9_days 47 = .ok (.ireturn, 1) := by decide +kernel
theorem dX9_loose_0 : decode cX9_loose 0 = .ok (.iload_n 1, 1) := by decide +kernel
theorem dX9_loose_1 : decode cX9_loose 1 = .ok (.iconst 1, 1) := by decide +kernel
theorem dX9_loose_2 : decode cX9_loose 2 = .ok (.bipush 30, 2) := by decide +kernel
theorem dX9_loose_4 : decode cX9_loose 4 = .ok (.invokestatic 47, 3) := by decide +kernel
theorem dX9_loose_7 : decode cX9_loose 7 = .ok (.ifCond .ne 9, 3) := by decide +kernel
theorem dX9_loose_10 : decode cX9_loose 10 = .ok (.aload_n 0, 1) := by decide +kernel
theorem dX9_loose_11 : decode cX9_loose 11 = .ok (.iconst 1, 1) := by decide +kernel
theorem dX9_loose_12 : decode cX9_loose 12 = .ok (.invokevirtual 51, 3) := by decide +kernel
theorem dX9_loose_15 : decode cX9_loose 15 = .ok (.ireturn, 1) := by decide +kernel
theorem dX9_loose_16 : decode cX9_loose 16 = .ok (.aload_n 0, 1) := by decide +kernel
theorem dX9_loose_17 : decode cX9_loose 17 = .ok (.getfield 7, 3) := by decide +kernel
theorem dX9_loose_20 : decode cX9_loose 20 = .ok (.iconst 0, 1) := by decide +kernel
theorem dX9_loose_21 : decode cX9_loose 21 = .ok (.iaload, 1) := by decide +kernel
theorem dX9_loose_22 : decode cX9_loose 22 = .ok (.iload_n 1, 1) := by decide +kernel
theorem dX9_loose_23 : decode cX9_loose 23 = .ok (.iadd, 1) := by decide +kernel
theorem dX9_loose_24 : decode cX9_loose 24 = .ok (.sipush 9999, 3) := by decide +kernel
theorem dX9_loose_27 : decode cX9_loose 27 = .ok (.if_icmp .le 9, 3) := by decide +kernel
theorem dX9_loose_30 : decode cX9_loose 30 = .ok (.aload_n 0, 1) := by decide +kernel
theorem dX9_loose_31 : decode cX9_loose 31 = .ok (.iconst 3, 1) := by decide +kernel
theorem dX9_loose_32 : decode cX9_loose 32 = .ok (.invokevirtual 51, 3) := by decide +kernel
theorem dX9_loose_35 : decode cX9_loose 35 = .ok (.ireturn, 1) := by decide +kernel
theorem dX9_loose_36 : decode cX9_loose 36 = .ok (.iconst 0, 1) := by decide +kernel
theorem dX9_loose_37 : decode cX9_loose 37 = .ok (.istore_n 2, 1) := by decide +kernel
theorem dX9_loose_38 : decode cX9_loose 38 = .ok (.iload_n 2, 1) := by decide +kernel
theorem dX9_loose_39 : decode cX9_loose 39 = .ok (.iload_n 1, 1) := by decide +kernel
theorem dX9_loose_40 : decode cX9_loose 40 = .ok (.if_icmp .ge 65, 3) := by decide +kernel
theorem dX9_loose_43 : decode cX9_loose 43 = .ok (.aload_n 0, 1) := by decide +kernel
theorem dX9_loose_44 : decode cX9_loose 44 = .ok (.getfield 7, 3) := by decide +kernel
theorem dX9_loose_47 : decode cX9_loose 47 = .ok (.bipush 8, 2) := by decide +kernel
theorem dX9_loose_49 : decode cX9_loose 49 = .ok (.iaload, 1) := by decide +kernel
theorem dX9_loose_50 : decode cX9_loose 50 = .ok (.ifCond .le 45, 3) := by decide +kernel
theorem dX9_loose_53 : decode cX9_loose 53 = .ok (.aload_n 0, 1) := by decide +kernel
theorem dX9_loose_54 : decode cX9_loose 54 = .ok (.getfield 7, 3) := by decide +kernel
theorem dX9_loose_57 : decode cX9_loose 57 = .ok (.iconst 5, 1) := by decide +kernel
theorem dX9_loose_58 : decode cX9_loose 58 = .ok (.aload_n 0, 1) := by decide +kernel
theorem dX9_loose_59 : decode cX9_loose 59 = .ok (.getfield 7, 3) := by decide +kernel
theorem dX9_loose_62 : decode cX9_loose 62 = .ok (.iconst 5, 1) := by decide +kernel
theorem dX9_loose_63 : decode cX9_loose 63 = .ok (.iaload, 1) := by decide +kernel
theorem dX9_loose_64 : decode cX9_loose 64 = .ok (.ldc 169, 2) := by decide +kernel
theorem dX9_loose_66 : decode cX9_loose 66 = .ok (.imul, 1) := by decide +kernel
theorem dX9_loose_67 : decode cX9_loose 67 = .ok (.sipush 12345, 3) := by decide +kernel
theorem dX9_loose_70 : decode cX9_loose 70 = .ok (.iadd, 1) := by decide +kernel
theorem dX9_loose_71 : decode cX9_loose 71 = .ok (.iastore, 1) := by decide +kernel
theorem dX9_loose_72 : decode cX9_loose 72 = .ok (.aload_n 0, 1) := by decide +kernel
theorem dX9_loose_73 : decode cX9_loose 73 = .ok (.getfield 7, 3) := by decide +kernel
theorem dX9_loose_76 : decode cX9_loose 76 = .ok (.iconst 4, 1) := by decide +kernel
theorem dX9_loose_77 : decode cX9_loose 77 = .ok (.aload_n 0, 1) := by decide +kernel
theorem dX9_loose_78 : decode cX9_loose 78 = .ok (.getfield 7, 3) := by decide +kernel
theorem dX9_loose_81 : decode cX9_loose 81 = .ok (.iconst 5, 1) := by decide +kernel
theorem dX9_loose_82 : decode cX9_loose 82 = .ok (.iaload, 1) := by decide +kernel
theorem dX9_loose_83 : decode cX9_loose 83 = .ok (.bipush 8, 2) := by decide +kernel
theorem dX9_loose_85 : decode cX9_loose 85 = .ok (.iushr, 1) := by decide +kernel
theorem dX9_loose_86 : decode cX9_loose 86 = .ok (.aload_n 0, 1) := by decide +kernel
theorem dX9_loose_87 : decode cX9_loose 87 = .ok (.getfield 7, 3) := by decide +kernel
theorem dX9_loose_90 : decode cX9_loose 90 = .ok (.bipush 8, 2) := by decide +kernel
theorem dX9_loose_92 : decode cX9_loose 92 = .ok (.iaload, 1) := by decide +kernel
theorem dX9_loose_93 : decode cX9_loose 93 = .ok (.irem, 1) := by decide +kernel
theorem dX9_loose_94 : decode cX9_loose 94 = .ok (.iastore, 1) := by decide +kernel
theorem dX9_loose_95 : decode cX9_loose 95 = .ok (.aload_n 0, 1) := by decide +kernel
theorem dX9_loose_96 : decode cX9_loose 96 = .ok (.invokevirtual 150, 3) := by decide +kernel
theorem dX9_loose_99 : decode cX9_loose 99 = .ok (.iinc 2 1, 3) := by decide +kernel
theorem dX9_loose_102 : decode cX9_loose 102 = .ok (.goto (-64), 3) := by decide +kernel
theorem dX9_loose_105 : decode cX9_loose 105 = .ok (.aload_n 0, 1) := by decide +kernel
theorem dX9_loose_106 : decode cX9_loose 106 = .ok (.getfield 7, 3) := by decide +kernel
theorem dX9_loose_109 : decode cX9_loose 109 = .ok (.iconst 1, 1) := by decide +kernel
theorem dX9_loose_110 : decode cX9_loose 110 = .ok (.iaload, 1) := by decide +kernel
theorem dX9_loose_111 : decode cX9_loose 111 = .ok (.ireturn, 1) := by decide +kernel
theorem dX9_day_0 : decode cX9_day 0 = .ok (.iload_n 1, 1) := by decide +kernel
