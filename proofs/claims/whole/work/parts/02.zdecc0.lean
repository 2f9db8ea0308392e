theorem dX8_init_0 : decode cX8_init 0 = .ok (.aload_n 0, 1) := by decide +kernel
theorem dX8_init_1 : decode cX8_init 1 = .ok (.invokespecial 1, 3) := by decide +kernel
theorem dX8_init_4 : decode cX8_init 4 = .ok (.aload_n 0, 1) := by decide +kernel
theorem dX8_init_5 : decode cX8_init 5 = .ok (.new 7, 3) := by decide +kernel
theorem dX8_init_8 : decode cX8_init 8 = .ok (.dup, 1) := by decide +kernel
theorem dX8_init_9 : decode cX8_init 9 = .ok (.invokespecial 9, 3) := by decide +kernel
theorem dX8_init_12 : decode cX8_init 12 = .ok (.putfield 10, 3) := by decide +kernel
theorem dX8_init_15 : decode cX8_init 15 = .ok (.aload_n 0, 1) := by decide +kernel
theorem dX8_init_16 : decode cX8_init 16 = .ok (.new 7, 3) := by decide +kernel
theorem dX8_init_19 : decode cX8_init 19 = .ok (.dup, 1) := by decide +kernel
theorem dX8_init_20 : decode cX8_init 20 = .ok (.invokespecial 9, 3) := by decide +kernel
theorem dX8_init_23 : decode cX8_init 23 = .ok (.putfield 16, 3) := by decide +kernel
theorem dX8_init_26 : decode cX8_init 26 = .ok (.aload_n 0, 1) := by decide +kernel
theorem dX8_init_27 : decode cX8_init 27 = .ok (.new 19, 3) := by decide +kernel
theorem dX8_init_30 : decode cX8_init 30 = .ok (.dup, 1) := by decide +kernel
theorem dX8_init_31 : decode cX8_init 31 = .ok (.invokespecial 21, 3) := by decide +kernel
theorem dX8_init_34 : decode cX8_init 34 = .ok (.putfield 22, 3) := by decide +kernel
theorem dX8_init_37 : decode cX8_init 37 = .ok (.aload_n 0, 1) := by decide +kernel
theorem dX8_init_38 : decode cX8_init 38 = .ok (.new 26, 3) := by decide +kernel
theorem dX8_init_41 : decode cX8_init 41 = .ok (.dup, 1) := by decide +kernel
theorem dX8_init_42 : decode cX8_init 42 = .ok (.invokespecial 28, 3) := by decide +kernel
theorem dX8_init_45 : decode cX8_init 45 = .ok (.putfield 29, 3) := by decide +kernel
theorem dX8_init_48 : decode cX8_init 48 = .ok (.aload_n 0, 1) := by decide +kernel
theorem dX8_init_49 : decode cX8_init 49 = .ok (.new 33, 3) := by decide +kernel
theorem dX8_init_52 : decode cX8_init 52 = .ok (.dup, 1) := by decide +kernel
theorem dX8_init_53 : decode cX8_init 53 = .ok (.invokespecial 35, 3) := by decide +kernel
theorem dX8_init_56 : decode cX8_init 56 = .ok (.putfield 36, 3) := by decide +kernel
theorem dX8_init_59 : decode cX8_init 59 = .ok (.aload_n 0, 1) := by decide +kernel
theorem dX8_init_60 : decode cX8_init 60 = .ok (.iconst 4, 1) := by decide +kernel
theorem dX8_init_61 : decode cX8_init 61 = .ok (.anewarray 40, 3) := by decide +kernel
theorem dX8_init_64 : decode cX8_init 64 = .ok (.putfield 42, 3) := by decide +kernel
theorem dX8_init_67 : decode cX8_init 67 = .ok (.aload_n 0, 1) := by decide +kernel
theorem dX8_init_68 : decode cX8_init 68 = .ok (.bipush 7, 2) := by decide +kernel
theorem dX8_init_70 : decode cX8_init 70 = .ok (.newarray .int, 2) := by decide +kernel
theorem dX8_init_72 : decode cX8_init 72 = .ok (.putfield 46, 3) := by decide +kernel
theorem dX8_init_75 : decode cX8_init 75 = .ok (.aload_n 0, 1) := by decide +kernel
theorem dX8_init_76 : decode cX8_init 76 = .ok (.iconst 0, 1) := by decide +kernel
theorem dX8_init_77 : decode cX8_init 77 = .ok (.putfield 50, 3) := by decide +kernel
theorem dX8_init_80 : decode cX8_init 80 = .ok (.iconst 0, 1) := by decide +kernel
theorem dX8_init_81 : decode cX8_init 81 = .ok (.istore_n 1, 1) := by decide +kernel
theorem dX8_init_82 : decode cX8_init 82 = .ok (.iload_n 1, 1) := by decide +kernel
theorem dX8_init_83 : decode cX8_init 83 = .ok (.iconst 4, 1) := by decide +kernel
theorem dX8_init_84 : decode cX8_init 84 = .ok (.if_icmp .ge 22, 3) := by decide +kernel
theorem dX8_init_87 : decode cX8_init 87 = .ok (.aload_n 0, 1) := by decide +kernel
theorem dX8_init_88 : decode cX8_init 88 = .ok (.getfield 42, 3) := by decide +kernel
theorem dX8_init_91 : decode cX8_init 91 = .ok (.iload_n 1, 1) := by decide +kernel
theorem dX8_init_92 : decode cX8_init 92 = .ok (.new 40, 3) := by decide +kernel
theorem dX8_init_95 : decode cX8_init 95 = .ok (.dup, 1) := by decide +kernel
theorem dX8_init_96 : decode cX8_init 96 = .ok (.invokespecial 54, 3) := by decide +kernel
theorem dX8_init_99 : decode cX8_init 99 = .ok (.aastore, 1) := by decide +kernel
theorem dX8_init_100 : decode cX8_init 100 = .ok (.iinc 1 1, 3) := by decide +kernel
theorem dX8_init_103 : decode cX8_init 103 = .ok (.goto (-21), 3) := by decide +kernel
theorem dX8_init_106 : decode cX8_init 106 = .ok (.return_, 1) := by decide +kernel
theorem dX8_home_0 : decode cX8_home 0 = .ok (.iload_n 1, 1) := by decide +kernel
theorem dX8_home_1 : decode cX8_home 1 = .ok (.iconst 0, 1) := by decide +kernel
theorem dX8_home_2 : decode cX8_home 2 = .ok (.bipush 69, 2) := by decide +kernel
theorem dX8_home_4 : decode cX8_home 4 = .ok (.invokestatic 55, 3) := by decide +kernel
theorem dX8_home_7 : decode cX8_home 7 = .ok (.ifCond .ne 9, 3) := by decide +kernel
theorem dX8_home_10 : decode cX8_home 10 = .ok (.aload_n 0, 1) := by decide +kernel
theorem dX8_home_11 : decode cX8_home 11 = .ok (.iconst 1, 1) := by decide +kernel
theorem dX8_home_12 : decode cX8_home 12 = .ok (.invokevirtual 59, 3) := by decide +kernel
theorem dX8_home_15 : decode cX8_home 15 = .ok (.ireturn, 1) := by decide +kernel
theorem dX8_home_16 : decode cX8_home 16 = .ok (.aload_n 0, 1) := by decide +kernel
theorem dX8_home_17 : decode cX8_home 17 = .ok (.getfield 10, 3) := by decide +kernel
theorem dX8_home_20 : decode cX8_home 20 = .ok (.getfield 63, 3) := by decide +kernel
theorem dX8_home_23 : decode cX8_home 23 = .ok (.getfield 67, 3) := by decide +kernel
theorem dX8_home_26 : decode cX8_home 26 = .ok (.bipush 8, 2) := by decide +kernel
theorem dX8_home_28 : decode cX8_home 28 = .ok (.if_icmp .lt 9, 3) := by decide +kernel
theorem dX8_home_31 : decode cX8_home 31 = .ok (.aload_n 0, 1) := by decide +kernel
theorem dX8_home_32 : decode cX8_home 32 = .ok (.iconst 4, 1) := by decide +kernel
theorem dX8_home_33 : decode cX8_home 33 = .ok (.invokevirtual 59, 3) := by decide +kernel
theorem dX8_home_36 : decode cX8_home 36 = .ok (.ireturn, 1) := by decide +kernel
theorem dX8_home_37 : decode cX8_home 37 = .ok (.aload_n 0, 1) := by decide +kernel
theorem dX8_home_38 : decode cX8_home 38 = .ok (.getfield 10, 3) := by decide +kernel
theorem dX8_home_41 : decode cX8_home 41 = .ok (.getfield 63, 3) := by decide +kernel
theorem dX8_home_44 : decode cX8_home 44 = .ok (.iload_n 1, 1) := by decide +kernel
theorem dX8_home_45 : decode cX8_home 45 = .ok (.invokevirtual 72, 3) := by decide +kernel
theorem dX8_home_48 : decode cX8_home 48 = .ok (.ireturn, 1) := by decide +kernel
theorem dX8_homeIs_0 : decode cX8_homeIs 0 = .ok (.aload_n 0, 1) := by decide +kernel
theorem dX8_homeIs_1 : decode cX8_homeIs 1 = .ok (.getfield 10, 3) := by decide +kernel
theorem dX8_homeIs_4 : decode cX8_homeIs 4 = .ok (.getfield 63, 3) := by decide +kernel
theorem dX8_homeIs_7 : decode cX8_homeIs 7 = .ok (.astore_n 3, 1) := by decide +kernel
theorem dX8_homeIs_8 : decode cX8_homeIs 8 = .ok (.aload_n 3, 1) := by decide +kernel
theorem dX8_homeIs_9 : decode cX8_homeIs 9 = .ok (.iload_n 1, 1) := by decide +kernel
theorem dX8_homeIs_10 : decode cX8_homeIs 10 = .ok (.invokevirtual 75, 3) := by decide +kernel
theorem dX8_homeIs_13 : decode cX8_homeIs 13 = .ok (.ifCond .ne 9, 3) := by decide +kernel
theorem dX8_homeIs_16 : decode cX8_homeIs 16 = .ok (.aload_n 0, 1) := by decide +kernel
theorem dX8_homeIs_17 : decode cX8_homeIs 17 = .ok (.iconst 1, 1) := by decide +kernel
theorem dX8_homeIs_18 : decode cX8_homeIs 18 = .ok (.invokevirtual 59, 3) := by decide +kernel
theorem dX8_homeIs_21 : decode cX8_homeIs 21 = .ok (.ireturn, 1) := by decide +kernel
theorem dX8_homeIs_22 : decode cX8_homeIs 22 = .ok (.iload_n 2, 1) := by decide +kernel
theorem dX8_homeIs_23 : decode cX8_homeIs 23 = .ok (.tableswitch 97 0 7 #[45, 52, 59, 66, 73, 79, 85, 91], 45) := by decide +kernel
theorem dX8_homeIs_68 : decode cX8_homeIs 68 = .ok (.aload_n 3, 1) := by decide +kernel
theorem dX8_homeIs_69 : decode cX8_homeIs 69 = .ok (.getfield 79, 3) := by decide +kernel
theorem dX8_homeIs_72 : decode cX8_homeIs 72 = .ok (.iload_n 1, 1) := by decide +kernel
theorem dX8_homeIs_73 : decode cX8_homeIs 73 = .ok (.iaload, 1) := by decide +kernel
theorem dX8_homeIs_74 : decode cX8_homeIs 74 = .ok (.ireturn, 1) := by decide +kernel
theorem dX8_homeIs_75 : decode cX8_homeIs 75 = .ok (.aload_n 3, 1) := by decide +kernel
theorem dX8_homeIs_76 : decode cX8_homeIs 76 = .ok (.getfield 82, 3) := by decide +kernel
theorem dX8_homeIs_79 : decode cX8_homeIs 79 = .ok (.iload_n 1, 1) := by decide +kernel
theorem dX8_homeIs_80 : decode cX8_homeIs 80 = .ok (.iaload, 1) := by decide +kernel
theorem dX8_homeIs_81 : decode cX8_homeIs 81 = .ok (.ireturn, 1) := by decide +kernel
theorem dX8_homeIs_82 : decode cX8_homeIs 82 = .ok (.aload_n 3, 1) := by decide +kernel
theorem dX8_homeIs_83 : decode cX8_homeIs 83 = .ok (.getfield 85, 3) := by decide +kernel
theorem dX8_homeIs_86 : decode cX8_homeIs 86 = .ok (.iload_n 1, 1) := by decide +kernel
theorem dX8_homeIs_87 : decode cX8_homeIs 87 = .ok (.iaload, 1) := by decide +kernel
theorem dX8_homeIs_88 : decode cX8_homeIs 88 = .ok (.ireturn, 1) := by decide +kernel
theorem dX8_homeIs_89 : decode cX8_homeIs 89 = .ok (.aload_n 3, 1) := by decide +kernel
theorem dX8_homeIs_90 : decode cX8_homeIs 90 = .ok (.getfield 88, 3) := by decide +kernel
theorem dX8_homeIs_93 : decode cX8_homeIs 93 = .ok (.iload_n 1, 1) := by decide +kernel
theorem dX8_homeIs_94 : decode cX8_homeIs 94 = .ok (.iaload, 1) := by decide +kernel
theorem dX8_homeIs_95 : decode cX8_homeIs 95 = .ok (.ireturn, 1) := by decide +kernel
theorem dX8_homeIs_96 : decode cX8_homeIs 96 = .ok (.aload_n 3, 1) := by decide +kernel
theorem dX8_homeIs_97 : decode cX8_homeIs 97 = .ok (.iload_n 1, 1) := by decide +kernel
theorem dX8_homeIs_98 : decode cX8_homeIs 98 = .ok (.invokevirtual 91, 3) := by decide +kernel
theorem dX8_homeIs_101 : decode cX8_homeIs 101 = .ok (.ireturn, 1) := by decide +kernel
theorem dX8_homeIs_102 : decode cX8_homeIs 102 = .ok (.aload_n 3, 1) := by decide +kernel
theorem dX8_homeIs_103 : decode cX8_homeIs 103 = .ok (.iload_n 1, 1) := by decide +kernel
theorem dX8_homeIs_104 : decode cX8_homeIs 104 = .ok (.invokevirtual 94, 3) := by decide +kernel
theorem dX8_homeIs_107 : decode cX8_homeIs 107 = .ok (.ireturn, 1) := by decide +kernel
theorem dX8_homeIs_108 : decode cX8_homeIs 108 = .ok (.aload_n 3, 1) := by decide +kernel
theorem dX8_homeIs_109 : decode cX8_homeIs 109 = .ok (.iload_n 1, 1) := by decide +kernel
theorem dX8_homeIs_110 : decode cX8_homeIs 110 = .ok (.invokevirtual 97, 3) := by decide +kernel
theorem dX8_homeIs_113 : decode cX8_homeIs 113 = .ok (.ireturn, 1) := by decide +kernel
theorem dX8_homeIs_114 : decode cX8_homeIs 114 = .ok (.aload_n 3, 1) := by decide +kernel
theorem dX8_homeIs_115 : decode cX8_homeIs 115 = .ok (.iload_n 1, 1) := by decide +kernel
theorem dX8_homeIs_116 : decode cX8_homeIs 116 = .ok (.invokevirtual 100, 3) := by decide +kernel
theorem dX8_homeIs_119 : decode cX8_homeIs 119 = .ok (.ireturn, 1) := by decide +kernel
theorem dX8_homeIs_120 : decode cX8_homeIs 120 = .ok (.aload_n 0, 1) := by decide +kernel
theorem dX8_homeIs_121 : decode cX8_homeIs 121 = .ok (.iconst 1, 1) := by decide +kernel
theorem dX8_homeIs_122 : decode cX8_homeIs 122 = .ok (.invokevirtual 59, 3) := by decide +kernel
theorem dX8_homeIs_125 : decode cX8_homeIs 125 = .ok (.ireturn, 1) := by decide +kernel
theorem dX8_become_0 : decode cX8_become 0 = .ok (.aload_n 0, 1) := by decide +kernel
theorem dX8_become_1 : decode cX8_become 1 = .ok (.getfield 10, 3) := by decide +kernel
theorem dX8_become_4 : decode cX8_become 4 = .ok (.getfield 63, 3) := by decide +kernel
theorem dX8_become_7 : decode cX8_become 7 = .ok (.iload_n 1, 1) := by decide +kernel
theorem dX8_become_8 : decode cX8_become 8 = .ok (.invokevirtual 75, 3) := by decide +kernel
theorem dX8_become_11 : decode cX8_become 11 = .ok (.ifCond .eq 13, 3) := by decide +kernel
theorem dX8_become_14 : decode cX8_become 14 = .ok (.iload_n 2, 1) := by decide +kernel
theorem dX8_become_15 : decode cX8_become 15 = .ok (.iconst 0, 1) := by decide +kernel
theorem dX8_become_16 : decode cX8_become 16 = .ok (.bipush 69, 2) := by decide +kernel
theorem dX8_become_18 : decode cX8_become 18 = .ok (.invokestatic 55, 3) := by decide +kernel
theorem dX8_become_21 : decode cX8_become 21 = .ok (.ifCond .ne 9, 3) := by decide +kernel
theorem dX8_become_24 : decode cX8_become 24 = .ok (.aload_n 0, 1) := by decide +kernel
theorem dX8_become_25 : decode cX8_become 25 = .ok (.iconst 1, 1) := by decide +kernel
theorem dX8_become_26 : decode cX8_become 26 = .ok (.invokevirtual 59, 3) := by decide +kernel
theorem dX8_become_29 : decode cX8_become 29 = .ok (.ireturn, 1) := by decide +kernel
theorem dX8_become_30 : decode cX8_become 30 = .ok (.aload_n 0, 1) := by decide +kernel
theorem dX8_become_31 : decode cX8_become 31 = .ok (.getfield 10, 3) := by decide +kernel
theorem dX8_become_34 : decode cX8_become 34 = .ok (.getfield 63, 3) := by decide +kernel
theorem dX8_become_37 : decode cX8_become 37 = .ok (.getfield 79, 3) := by decide +kernel
theorem dX8_become_40 : decode cX8_become 40 = .ok (.iload_n 1, 1) := by decide +kernel
theorem dX8_become_41 : decode cX8_become 41 = .ok (.iaload, 1) := by decide +kernel
theorem dX8_become_42 : decode cX8_become 42 = .ok (.istore_n 3, 1) := by decide +kernel
theorem dX8_become_43 : decode cX8_become 43 = .ok (.aload_n 0, 1) := by decide +kernel
theorem dX8_become_44 : decode cX8_become 44 = .ok (.getfield 10, 3) := by decide +kernel
theorem dX8_become_47 : decode cX8_become 47 = .ok (.getfield 63, 3) := by decide +kernel
theorem dX8_become_50 : decode cX8_become 50 = .ok (.getfield 79, 3) := by decide +kernel
theorem dX8_become_53 : decode cX8_become 53 = .ok (.iload_n 1, 1) := by decide +kernel
theorem dX8_become_54 : decode cX8_become 54 = .ok (.iload_n 2, 1) := by decide +kernel
theorem dX8_become_55 : decode cX8_become 55 = .ok (.bipush 10, 2) := by decide +kernel
theorem dX8_become_57 : decode cX8_become 57 = .ok (.idiv, 1) := by decide +kernel
theorem dX8_become_58 : decode cX8_become 58 = .ok (.iastore, 1) := by decide +kernel
theorem dX8_become_59 : decode cX8_become 59 = .ok (.aload_n 0, 1) := by decide +kernel
theorem dX8_become_60 : decode cX8_become 60 = .ok (.getfield 10, 3) := by decide +kernel
theorem dX8_become_63 : decode cX8_become 63 = .ok (.getfield 63, 3) := by decide +kernel
theorem dX8_become_66 : decode cX8_become 66 = .ok (.getfield 82, 3) := by decide +kernel
theorem dX8_become_69 : decode cX8_become 69 = .ok (.iload_n 1, 1) := by decide +kernel
theorem dX8_become_70 : decode cX8_become 70 = .ok (.iload_n 2, 1) := by decide +kernel
theorem dX8_become_71 : decode cX8_become 71 = .ok (.bipush 10, 2) := by decide +kernel
theorem dX8_become_73 : decode cX8_become 73 = .ok (.irem, 1) := by decide +kernel
theorem dX8_become_74 : decode cX8_become 74 = .ok (.iastore, 1) := by decide +kernel
theorem dX8_become_75 : decode cX8_become 75 = .ok (.iload_n 3, 1) := by decide +kernel
theorem dX8_become_76 : decode cX8_become 76 = .ok (.ireturn, 1) := by decide +kernel
theorem dX8_as_0 : decode cX8_as 0 = .ok (.aload_n 0, 1) := by decide +kernel
theorem dX8_as_1 : decode cX8_as 1 = .ok (.getfield 10, 3) := by decide +kernel
theorem dX8_as_4 : decode cX8_as 4 = .ok (.getfield 63, 3) := by decide +kernel
theorem dX8_as_7 : decode cX8_as 7 = .ok (.iload_n 1, 1) := by decide +kernel
theorem dX8_as_8 : decode cX8_as 8 = .ok (.invokevirtual 75, 3) := by decide +kernel
theorem dX8_as_11 : decode cX8_as 11 = .ok (.ifCond .eq 13, 3) := by decide +kernel
theorem dX8_as_14 : decode cX8_as 14 = .ok (.iload_n 2, 1) := by decide +kernel
theorem dX8_as_15 : decode cX8_as 15 = .ok (.iconst 0, 1) := by decide +kernel
theorem dX8_as_16 : decode cX8_as 16 = .ok (.bipush 6, 2) := by decide +kernel
theorem dX8_as_18 : decode cX8_as 18 = .ok (.invokestatic 55, 3) := by decide +kernel
theorem dX8_as_21 : decode cX8_as 21 = .ok (.ifCond .ne 9, 3) := by decide +kernel
theorem dX8_as_24 : decode cX8_as 24 = .ok (.aload_n 0, 1) := by decide +kernel
theorem dX8_as_25 : decode cX8_as 25 = .ok (.iconst 1, 1) := by decide +kernel
theorem dX8_as_26 : decode cX8_as 26 = .ok (.invokevirtual 59, 3) := by decide +kernel
theorem dX8_as_29 : decode cX8_as 29 = .ok (.ireturn, 1) := by decide +kernel
theorem dX8_as_30 : decode cX8_as 30 = .ok (.aload_n 0, 1) := by decide +kernel
theorem dX8_as_31 : decode cX8_as 31 = .ok (.getfield 10, 3) := by decide +kernel
theorem dX8_as_34 : decode cX8_as 34 = .ok (.getfield 63, 3) := by decide +kernel
theorem dX8_as_37 : decode cX8_as 37 = .ok (.getfield 79, 3) := by decide +kernel
theorem dX8_as_40 : decode cX8_as 40 = .ok (.iload_n 1, 1) := by decide +kernel
theorem dX8_as_41 : decode cX8_as 41 = .ok (.iaload, 1) := by decide +kernel
theorem dX8_as_42 : decode cX8_as 42 = .ok (.iload_n 2, 1) := by decide +kernel
theorem dX8_as_43 : decode cX8_as 43 = .ok (.invokestatic 103, 3) := by decide +kernel
theorem dX8_as_46 : decode cX8_as 46 = .ok (.ifCond .ne 9, 3) := by decide +kernel
theorem dX8_as_49 : decode cX8_as 49 = .ok (.aload_n 0, 1) := by decide +kernel
theorem dX8_as_50 : decode cX8_as 50 = .ok (.iconst 5, 1) := by decide +kernel
theorem dX8_as_51 : decode cX8_as 51 = .ok (.invokevirtual 59, 3) := by decide +kernel
theorem dX8_as_54 : decode cX8_as 54 = .ok (.ireturn, 1) := by decide +kernel
theorem dX8_as_55 : decode cX8_as 55 = .ok (.aload_n 0, 1) := by decide +kernel
theorem dX8_as_56 : decode cX8_as 56 = .ok (.getfield 10, 3) := by decide +kernel
theorem dX8_as_59 : decode cX8_as 59 = .ok (.getfield 63, 3) := by decide +kernel
theorem dX8_as_62 : decode cX8_as 62 = .ok (.getfield 82, 3) := by decide +kernel
theorem dX8_as_65 : decode cX8_as 65 = .ok (.iload_n 1, 1) := by decide +kernel
theorem dX8_as_66 : decode cX8_as 66 = .ok (.iaload, 1) := by decide +kernel
theorem dX8_as_67 : decode cX8_as 67 = .ok (.ireturn, 1) := by decide +kernel
theorem dX8_past_0 : decode cX8_past 0 = .ok (.aload_n 0, 1) := by decide +kernel
theorem dX8_past_1 : decode cX8_past 1 = .ok (.getfield 10, 3) := by decide +kernel
theorem dX8_past_4 : decode cX8_past 4 = .ok (.getfield 63, 3) := by decide +kernel
theorem dX8_past_7 : decode cX8_past 7 = .ok (.iload_n 1, 1) := by decide +kernel
theorem dX8_past_8 : decode cX8_past 8 = .ok (.invokevirtual 75, 3) := by decide +kernel
theorem dX8_past_11 : decode cX8_past 11 = .ok (.ifCond .eq 12, 3) := by decide +kernel
theorem dX8_past_14 : decode cX8_past 14 = .ok (.iload_n 2, 1) := by decide +kernel
theorem dX8_past_15 : decode cX8_past 15 = .ok (.iconst 0, 1) := by decide +kernel
theorem dX8_past_16 : decode cX8_past 16 = .ok (.iconst 1, 1) := by decide +kernel
theorem dX8_past_17 : decode cX8_past 17 = .ok (.invokestatic 55, 3) := by decide +kernel
theorem dX8_past_20 : decode cX8_past 20 = .ok (.ifCond .ne 9, 3) := by decide +kernel
theorem dX8_past_23 : decode cX8_past 23 = .ok (.aload_n 0, 1) := by decide +kernel
theorem dX8_past_24 : decode cX8_past 24 = .ok (.iconst 1, 1) := by decide +kernel
theorem dX8_past_25 : decode cX8_past 25 = .ok (.invokevirtual 59, 3) := by decide +kernel
theorem dX8_past_28 : decode cX8_past 28 = .ok (.ireturn, 1) := by decide +kernel
theorem dX8_past_29 : decode cX8_past 29 = .ok (.aload_n 0, 1) := by decide +kernel
theorem dX8_past_30 : decode cX8_past 30 = .ok (.getfield 10, 3) := by decide +kernel
theorem dX8_past_33 : decode cX8_past 33 = .ok (.getfield 63, 3) := by decide +kernel
theorem dX8_past_36 : decode cX8_past 36 = .ok (.iload_n 1, 1) := by decide +kernel
theorem dX8_past_37 : decode cX8_past 37 = .ok (.invokevirtual 91, 3) := by decide +kernel
theorem dX8_past_40 : decode cX8_past 40 = .ok (.istore_n 3, 1) := by decide +kernel
theorem dX8_past_41 : decode cX8_past 41 = .ok (.aload_n 0, 1) := by decide +kernel
theorem dX8_past_42 : decode cX8_past 42 = .ok (.getfield 10, 3) := by decide +kernel
theorem dX8_past_45 : decode cX8_past 45 = .ok (.getfield 63, 3) := by decide +kernel
theorem dX8_past_48 : decode cX8_past 48 = .ok (.iload_n 1, 1) := by decide +kernel
theorem dX8_past_49 : decode cX8_past 49 = .ok (.iload_n 2, 1) := by decide +kernel
theorem dX8_past_50 : decode cX8_past 50 = .ok (.invokevirtual 107, 3) := by decide +kernel
theorem dX8_past_53 : decode cX8_past 53 = .ok (.iload_n 3, 1) := by decide +kernel
theorem dX8_past_54 : decode cX8_past 54 = .ok (.ireturn, 1) := by decide +kernel
theorem dX8_goes_0 : decode cX8_goes 0 = .ok (.aload_n 0, 1) := by decide +kernel
theorem dX8_goes_1 : decode cX8_goes 1 = .ok (.getfield 10, 3) := by decide +kernel
theorem dX8_goes_4 : decode cX8_goes 4 = .ok (.getfield 63, 3) := by decide +kernel
theorem dX8_goes_7 : decode cX8_goes 7 = .ok (.iload_n 1, 1) := by decide +kernel
theorem dX8_goes_8 : decode cX8_goes 8 = .ok (.invokevirtual 75, 3) := by decide +kernel
theorem dX8_goes_11 : decode cX8_goes 11 = .ok (.ifCond .ne 9, 3) := by decide +kernel
theorem dX8_goes_14 : decode cX8_goes 14 = .ok (.aload_n 0, 1) := by decide +kernel
theorem dX8_goes_15 : decode cX8_goes 15 = .ok (.iconst 1, 1) := by decide +kernel
theorem dX8_goes_16 : decode cX8_goes 16 = .ok (.invokevirtual 59, 3) := by decide +kernel
theorem dX8_goes_19 : decode cX8_goes 19 = .ok (.ireturn, 1) := by decide +kernel
theorem dX8_goes_20 : decode cX8_goes 20 = .ok (.aload_n 0, 1) := by decide +kernel
theorem dX8_goes_21 : decode cX8_goes 21 = .ok (.getfield 10, 3) := by decide +kernel
theorem dX8_goes_24 : decode cX8_goes 24 = .ok (.getfield 63, 3) := by decide +kernel
theorem dX8_goes_27 : decode cX8_goes 27 = .ok (.getfield 111, 3) := by decide +kernel
theorem dX8_goes_30 : decode cX8_goes 30 = .ok (.istore_n 2, 1) := by decide +kernel
theorem dX8_goes_31 : decode cX8_goes 31 = .ok (.aload_n 0, 1) := by decide +kernel
theorem dX8_goes_32 : decode cX8_goes 32 = .ok (.getfield 10, 3) := by decide +kernel
theorem dX8_goes_35 : decode cX8_goes 35 = .ok (.getfield 63, 3) := by decide +kernel
theorem dX8_goes_38 : decode cX8_goes 38 = .ok (.iload_n 1, 1) := by decide +kernel
theorem dX8_goes_39 : decode cX8_goes 39 = .ok (.putfield 111, 3) := by decide +kernel
theorem dX8_goes_42 : decode cX8_goes 42 = .ok (.iload_n 2, 1) := by decide +kernel
theorem dX8_goes_43 : decode cX8_goes 43 = .ok (.ireturn, 1) := by decide +kernel
theorem dX8_set_0 : decode cX8_set 0 = .ok (.iload_n 1, 1) := by decide +kernel
theorem dX8_set_1 : decode cX8_set 1 = .ok (.tableswitch 45 0 2 #[27, 33, 39], 27) := by decide +kernel
theorem dX8_set_28 : decode cX8_set 28 = .ok (.aload_n 0, 1) := by decide +kernel
theorem dX8_set_29 : decode cX8_set 29 = .ok (.iload_n 2, 1) := by decide +kernel
theorem dX8_set_30 : decode cX8_set 30 = .ok (.invokevirtual 114, 3) := by decide +kernel
theorem dX8_set_33 : decode cX8_set 33 = .ok (.ireturn, 1) := by decide +kernel
theorem dX8_set_34 : decode cX8_set 34 = .ok (.aload_n 0, 1) := by decide +kernel
theorem dX8_set_35 : decode cX8_set 35 = .ok (.iload_n 2, 1) := by decide +kernel
theorem dX8_set_36 : decode cX8_set 36 = .ok (.invokevirtual 117, 3) := by decide +kernel
theorem dX8_set_39 : decode cX8_set 39 = .ok (.ireturn, 1) := by decide +kernel
theorem dX8_set_40 : decode cX8_set 40 = .ok (.aload_n 0, 1) := by decide +kernel
theorem dX8_set_41 : decode cX8_set 41 = .ok (.iload_n 2, 1) := by decide +kernel
theorem dX8_set_42 : decode cX8_set 42 = .ok (.invokevirtual 120, 3) := by decide +kernel
theorem dX8_set_45 : decode cX8_set 45 = .ok (.ireturn, 1) := by decide +kernel
theorem dX8_set_46 : decode cX8_set 46 = .ok (.aload_n 0, 1) := by decide +kernel
theorem dX8_set_47 : decode cX8_set 47 = .ok (.iconst 1, 1) := by decide +kernel
theorem dX8_set_48 : decode cX8_set 48 = .ok (.invokevirtual 59, 3) := by decide +kernel
theorem dX8_set_51 : decode cX8_set 51 = .ok (.ireturn, 1) := by decide +kernel
theorem dX8_hears_0 : decode cX8_hears 0 = .ok (.aload_n 0, 1) := by decide +kernel
theorem dX8_hears_1 : decode cX8_hears 1 = .ok (.getfield 10, 3) := by decide +kernel
theorem dX8_hears_4 : decode cX8_hears 4 = .ok (.getfield 63, 3) := by decide +kernel
theorem dX8_hears_7 : decode cX8_hears 7 = .ok (.iload_n 1, 1) := by decide +kernel
theorem dX8_hears_8 : decode cX8_hears 8 = .ok (.invokevirtual 75, 3) := by decide +kernel
theorem dX8_hears_11 : decode cX8_hears 11 = .ok (.ifCond .eq 14, 3) := by decide +kernel
theorem dX8_hears_14 : decode cX8_hears 14 = .ok (.iload_n 2, 1) := by decide +kernel
theorem dX8_hears_15 : decode cX8_hears 15 = .ok (.iconst 0, 1) := by decide +kernel
theorem dX8_hears_16 : decode cX8_hears 16 = .ok (.sipush 9999, 3) := by decide +kernel
theorem dX8_hears_19 : decode cX8_hears 19 = .ok (.invokestatic 55, 3) := by decide +kernel
theorem dX8_hears_22 : decode cX8_hears 22 = .ok (.ifCond .ne 9, 3) := by decide +kernel
theorem dX8_hears_25 : decode cX8_hears 25 = .ok (.aload_n 0, 1) := by decide +kernel
theorem dX8_hears_26 : decode cX8_hears 26 = .ok (.iconst 1, 1) := by decide +kernel
theorem dX8_hears_27 : decode cX8_hears 27 = .ok (.invokevirtual 59, 3) := by decide +kernel
theorem dX8_hears_30 : decode cX8_hears 30 = .ok (.ireturn, 1) := by decide +kernel
theorem dX8_hears_31 : decode cX8_hears 31 = .ok (.aload_n 0, 1) := by decide +kernel
theorem dX8_hears_32 : decode cX8_hears 32 = .ok (.getfield 10, 3) := by decide +kernel
theorem dX8_hears_35 : decode cX8_hears 35 = .ok (.getfield 63, 3) := by decide +kernel
theorem dX8_hears_38 : decode cX8_hears 38 = .ok (.getfield 85, 3) := by decide +kernel
theorem dX8_hears_41 : decode cX8_hears 41 = .ok (.iload_n 1, 1) := by decide +kernel
theorem dX8_hears_42 : decode cX8_hears 42 = .ok (.iaload, 1) := by decide +kernel
theorem dX8_hears_43 : decode cX8_hears 43 = .ok (.istore_n 3, 1) := by decide +kernel
theorem dX8_hears_44 : decode cX8_hears 44 = .ok (.aload_n 0, 1) := by decide +kernel
theorem dX8_hears_45 : decode cX8_hears 45 = .ok (.getfield 10, 3) := by decide +kernel
theorem dX8_hears_48 : decode cX8_hears 48 = .ok (.getfield 63, 3) := by decide +kernel
theorem dX8_hears_51 : decode cX8_hears 51 = .ok (.getfield 85, 3) := by decide +kernel
theorem dX8_hears_54 : decode cX8_hears 54 = .ok (.iload_n 1, 1) := by decide +kernel
theorem dX8_hears_55 : decode cX8_hears 55 = .ok (.iload_n 2, 1) := by decide +kernel
theorem dX8_hears_56 : decode cX8_hears 56 = .ok (.iastore, 1) := by decide +kernel
theorem dX8_hears_57 : decode cX8_hears 57 = .ok (.iload_n 3, 1) := by decide +kernel
theorem dX8_hears_58 : decode cX8_hears 58 = .ok (.ireturn, 1) := by decide +kernel
theorem dX8_feed_0 : decode cX8_feed 0 = .ok (.iload_n 3, 1) := by decide +kernel
theorem dX8_feed_1 : decode cX8_feed 1 = .ok (.iconst 1, 1) := by decide +kernel
theorem dX8_feed_2 : decode cX8_feed 2 = .ok (.bipush 8, 2) := by decide +kernel
theorem dX8_feed_4 : decode cX8_feed 4 = .ok (.invokestatic 55, 3) := by decide +kernel
theorem dX8_feed_7 : decode cX8_feed 7 = .ok (.ifCond .ne 9, 3) := by decide +kernel
theorem dX8_feed_10 : decode cX8_feed 10 = .ok (.aload_n 0, 1) := by decide +kernel
theorem dX8_feed_11 : decode cX8_feed 11 = .ok (.iconst 1, 1) := by decide +kernel
theorem dX8_feed_12 : decode cX8_feed 12 = .ok (.invokevirtual 59, 3) := by decide +kernel
theorem dX8_feed_15 : decode cX8_feed 15 = .ok (.ireturn, 1) := by decide +kernel
theorem dX8_feed_16 : decode cX8_feed 16 = .ok (.aload_n 0, 1) := by decide +kernel
theorem dX8_feed_17 : decode cX8_feed 17 = .ok (.getfield 10, 3) := by decide +kernel
theorem dX8_feed_20 : decode cX8_feed 20 = .ok (.getfield 123, 3) := by decide +kernel
theorem dX8_feed_23 : decode cX8_feed 23 = .ok (.getfield 127, 3) := by decide +kernel
theorem dX8_feed_26 : decode cX8_feed 26 = .ok (.iload_n 3, 1) := by decide +kernel
theorem dX8_feed_27 : decode cX8_feed 27 = .ok (.iadd, 1) := by decide +kernel
theorem dX8_feed_28 : decode cX8_feed 28 = .ok (.bipush 60, 2) := by decide +kernel
theorem dX8_feed_30 : decode cX8_feed 30 = .ok (.if_icmp .le 9, 3) := by decide +kernel
theorem dX8_feed_33 : decode cX8_feed 33 = .ok (.aload_n 0, 1) := by decide +kernel
theorem dX8_feed_34 : decode cX8_feed 34 = .ok (.iconst 4, 1) := by decide +kernel
theorem dX8_feed_35 : decode cX8_feed 35 = .ok (.invokevirtual 59, 3) := by decide +kernel
theorem dX8_feed_38 : decode cX8_feed 38 = .ok (.ireturn, 1) := by decide +kernel
theorem dX8_feed_39 : decode cX8_feed 39 = .ok (.iconst 0, 1) := by decide +kernel
theorem dX8_feed_40 : decode cX8_feed 40 = .ok (.istore 4, 2) := by decide +kernel
theorem dX8_feed_42 : decode cX8_feed 42 = .ok (.iload 4, 2) := by decide +kernel
theorem dX8_feed_44 : decode cX8_feed 44 = .ok (.iload_n 3, 1) := by decide +kernel
theorem dX8_feed_45 : decode cX8_feed 45 = .ok (.if_icmp .ge 31, 3) := by decide +kernel
theorem dX8_feed_48 : decode cX8_feed 48 = .ok (.aload_n 0, 1) := by decide +kernel
theorem dX8_feed_49 : decode cX8_feed 49 = .ok (.getfield 10, 3) := by decide +kernel
theorem dX8_feed_52 : decode cX8_feed 52 = .ok (.getfield 123, 3) := by decide +kernel
theorem dX8_feed_55 : decode cX8_feed 55 = .ok (.lload_n 1, 1) := by decide +kernel
theorem dX8_feed_56 : decode cX8_feed 56 = .ok (.bipush 8, 2) := by decide +kernel
theorem dX8_feed_58 : decode cX8_feed 58 = .ok (.iload 4, 2) := by decide +kernel
theorem dX8_feed_60 : decode cX8_feed 60 = .ok (.imul, 1) := by decide +kernel
theorem dX8_feed_61 : decode cX8_feed 61 = .ok (.lushr, 1) := by decide +kernel
theorem dX8_feed_62 : decode cX8_feed 62 = .ok (.l2i, 1) := by decide +kernel
theorem dX8_feed_63 : decode cX8_feed 63 = .ok (.sipush 255, 3) := by decide +kernel
theorem dX8_feed_66 : decode cX8_feed 66 = .ok (.iand, 1) := by decide +kernel
theorem dX8_feed_67 : decode cX8_feed 67 = .ok (.invokevirtual 132, 3) := by decide +kernel
theorem dX8_feed_70 : decode cX8_feed 70 = .ok (.iinc 4 1, 3) := by decide +kernel
theorem dX8_feed_73 : decode cX8_feed 73 = .ok (.goto (-31), 3) := by decide +kernel
theorem dX8_feed_76 : decode cX8_feed 76 = .ok (.aload_n 0, 1) := by decide +kernel
theorem dX8_feed_77 : decode cX8_feed 77 = .ok (.getfield 10, 3) := by decide +kernel
theorem dX8_feed_80 : decode cX8_feed 80 = .ok (.getfield 123, 3) := by decide +kernel
theorem dX8_feed_83 : decode cX8_feed 83 = .ok (.getfield 127, 3) := by decide +kernel
theorem dX8_feed_86 : decode cX8_feed 86 = .ok (.ireturn, 1) := by decide +kernel
theorem dX8_text_0 : decode cX8_text 0 = .ok (.iload_n 1, 1) := by decide +kernel
theorem dX8_text_1 : decode cX8_text 1 = .ok (.invokestatic 136, 3) := by decide +kernel
theorem dX8_text_4 : decode cX8_text 4 = .ok (.ifCond .ne 9, 3) := by decide +kernel
theorem dX8_text_7 : decode cX8_text 7 = .ok (.aload_n 0, 1) := by decide +kernel
theorem dX8_text_8 : decode cX8_text 8 = .ok (.iconst 1, 1) := by decide +kernel
theorem dX8_text_9 : decode cX8_text 9 = .ok (.invokevirtual 59, 3) := by decide +kernel
theorem dX8_text_12 : decode cX8_text 12 = .ok (.ireturn, 1) := by decide +kernel
theorem dX8_text_13 : decode cX8_text 13 = .ok (.aload_n 0, 1) := by decide +kernel
theorem dX8_text_14 : decode cX8_text 14 = .ok (.getfield 22, 3) := by decide +kernel
theorem dX8_text_17 : decode cX8_text 17 = .ok (.aload_n 0, 1) := by decide +kernel
theorem dX8_text_18 : decode cX8_text 18 = .ok (.getfield 10, 3) := by decide +kernel
theorem dX8_text_21 : decode cX8_text 21 = .ok (.getfield 123, 3) := by decide +kernel
theorem dX8_text_24 : decode cX8_text 24 = .ok (.iload_n 1, 1) := by decide +kernel
theorem dX8_text_25 : decode cX8_text 25 = .ok (.invokevirtual 139, 3) := by decide +kernel
theorem dX8_text_28 : decode cX8_text 28 = .ok (.istore_n 2, 1) := by decide +kernel
theorem dX8_text_29 : decode cX8_text 29 = .ok (.aload_n 0, 1) := by decide +kernel
theorem dX8_text_30 : decode cX8_text 30 = .ok (.getfield 10, 3) := by decide +kernel
theorem dX8_text_33 : decode cX8_text 33 = .ok (.getfield 123, 3) := by decide +kernel
theorem dX8_text_36 : decode cX8_text 36 = .ok (.invokevirtual 143, 3) := by decide +kernel
theorem dX8_text_39 : decode cX8_text 39 = .ok (.iload_n 2, 1) := by decide +kernel
theorem dX8_text_40 : decode cX8_text 40 = .ok (.ifCond .lt 8, 3) := by decide +kernel
theorem dX8_text_43 : decode cX8_text 43 = .ok (.bipush (-10), 2) := by decide +kernel
theorem dX8_text_45 : decode cX8_text 45 = .ok (.iload_n 2, 1) := by decide +kernel
theorem dX8_text_46 : decode cX8_text 46 = .ok (.isub, 1) := by decide +kernel
theorem dX8_text_47 : decode cX8_text 47 = .ok (.ireturn, 1) := by decide +kernel
theorem dX8_text_48 : decode cX8_text 48 = .ok (.aload_n 0, 1) := by decide +kernel
theorem dX8_text_49 : decode cX8_text 49 = .ok (.getfield 10, 3) := by decide +kernel
theorem dX8_text_52 : decode cX8_text 52 = .ok (.getfield 63, 3) := by decide +kernel
theorem dX8_text_55 : decode cX8_text 55 = .ok (.iload_n 1, 1) := by decide +kernel
theorem dX8_text_56 : decode cX8_text 56 = .ok (.invokevirtual 146, 3) := by decide +kernel
theorem dX8_text_59 : decode cX8_text 59 = .ok (.aload_n 0, 1) := by decide +kernel
theorem dX8_text_60 : decode cX8_text 60 = .ok (.getfield 22, 3) := by decide +kernel
theorem dX8_text_63 : decode cX8_text 63 = .ok (.getfield 150, 3) := by decide +kernel
theorem dX8_text_66 : decode cX8_text 66 = .ok (.invokevirtual 153, 3) := by decide +kernel
theorem dX8_text_69 : decode cX8_text 69 = .ok (.iconst 1, 1) := by decide +kernel
theorem dX8_text_70 : decode cX8_text 70 = .ok (.ireturn, 1) := by decide +kernel
theorem dX8_untell_0 : decode cX8_untell 0 = .ok (.iload_n 1, 1) := by decide +kernel
theorem dX8_untell_1 : decode cX8_untell 1 = .ok (.invokestatic 136, 3) := by decide +kernel
theorem dX8_untell_4 : decode cX8_untell 4 = .ok (.ifCond .ne 9, 3) := by decide +kernel
theorem dX8_untell_7 : decode cX8_untell 7 = .ok (.aload_n 0, 1) := by decide +kernel
theorem dX8_untell_8 : decode cX8_untell 8 = .ok (.iconst 1, 1) := by decide +kernel
theorem dX8_untell_9 : decode cX8_untell 9 = .ok (.invokevirtual 59, 3) := by decide +kernel
theorem dX8_untell_12 : decode cX8_untell 12 = .ok (.ireturn, 1) := by decide +kernel
theorem dX8_untell_13 : decode cX8_untell 13 = .ok (.aload_n 0, 1) := by decide +kernel
theorem dX8_untell_14 : decode cX8_untell 14 = .ok (.getfield 10, 3) := by decide +kernel
theorem dX8_untell_17 : decode cX8_untell 17 = .ok (.getfield 63, 3) := by decide +kernel
theorem dX8_untell_20 : decode cX8_untell 20 = .ok (.iload_n 1, 1) := by decide +kernel
theorem dX8_untell_21 : decode cX8_untell 21 = .ok (.invokevirtual 146, 3) := by decide +kernel
theorem dX8_untell_24 : decode cX8_untell 24 = .ok (.getfield 159, 3) := by decide +kernel
theorem dX8_untell_27 : decode cX8_untell 27 = .ok (.astore_n 2, 1) := by decide +kernel
theorem dX8_untell_28 : decode cX8_untell 28 = .ok (.aload_n 2, 1) := by decide +kernel
theorem dX8_untell_29 : decode cX8_untell 29 = .ok (.getfield 127, 3) := by decide +kernel
theorem dX8_untell_32 : decode cX8_untell 32 = .ok (.ifCond .le 7, 3) := by decide +kernel
theorem dX8_untell_35 : decode cX8_untell 35 = .ok (.iconst 1, 1) := by decide +kernel
theorem dX8_untell_36 : decode cX8_untell 36 = .ok (.goto 4, 3) := by decide +kernel
theorem dX8_untell_39 : decode cX8_untell 39 = .ok (.iconst 0, 1) := by decide +kernel
theorem dX8_untell_40 : decode cX8_untell 40 = .ok (.istore_n 3, 1) := by decide +kernel
theorem dX8_untell_41 : decode cX8_untell 41 = .ok (.aload_n 2, 1) := by decide +kernel
theorem dX8_untell_42 : decode cX8_untell 42 = .ok (.invokevirtual 143, 3) := by decide +kernel
theorem dX8_untell_45 : decode cX8_untell 45 = .ok (.iload_n 3, 1) := by decide +kernel
theorem dX8_untell_46 : decode cX8_untell 46 = .ok (.ireturn, 1) := by decide +kernel
theorem dX8_law_0 : decode cX8_law 0 = .ok (.iload_n 1, 1) := by decide +kernel
theorem dX8_law_1 : decode cX8_law 1 = .ok (.invokestatic 136, 3) := by decide +kernel
theorem dX8_law_4 : decode cX8_law 4 = .ok (.ifCond .ne 9, 3) := by decide +kernel
theorem dX8_law_7 : decode cX8_law 7 = .ok (.aload_n 0, 1) := by decide +kernel
theorem dX8_law_8 : decode cX8_law 8 = .ok (.iconst 1, 1) := by decide +kernel
theorem dX8_law_9 : decode cX8_law 9 = .ok (.invokevirtual 59, 3) := by decide +kernel
theorem dX8_law_12 : decode cX8_law 12 = .ok (.ireturn, 1) := by decide +kernel
theorem dX8_law_13 : decode cX8_law 13 = .ok (.aload_n 0, 1) := by decide +kernel
theorem dX8_law_14 : decode cX8_law 14 = .ok (.getfield 10, 3) := by decide +kernel
theorem dX8_law_17 : decode cX8_law 17 = .ok (.getfield 63, 3) := by decide +kernel
theorem dX8_law_20 : decode cX8_law 20 = .ok (.iload_n 1, 1) := by decide +kernel
theorem dX8_law_21 : decode cX8_law 21 = .ok (.invokevirtual 146, 3) := by decide +kernel
theorem dX8_law_24 : decode cX8_law 24 = .ok (.iload_n 2, 1) := by decide +kernel
theorem dX8_law_25 : decode cX8_law 25 = .ok (.iload_n 3, 1) := by decide +kernel
theorem dX8_law_26 : decode cX8_law 26 = .ok (.iload 4, 2) := by decide +kernel
theorem dX8_law_28 : decode cX8_law 28 = .ok (.invokevirtual 160, 3) := by decide +kernel
theorem dX8_law_31 : decode cX8_law 31 = .ok (.ireturn, 1) := by decide +kernel
theorem dX8_days_0 : decode cX8_days 0 = .ok (.iload_n 1, 1) := by decide +kernel
theorem dX8_days_1 : decode cX8_days 1 = .ok (.iconst 1, 1) := by decide +kernel
theorem dX8_days_2 : decode cX8_days 2 = .ok (.bipush 60, 2) := by decide +kernel
theorem dX8_days_4 : decode cX8_days 4 = .ok (.invokestatic 55, 3) := by decide +kernel
theorem dX8_days_7 : decode cX8_days 7 = .ok (.ifCond .ne 9, 3) := by decide +kernel
theorem dX8_days_10 : decode cX8_days 10 = .ok (.aload_n 0, 1) := by decide +kernel
theorem dX8_days_11 : decode cX8_days 11 = .ok (.iconst 1, 1) := by decide +kernel
theorem dX8_days_12 : decode cX8_days 12 = .ok (.invokevirtual 59, 3) := by decide +kernel
theorem dX8_days_15 : decode cX8_days 15 = .ok (.ireturn, 1) := by decide +kernel
theorem dX8_days_16 : decode cX8_days 16 = .ok (.aload_n 0, 1) := by decide +kernel
theorem dX8_days_17 : decode cX8_days 17 = .ok (.getfield 10, 3) := by decide +kernel
theorem dX8_days_20 : decode cX8_days 20 = .ok (.getfield 63, 3) := by decide +kernel
theorem dX8_days_23 : decode cX8_days 23 = .ok (.getfield 164, 3) := by decide +kernel
theorem dX8_days_26 : decode cX8_days 26 = .ok (.iload_n 1, 1) := by decide +kernel
theorem dX8_days_27 : decode cX8_days 27 = .ok (.iadd, 1) := by decide +kernel
theorem dX8_days_28 : decode cX8_days 28 = .ok (.sipush 9999, 3) := by decide +kernel
theorem dX8_days_31 : decode cX8_days 31 = .ok (.if_icmp .le 9, 3) := by decide +kernel
theorem dX8_days_34 : decode cX8_days 34 = .ok (.aload_n 0, 1) := by decide +kernel
theorem dX8_days_35 : decode cX8_days 35 = .ok (.iconst 3, 1) := by decide +kernel
theorem dX8_days_36 : decode cX8_days 36 = .ok (.invokevirtual 59, 3) := by decide +kernel
theorem dX8_days_39 : decode cX8_days 39 = .ok (.ireturn, 1) := by decide +kernel
theorem dX8_days_40 : decode cX8_days 40 = .ok (.aload_n 0, 1) := by decide +kernel
theorem dX8_days_41 : decode cX8_days 41 = .ok (.getfield 10, 3) := by decide +kernel
theorem dX8_days_44 : decode cX8_days 44 = .ok (.getfield 63, 3) := by decide +kernel
theorem dX8_days_47 : decode cX8_days 47 = .ok (.iload_n 1, 1) := by decide +kernel
theorem dX8_days_48 : decode cX8_days 48 = .ok (.invokevirtual 167, 3) := by decide +kernel
theorem dX8_days_51 : decode cX8_days 51 = .ok (.aload_n 0, 1) := by decide +kernel
theorem dX8_days_52 : decode cX8_days 52 = .ok (.getfield 10, 3) := by decide +kernel
theorem dX8_days_55 : decode cX8_days 55 = .ok (.getfield 63, 3) := by decide +kernel
theorem dX8_days_58 : decode cX8_days 58 = .ok (.getfield 170, 3) := by decide +kernel
theorem dX8_days_61 : decode cX8_days 61 = .ok (.ireturn, 1) := by decide +kernel
theorem dX8_loose_0 : decode cX8_loose 0 = .ok (.iload_n 1, 1) := by decide +kernel
theorem dX8_loose_1 : decode cX8_loose 1 = .ok (.iconst 1, 1) := by decide +kernel
theorem dX8_loose_2 : decode cX8_loose 2 = .ok (.bipush 30, 2) := by decide +kernel
theorem dX8_loose_4 : decode cX8_loose 4 = .ok (.invokestatic 55, 3) := by decide +kernel
theorem dX8_loose_7 : decode cX8_loose 7 = .ok (.ifCond .ne 9, 3) := by decide +kernel
theorem dX8_loose_10 : decode cX8_loose 10 = .ok (.aload_n 0, 1) := by decide +kernel
theorem dX8_loose_11 : decode cX8_loose 11 = .ok (.iconst 1, 1) := by decide +kernel
theorem dX8_loose_12 : decode cX8_loose 12 = .ok (.invokevirtual 59, 3) := by decide +kernel
theorem dX8_loose_15 : decode cX8_loose 15 = .ok (.ireturn, 1) := by decide +kernel
theorem dX8_loose_16 : decode cX8_loose 16 = .ok (.aload_n 0, 1) := by decide +kernel
theorem dX8_loose_17 : decode cX8_loose 17 = .ok (.getfield 10, 3) := by decide +kernel
theorem dX8_loose_20 : decode cX8_loose 20 = .ok (.getfield 63, 3) := by decide +kernel
theorem dX8_loose_23 : decode cX8_loose 23 = .ok (.getfield 164, 3) := by decide +kernel
theorem dX8_loose_26 : decode cX8_loose 26 = .ok (.iload_n 1, 1) := by decide +kernel
theorem dX8_loose_27 : decode cX8_loose 27 = .ok (.iadd, 1) := by decide +kernel
theorem dX8_loose_28 : decode cX8_loose 28 = .ok (.sipush 9999, 3) := by decide +kernel
theorem dX8_loose_31 : decode cX8_loose 31 = .ok (.if_icmp .le 9, 3) := by decide +kernel
theorem dX8_loose_34 : decode cX8_loose 34 = .ok (.aload_n 0, 1) := by decide +kernel
theorem dX8_loose_35 : decode cX8_loose 35 = .ok (.iconst 3, 1) := by decide +kernel
theorem dX8_loose_36 : decode cX8_loose 36 = .ok (.invokevirtual 59, 3) := by decide +kernel
theorem dX8_loose_39 : decode cX8_loose 39 = .ok (.ireturn, 1) := by decide +kernel
theorem dX8_loose_40 : decode cX8_loose 40 = .ok (.iconst 0, 1) := by decide +kernel
theorem dX8_loose_41 : decode cX8_loose 41 = .ok (.istore_n 2, 1) := by decide +kernel
theorem dX8_loose_42 : decode cX8_loose 42 = .ok (.iload_n 2, 1) := by decide +kernel
theorem dX8_loose_43 : decode cX8_loose 43 = .ok (.iload_n 1, 1) := by decide +kernel
theorem dX8_loose_44 : decode cX8_loose 44 = .ok (.if_icmp .ge 30, 3) := by decide +kernel
theorem dX8_loose_47 : decode cX8_loose 47 = .ok (.aload_n 0, 1) := by decide +kernel
theorem dX8_loose_48 : decode cX8_loose 48 = .ok (.getfield 10, 3) := by decide +kernel
theorem dX8_loose_51 : decode cX8_loose 51 = .ok (.getfield 63, 3) := by decide +kernel
theorem dX8_loose_54 : decode cX8_loose 54 = .ok (.invokevirtual 173, 3) := by decide +kernel
theorem dX8_loose_57 : decode cX8_loose 57 = .ok (.aload_n 0, 1) := by decide +kernel
theorem dX8_loose_58 : decode cX8_loose 58 = .ok (.getfield 10, 3) := by decide +kernel
theorem dX8_loose_61 : decode cX8_loose 61 = .ok (.getfield 63, 3) := by decide +kernel
theorem dX8_loose_64 : decode cX8_loose 64 = .ok (.iconst 1, 1) := by decide +kernel
theorem dX8_loose_65 : decode cX8_loose 65 = .ok (.invokevirtual 167, 3) := by decide +kernel
theorem dX8_loose_68 : decode cX8_loose 68 = .ok (.iinc 2 1, 3) := by decide +kernel
theorem dX8_loose_71 : decode cX8_loose 71 = .ok (.goto (-29), 3) := by decide +kernel
theorem dX8_loose_74 : decode cX8_loose 74 = .ok (.aload_n 0, 1) := by decide +kernel
theorem dX8_loose_75 : decode cX8_loose 75 = .ok (.getfield 10, 3) := by decide +kernel
theorem dX8_loose_78 : decode cX8_loose 78 = .ok (.getfield 63, 3) := by decide +kernel
theorem dX8_loose_81 : decode cX8_loose 81 = .ok (.getfield 170, 3) := by decide +kernel
theorem dX8_loose_84 : decode cX8_loose 84 = .ok (.ireturn, 1) := by decide +kernel
theorem dX8_day_0 : decode cX8_day 0 = .ok (.iload_n 1, 1) := by decide +kernel
theorem dX8_day_1 : decode cX8_day 1 = .ok (.iconst 0, 1) := by decide +kernel
theorem dX8_day_2 : decode cX8_day 2 = .ok (.sipush 9999, 3) := by decide +kernel
theorem dX8_day_5 : decode cX8_day 5 = .ok (.invokestatic 55, 3) := by decide +kernel
theorem dX8_day_8 : decode cX8_day 8 = .ok (.ifCond .ne 9, 3) := by decide +kernel
theorem dX8_day_11 : decode cX8_day 11 = .ok (.aload_n 0, 1) := by decide +kernel
theorem dX8_day_12 : decode cX8_day 12 = .ok (.iconst 1, 1) := by decide +kernel
theorem dX8_day_13 : decode cX8_day 13 = .ok (.invokevirtual 59, 3) := by decide +kernel
theorem dX8_day_16 : decode cX8_day 16 = .ok (.ireturn, 1) := by decide +kernel
theorem dX8_day_17 : decode cX8_day 17 = .ok (.aload_n 0, 1) := by decide +kernel
theorem dX8_day_18 : decode cX8_day 18 = .ok (.getfield 10, 3) := by decide +kernel
theorem dX8_day_21 : decode cX8_day 21 = .ok (.getfield 63, 3) := by decide +kernel
theorem dX8_day_24 : decode cX8_day 24 = .ok (.getfield 164, 3) := by decide +kernel
theorem dX8_day_27 : decode cX8_day 27 = .ok (.istore_n 2, 1) := by decide +kernel
theorem dX8_day_28 : decode cX8_day 28 = .ok (.aload_n 0, 1) := by decide +kernel
theorem dX8_day_29 : decode cX8_day 29 = .ok (.getfield 10, 3) := by decide +kernel
theorem dX8_day_32 : decode cX8_day 32 = .ok (.getfield 63, 3) := by decide +kernel
theorem dX8_day_35 : decode cX8_day 35 = .ok (.iload_n 1, 1) := by decide +kernel
theorem dX8_day_36 : decode cX8_day 36 = .ok (.putfield 164, 3) := by decide +kernel
theorem dX8_day_39 : decode cX8_day 39 = .ok (.iload_n 2, 1) := by decide +kernel
theorem dX8_day_40 : decode cX8_day 40 = .ok (.ireturn, 1) := by decide +kernel
theorem dX8_seed_0 : decode cX8_seed 0 = .ok (.aload_n 0, 1) := by decide +kernel
theorem dX8_seed_1 : decode cX8_seed 1 = .ok (.getfield 10, 3) := by decide +kernel
theorem dX8_seed_4 : decode cX8_seed 4 = .ok (.getfield 63, 3) := by decide +kernel
theorem dX8_seed_7 : decode cX8_seed 7 = .ok (.getfield 176, 3) := by decide +kernel
theorem dX8_seed_10 : decode cX8_seed 10 = .ok (.istore_n 2, 1) := by decide +kernel
theorem dX8_seed_11 : decode cX8_seed 11 = .ok (.aload_n 0, 1) := by decide +kernel
theorem dX8_seed_12 : decode cX8_seed 12 = .ok (.getfield 10, 3) := by decide +kernel
theorem dX8_seed_15 : decode cX8_seed 15 = .ok (.getfield 63, 3) := by decide +kernel
theorem dX8_seed_18 : decode cX8_seed 18 = .ok (.iload_n 1, 1) := by decide +kernel
theorem dX8_seed_19 : decode cX8_seed 19 = .ok (.putfield 176, 3) := by decide +kernel
theorem dX8_seed_22 : decode cX8_seed 22 = .ok (.iload_n 2, 1) := by decide +kernel
theorem dX8_seed_23 : decode cX8_seed 23 = .ok (.ireturn, 1) := by decide +kernel
theorem dX8_then_0 : decode cX8_then 0 = .ok (.iload_n 1, 1) := by decide +kernel
theorem dX8_then_1 : decode cX8_then 1 = .ok (.iconst 0, 1) := by decide +kernel
theorem dX8_then_2 : decode cX8_then 2 = .ok (.bipush 60, 2) := by decide +kernel
theorem dX8_then_4 : decode cX8_then 4 = .ok (.invokestatic 55, 3) := by decide +kernel
theorem dX8_then_7 : decode cX8_then 7 = .ok (.ifCond .eq 12, 3) := by decide +kernel
theorem dX8_then_10 : decode cX8_then 10 = .ok (.iload_n 2, 1) := by decide +kernel
theorem dX8_then_11 : decode cX8_then 11 = .ok (.iconst 0, 1) := by decide +kernel
theorem dX8_then_12 : decode cX8_then 12 = .ok (.iconst 3, 1) := by decide +kernel
theorem dX8_then_13 : decode cX8_then 13 = .ok (.invokestatic 55, 3) := by decide +kernel
theorem dX8_then_16 : decode cX8_then 16 = .ok (.ifCond .ne 9, 3) := by decide +kernel
theorem dX8_then_19 : decode cX8_then 19 = .ok (.aload_n 0, 1) := by decide +kernel
theorem dX8_then_20 : decode cX8_then 20 = .ok (.iconst 1, 1) := by decide +kernel
theorem dX8_then_21 : decode cX8_then 21 = .ok (.invokevirtual 59, 3) := by decide +kernel
theorem dX8_then_24 : decode cX8_then 24 = .ok (.ireturn, 1) := by decide +kernel
theorem dX8_then_25 : decode cX8_then 25 = .ok (.aload_n 0, 1) := by decide +kernel
theorem dX8_then_26 : decode cX8_then 26 = .ok (.getfield 29, 3) := by decide +kernel
theorem dX8_then_29 : decode cX8_then 29 = .ok (.aload_n 0, 1) := by decide +kernel
theorem dX8_then_30 : decode cX8_then 30 = .ok (.getfield 10, 3) := by decide +kernel
theorem dX8_then_33 : decode cX8_then 33 = .ok (.getfield 63, 3) := by decide +kernel
theorem dX8_then_36 : decode cX8_then 36 = .ok (.iload_n 1, 1) := by decide +kernel
theorem dX8_then_37 : decode cX8_then 37 = .ok (.invokevirtual 179, 3) := by decide +kernel
theorem dX8_then_40 : decode cX8_then 40 = .ok (.astore_n 3, 1) := by decide +kernel
theorem dX8_then_41 : decode cX8_then 41 = .ok (.iload_n 2, 1) := by decide +kernel
theorem dX8_then_42 : decode cX8_then 42 = .ok (.tableswitch 41 0 2 #[26, 31, 36], 26) := by decide +kernel
theorem dX8_then_68 : decode cX8_then 68 = .ok (.aload_n 3, 1) := by decide +kernel
theorem dX8_then_69 : decode cX8_then 69 = .ok (.getfield 170, 3) := by decide +kernel
theorem dX8_then_72 : decode cX8_then 72 = .ok (.ireturn, 1) := by decide +kernel
theorem dX8_then_73 : decode cX8_then 73 = .ok (.aload_n 3, 1) := by decide +kernel
theorem dX8_then_74 : decode cX8_then 74 = .ok (.getfield 183, 3) := by decide +kernel
theorem dX8_then_77 : decode cX8_then 77 = .ok (.ireturn, 1) := by decide +kernel
theorem dX8_then_78 : decode cX8_then 78 = .ok (.aload_n 3, 1) := by decide +kernel
theorem dX8_then_79 : decode cX8_then 79 = .ok (.getfield 111, 3) := by decide +kernel
theorem dX8_then_82 : decode cX8_then 82 = .ok (.ireturn, 1) := by decide +kernel
theorem dX8_then_83 : decode cX8_then 83 = .ok (.aload_n 3, 1) := by decide +kernel
theorem dX8_then_84 : decode cX8_then 84 = .ok (.invokevirtual 186, 3) := by decide +kernel
theorem dX8_then_87 : decode cX8_then 87 = .ok (.ireturn, 1) := by decide +kernel
theorem dX8_soonest_0 : decode cX8_soonest 0 = .ok (.aload_n 0, 1) := by decide +kernel
theorem dX8_soonest_1 : decode cX8_soonest 1 = .ok (.getfield 10, 3) := by decide +kernel
theorem dX8_soonest_4 : decode cX8_soonest 4 = .ok (.getfield 63, 3) := by decide +kernel
theorem dX8_soonest_7 : decode cX8_soonest 7 = .ok (.iload_n 1, 1) := by decide +kernel
theorem dX8_soonest_8 : decode cX8_soonest 8 = .ok (.invokevirtual 75, 3) := by decide +kernel
theorem dX8_soonest_11 : decode cX8_soonest 11 = .ok (.ifCond .eq 14, 3) := by decide +kernel
theorem dX8_soonest_14 : decode cX8_soonest 14 = .ok (.iload_n 2, 1) := by decide +kernel
theorem dX8_soonest_15 : decode cX8_soonest 15 = .ok (.iconst 0, 1) := by decide +kernel
theorem dX8_soonest_16 : decode cX8_soonest 16 = .ok (.sipush 9999, 3) := by decide +kernel
theorem dX8_soonest_19 : decode cX8_soonest 19 = .ok (.invokestatic 55, 3) := by decide +kernel
theorem dX8_soonest_22 : decode cX8_soonest 22 = .ok (.ifCond .ne 9, 3) := by decide +kernel
theorem dX8_soonest_25 : decode cX8_soonest 25 = .ok (.aload_n 0, 1) := by decide +kernel
theorem dX8_soonest_26 : decode cX8_soonest 26 = .ok (.iconst 1, 1) := by decide +kernel
theorem dX8_soonest_27 : decode cX8_soonest 27 = .ok (.invokevirtual 59, 3) := by decide +kernel
theorem dX8_soonest_30 : decode cX8_soonest 30 = .ok (.ireturn, 1) := by decide +kernel
theorem dX8_soonest_31 : decode cX8_soonest 31 = .ok (.aload_n 0, 1) := by decide +kernel
theorem dX8_soonest_32 : decode cX8_soonest 32 = .ok (.getfield 29, 3) := by decide +kernel
theorem dX8_soonest_35 : decode cX8_soonest 35 = .ok (.aload_n 0, 1) := by decide +kernel
theorem dX8_soonest_36 : decode cX8_soonest 36 = .ok (.getfield 10, 3) := by decide +kernel
theorem dX8_soonest_39 : decode cX8_soonest 39 = .ok (.getfield 63, 3) := by decide +kernel
theorem dX8_soonest_42 : decode cX8_soonest 42 = .ok (.iload_n 1, 1) := by decide +kernel
theorem dX8_soonest_43 : decode cX8_soonest 43 = .ok (.iload_n 2, 1) := by decide +kernel
theorem dX8_soonest_44 : decode cX8_soonest 44 = .ok (.invokevirtual 190, 3) := by decide +kernel
theorem dX8_soonest_47 : decode cX8_soonest 47 = .ok (.istore_n 3, 1) := by decide +kernel
theorem dX8_soonest_48 : decode cX8_soonest 48 = .ok (.iload_n 3, 1) := by decide +kernel
theorem dX8_soonest_49 : decode cX8_soonest 49 = .ok (.ifCond .ge 11, 3) := by decide +kernel
theorem dX8_soonest_52 : decode cX8_soonest 52 = .ok (.aload_n 0, 1) := by decide +kernel
theorem dX8_soonest_53 : decode cX8_soonest 53 = .ok (.iconst 2, 1) := by decide +kernel
theorem dX8_soonest_54 : decode cX8_soonest 54 = .ok (.invokevirtual 59, 3) := by decide +kernel
theorem dX8_soonest_57 : decode cX8_soonest 57 = .ok (.goto 4, 3) := by decide +kernel
theorem dX8_soonest_60 : decode cX8_soonest 60 = .ok (.iload_n 3, 1) := by decide +kernel
theorem dX8_soonest_61 : decode cX8_soonest 61 = .ok (.ireturn, 1) := by decide +kernel
theorem dX8_startFor_0 : decode cX8_startFor 0 = .ok (.aload_n 0, 1) := by decide +kernel
theorem dX8_startFor_1 : decode cX8_startFor 1 = .ok (.getfield 10, 3) := by decide +kernel
theorem dX8_startFor_4 : decode cX8_startFor 4 = .ok (.getfield 63, 3) := by decide +kernel
theorem dX8_startFor_7 : decode cX8_startFor 7 = .ok (.iload_n 1, 1) := by decide +kernel
theorem dX8_startFor_8 : decode cX8_startFor 8 = .ok (.invokevirtual 75, 3) := by decide +kernel
theorem dX8_startFor_11 : decode cX8_startFor 11 = .ok (.ifCond .eq 22, 3) := by decide +kernel
theorem dX8_startFor_14 : decode cX8_startFor 14 = .ok (.iload_n 2, 1) := by decide +kernel
theorem dX8_startFor_15 : decode cX8_startFor 15 = .ok (.iconst 0, 1) := by decide +kernel
theorem dX8_startFor_16 : decode cX8_startFor 16 = .ok (.bipush 40, 2) := by decide +kernel
theorem dX8_startFor_18 : decode cX8_startFor 18 = .ok (.invokestatic 55, 3) := by decide +kernel
theorem dX8_startFor_21 : decode cX8_startFor 21 = .ok (.ifCond .eq 12, 3) := by decide +kernel
theorem dX8_startFor_24 : decode cX8_startFor 24 = .ok (.iload_n 3, 1) := by decide +kernel
theorem dX8_startFor_25 : decode cX8_startFor 25 = .ok (.iconst 0, 1) := by decide +kernel
theorem dX8_startFor_26 : decode cX8_startFor 26 = .ok (.iconst 1, 1) := by decide +kernel
theorem dX8_startFor_27 : decode cX8_startFor 27 = .ok (.invokestatic 55, 3) := by decide +kernel
theorem dX8_startFor_30 : decode cX8_startFor 30 = .ok (.ifCond .ne 9, 3) := by decide +kernel
theorem dX8_startFor_33 : decode cX8_startFor 33 = .ok (.aload_n 0, 1) := by decide +kernel
theorem dX8_startFor_34 : decode cX8_startFor 34 = .ok (.iconst 1, 1) := by decide +kernel
theorem dX8_startFor_35 : decode cX8_startFor 35 = .ok (.invokevirtual 59, 3) := by decide +kernel
theorem dX8_startFor_38 : decode cX8_startFor 38 = .ok (.ireturn, 1) := by decide +kernel
theorem dX8_startFor_39 : decode cX8_startFor 39 = .ok (.aload_n 0, 1) := by decide +kernel
theorem dX8_startFor_40 : decode cX8_startFor 40 = .ok (.getfield 29, 3) := by decide +kernel
theorem dX8_startFor_43 : decode cX8_startFor 43 = .ok (.aload_n 0, 1) := by decide +kernel
theorem dX8_startFor_44 : decode cX8_startFor 44 = .ok (.getfield 10, 3) := by decide +kernel
theorem dX8_startFor_47 : decode cX8_startFor 47 = .ok (.getfield 63, 3) := by decide +kernel
theorem dX8_startFor_50 : decode cX8_startFor 50 = .ok (.iload_n 1, 1) := by decide +kernel
theorem dX8_startFor_51 : decode cX8_startFor 51 = .ok (.iload_n 2, 1) := by decide +kernel
theorem dX8_startFor_52 : decode cX8_startFor 52 = .ok (.invokevirtual 194, 3) := by decide +kernel
theorem dX8_startFor_55 : decode cX8_startFor 55 = .ok (.iload_n 3, 1) := by decide +kernel
theorem dX8_startFor_56 : decode cX8_startFor 56 = .ok (.ifCond .ne 13, 3) := by decide +kernel
theorem dX8_startFor_59 : decode cX8_startFor 59 = .ok (.aload_n 0, 1) := by decide +kernel
theorem dX8_startFor_60 : decode cX8_startFor 60 = .ok (.getfield 29, 3) := by decide +kernel
theorem dX8_startFor_63 : decode cX8_startFor 63 = .ok (.getfield 198, 3) := by decide +kernel
theorem dX8_startFor_66 : decode cX8_startFor 66 = .ok (.goto 10, 3) := by decide +kernel
theorem dX8_startFor_69 : decode cX8_startFor 69 = .ok (.aload_n 0, 1) := by decide +kernel
theorem dX8_startFor_70 : decode cX8_startFor 70 = .ok (.getfield 29, 3) := by decide +kernel
theorem dX8_startFor_73 : decode cX8_startFor 73 = .ok (.getfield 201, 3) := by decide +kernel
theorem dX8_startFor_76 : decode cX8_startFor 76 = .ok (.ireturn, 1) := by decide +kernel
theorem dX8_swapFor_0 : decode cX8_swapFor 0 = .ok (.iload_n 1, 1) := by decide +kernel
theorem dX8_swapFor_1 : decode cX8_swapFor 1 = .ok (.iconst 0, 1) := by decide +kernel
theorem dX8_swapFor_2 : decode cX8_swapFor 2 = .ok (.bipush 40, 2) := by decide +kernel
theorem dX8_swapFor_4 : decode cX8_swapFor 4 = .ok (.invokestatic 55, 3) := by decide +kernel
theorem dX8_swapFor_7 : decode cX8_swapFor 7 = .ok (.ifCond .eq 12, 3) := by decide +kernel
theorem dX8_swapFor_10 : decode cX8_swapFor 10 = .ok (.iload_n 2, 1) := by decide +kernel
theorem dX8_swapFor_11 : decode cX8_swapFor 11 = .ok (.iconst 0, 1) := by decide +kernel
theorem dX8_swapFor_12 : decode cX8_swapFor 12 = .ok (.iconst 1, 1) := by decide +kernel
theorem dX8_swapFor_13 : decode cX8_swapFor 13 = .ok (.invokestatic 55, 3) := by decide +kernel
theorem dX8_swapFor_16 : decode cX8_swapFor 16 = .ok (.ifCond .ne 9, 3) := by decide +kernel
theorem dX8_swapFor_19 : decode cX8_swapFor 19 = .ok (.aload_n 0, 1) := by decide +kernel
theorem dX8_swapFor_20 : decode cX8_swapFor 20 = .ok (.iconst 1, 1) := by decide +kernel
theorem dX8_swapFor_21 : decode cX8_swapFor 21 = .ok (.invokevirtual 59, 3) := by decide +kernel
theorem dX8_swapFor_24 : decode cX8_swapFor 24 = .ok (.ireturn, 1) := by decide +kernel
theorem dX8_swapFor_25 : decode cX8_swapFor 25 = .ok (.aload_n 0, 1) := by decide +kernel
theorem dX8_swapFor_26 : decode cX8_swapFor 26 = .ok (.getfield 29, 3) := by decide +kernel
theorem dX8_swapFor_29 : decode cX8_swapFor 29 = .ok (.aload_n 0, 1) := by decide +kernel
theorem dX8_swapFor_30 : decode cX8_swapFor 30 = .ok (.getfield 10, 3) := by decide +kernel
theorem dX8_swapFor_33 : decode cX8_swapFor 33 = .ok (.getfield 63, 3) := by decide +kernel
theorem dX8_swapFor_36 : decode cX8_swapFor 36 = .ok (.iload_n 1, 1) := by decide +kernel
theorem dX8_swapFor_37 : decode cX8_swapFor 37 = .ok (.invokevirtual 204, 3) := by decide +kernel
theorem dX8_swapFor_40 : decode cX8_swapFor 40 = .ok (.aload_n 0, 1) := by decide +kernel
theorem dX8_swapFor_41 : decode cX8_swapFor 41 = .ok (.getfield 29, 3) := by decide +kernel
theorem dX8_swapFor_44 : decode cX8_swapFor 44 = .ok (.getfield 198, 3) := by decide +kernel
theorem dX8_swapFor_47 : decode cX8_swapFor 47 = .ok (.ifCond .ge 9, 3) := by decide +kernel
theorem dX8_swapFor_50 : decode cX8_swapFor 50 = .ok (.aload_n 0, 1) := by decide +kernel
theorem dX8_swapFor_51 : decode cX8_swapFor 51 = .ok (.iconst 2, 1) := by decide +kernel
theorem dX8_swapFor_52 : decode cX8_swapFor 52 = .ok (.invokevirtual 59, 3) := by decide +kernel
theorem dX8_swapFor_55 : decode cX8_swapFor 55 = .ok (.ireturn, 1) := by decide +kernel
theorem dX8_swapFor_56 : decode cX8_swapFor 56 = .ok (.iload_n 2, 1) := by decide +kernel
theorem dX8_swapFor_57 : decode cX8_swapFor 57 = .ok (.ifCond .ne 13, 3) := by decide +kernel
theorem dX8_swapFor_60 : decode cX8_swapFor 60 = .ok (.aload_n 0, 1) := by decide +kernel
theorem dX8_swapFor_61 : decode cX8_swapFor 61 = .ok (.getfield 29, 3) := by decide +kernel
theorem dX8_swapFor_64 : decode cX8_swapFor 64 = .ok (.getfield 198, 3) := by decide +kernel
theorem dX8_swapFor_67 : decode cX8_swapFor 67 = .ok (.goto 10, 3) := by decide +kernel
theorem dX8_swapFor_70 : decode cX8_swapFor 70 = .ok (.aload_n 0, 1) := by decide +kernel
theorem dX8_swapFor_71 : decode cX8_swapFor 71 = .ok (.getfield 29, 3) := by decide +kernel
theorem dX8_swapFor_74 : decode cX8_swapFor 74 = .ok (.getfield 201, 3) := by decide +kernel
theorem dX8_swapFor_77 : decode cX8_swapFor 77 = .ok (.ireturn, 1) := by decide +kernel
theorem dX8_spare_0 : decode cX8_spare 0 = .ok (.iload_n 1, 1) := by decide +kernel
theorem dX8_spare_1 : decode cX8_spare 1 = .ok (.iconst 0, 1) := by decide +kernel
theorem dX8_spare_2 : decode cX8_spare 2 = .ok (.bipush 40, 2) := by decide +kernel
theorem dX8_spare_4 : decode cX8_spare 4 = .ok (.invokestatic 55, 3) := by decide +kernel
theorem dX8_spare_7 : decode cX8_spare 7 = .ok (.ifCond .eq 13, 3) := by decide +kernel
theorem dX8_spare_10 : decode cX8_spare 10 = .ok (.iload_n 2, 1) := by decide +kernel
theorem dX8_spare_11 : decode cX8_spare 11 = .ok (.iconst 0, 1) := by decide +kernel
theorem dX8_spare_12 : decode cX8_spare 12 = .ok (.bipush 99, 2) := by decide +kernel
theorem dX8_spare_14 : decode cX8_spare 14 = .ok (.invokestatic 55, 3) := by decide +kernel
theorem dX8_spare_17 : decode cX8_spare 17 = .ok (.ifCond .ne 9, 3) := by decide +kernel
theorem dX8_spare_20 : decode cX8_spare 20 = .ok (.aload_n 0, 1) := by decide +kernel
theorem dX8_spare_21 : decode cX8_spare 21 = .ok (.iconst 1, 1) := by decide +kernel
theorem dX8_spare_22 : decode cX8_spare 22 = .ok (.invokevirtual 59, 3) := by decide +kernel
theorem dX8_spare_25 : decode cX8_spare 25 = .ok (.ireturn, 1) := by decide +kernel
theorem dX8_spare_26 : decode cX8_spare 26 = .ok (.aload_n 0, 1) := by decide +kernel
theorem dX8_spare_27 : decode cX8_spare 27 = .ok (.getfield 29, 3) := by decide +kernel
theorem dX8_spare_30 : decode cX8_spare 30 = .ok (.aload_n 0, 1) := by decide +kernel
theorem dX8_spare_31 : decode cX8_spare 31 = .ok (.getfield 10, 3) := by decide +kernel
theorem dX8_spare_34 : decode cX8_spare 34 = .ok (.getfield 63, 3) := by decide +kernel
theorem dX8_spare_37 : decode cX8_spare 37 = .ok (.iload_n 1, 1) := by decide +kernel
theorem dX8_spare_38 : decode cX8_spare 38 = .ok (.iload_n 2, 1) := by decide +kernel
theorem dX8_spare_39 : decode cX8_spare 39 = .ok (.invokevirtual 208, 3) := by decide +kernel
theorem dX8_spare_42 : decode cX8_spare 42 = .ok (.istore_n 3, 1) := by decide +kernel
theorem dX8_spare_43 : decode cX8_spare 43 = .ok (.iload_n 3, 1) := by decide +kernel
theorem dX8_spare_44 : decode cX8_spare 44 = .ok (.ifCond .ge 11, 3) := by decide +kernel
theorem dX8_spare_47 : decode cX8_spare 47 = .ok (.aload_n 0, 1) := by decide +kernel
theorem dX8_spare_48 : decode cX8_spare 48 = .ok (.iconst 2, 1) := by decide +kernel
theorem dX8_spare_49 : decode cX8_spare 49 = .ok (.invokevirtual 59, 3) := by decide +kernel
theorem dX8_spare_52 : decode cX8_spare 52 = .ok (.goto 4, 3) := by decide +kernel
theorem dX8_spare_55 : decode cX8_spare 55 = .ok (.iload_n 3, 1) := by decide +kernel
theorem dX8_spare_56 : decode cX8_spare 56 = .ok (.ireturn, 1) := by decide +kernel
theorem dX8_odds_0 : decode cX8_odds 0 = .ok (.aload_n 0, 1) := by decide +kernel
theorem dX8_odds_1 : decode cX8_odds 1 = .ok (.getfield 10, 3) := by decide +kernel
theorem dX8_odds_4 : decode cX8_odds 4 = .ok (.getfield 63, 3) := by decide +kernel
theorem dX8_odds_7 : decode cX8_odds 7 = .ok (.iload_n 1, 1) := by decide +kernel
theorem dX8_odds_8 : decode cX8_odds 8 = .ok (.invokevirtual 75, 3) := by decide +kernel
theorem dX8_odds_11 : decode cX8_odds 11 = .ok (.ifCond .eq 34, 3) := by decide +kernel
theorem dX8_odds_14 : decode cX8_odds 14 = .ok (.iload_n 2, 1) := by decide +kernel
theorem dX8_odds_15 : decode cX8_odds 15 = .ok (.iconst 0, 1) := by decide +kernel
theorem dX8_odds_16 : decode cX8_odds 16 = .ok (.sipush 9999, 3) := by decide +kernel
theorem dX8_odds_19 : decode cX8_odds 19 = .ok (.invokestatic 55, 3) := by decide +kernel
theorem dX8_odds_22 : decode cX8_odds 22 = .ok (.ifCond .eq 23, 3) := by decide +kernel
theorem dX8_odds_25 : decode cX8_odds 25 = .ok (.iload_n 3, 1) := by decide +kernel
theorem dX8_odds_26 : decode cX8_odds 26 = .ok (.iconst 0, 1) := by decide +kernel
theorem dX8_odds_27 : decode cX8_odds 27 = .ok (.bipush 40, 2) := by decide +kernel
theorem dX8_odds_29 : decode cX8_odds 29 = .ok (.invokestatic 55, 3) := by decide +kernel
theorem dX8_odds_32 : decode cX8_odds 32 = .ok (.ifCond .eq 13, 3) := by decide +kernel
theorem dX8_odds_35 : decode cX8_odds 35 = .ok (.iload 4, 2) := by decide +kernel
theorem dX8_odds_37 : decode cX8_odds 37 = .ok (.iconst 0, 1) := by decide +kernel
theorem dX8_odds_38 : decode cX8_odds 38 = .ok (.iconst 1, 1) := by decide +kernel
theorem dX8_odds_39 : decode cX8_odds 39 = .ok (.invokestatic 55, 3) := by decide +kernel
theorem dX8_odds_42 : decode cX8_odds 42 = .ok (.ifCond .ne 9, 3) := by decide +kernel
theorem dX8_odds_45 : decode cX8_odds 45 = .ok (.aload_n 0, 1) := by decide +kernel
theorem dX8_odds_46 : decode cX8_odds 46 = .ok (.iconst 1, 1) := by decide +kernel
theorem dX8_odds_47 : decode cX8_odds 47 = .ok (.invokevirtual 59, 3) := by decide +kernel
theorem dX8_odds_50 : decode cX8_odds 50 = .ok (.ireturn, 1) := by decide +kernel
theorem dX8_odds_51 : decode cX8_odds 51 = .ok (.bipush 100, 2) := by decide +kernel
theorem dX8_odds_53 : decode cX8_odds 53 = .ok (.istore 5, 2) := by decide +kernel
theorem dX8_odds_55 : decode cX8_odds 55 = .ok (.aload_n 0, 1) := by decide +kernel
theorem dX8_odds_56 : decode cX8_odds 56 = .ok (.getfield 29, 3) := by decide +kernel
theorem dX8_odds_59 : decode cX8_odds 59 = .ok (.aload_n 0, 1) := by decide +kernel
theorem dX8_odds_60 : decode cX8_odds 60 = .ok (.getfield 10, 3) := by decide +kernel
theorem dX8_odds_63 : decode cX8_odds 63 = .ok (.getfield 63, 3) := by decide +kernel
theorem dX8_odds_66 : decode cX8_odds 66 = .ok (.iload_n 1, 1) := by decide +kernel
theorem dX8_odds_67 : decode cX8_odds 67 = .ok (.iload_n 2, 1) := by decide +kernel
theorem dX8_odds_68 : decode cX8_odds 68 = .ok (.iload_n 3, 1) := by decide +kernel
theorem dX8_odds_69 : decode cX8_odds 69 = .ok (.invokevirtual 211, 3) := by decide +kernel
theorem dX8_odds_72 : decode cX8_odds 72 = .ok (.istore 6, 2) := by decide +kernel
theorem dX8_odds_74 : decode cX8_odds 74 = .ok (.iload 6, 2) := by decide +kernel
theorem dX8_odds_76 : decode cX8_odds 76 = .ok (.iload 5, 2) := by decide +kernel
theorem dX8_odds_78 : decode cX8_odds 78 = .ok (.invokestatic 215, 3) := by decide +kernel
theorem dX8_odds_81 : decode cX8_odds 81 = .ok (.istore 7, 2) := by decide +kernel
theorem dX8_odds_83 : decode cX8_odds 83 = .ok (.iload 4, 2) := by decide +kernel
theorem dX8_odds_85 : decode cX8_odds 85 = .ok (.ifCond .ne 11, 3) := by decide +kernel
theorem dX8_odds_88 : decode cX8_odds 88 = .ok (.iload 6, 2) := by decide +kernel
theorem dX8_odds_90 : decode cX8_odds 90 = .ok (.iload 7, 2) := by decide +kernel
theorem dX8_odds_92 : decode cX8_odds 92 = .ok (.idiv, 1) := by decide +kernel
theorem dX8_odds_93 : decode cX8_odds 93 = .ok (.goto 8, 3) := by decide +kernel
theorem dX8_odds_96 : decode cX8_odds 96 = .ok (.iload 5, 2) := by decide +kernel
theorem dX8_odds_98 : decode cX8_odds 98 = .ok (.iload 7, 2) := by decide +kernel
theorem dX8_odds_100 : decode cX8_odds 100 = .ok (.idiv, 1) := by decide +kernel
theorem dX8_odds_101 : decode cX8_odds 101 = .ok (.ireturn, 1) := by decide +kernel
theorem dX8_fits_0 : decode cX8_fits 0 = .ok (.iload_n 1, 1) := by decide +kernel
theorem dX8_fits_1 : decode cX8_fits 1 = .ok (.invokestatic 219, 3) := by decide +kernel
theorem dX8_fits_4 : decode cX8_fits 4 = .ok (.ifCond .eq 12, 3) := by decide +kernel
theorem dX8_fits_7 : decode cX8_fits 7 = .ok (.iload_n 2, 1) := by decide +kernel
theorem dX8_fits_8 : decode cX8_fits 8 = .ok (.iconst 0, 1) := by decide +kernel
theorem dX8_fits_9 : decode cX8_fits 9 = .ok (.iconst 1, 1) := by decide +kernel
theorem dX8_fits_10 : decode cX8_fits 10 = .ok (.invokestatic 55, 3) := by decide +kernel
theorem dX8_fits_13 : decode cX8_fits 13 = .ok (.ifCond .ne 9, 3) := by decide +kernel
theorem dX8_fits_16 : decode cX8_fits 16 = .ok (.aload_n 0, 1) := by decide +kernel
theorem dX8_fits_17 : decode cX8_fits 17 = .ok (.iconst 1, 1) := by decide +kernel
theorem dX8_fits_18 : decode cX8_fits 18 = .ok (.invokevirtual 59, 3) := by decide +kernel
theorem dX8_fits_21 : decode cX8_fits 21 = .ok (.ireturn, 1) := by decide +kernel
theorem dX8_fits_22 : decode cX8_fits 22 = .ok (.aload_n 0, 1) := by decide +kernel
theorem dX8_fits_23 : decode cX8_fits 23 = .ok (.getfield 42, 3) := by decide +kernel
theorem dX8_fits_26 : decode cX8_fits 26 = .ok (.iload_n 1, 1) := by decide +kernel
theorem dX8_fits_27 : decode cX8_fits 27 = .ok (.aaload, 1) := by decide +kernel
theorem dX8_fits_28 : decode cX8_fits 28 = .ok (.invokevirtual 222, 3) := by decide +kernel
theorem dX8_fits_31 : decode cX8_fits 31 = .ok (.ifCond .eq 9, 3) := by decide +kernel
theorem dX8_fits_34 : decode cX8_fits 34 = .ok (.aload_n 0, 1) := by decide +kernel
theorem dX8_fits_35 : decode cX8_fits 35 = .ok (.iconst 2, 1) := by decide +kernel
theorem dX8_fits_36 : decode cX8_fits 36 = .ok (.invokevirtual 59, 3) := by decide +kernel
theorem dX8_fits_39 : decode cX8_fits 39 = .ok (.ireturn, 1) := by decide +kernel
theorem dX8_fits_40 : decode cX8_fits 40 = .ok (.aload_n 0, 1) := by decide +kernel
theorem dX8_fits_41 : decode cX8_fits 41 = .ok (.getfield 29, 3) := by decide +kernel
theorem dX8_fits_44 : decode cX8_fits 44 = .ok (.aload_n 0, 1) := by decide +kernel
theorem dX8_fits_45 : decode cX8_fits 45 = .ok (.getfield 10, 3) := by decide +kernel
theorem dX8_fits_48 : decode cX8_fits 48 = .ok (.getfield 63, 3) := by decide +kernel
theorem dX8_fits_51 : decode cX8_fits 51 = .ok (.aload_n 0, 1) := by decide +kernel
theorem dX8_fits_52 : decode cX8_fits 52 = .ok (.getfield 42, 3) := by decide +kernel
theorem dX8_fits_55 : decode cX8_fits 55 = .ok (.iload_n 1, 1) := by decide +kernel
theorem dX8_fits_56 : decode cX8_fits 56 = .ok (.aaload, 1) := by decide +kernel
theorem dX8_fits_57 : decode cX8_fits 57 = .ok (.getfield 226, 3) := by decide +kernel
theorem dX8_fits_60 : decode cX8_fits 60 = .ok (.invokevirtual 229, 3) := by decide +kernel
theorem dX8_fits_63 : decode cX8_fits 63 = .ok (.istore_n 3, 1) := by decide +kernel
theorem dX8_fits_64 : decode cX8_fits 64 = .ok (.iload_n 2, 1) := by decide +kernel
theorem dX8_fits_65 : decode cX8_fits 65 = .ok (.ifCond .ne 7, 3) := by decide +kernel
theorem dX8_fits_68 : decode cX8_fits 68 = .ok (.iload_n 3, 1) := by decide +kernel
theorem dX8_fits_69 : decode cX8_fits 69 = .ok (.goto 7, 3) := by decide +kernel
theorem dX8_fits_72 : decode cX8_fits 72 = .ok (.iload_n 3, 1) := by decide +kernel
theorem dX8_fits_73 : decode cX8_fits 73 = .ok (.invokestatic 233, 3) := by decide +kernel
theorem dX8_fits_76 : decode cX8_fits 76 = .ok (.ireturn, 1) := by decide +kernel
theorem dX8_voice_0 : decode cX8_voice 0 = .ok (.aload_n 0, 1) := by decide +kernel
theorem dX8_voice_1 : decode cX8_voice 1 = .ok (.getfield 10, 3) := by decide +kernel
theorem dX8_voice_4 : decode cX8_voice 4 = .ok (.getfield 63, 3) := by decide +kernel
theorem dX8_voice_7 : decode cX8_voice 7 = .ok (.iload_n 1, 1) := by decide +kernel
theorem dX8_voice_8 : decode cX8_voice 8 = .ok (.invokevirtual 75, 3) := by decide +kernel
theorem dX8_voice_11 : decode cX8_voice 11 = .ok (.ifCond .eq 12, 3) := by decide +kernel
theorem dX8_voice_14 : decode cX8_voice 14 = .ok (.iload_n 2, 1) := by decide +kernel
theorem dX8_voice_15 : decode cX8_voice 15 = .ok (.iconst 0, 1) := by decide +kernel
theorem dX8_voice_16 : decode cX8_voice 16 = .ok (.iconst 3, 1) := by decide +kernel
theorem dX8_voice_17 : decode cX8_voice 17 = .ok (.invokestatic 55, 3) := by decide +kernel
theorem dX8_voice_20 : decode cX8_voice 20 = .ok (.ifCond .ne 9, 3) := by decide +kernel
theorem dX8_voice_23 : decode cX8_voice 23 = .ok (.aload_n 0, 1) := by decide +kernel
theorem dX8_voice_24 : decode cX8_voice 24 = .ok (.iconst 1, 1) := by decide +kernel
theorem dX8_voice_25 : decode cX8_voice 25 = .ok (.invokevirtual 59, 3) := by decide +kernel
theorem dX8_voice_28 : decode cX8_voice 28 = .ok (.ireturn, 1) := by decide +kernel
theorem dX8_voice_29 : decode cX8_voice 29 = .ok (.aload_n 0, 1) := by decide +kernel
theorem dX8_voice_30 : decode cX8_voice 30 = .ok (.getfield 36, 3) := by decide +kernel
theorem dX8_voice_33 : decode cX8_voice 33 = .ok (.aload_n 0, 1) := by decide +kernel
theorem dX8_voice_34 : decode cX8_voice 34 = .ok (.getfield 10, 3) := by decide +kernel
theorem dX8_voice_37 : decode cX8_voice 37 = .ok (.getfield 63, 3) := by decide +kernel
theorem dX8_voice_40 : decode cX8_voice 40 = .ok (.iload_n 1, 1) := by decide +kernel
theorem dX8_voice_41 : decode cX8_voice 41 = .ok (.iload_n 2, 1) := by decide +kernel
theorem dX8_voice_42 : decode cX8_voice 42 = .ok (.iload_n 3, 1) := by decide +kernel
theorem dX8_voice_43 : decode cX8_voice 43 = .ok (.invokevirtual 238, 3) := by decide +kernel
theorem dX8_voice_46 : decode cX8_voice 46 = .ok (.istore 4, 2) := by decide +kernel
theorem dX8_voice_48 : decode cX8_voice 48 = .ok (.aload_n 0, 1) := by decide +kernel
theorem dX8_voice_49 : decode cX8_voice 49 = .ok (.getfield 36, 3) := by decide +kernel
theorem dX8_voice_52 : decode cX8_voice 52 = .ok (.getfield 241, 3) := by decide +kernel
theorem dX8_voice_55 : decode cX8_voice 55 = .ok (.ifCond .eq 12, 3) := by decide +kernel
theorem dX8_voice_58 : decode cX8_voice 58 = .ok (.aload_n 0, 1) := by decide +kernel
theorem dX8_voice_59 : decode cX8_voice 59 = .ok (.bipush 6, 2) := by decide +kernel
theorem dX8_voice_61 : decode cX8_voice 61 = .ok (.invokevirtual 59, 3) := by decide +kernel
theorem dX8_voice_64 : decode cX8_voice 64 = .ok (.goto 5, 3) := by decide +kernel
theorem dX8_voice_67 : decode cX8_voice 67 = .ok (.iload 4, 2) := by decide +kernel
theorem dX8_voice_69 : decode cX8_voice 69 = .ok (.ireturn, 1) := by decide +kernel
theorem dX8_body_0 : decode cX8_body 0 = .ok (.aload_n 0, 1) := by decide +kernel
theorem dX8_body_1 : decode cX8_body 1 = .ok (.getfield 36, 3) := by decide +kernel
theorem dX8_body_4 : decode cX8_body 4 = .ok (.getfield 245, 3) := by decide +kernel
theorem dX8_body_7 : decode cX8_body 7 = .ok (.iload_n 1, 1) := by decide +kernel
theorem dX8_body_8 : decode cX8_body 8 = .ok (.invokevirtual 248, 3) := by decide +kernel
theorem dX8_body_11 : decode cX8_body 11 = .ok (.ifCond .ne 9, 3) := by decide +kernel
theorem dX8_body_14 : decode cX8_body 14 = .ok (.aload_n 0, 1) := by decide +kernel
theorem dX8_body_15 : decode cX8_body 15 = .ok (.iconst 2, 1) := by decide +kernel
theorem dX8_body_16 : decode cX8_body 16 = .ok (.invokevirtual 59, 3) := by decide +kernel
theorem dX8_body_19 : decode cX8_body 19 = .ok (.ireturn, 1) := by decide +kernel
theorem dX8_body_20 : decode cX8_body 20 = .ok (.aload_n 0, 1) := by decide +kernel
theorem dX8_body_21 : decode cX8_body 21 = .ok (.getfield 36, 3) := by decide +kernel
theorem dX8_body_24 : decode cX8_body 24 = .ok (.getfield 245, 3) := by decide +kernel
theorem dX8_body_27 : decode cX8_body 27 = .ok (.getfield 249, 3) := by decide +kernel
theorem dX8_body_30 : decode cX8_body 30 = .ok (.iload_n 1, 1) := by decide +kernel
theorem dX8_body_31 : decode cX8_body 31 = .ok (.iaload, 1) := by decide +kernel
theorem dX8_body_32 : decode cX8_body 32 = .ok (.ireturn, 1) := by decide +kernel
theorem dX8_sheet_0 : decode cX8_sheet 0 = .ok (.iload_n 1, 1) := by decide +kernel
theorem dX8_sheet_1 : decode cX8_sheet 1 = .ok (.invokestatic 219, 3) := by decide +kernel
theorem dX8_sheet_4 : decode cX8_sheet 4 = .ok (.ifCond .eq 10, 3) := by decide +kernel
theorem dX8_sheet_7 : decode cX8_sheet 7 = .ok (.iload_n 2, 1) := by decide +kernel
theorem dX8_sheet_8 : decode cX8_sheet 8 = .ok (.invokestatic 251, 3) := by decide +kernel
theorem dX8_sheet_11 : decode cX8_sheet 11 = .ok (.ifCond .ne 9, 3) := by decide +kernel
theorem dX8_sheet_14 : decode cX8_sheet 14 = .ok (.aload_n 0, 1) := by decide +kernel
theorem dX8_sheet_15 : decode cX8_sheet 15 = .ok (.iconst 1, 1) := by decide +kernel
theorem dX8_sheet_16 : decode cX8_sheet 16 = .ok (.invokevirtual 59, 3) := by decide +kernel
theorem dX8_sheet_19 : decode cX8_sheet 19 = .ok (.ireturn, 1) := by decide +kernel
theorem dX8_sheet_20 : decode cX8_sheet 20 = .ok (.iload_n 2, 1) := by decide +kernel
theorem dX8_sheet_21 : decode cX8_sheet 21 = .ok (.ifCond .ne 16, 3) := by decide +kernel
theorem dX8_sheet_24 : decode cX8_sheet 24 = .ok (.aload_n 0, 1) := by decide +kernel
theorem dX8_sheet_25 : decode cX8_sheet 25 = .ok (.getfield 42, 3) := by decide +kernel
theorem dX8_sheet_28 : decode cX8_sheet 28 = .ok (.iload_n 1, 1) := by decide +kernel
theorem dX8_sheet_29 : decode cX8_sheet 29 = .ok (.aaload, 1) := by decide +kernel
theorem dX8_sheet_30 : decode cX8_sheet 30 = .ok (.iconst 0, 1) := by decide +kernel
theorem dX8_sheet_31 : decode cX8_sheet 31 = .ok (.iconst 0, 1) := by decide +kernel
theorem dX8_sheet_32 : decode cX8_sheet 32 = .ok (.invokevirtual 254, 3) := by decide +kernel
theorem dX8_sheet_35 : decode cX8_sheet 35 = .ok (.iconst 1, 1) := by decide +kernel
theorem dX8_sheet_36 : decode cX8_sheet 36 = .ok (.ireturn, 1) := by decide +kernel
theorem dX8_sheet_37 : decode cX8_sheet 37 = .ok (.iload_n 3, 1) := by decide +kernel
theorem dX8_sheet_38 : decode cX8_sheet 38 = .ok (.ifCond .ge 9, 3) := by decide +kernel
theorem dX8_sheet_41 : decode cX8_sheet 41 = .ok (.aload_n 0, 1) := by decide +kernel
theorem dX8_sheet_42 : decode cX8_sheet 42 = .ok (.iconst 3, 1) := by decide +kernel
theorem dX8_sheet_43 : decode cX8_sheet 43 = .ok (.invokevirtual 59, 3) := by decide +kernel
theorem dX8_sheet_46 : decode cX8_sheet 46 = .ok (.ireturn, 1) := by decide +kernel
theorem dX8_sheet_47 : decode cX8_sheet 47 = .ok (.iload_n 3, 1) := by decide +kernel
theorem dX8_sheet_48 : decode cX8_sheet 48 = .ok (.bipush 24, 2) := by decide +kernel
theorem dX8_sheet_50 : decode cX8_sheet 50 = .ok (.if_icmp .le 9, 3) := by decide +kernel
theorem dX8_sheet_53 : decode cX8_sheet 53 = .ok (.aload_n 0, 1) := by decide +kernel
theorem dX8_sheet_54 : decode cX8_sheet 54 = .ok (.iconst 1, 1) := by decide +kernel
theorem dX8_sheet_55 : decode cX8_sheet 55 = .ok (.invokevirtual 59, 3) := by decide +kernel
theorem dX8_sheet_58 : decode cX8_sheet 58 = .ok (.ireturn, 1) := by decide +kernel
theorem dX8_sheet_59 : decode cX8_sheet 59 = .ok (.aload_n 0, 1) := by decide +kernel
theorem dX8_sheet_60 : decode cX8_sheet 60 = .ok (.getfield 42, 3) := by decide +kernel
theorem dX8_sheet_63 : decode cX8_sheet 63 = .ok (.iload_n 1, 1) := by decide +kernel
theorem dX8_sheet_64 : decode cX8_sheet 64 = .ok (.aaload, 1) := by decide +kernel
theorem dX8_sheet_65 : decode cX8_sheet 65 = .ok (.iload_n 2, 1) := by decide +kernel
theorem dX8_sheet_66 : decode cX8_sheet 66 = .ok (.iload_n 3, 1) := by decide +kernel
theorem dX8_sheet_67 : decode cX8_sheet 67 = .ok (.invokevirtual 254, 3) := by decide +kernel
theorem dX8_sheet_70 : decode cX8_sheet 70 = .ok (.iconst 1, 1) := by decide +kernel
theorem dX8_sheet_71 : decode cX8_sheet 71 = .ok (.ireturn, 1) := by decide +kernel
theorem dX8_put_0 : decode cX8_put 0 = .ok (.iload_n 1, 1) := by decide +kernel
theorem dX8_put_1 : decode cX8_put 1 = .ok (.invokestatic 219, 3) := by decide +kernel
theorem dX8_put_4 : decode cX8_put 4 = .ok (.ifCond .ne 9, 3) := by decide +kernel
theorem dX8_put_7 : decode cX8_put 7 = .ok (.aload_n 0, 1) := by decide +kernel
theorem dX8_put_8 : decode cX8_put 8 = .ok (.iconst 1, 1) := by decide +kernel
theorem dX8_put_9 : decode cX8_put 9 = .ok (.invokevirtual 59, 3) := by decide +kernel
theorem dX8_put_12 : decode cX8_put 12 = .ok (.ireturn, 1) := by decide +kernel
theorem dX8_put_13 : decode cX8_put 13 = .ok (.aload_n 0, 1) := by decide +kernel
theorem dX8_put_14 : decode cX8_put 14 = .ok (.getfield 42, 3) := by decide +kernel
theorem dX8_put_17 : decode cX8_put 17 = .ok (.iload_n 1, 1) := by decide +kernel
theorem dX8_put_18 : decode cX8_put 18 = .ok (.aaload, 1) := by decide +kernel
theorem dX8_put_19 : decode cX8_put 19 = .ok (.astore 4, 2) := by decide +kernel
theorem dX8_put_21 : decode cX8_put 21 = .ok (.aload 4, 2) := by decide +kernel
theorem dX8_put_23 : decode cX8_put 23 = .ok (.invokevirtual 222, 3) := by decide +kernel
theorem dX8_put_26 : decode cX8_put 26 = .ok (.ifCond .eq 9, 3) := by decide +kernel
theorem dX8_put_29 : decode cX8_put 29 = .ok (.aload_n 0, 1) := by decide +kernel
theorem dX8_put_30 : decode cX8_put 30 = .ok (.iconst 2, 1) := by decide +kernel
theorem dX8_put_31 : decode cX8_put 31 = .ok (.invokevirtual 59, 3) := by decide +kernel
theorem dX8_put_34 : decode cX8_put 34 = .ok (.ireturn, 1) := by decide +kernel
theorem dX8_put_35 : decode cX8_put 35 = .ok (.aload 4, 2) := by decide +kernel
theorem dX8_put_37 : decode cX8_put 37 = .ok (.getfield 226, 3) := by decide +kernel
theorem dX8_put_40 : decode cX8_put 40 = .ok (.iload_n 2, 1) := by decide +kernel
theorem dX8_put_41 : decode cX8_put 41 = .ok (.invokevirtual 248, 3) := by decide +kernel
theorem dX8_put_44 : decode cX8_put 44 = .ok (.ifCond .ne 9, 3) := by decide +kernel
theorem dX8_put_47 : decode cX8_put 47 = .ok (.aload_n 0, 1) := by decide +kernel
theorem dX8_put_48 : decode cX8_put 48 = .ok (.iconst 1, 1) := by decide +kernel
theorem dX8_put_49 : decode cX8_put 49 = .ok (.invokevirtual 59, 3) := by decide +kernel
theorem dX8_put_52 : decode cX8_put 52 = .ok (.ireturn, 1) := by decide +kernel
theorem dX8_put_53 : decode cX8_put 53 = .ok (.aload 4, 2) := by decide +kernel
theorem dX8_put_55 : decode cX8_put 55 = .ok (.getfield 226, 3) := by decide +kernel
theorem dX8_put_58 : decode cX8_put 58 = .ok (.getfield 249, 3) := by decide +kernel
theorem dX8_put_61 : decode cX8_put 61 = .ok (.iload_n 2, 1) := by decide +kernel
theorem dX8_put_62 : decode cX8_put 62 = .ok (.aload 4, 2) := by decide +kernel
theorem dX8_put_64 : decode cX8_put 64 = .ok (.iload_n 3, 1) := by decide +kernel
theorem dX8_put_65 : decode cX8_put 65 = .ok (.invokevirtual 257, 3) := by decide +kernel
theorem dX8_put_68 : decode cX8_put 68 = .ok (.iastore, 1) := by decide +kernel
theorem dX8_put_69 : decode cX8_put 69 = .ok (.iconst 1, 1) := by decide +kernel
theorem dX8_put_70 : decode cX8_put 70 = .ok (.ireturn, 1) := by decide +kernel
theorem dX8_move_0 : decode cX8_move 0 = .ok (.iload_n 1, 1) := by decide +kernel
theorem dX8_move_1 : decode cX8_move 1 = .ok (.invokestatic 219, 3) := by decide +kernel
theorem dX8_move_4 : decode cX8_move 4 = .ok (.ifCond .eq 10, 3) := by decide +kernel
theorem dX8_move_7 : decode cX8_move 7 = .ok (.iload_n 3, 1) := by decide +kernel
theorem dX8_move_8 : decode cX8_move 8 = .ok (.invokestatic 219, 3) := by decide +kernel
theorem dX8_move_11 : decode cX8_move 11 = .ok (.ifCond .ne 9, 3) := by decide +kernel
theorem dX8_move_14 : decode cX8_move 14 = .ok (.aload_n 0, 1) := by decide +kernel
theorem dX8_move_15 : decode cX8_move 15 = .ok (.iconst 1, 1) := by decide +kernel
theorem dX8_move_16 : decode cX8_move 16 = .ok (.invokevirtual 59, 3) := by decide +kernel
theorem dX8_move_19 : decode cX8_move 19 = .ok (.ireturn, 1) := by decide +kernel
theorem dX8_move_20 : decode cX8_move 20 = .ok (.aload_n 0, 1) := by decide +kernel
theorem dX8_move_21 : decode cX8_move 21 = .ok (.getfield 42, 3) := by decide +kernel
theorem dX8_move_24 : decode cX8_move 24 = .ok (.iload_n 1, 1) := by decide +kernel
theorem dX8_move_25 : decode cX8_move 25 = .ok (.aaload, 1) := by decide +kernel
theorem dX8_move_26 : decode cX8_move 26 = .ok (.astore 6, 2) := by decide +kernel
theorem dX8_move_28 : decode cX8_move 28 = .ok (.aload_n 0, 1) := by decide +kernel
theorem dX8_move_29 : decode cX8_move 29 = .ok (.getfield 42, 3) := by decide +kernel
theorem dX8_move_32 : decode cX8_move 32 = .ok (.iload_n 3, 1) := by decide +kernel
theorem dX8_move_33 : decode cX8_move 33 = .ok (.aaload, 1) := by decide +kernel
theorem dX8_move_34 : decode cX8_move 34 = .ok (.astore 7, 2) := by decide +kernel
theorem dX8_move_36 : decode cX8_move 36 = .ok (.aload 6, 2) := by decide +kernel
theorem dX8_move_38 : decode cX8_move 38 = .ok (.invokevirtual 222, 3) := by decide +kernel
theorem dX8_move_41 : decode cX8_move 41 = .ok (.ifCond .ne 11, 3) := by decide +kernel
theorem dX8_move_44 : decode cX8_move 44 = .ok (.aload 7, 2) := by decide +kernel
theorem dX8_move_46 : decode cX8_move 46 = .ok (.invokevirtual 222, 3) := by decide +kernel
theorem dX8_move_49 : decode cX8_move 49 = .ok (.ifCond .eq 9, 3) := by decide +kernel
theorem dX8_move_52 : decode cX8_move 52 = .ok (.aload_n 0, 1) := by decide +kernel
theorem dX8_move_53 : decode cX8_move 53 = .ok (.iconst 2, 1) := by decide +kernel
theorem dX8_move_54 : decode cX8_move 54 = .ok (.invokevirtual 59, 3) := by decide +kernel
theorem dX8_move_57 : decode cX8_move 57 = .ok (.ireturn, 1) := by decide +kernel
theorem dX8_move_58 : decode cX8_move 58 = .ok (.aload 6, 2) := by decide +kernel
theorem dX8_move_60 : decode cX8_move 60 = .ok (.getfield 260, 3) := by decide +kernel
theorem dX8_move_63 : decode cX8_move 63 = .ok (.aload 7, 2) := by decide +kernel
theorem dX8_move_65 : decode cX8_move 65 = .ok (.getfield 260, 3) := by decide +kernel
theorem dX8_move_68 : decode cX8_move 68 = .ok (.if_icmp .eq 9, 3) := by decide +kernel
theorem dX8_move_71 : decode cX8_move 71 = .ok (.aload_n 0, 1) := by decide +kernel
theorem dX8_move_72 : decode cX8_move 72 = .ok (.iconst 5, 1) := by decide +kernel
theorem dX8_move_73 : decode cX8_move 73 = .ok (.invokevirtual 59, 3) := by decide +kernel
theorem dX8_move_76 : decode cX8_move 76 = .ok (.ireturn, 1) := by decide +kernel
theorem dX8_move_77 : decode cX8_move 77 = .ok (.aload 6, 2) := by decide +kernel
theorem dX8_move_79 : decode cX8_move 79 = .ok (.getfield 226, 3) := by decide +kernel
theorem dX8_move_82 : decode cX8_move 82 = .ok (.iload_n 2, 1) := by decide +kernel
theorem dX8_move_83 : decode cX8_move 83 = .ok (.iload 5, 2) := by decide +kernel
theorem dX8_move_85 : decode cX8_move 85 = .ok (.invokevirtual 263, 3) := by decide +kernel
theorem dX8_move_88 : decode cX8_move 88 = .ok (.ifCond .eq 18, 3) := by decide +kernel
theorem dX8_move_91 : decode cX8_move 91 = .ok (.aload 7, 2) := by decide +kernel
theorem dX8_move_93 : decode cX8_move 93 = .ok (.getfield 226, 3) := by decide +kernel
theorem dX8_move_96 : decode cX8_move 96 = .ok (.iload 4, 2) := by decide +kernel
theorem dX8_move_98 : decode cX8_move 98 = .ok (.iload 5, 2) := by decide +kernel
theorem dX8_move_100 : decode cX8_move 100 = .ok (.invokevirtual 263, 3) := by decide +kernel
theorem dX8_move_103 : decode cX8_move 103 = .ok (.ifCond .ne 9, 3) := by decide +kernel
theorem dX8_move_106 : decode cX8_move 106 = .ok (.aload_n 0, 1) := by decide +kernel
theorem dX8_move_107 : decode cX8_move 107 = .ok (.iconst 1, 1) := by decide +kernel
theorem dX8_move_108 : decode cX8_move 108 = .ok (.invokevirtual 59, 3) := by decide +kernel
theorem dX8_move_111 : decode cX8_move 111 = .ok (.ireturn, 1) := by decide +kernel
theorem dX8_move_112 : decode cX8_move 112 = .ok (.aload 6, 2) := by decide +kernel
theorem dX8_move_114 : decode cX8_move 114 = .ok (.getfield 226, 3) := by decide +kernel
theorem dX8_move_117 : decode cX8_move 117 = .ok (.getfield 249, 3) := by decide +kernel
theorem dX8_move_120 : decode cX8_move 120 = .ok (.iload_n 2, 1) := by decide +kernel
theorem dX8_move_121 : decode cX8_move 121 = .ok (.aload 7, 2) := by decide +kernel
theorem dX8_move_123 : decode cX8_move 123 = .ok (.getfield 226, 3) := by decide +kernel
theorem dX8_move_126 : decode cX8_move 126 = .ok (.getfield 249, 3) := by decide +kernel
theorem dX8_move_129 : decode cX8_move 129 = .ok (.iload 4, 2) := by decide +kernel
theorem dX8_move_131 : decode cX8_move 131 = .ok (.iload 5, 2) := by decide +kernel
theorem dX8_move_133 : decode cX8_move 133 = .ok (.invokestatic 266, 3) := by decide +kernel
theorem dX8_move_136 : decode cX8_move 136 = .ok (.iload 5, 2) := by decide +kernel
theorem dX8_move_138 : decode cX8_move 138 = .ok (.ireturn, 1) := by decide +kernel
theorem dX8_hearAll_0 : decode cX8_hearAll 0 = .ok (.iload_n 1, 1) := by decide +kernel
theorem dX8_hearAll_1 : decode cX8_hearAll 1 = .ok (.invokestatic 219, 3) := by decide +kernel
theorem dX8_hearAll_4 : decode cX8_hearAll 4 = .ok (.ifCond .ne 9, 3) := by decide +kernel
theorem dX8_hearAll_7 : decode cX8_hearAll 7 = .ok (.aload_n 0, 1) := by decide +kernel
theorem dX8_hearAll_8 : decode cX8_hearAll 8 = .ok (.iconst 1, 1) := by decide +kernel
theorem dX8_hearAll_9 : decode cX8_hearAll 9 = .ok (.invokevirtual 59, 3) := by decide +kernel
theorem dX8_hearAll_12 : decode cX8_hearAll 12 = .ok (.ireturn, 1) := by decide +kernel
theorem dX8_hearAll_13 : decode cX8_hearAll 13 = .ok (.aload_n 0, 1) := by decide +kernel
theorem dX8_hearAll_14 : decode cX8_hearAll 14 = .ok (.getfield 42, 3) := by decide +kernel
theorem dX8_hearAll_17 : decode cX8_hearAll 17 = .ok (.iload_n 1, 1) := by decide +kernel
theorem dX8_hearAll_18 : decode cX8_hearAll 18 = .ok (.aaload, 1) := by decide +kernel
theorem dX8_hearAll_19 : decode cX8_hearAll 19 = .ok (.invokevirtual 222, 3) := by decide +kernel
theorem dX8_hearAll_22 : decode cX8_hearAll 22 = .ok (.ifCond .eq 9, 3) := by decide +kernel
theorem dX8_hearAll_25 : decode cX8_hearAll 25 = .ok (.aload_n 0, 1) := by decide +kernel
theorem dX8_hearAll_26 : decode cX8_hearAll 26 = .ok (.iconst 2, 1) := by decide +kernel
theorem dX8_hearAll_27 : decode cX8_hearAll 27 = .ok (.invokevirtual 59, 3) := by decide +kernel
theorem dX8_hearAll_30 : decode cX8_hearAll 30 = .ok (.ireturn, 1) := by decide +kernel
theorem dX8_hearAll_31 : decode cX8_hearAll 31 = .ok (.aload_n 0, 1) := by decide +kernel
theorem dX8_hearAll_32 : decode cX8_hearAll 32 = .ok (.getfield 10, 3) := by decide +kernel
theorem dX8_hearAll_35 : decode cX8_hearAll 35 = .ok (.getfield 63, 3) := by decide +kernel
theorem dX8_hearAll_38 : decode cX8_hearAll 38 = .ok (.aload_n 0, 1) := by decide +kernel
theorem dX8_hearAll_39 : decode cX8_hearAll 39 = .ok (.getfield 42, 3) := by decide +kernel
theorem dX8_hearAll_42 : decode cX8_hearAll 42 = .ok (.iload_n 1, 1) := by decide +kernel
theorem dX8_hearAll_43 : decode cX8_hearAll 43 = .ok (.aaload, 1) := by decide +kernel
theorem dX8_hearAll_44 : decode cX8_hearAll 44 = .ok (.getfield 226, 3) := by decide +kernel
theorem dX8_hearAll_47 : decode cX8_hearAll 47 = .ok (.invokevirtual 272, 3) := by decide +kernel
theorem dX8_hearAll_50 : decode cX8_hearAll 50 = .ok (.ireturn, 1) := by decide +kernel
theorem dX8_judge_0 : decode cX8_judge 0 = .ok (.iload_n 1, 1) := by decide +kernel
theorem dX8_judge_1 : decode cX8_judge 1 = .ok (.invokestatic 219, 3) := by decide +kernel
theorem dX8_judge_4 : decode cX8_judge 4 = .ok (.ifCond .ne 9, 3) := by decide +kernel
theorem dX8_judge_7 : decode cX8_judge 7 = .ok (.aload_n 0, 1) := by decide +kernel
theorem dX8_judge_8 : decode cX8_judge 8 = .ok (.iconst 1, 1) := by decide +kernel
theorem dX8_judge_9 : decode cX8_judge 9 = .ok (.invokevirtual 59, 3) := by decide +kernel
theorem dX8_judge_12 : decode cX8_judge 12 = .ok (.ireturn, 1) := by decide +kernel
theorem dX8_judge_13 : decode cX8_judge 13 = .ok (.aload_n 0, 1) := by decide +kernel
theorem dX8_judge_14 : decode cX8_judge 14 = .ok (.getfield 42, 3) := by decide +kernel
theorem dX8_judge_17 : decode cX8_judge 17 = .ok (.iload_n 1, 1) := by decide +kernel
theorem dX8_judge_18 : decode cX8_judge 18 = .ok (.aaload, 1) := by decide +kernel
theorem dX8_judge_19 : decode cX8_judge 19 = .ok (.invokevirtual 222, 3) := by decide +kernel
theorem dX8_judge_22 : decode cX8_judge 22 = .ok (.ifCond .eq 9, 3) := by decide +kernel
theorem dX8_judge_25 : decode cX8_judge 25 = .ok (.aload_n 0, 1) := by decide +kernel
theorem dX8_judge_26 : decode cX8_judge 26 = .ok (.iconst 2, 1) := by decide +kernel
theorem dX8_judge_27 : decode cX8_judge 27 = .ok (.invokevirtual 59, 3) := by decide +kernel
theorem dX8_judge_30 : decode cX8_judge 30 = .ok (.ireturn, 1) := by decide +kernel
theorem dX8_judge_31 : decode cX8_judge 31 = .ok (.aload_n 0, 1) := by decide +kernel
theorem dX8_judge_32 : decode cX8_judge 32 = .ok (.getfield 10, 3) := by decide +kernel
theorem dX8_judge_35 : decode cX8_judge 35 = .ok (.getfield 63, 3) := by decide +kernel
theorem dX8_judge_38 : decode cX8_judge 38 = .ok (.aload_n 0, 1) := by decide +kernel
theorem dX8_judge_39 : decode cX8_judge 39 = .ok (.getfield 42, 3) := by decide +kernel
theorem dX8_judge_42 : decode cX8_judge 42 = .ok (.iload_n 1, 1) := by decide +kernel
theorem dX8_judge_43 : decode cX8_judge 43 = .ok (.aaload, 1) := by decide +kernel
theorem dX8_judge_44 : decode cX8_judge 44 = .ok (.getfield 226, 3) := by decide +kernel
theorem dX8_judge_47 : decode cX8_judge 47 = .ok (.invokevirtual 276, 3) := by decide +kernel
theorem dX8_judge_50 : decode cX8_judge 50 = .ok (.ireturn, 1) := by decide +kernel
theorem dX8_image_0 : decode cX8_image 0 = .ok (.aload_n 0, 1) := by decide +kernel
theorem dX8_image_1 : decode cX8_image 1 = .ok (.getfield 16, 3) := by decide +kernel
theorem dX8_image_4 : decode cX8_image 4 = .ok (.aload_n 0, 1) := by decide +kernel
theorem dX8_image_5 : decode cX8_image 5 = .ok (.getfield 10, 3) := by decide +kernel
theorem dX8_image_8 : decode cX8_image 8 = .ok (.invokevirtual 279, 3) := by decide +kernel
theorem dX8_image_11 : decode cX8_image 11 = .ok (.aload_n 0, 1) := by decide +kernel
theorem dX8_image_12 : decode cX8_image 12 = .ok (.dup, 1) := by decide +kernel
theorem dX8_image_13 : decode cX8_image 13 = .ok (.getfield 50, 3) := by decide +kernel
theorem dX8_image_16 : decode cX8_image 16 = .ok (.iconst 1, 1) := by decide +kernel
theorem dX8_image_17 : decode cX8_image 17 = .ok (.iadd, 1) := by decide +kernel
theorem dX8_image_18 : decode cX8_image 18 = .ok (.putfield 50, 3) := by decide +kernel
theorem dX8_image_21 : decode cX8_image 21 = .ok (.aload_n 0, 1) := by decide +kernel
theorem dX8_image_22 : decode cX8_image 22 = .ok (.getfield 50, 3) := by decide +kernel
theorem dX8_image_25 : decode cX8_image 25 = .ok (.ireturn, 1) := by decide +kernel
theorem dX8_restore_0 : decode cX8_restore 0 = .ok (.aload_n 0, 1) := by decide +kernel
theorem dX8_restore_1 : decode cX8_restore 1 = .ok (.getfield 50, 3) := by decide +kernel
theorem dX8_restore_4 : decode cX8_restore 4 = .ok (.ifCond .ne 9, 3) := by decide +kernel
theorem dX8_restore_7 : decode cX8_restore 7 = .ok (.aload_n 0, 1) := by decide +kernel
theorem dX8_restore_8 : decode cX8_restore 8 = .ok (.iconst 2, 1) := by decide +kernel
theorem dX8_restore_9 : decode cX8_restore 9 = .ok (.invokevirtual 59, 3) := by decide +kernel
theorem dX8_restore_12 : decode cX8_restore 12 = .ok (.ireturn, 1) := by decide +kernel
theorem dX8_restore_13 : decode cX8_restore 13 = .ok (.aload_n 0, 1) := by decide +kernel
theorem dX8_restore_14 : decode cX8_restore 14 = .ok (.getfield 10, 3) := by decide +kernel
theorem dX8_restore_17 : decode cX8_restore 17 = .ok (.aload_n 0, 1) := by decide +kernel
theorem dX8_restore_18 : decode cX8_restore 18 = .ok (.getfield 16, 3) := by decide +kernel
theorem dX8_restore_21 : decode cX8_restore 21 = .ok (.invokevirtual 279, 3) := by decide +kernel
theorem dX8_restore_24 : decode cX8_restore 24 = .ok (.aload_n 0, 1) := by decide +kernel
theorem dX8_restore_25 : decode cX8_restore 25 = .ok (.getfield 10, 3) := by decide +kernel
theorem dX8_restore_28 : decode cX8_restore 28 = .ok (.getfield 63, 3) := by decide +kernel
theorem dX8_restore_31 : decode cX8_restore 31 = .ok (.getfield 164, 3) := by decide +kernel
theorem dX8_restore_34 : decode cX8_restore 34 = .ok (.ireturn, 1) := by decide +kernel
theorem dX8_tell_0 : decode cX8_tell 0 = .ok (.aload_n 0, 1) := by decide +kernel
theorem dX8_tell_1 : decode cX8_tell 1 = .ok (.getfield 10, 3) := by decide +kernel
theorem dX8_tell_4 : decode cX8_tell 4 = .ok (.getfield 283, 3) := by decide +kernel
theorem dX8_tell_7 : decode cX8_tell 7 = .ok (.getfield 127, 3) := by decide +kernel
theorem dX8_tell_10 : decode cX8_tell 10 = .ok (.bipush 24, 2) := by decide +kernel
theorem dX8_tell_12 : decode cX8_tell 12 = .ok (.if_icmp .lt 9, 3) := by decide +kernel
theorem dX8_tell_15 : decode cX8_tell 15 = .ok (.aload_n 0, 1) := by decide +kernel
theorem dX8_tell_16 : decode cX8_tell 16 = .ok (.iconst 4, 1) := by decide +kernel
theorem dX8_tell_17 : decode cX8_tell 17 = .ok (.invokevirtual 59, 3) := by decide +kernel
theorem dX8_tell_20 : decode cX8_tell 20 = .ok (.ireturn, 1) := by decide +kernel
theorem dX8_tell_21 : decode cX8_tell 21 = .ok (.aload_n 0, 1) := by decide +kernel
theorem dX8_tell_22 : decode cX8_tell 22 = .ok (.getfield 10, 3) := by decide +kernel
theorem dX8_tell_25 : decode cX8_tell 25 = .ok (.getfield 283, 3) := by decide +kernel
theorem dX8_tell_28 : decode cX8_tell 28 = .ok (.iload_n 1, 1) := by decide +kernel
theorem dX8_tell_29 : decode cX8_tell 29 = .ok (.invokevirtual 132, 3) := by decide +kernel
theorem dX8_tell_32 : decode cX8_tell 32 = .ok (.aload_n 0, 1) := by decide +kernel
theorem dX8_tell_33 : decode cX8_tell 33 = .ok (.getfield 10, 3) := by decide +kernel
theorem dX8_tell_36 : decode cX8_tell 36 = .ok (.getfield 283, 3) := by decide +kernel
theorem dX8_tell_39 : decode cX8_tell 39 = .ok (.getfield 127, 3) := by decide +kernel
theorem dX8_tell_42 : decode cX8_tell 42 = .ok (.ireturn, 1) := by decide +kernel
theorem dX8_check_0 : decode cX8_check 0 = .ok (.aload_n 0, 1) := by decide +kernel
theorem dX8_check_1 : decode cX8_check 1 = .ok (.getfield 10, 3) := by decide +kernel
theorem dX8_check_4 : decode cX8_check 4 = .ok (.getfield 63, 3) := by decide +kernel
theorem dX8_check_7 : decode cX8_check 7 = .ok (.aload_n 0, 1) := by decide +kernel
theorem dX8_check_8 : decode cX8_check 8 = .ok (.getfield 10, 3) := by decide +kernel
theorem dX8_check_11 : decode cX8_check 11 = .ok (.getfield 283, 3) := by decide +kernel
theorem dX8_check_14 : decode cX8_check 14 = .ok (.invokevirtual 286, 3) := by decide +kernel
theorem dX8_check_17 : decode cX8_check 17 = .ok (.istore_n 1, 1) := by decide +kernel
theorem dX8_check_18 : decode cX8_check 18 = .ok (.iload_n 1, 1) := by decide +kernel
theorem dX8_check_19 : decode cX8_check 19 = .ok (.aload_n 0, 1) := by decide +kernel
theorem dX8_check_20 : decode cX8_check 20 = .ok (.getfield 10, 3) := by decide +kernel
theorem dX8_check_23 : decode cX8_check 23 = .ok (.getfield 283, 3) := by decide +kernel
theorem dX8_check_26 : decode cX8_check 26 = .ok (.getfield 127, 3) := by decide +kernel
theorem dX8_check_29 : decode cX8_check 29 = .ok (.if_icmp .ne 7, 3) := by decide +kernel
theorem dX8_check_32 : decode cX8_check 32 = .ok (.iconst 1, 1) := by decide +kernel
theorem dX8_check_33 : decode cX8_check 33 = .ok (.goto 4, 3) := by decide +kernel
theorem dX8_check_36 : decode cX8_check 36 = .ok (.iconst 0, 1) := by decide +kernel
theorem dX8_check_37 : decode cX8_check 37 = .ok (.istore_n 2, 1) := by decide +kernel
theorem dX8_check_38 : decode cX8_check 38 = .ok (.aload_n 0, 1) := by decide +kernel
theorem dX8_check_39 : decode cX8_check 39 = .ok (.getfield 10, 3) := by decide +kernel
theorem dX8_check_42 : decode cX8_check 42 = .ok (.getfield 283, 3) := by decide +kernel
theorem dX8_check_45 : decode cX8_check 45 = .ok (.invokevirtual 143, 3) := by decide +kernel
theorem dX8_check_48 : decode cX8_check 48 = .ok (.iload_n 2, 1) := by decide +kernel
theorem dX8_check_49 : decode cX8_check 49 = .ok (.ifCond .eq 7, 3) := by decide +kernel
theorem dX8_check_52 : decode cX8_check 52 = .ok (.iconst 0, 1) := by decide +kernel
theorem dX8_check_53 : decode cX8_check 53 = .ok (.goto 6, 3) := by decide +kernel
theorem dX8_check_56 : decode cX8_check 56 = .ok (.iconst 1, 1) := by decide +kernel
theorem dX8_check_57 : decode cX8_check 57 = .ok (.iload_n 1, 1) := by decide +kernel
theorem dX8_check_58 : decode cX8_check 58 = .ok (.iadd, 1) := by decide +kernel
theorem dX8_check_59 : decode cX8_check 59 = .ok (.ireturn, 1) := by decide +kernel
theorem dX8_count_0 : decode cX8_count 0 = .ok (.aload_n 0, 1) := by decide +kernel
theorem dX8_count_1 : decode cX8_count 1 = .ok (.getfield 10, 3) := by decide +kernel
theorem dX8_count_4 : decode cX8_count 4 = .ok (.getfield 63, 3) := by decide +kernel
theorem dX8_count_7 : decode cX8_count 7 = .ok (.astore_n 2, 1) := by decide +kernel
theorem dX8_count_8 : decode cX8_count 8 = .ok (.iload_n 1, 1) := by decide +kernel
theorem dX8_count_9 : decode cX8_count 9 = .ok (.tableswitch 141 0 11 #[63, 68, 73, 78, 83, 88, 93, 98, 103, 114, 125, 136], 63) := by decide +kernel
theorem dX8_count_72 : decode cX8_count 72 = .ok (.aload_n 2, 1) := by decide +kernel
theorem dX8_count_73 : decode cX8_count 73 = .ok (.getfield 67, 3) := by decide +kernel
theorem dX8_count_76 : decode cX8_count 76 = .ok (.ireturn, 1) := by decide +kernel
theorem dX8_count_77 : decode cX8_count 77 = .ok (.aload_n 2, 1) := by decide +kernel
theorem dX8_count_78 : decode cX8_count 78 = .ok (.getfield 164, 3) := by decide +kernel
theorem dX8_count_81 : decode cX8_count 81 = .ok (.ireturn, 1) := by decide +kernel
theorem dX8_count_82 : decode cX8_count 82 = .ok (.aload_n 2, 1) := by decide +kernel
theorem dX8_count_83 : decode cX8_count 83 = .ok (.getfield 111, 3) := by decide +kernel
theorem dX8_count_86 : decode cX8_count 86 = .ok (.ireturn, 1) := by decide +kernel
theorem dX8_count_87 : decode cX8_count 87 = .ok (.aload_n 2, 1) := by decide +kernel
theorem dX8_count_88 : decode cX8_count 88 = .ok (.getfield 170, 3) := by decide +kernel
theorem dX8_count_91 : decode cX8_count 91 = .ok (.ireturn, 1) := by decide +kernel
theorem dX8_count_92 : decode cX8_count 92 = .ok (.aload_n 2, 1) := by decide +kernel
theorem dX8_count_93 : decode cX8_count 93 = .ok (.getfield 183, 3) := by decide +kernel
theorem dX8_count_96 : decode cX8_count 96 = .ok (.ireturn, 1) := by decide +kernel
theorem dX8_count_97 : decode cX8_count 97 = .ok (.aload_n 2, 1) := by decide +kernel
theorem dX8_count_98 : decode cX8_count 98 = .ok (.getfield 289, 3) := by decide +kernel
theorem dX8_count_101 : decode cX8_count 101 = .ok (.ireturn, 1) := by decide +kernel
theorem dX8_count_102 : decode cX8_count 102 = .ok (.aload_n 2, 1) := by decide +kernel
theorem dX8_count_103 : decode cX8_count 103 = .ok (.invokevirtual 186, 3) := by decide +kernel
theorem dX8_count_106 : decode cX8_count 106 = .ok (.ireturn, 1) := by decide +kernel
theorem dX8_count_107 : decode cX8_count 107 = .ok (.aload_n 2, 1) := by decide +kernel
theorem dX8_count_108 : decode cX8_count 108 = .ok (.getfield 292, 3) := by decide +kernel
theorem dX8_count_111 : decode cX8_count 111 = .ok (.ireturn, 1) := by decide +kernel
theorem dX8_count_112 : decode cX8_count 112 = .ok (.aload_n 0, 1) := by decide +kernel
theorem dX8_count_113 : decode cX8_count 113 = .ok (.getfield 10, 3) := by decide +kernel
theorem dX8_count_116 : decode cX8_count 116 = .ok (.getfield 123, 3) := by decide +kernel
theorem dX8_count_119 : decode cX8_count 119 = .ok (.getfield 127, 3) := by decide +kernel
theorem dX8_count_122 : decode cX8_count 122 = .ok (.ireturn, 1) := by decide +kernel
theorem dX8_count_123 : decode cX8_count 123 = .ok (.aload_n 0, 1) := by decide +kernel
theorem dX8_count_124 : decode cX8_count 124 = .ok (.getfield 10, 3) := by decide +kernel
theorem dX8_count_127 : decode cX8_count 127 = .ok (.getfield 283, 3) := by decide +kernel
theorem dX8_count_130 : decode cX8_count 130 = .ok (.getfield 127, 3) := by decide +kernel
theorem dX8_count_133 : decode cX8_count 133 = .ok (.ireturn, 1) := by decide +kernel
theorem dX8_count_134 : decode cX8_count 134 = .ok (.aload_n 0, 1) := by decide +kernel
theorem dX8_count_135 : decode cX8_count 135 = .ok (.getfield 36, 3) := by decide +kernel
theorem dX8_count_138 : decode cX8_count 138 = .ok (.getfield 245, 3) := by decide +kernel
theorem dX8_count_141 : decode cX8_count 141 = .ok (.getfield 127, 3) := by decide +kernel
theorem dX8_count_144 : decode cX8_count 144 = .ok (.ireturn, 1) := by decide +kernel
theorem dX8_count_145 : decode cX8_count 145 = .ok (.aload_n 2, 1) := by decide +kernel
theorem dX8_count_146 : decode cX8_count 146 = .ok (.getfield 176, 3) := by decide +kernel
theorem dX8_count_149 : decode cX8_count 149 = .ok (.ireturn, 1) := by decide +kernel
theorem dX8_count_150 : decode cX8_count 150 = .ok (.aload_n 0, 1) := by decide +kernel
theorem dX8_count_151 : decode cX8_count 151 = .ok (.iconst 1, 1) := by decide +kernel
theorem dX8_count_152 : decode cX8_count 152 = .ok (.invokevirtual 59, 3) := by decide +kernel
theorem dX8_count_155 : decode cX8_count 155 = .ok (.ireturn, 1) := by decide +kernel
theorem dX8_told_0 : decode cX8_told 0 = .ok (.iload_n 1, 1) := by decide +kernel
theorem dX8_told_1 : decode cX8_told 1 = .ok (.iconst 1, 1) := by decide +kernel
theorem dX8_told_2 : decode cX8_told 2 = .ok (.bipush 6, 2) := by decide +kernel
theorem dX8_told_4 : decode cX8_told 4 = .ok (.invokestatic 55, 3) := by decide +kernel
theorem dX8_told_7 : decode cX8_told 7 = .ok (.ifCond .ne 9, 3) := by decide +kernel
theorem dX8_told_10 : decode cX8_told 10 = .ok (.aload_n 0, 1) := by decide +kernel
theorem dX8_told_11 : decode cX8_told 11 = .ok (.iconst 1, 1) := by decide +kernel
theorem dX8_told_12 : decode cX8_told 12 = .ok (.invokevirtual 59, 3) := by decide +kernel
theorem dX8_told_15 : decode cX8_told 15 = .ok (.ireturn, 1) := by decide +kernel
theorem dX8_told_16 : decode cX8_told 16 = .ok (.aload_n 0, 1) := by decide +kernel
theorem dX8_told_17 : decode cX8_told 17 = .ok (.getfield 46, 3) := by decide +kernel
theorem dX8_told_20 : decode cX8_told 20 = .ok (.iload_n 1, 1) := by decide +kernel
theorem dX8_told_21 : decode cX8_told 21 = .ok (.iaload, 1) := by decide +kernel
theorem dX8_told_22 : decode cX8_told 22 = .ok (.ireturn, 1) := by decide +kernel
theorem dX8_error_0 : decode cX8_error 0 = .ok (.aload_n 0, 1) := by decide +kernel
theorem dX8_error_1 : decode cX8_error 1 = .ok (.getfield 46, 3) := by decide +kernel
theorem dX8_error_4 : decode cX8_error 4 = .ok (.iload_n 1, 1) := by decide +kernel
theorem dX8_error_5 : decode cX8_error 5 = .ok (.dup2, 1) := by decide +kernel
theorem dX8_error_6 : decode cX8_error 6 = .ok (.iaload, 1) := by decide +kernel
theorem dX8_error_7 : decode cX8_error 7 = .ok (.iconst 1, 1) := by decide +kernel
theorem dX8_error_8 : decode cX8_error 8 = .ok (.iadd, 1) := by decide +kernel
theorem dX8_error_9 : decode cX8_error 9 = .ok (.iastore, 1) := by decide +kernel
theorem dX8_error_10 : decode cX8_error 10 = .ok (.ldc_w 295, 3) := by decide +kernel
theorem dX8_error_13 : decode cX8_error 13 = .ok (.iload_n 1, 1) := by decide +kernel
theorem dX8_error_14 : decode cX8_error 14 = .ok (.isub, 1) := by decide +kernel
theorem dX8_error_15 : decode cX8_error 15 = .ok (.ireturn, 1) := by decide +kernel
theorem dX8_becomeView_0 : decode cX8_becomeView 0 = .ok (.iload_n 1, 1) := by decide +kernel
theorem dX8_becomeView_1 : decode cX8_becomeView 1 = .ok (.iconst 0, 1) := by decide +kernel
theorem dX8_becomeView_2 : decode cX8_becomeView 2 = .ok (.bipush 99, 2) := by decide +kernel
theorem dX8_becomeView_4 : decode cX8_becomeView 4 = .ok (.invokestatic 55, 3) := by decide +kernel
theorem dX8_becomeView_7 : decode cX8_becomeView 7 = .ok (.ifCond .ne 9, 3) := by decide +kernel
theorem dX8_becomeView_10 : decode cX8_becomeView 10 = .ok (.aload_n 0, 1) := by decide +kernel
theorem dX8_becomeView_11 : decode cX8_becomeView 11 = .ok (.iconst 1, 1) := by decide +kernel
theorem dX8_becomeView_12 : decode cX8_becomeView 12 = .ok (.invokevirtual 59, 3) := by decide +kernel
theorem dX8_becomeView_15 : decode cX8_becomeView 15 = .ok (.ireturn, 1) := by decide +kernel
theorem dX8_becomeView_16 : decode cX8_becomeView 16 = .ok (.aload_n 0, 1) := by decide +kernel
theorem dX8_becomeView_17 : decode cX8_becomeView 17 = .ok (.getfield 10, 3) := by decide +kernel
theorem dX8_becomeView_20 : decode cX8_becomeView 20 = .ok (.getfield 63, 3) := by decide +kernel
theorem dX8_becomeView_23 : decode cX8_becomeView 23 = .ok (.getfield 170, 3) := by decide +kernel
theorem dX8_becomeView_26 : decode cX8_becomeView 26 = .ok (.istore_n 2, 1) := by decide +kernel
theorem dX8_becomeView_27 : decode cX8_becomeView 27 = .ok (.aload_n 0, 1) := by decide +kernel
theorem dX8_becomeView_28 : decode cX8_becomeView 28 = .ok (.getfield 10, 3) := by decide +kernel
theorem dX8_becomeView_31 : decode cX8_becomeView 31 = .ok (.getfield 63, 3) := by decide +kernel
theorem dX8_becomeView_34 : decode cX8_becomeView 34 = .ok (.iload_n 1, 1) := by decide +kernel
theorem dX8_becomeView_35 : decode cX8_becomeView 35 = .ok (.putfield 170, 3) := by decide +kernel
theorem dX8_becomeView_38 : decode cX8_becomeView 38 = .ok (.iload_n 2, 1) := by decide +kernel
theorem dX8_becomeView_39 : decode cX8_becomeView 39 = .ok (.ireturn, 1) := by decide +kernel
theorem dX8_becomeSharp_0 : decode cX8_becomeSharp 0 = .ok (.iload_n 1, 1) := by decide +kernel
theorem dX8_becomeSharp_1 : decode cX8_becomeSharp 1 = .ok (.iconst 0, 1) := by decide +kernel
theorem dX8_becomeSharp_2 : decode cX8_becomeSharp 2 = .ok (.bipush 99, 2) := by decide +kernel
theorem dX8_becomeSharp_4 : decode cX8_becomeSharp 4 = .ok (.invokestatic 55, 3) := by decide +kernel
theorem dX8_becomeSharp_7 : decode cX8_becomeSharp 7 = .ok (.ifCond .ne 9, 3) := by decide +kernel
theorem dX8_becomeSharp_10 : decode cX8_becomeSharp 10 = .ok (.aload_n 0, 1) := by decide +kernel
theorem dX8_becomeSharp_11 : decode cX8_becomeSharp 11 = .ok (.iconst 1, 1) := by decide +kernel
theorem dX8_becomeSharp_12 : decode cX8_becomeSharp 12 = .ok (.invokevirtual 59, 3) := by decide +kernel
theorem dX8_becomeSharp_15 : decode cX8_becomeSharp 15 = .ok (.ireturn, 1) := by decide +kernel
theorem dX8_becomeSharp_16 : decode cX8_becomeSharp 16 = .ok (.aload_n 0, 1) := by decide +kernel
theorem dX8_becomeSharp_17 : decode cX8_becomeSharp 17 = .ok (.getfield 10, 3) := by decide +kernel
theorem dX8_becomeSharp_20 : decode cX8_becomeSharp 20 = .ok (.getfield 63, 3) := by decide +kernel
theorem dX8_becomeSharp_23 : decode cX8_becomeSharp 23 = .ok (.getfield 183, 3) := by decide +kernel
theorem dX8_becomeSharp_26 : decode cX8_becomeSharp 26 = .ok (.istore_n 2, 1) := by decide +kernel
theorem dX8_becomeSharp_27 : decode cX8_becomeSharp 27 = .ok (.aload_n 0, 1) := by decide +kernel
theorem dX8_becomeSharp_28 : decode cX8_becomeSharp 28 = .ok (.getfield 10, 3) := by decide +kernel
theorem dX8_becomeSharp_31 : decode cX8_becomeSharp 31 = .ok (.getfield 63, 3) := by decide +kernel
theorem dX8_becomeSharp_34 : decode cX8_becomeSharp 34 = .ok (.iload_n 1, 1) := by decide +kernel
theorem dX8_becomeSharp_35 : decode cX8_becomeSharp 35 = .ok (.putfield 183, 3) := by decide +kernel
theorem dX8_becomeSharp_38 : decode cX8_becomeSharp 38 = .ok (.iload_n 2, 1) := by decide +kernel
theorem dX8_becomeSharp_39 : decode cX8_becomeSharp 39 = .ok (.ireturn, 1) := by decide +kernel
theorem dX8_becomeSteel_0 : decode cX8_becomeSteel 0 = .ok (.iload_n 1, 1) := by decide +kernel
theorem dX8_becomeSteel_1 : decode cX8_becomeSteel 1 = .ok (.iconst 1, 1) := by decide +kernel
theorem dX8_becomeSteel_2 : decode cX8_becomeSteel 2 = .ok (.bipush 40, 2) := by decide +kernel
theorem dX8_becomeSteel_4 : decode cX8_becomeSteel 4 = .ok (.invokestatic 55, 3) := by decide +kernel
theorem dX8_becomeSteel_7 : decode cX8_becomeSteel 7 = .ok (.ifCond .ne 9, 3) := by decide +kernel
theorem dX8_becomeSteel_10 : decode cX8_becomeSteel 10 = .ok (.aload_n 0, 1) := by decide +kernel
theorem dX8_becomeSteel_11 : decode cX8_becomeSteel 11 = .ok (.iconst 1, 1) := by decide +kernel
theorem dX8_becomeSteel_12 : decode cX8_becomeSteel 12 = .ok (.invokevirtual 59, 3) := by decide +kernel
theorem dX8_becomeSteel_15 : decode cX8_becomeSteel 15 = .ok (.ireturn, 1) := by decide +kernel
theorem dX8_becomeSteel_16 : decode cX8_becomeSteel 16 = .ok (.aload_n 0, 1) := by decide +kernel
theorem dX8_becomeSteel_17 : decode cX8_becomeSteel 17 = .ok (.getfield 10, 3) := by decide +kernel
theorem dX8_becomeSteel_20 : decode cX8_becomeSteel 20 = .ok (.getfield 63, 3) := by decide +kernel
theorem dX8_becomeSteel_23 : decode cX8_becomeSteel 23 = .ok (.getfield 289, 3) := by decide +kernel
theorem dX8_becomeSteel_26 : decode cX8_becomeSteel 26 = .ok (.istore_n 2, 1) := by decide +kernel
theorem dX8_becomeSteel_27 : decode cX8_becomeSteel 27 = .ok (.aload_n 0, 1) := by decide +kernel
theorem dX8_becomeSteel_28 : decode cX8_becomeSteel 28 = .ok (.getfield 10, 3) := by decide +kernel
theorem dX8_becomeSteel_31 : decode cX8_becomeSteel 31 = .ok (.getfield 63, 3) := by decide +kernel
theorem dX8_becomeSteel_34 : decode cX8_becomeSteel 34 = .ok (.iload_n 1, 1) := by decide +kernel
theorem dX8_becomeSteel_35 : decode cX8_becomeSteel 35 = .ok (.putfield 289, 3) := by decide +kernel
theorem dX8_becomeSteel_38 : decode cX8_becomeSteel 38 = .ok (.iload_n 2, 1) := by decide +kernel
theorem dX8_becomeSteel_39 : decode cX8_becomeSteel 39 = .ok (.ireturn, 1) := by decide +kernel
theorem dX8_isWithin_0 : decode cX8_isWithin 0 = .ok (.iload_n 0, 1) := by decide +kernel
theorem dX8_isWithin_1 : decode cX8_isWithin 1 = .ok (.iload_n 1, 1) := by decide +kernel
theorem dX8_isWithin_2 : decode cX8_isWithin 2 = .ok (.if_icmp .lt 12, 3) := by decide +kernel
theorem dX8_isWithin_5 : decode cX8_isWithin 5 = .ok (.iload_n 0, 1) := by decide +kernel
theorem dX8_isWithin_6 : decode cX8_isWithin 6 = .ok (.iload_n 2, 1) := by decide +kernel
theorem dX8_isWithin_7 : decode cX8_isWithin 7 = .ok (.if_icmp .gt 7, 3) := by decide +kernel
theorem dX8_isWithin_10 : decode cX8_isWithin 10 = .ok (.iconst 1, 1) := by decide +kernel
theorem dX8_isWithin_11 : decode cX8_isWithin 11 = .ok (.goto 4, 3) := by decide +kernel
theorem dX8_isWithin_14 : decode cX8_isWithin 14 = .ok (.iconst 0, 1) := by decide +kernel
theorem dX8_isWithin_15 : decode cX8_isWithin 15 = .ok (.ireturn, 1) := by decide +kernel
theorem dX8_isUse_0 : decode cX8_isUse 0 = .ok (.iload_n 0, 1) := by decide +kernel
theorem dX8_isUse_1 : decode cX8_isUse 1 = .ok (.iconst 0, 1) := by decide +kernel
theorem dX8_isUse_2 : decode cX8_isUse 2 = .ok (.iconst 1, 1) := by decide +kernel
theorem dX8_isUse_3 : decode cX8_isUse 3 = .ok (.invokestatic 55, 3) := by decide +kernel
theorem dX8_isUse_6 : decode cX8_isUse 6 = .ok (.ireturn, 1) := by decide +kernel
theorem dX8_isSheet_0 : decode cX8_isSheet 0 = .ok (.iload_n 0, 1) := by decide +kernel
theorem dX8_isSheet_1 : decode cX8_isSheet 1 = .ok (.iconst 0, 1) := by decide +kernel
theorem dX8_isSheet_2 : decode cX8_isSheet 2 = .ok (.iconst 3, 1) := by decide +kernel
theorem dX8_isSheet_3 : decode cX8_isSheet 3 = .ok (.invokestatic 55, 3) := by decide +kernel
theorem dX8_isSheet_6 : decode cX8_isSheet 6 = .ok (.ireturn, 1) := by decide +kernel
theorem dX8_isOfKind_0 : decode cX8_isOfKind 0 = .ok (.getstatic 296, 3) := by decide +kernel
theorem dX8_isOfKind_3 : decode cX8_isOfKind 3 = .ok (.iload_n 0, 1) := by decide +kernel
theorem dX8_isOfKind_4 : decode cX8_isOfKind 4 = .ok (.iaload, 1) := by decide +kernel
theorem dX8_isOfKind_5 : decode cX8_isOfKind 5 = .ok (.istore_n 2, 1) := by decide +kernel
theorem dX8_isOfKind_6 : decode cX8_isOfKind 6 = .ok (.iload_n 0, 1) := by decide +kernel
theorem dX8_isOfKind_7 : decode cX8_isOfKind 7 = .ok (.iload_n 1, 1) := by decide +kernel
theorem dX8_isOfKind_8 : decode cX8_isOfKind 8 = .ok (.if_icmp .eq 17, 3) := by decide +kernel
theorem dX8_isOfKind_11 : decode cX8_isOfKind 11 = .ok (.iload_n 2, 1) := by decide +kernel
theorem dX8_isOfKind_12 : decode cX8_isOfKind 12 = .ok (.iload_n 1, 1) := by decide +kernel
theorem dX8_isOfKind_13 : decode cX8_isOfKind 13 = .ok (.if_icmp .eq 12, 3) := by decide +kernel
theorem dX8_isOfKind_16 : decode cX8_isOfKind 16 = .ok (.getstatic 296, 3) := by decide +kernel
theorem dX8_isOfKind_19 : decode cX8_isOfKind 19 = .ok (.iload_n 2, 1) := by decide +kernel
theorem dX8_isOfKind_20 : decode cX8_isOfKind 20 = .ok (.iaload, 1) := by decide +kernel
theorem dX8_isOfKind_21 : decode cX8_isOfKind 21 = .ok (.iload_n 1, 1) := by decide +kernel
theorem dX8_isOfKind_22 : decode cX8_isOfKind 22 = .ok (.if_icmp .ne 7, 3) := by decide +kernel
theorem dX8_isOfKind_25 : decode cX8_isOfKind 25 = .ok (.iconst 1, 1) := by decide +kernel
theorem dX8_isOfKind_26 : decode cX8_isOfKind 26 = .ok (.goto 4, 3) := by decide +kernel
theorem dX8_isOfKind_29 : decode cX8_isOfKind 29 = .ok (.iconst 0, 1) := by decide +kernel
theorem dX8_isOfKind_30 : decode cX8_isOfKind 30 = .ok (.ireturn, 1) := by decide +kernel
theorem dX8_greatestShared_0 : decode cX8_greatestShared 0 = .ok (.iload_n 1, 1) := by decide +kernel
theorem dX8_greatestShared_1 : decode cX8_greatestShared 1 = .ok (.istore_n 2, 1) := by decide +kernel
theorem dX8_greatestShared_2 : decode cX8_greatestShared 2 = .ok (.iload_n 2, 1) := by decide +kernel
theorem dX8_greatestShared_3 : decode cX8_greatestShared 3 = .ok (.iconst 1, 1) := by decide +kernel
theorem dX8_greatestShared_4 : decode cX8_greatestShared 4 = .ok (.if_icmp .le 23, 3) := by decide +kernel
theorem dX8_greatestShared_7 : decode cX8_greatestShared 7 = .ok (.iload_n 0, 1) := by decide +kernel
theorem dX8_greatestShared_8 : decode cX8_greatestShared 8 = .ok (.iload_n 2, 1) := by decide +kernel
theorem dX8_greatestShared_9 : decode cX8_greatestShared 9 = .ok (.irem, 1) := by decide +kernel
theorem dX8_greatestShared_10 : decode cX8_greatestShared 10 = .ok (.ifCond .ne 11, 3) := by decide +kernel
theorem dX8_greatestShared_13 : decode cX8_greatestShared 13 = .ok (.iload_n 1, 1) := by decide +kernel
theorem dX8_greatestShared_14 : decode cX8_greatestShared 14 = .ok (.iload_n 2, 1) := by decide +kernel
theorem dX8_greatestShared_15 : decode cX8_greatestShared 15 = .ok (.irem, 1) := by decide +kernel
theorem dX8_greatestShared_16 : decode cX8_greatestShared 16 = .ok (.ifCond .ne 5, 3) := by decide +kernel
theorem dX8_greatestShared_19 : decode cX8_greatestShared 19 = .ok (.iload_n 2, 1) := by decide +kernel
theorem dX8_greatestShared_20 : decode cX8_greatestShared 20 = .ok (.ireturn, 1) := by decide +kernel
theorem dX8_greatestShared_21 : decode cX8_greatestShared 21 = .ok (.iinc 2 (-1), 3) := by decide +kernel
theorem dX8_greatestShared_24 : decode cX8_greatestShared 24 = .ok (.goto (-22), 3) := by decide +kernel
theorem dX8_greatestShared_27 : decode cX8_greatestShared 27 = .ok (.iconst 1, 1) := by decide +kernel
theorem dX8_greatestShared_28 : decode cX8_greatestShared 28 = .ok (.ireturn, 1) := by decide +kernel
