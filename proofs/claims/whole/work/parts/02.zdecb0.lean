theorem dX2_init_0 : decode cX2_init 0 = .ok (.aload_n 0, 1) := by decide +kernel
theorem dX2_init_1 : decode cX2_init 1 = .ok (.invokespecial 3, 3) := by decide +kernel
theorem dX2_init_4 : decode cX2_init 4 = .ok (.aload_n 0, 1) := by decide +kernel
theorem dX2_init_5 : decode cX2_init 5 = .ok (.new 9, 3) := by decide +kernel
theorem dX2_init_8 : decode cX2_init 8 = .ok (.dup, 1) := by decide +kernel
theorem dX2_init_9 : decode cX2_init 9 = .ok (.iconst 0, 1) := by decide +kernel
theorem dX2_init_10 : decode cX2_init 10 = .ok (.invokespecial 11, 3) := by decide +kernel
theorem dX2_init_13 : decode cX2_init 13 = .ok (.putfield 14, 3) := by decide +kernel
theorem dX2_init_16 : decode cX2_init 16 = .ok (.aload_n 0, 1) := by decide +kernel
theorem dX2_init_17 : decode cX2_init 17 = .ok (.new 9, 3) := by decide +kernel
theorem dX2_init_20 : decode cX2_init 20 = .ok (.dup, 1) := by decide +kernel
theorem dX2_init_21 : decode cX2_init 21 = .ok (.iconst 1, 1) := by decide +kernel
theorem dX2_init_22 : decode cX2_init 22 = .ok (.invokespecial 11, 3) := by decide +kernel
theorem dX2_init_25 : decode cX2_init 25 = .ok (.putfield 20, 3) := by decide +kernel
theorem dX2_init_28 : decode cX2_init 28 = .ok (.aload_n 0, 1) := by decide +kernel
theorem dX2_init_29 : decode cX2_init 29 = .ok (.bipush 8, 2) := by decide +kernel
theorem dX2_init_31 : decode cX2_init 31 = .ok (.newarray .int, 2) := by decide +kernel
theorem dX2_init_33 : decode cX2_init 33 = .ok (.putfield 23, 3) := by decide +kernel
theorem dX2_init_36 : decode cX2_init 36 = .ok (.aload_n 0, 1) := by decide +kernel
theorem dX2_init_37 : decode cX2_init 37 = .ok (.bipush 8, 2) := by decide +kernel
theorem dX2_init_39 : decode cX2_init 39 = .ok (.newarray .int, 2) := by decide +kernel
theorem dX2_init_41 : decode cX2_init 41 = .ok (.putfield 27, 3) := by decide +kernel
theorem dX2_init_44 : decode cX2_init 44 = .ok (.aload_n 0, 1) := by decide +kernel
theorem dX2_init_45 : decode cX2_init 45 = .ok (.bipush 8, 2) := by decide +kernel
theorem dX2_init_47 : decode cX2_init 47 = .ok (.newarray .int, 2) := by decide +kernel
theorem dX2_init_49 : decode cX2_init 49 = .ok (.putfield 30, 3) := by decide +kernel
theorem dX2_init_52 : decode cX2_init 52 = .ok (.aload_n 0, 1) := by decide +kernel
theorem dX2_init_53 : decode cX2_init 53 = .ok (.bipush 8, 2) := by decide +kernel
theorem dX2_init_55 : decode cX2_init 55 = .ok (.newarray .int, 2) := by decide +kernel
theorem dX2_init_57 : decode cX2_init 57 = .ok (.putfield 33, 3) := by decide +kernel
theorem dX2_init_60 : decode cX2_init 60 = .ok (.aload_n 0, 1) := by decide +kernel
theorem dX2_init_61 : decode cX2_init 61 = .ok (.iconst 0, 1) := by decide +kernel
theorem dX2_init_62 : decode cX2_init 62 = .ok (.putfield 36, 3) := by decide +kernel
theorem dX2_init_65 : decode cX2_init 65 = .ok (.aload_n 0, 1) := by decide +kernel
theorem dX2_init_66 : decode cX2_init 66 = .ok (.iconst 0, 1) := by decide +kernel
theorem dX2_init_67 : decode cX2_init 67 = .ok (.putfield 40, 3) := by decide +kernel
theorem dX2_init_70 : decode cX2_init 70 = .ok (.aload_n 0, 1) := by decide +kernel
theorem dX2_init_71 : decode cX2_init 71 = .ok (.iconst 0, 1) := by decide +kernel
theorem dX2_init_72 : decode cX2_init 72 = .ok (.putfield 43, 3) := by decide +kernel
theorem dX2_init_75 : decode cX2_init 75 = .ok (.aload_n 0, 1) := by decide +kernel
theorem dX2_init_76 : decode cX2_init 76 = .ok (.iconst 0, 1) := by decide +kernel
theorem dX2_init_77 : decode cX2_init 77 = .ok (.putfield 46, 3) := by decide +kernel
theorem dX2_init_80 : decode cX2_init 80 = .ok (.aload_n 0, 1) := by decide +kernel
theorem dX2_init_81 : decode cX2_init 81 = .ok (.bipush 99, 2) := by decide +kernel
theorem dX2_init_83 : decode cX2_init 83 = .ok (.putfield 49, 3) := by decide +kernel
theorem dX2_init_86 : decode cX2_init 86 = .ok (.aload_n 0, 1) := by decide +kernel
theorem dX2_init_87 : decode cX2_init 87 = .ok (.bipush 7, 2) := by decide +kernel
theorem dX2_init_89 : decode cX2_init 89 = .ok (.putfield 52, 3) := by decide +kernel
theorem dX2_init_92 : decode cX2_init 92 = .ok (.aload_n 0, 1) := by decide +kernel
theorem dX2_init_93 : decode cX2_init 93 = .ok (.iconst 0, 1) := by decide +kernel
theorem dX2_init_94 : decode cX2_init 94 = .ok (.putfield 55, 3) := by decide +kernel
theorem dX2_init_97 : decode cX2_init 97 = .ok (.aload_n 0, 1) := by decide +kernel
theorem dX2_init_98 : decode cX2_init 98 = .ok (.iconst 1, 1) := by decide +kernel
theorem dX2_init_99 : decode cX2_init 99 = .ok (.putfield 58, 3) := by decide +kernel
theorem dX2_init_102 : decode cX2_init 102 = .ok (.return_, 1) := by decide +kernel
theorem dX2_lawOf_0 : decode cX2_lawOf 0 = .ok (.iload_n 1, 1) := by decide +kernel
theorem dX2_lawOf_1 : decode cX2_lawOf 1 = .ok (.ifCond .ne 10, 3) := by decide +kernel
theorem dX2_lawOf_4 : decode cX2_lawOf 4 = .ok (.aload_n 0, 1) := by decide +kernel
theorem dX2_lawOf_5 : decode cX2_lawOf 5 = .ok (.getfield 14, 3) := by decide +kernel
theorem dX2_lawOf_8 : decode cX2_lawOf 8 = .ok (.goto 7, 3) := by decide +kernel
theorem dX2_lawOf_11 : decode cX2_lawOf 11 = .ok (.aload_n 0, 1) := by decide +kernel
theorem dX2_lawOf_12 : decode cX2_lawOf 12 = .ok (.getfield 20, 3) := by decide +kernel
theorem dX2_lawOf_15 : decode cX2_lawOf 15 = .ok (.areturn, 1) := by decide +kernel
theorem dX2_takeOver_0 : decode cX2_takeOver 0 = .ok (.aload_n 0, 1) := by decide +kernel
theorem dX2_takeOver_1 : decode cX2_takeOver 1 = .ok (.getfield 14, 3) := by decide +kernel
theorem dX2_takeOver_4 : decode cX2_takeOver 4 = .ok (.aload_n 1, 1) := by decide +kernel
theorem dX2_takeOver_5 : decode cX2_takeOver 5 = .ok (.getfield 14, 3) := by decide +kernel
theorem dX2_takeOver_8 : decode cX2_takeOver 8 = .ok (.getfield 61, 3) := by decide +kernel
theorem dX2_takeOver_11 : decode cX2_takeOver 11 = .ok (.invokevirtual 65, 3) := by decide +kernel
theorem dX2_takeOver_14 : decode cX2_takeOver 14 = .ok (.aload_n 0, 1) := by decide +kernel
theorem dX2_takeOver_15 : decode cX2_takeOver 15 = .ok (.getfield 20, 3) := by decide +kernel
theorem dX2_takeOver_18 : decode cX2_takeOver 18 = .ok (.aload_n 1, 1) := by decide +kernel
theorem dX2_takeOver_19 : decode cX2_takeOver 19 = .ok (.getfield 20, 3) := by decide +kernel
theorem dX2_takeOver_22 : decode cX2_takeOver 22 = .ok (.getfield 61, 3) := by decide +kernel
theorem dX2_takeOver_25 : decode cX2_takeOver 25 = .ok (.invokevirtual 65, 3) := by decide +kernel
theorem dX2_takeOver_28 : decode cX2_takeOver 28 = .ok (.aload_n 1, 1) := by decide +kernel
theorem dX2_takeOver_29 : decode cX2_takeOver 29 = .ok (.getfield 23, 3) := by decide +kernel
theorem dX2_takeOver_32 : decode cX2_takeOver 32 = .ok (.iconst 0, 1) := by decide +kernel
theorem dX2_takeOver_33 : decode cX2_takeOver 33 = .ok (.aload_n 0, 1) := by decide +kernel
theorem dX2_takeOver_34 : decode cX2_takeOver 34 = .ok (.getfield 23, 3) := by decide +kernel
theorem dX2_takeOver_37 : decode cX2_takeOver 37 = .ok (.iconst 0, 1) := by decide +kernel
theorem dX2_takeOver_38 : decode cX2_takeOver 38 = .ok (.bipush 8, 2) := by decide +kernel
theorem dX2_takeOver_40 : decode cX2_takeOver 40 = .ok (.invokestatic 69, 3) := by decide +kernel
theorem dX2_takeOver_43 : decode cX2_takeOver 43 = .ok (.aload_n 1, 1) := by decide +kernel
theorem dX2_takeOver_44 : decode cX2_takeOver 44 = .ok (.getfield 27, 3) := by decide +kernel
theorem dX2_takeOver_47 : decode cX2_takeOver 47 = .ok (.iconst 0, 1) := by decide +kernel
theorem dX2_takeOver_48 : decode cX2_takeOver 48 = .ok (.aload_n 0, 1) := by decide +kernel
theorem dX2_takeOver_49 : decode cX2_takeOver 49 = .ok (.getfield 27, 3) := by decide +kernel
theorem dX2_takeOver_52 : decode cX2_takeOver 52 = .ok (.iconst 0, 1) := by decide +kernel
theorem dX2_takeOver_53 : decode cX2_takeOver 53 = .ok (.bipush 8, 2) := by decide +kernel
theorem dX2_takeOver_55 : decode cX2_takeOver 55 = .ok (.invokestatic 69, 3) := by decide +kernel
theorem dX2_takeOver_58 : decode cX2_takeOver 58 = .ok (.aload_n 1, 1) := by decide +kernel
theorem dX2_takeOver_59 : decode cX2_takeOver 59 = .ok (.getfield 30, 3) := by decide +kernel
theorem dX2_takeOver_62 : decode cX2_takeOver 62 = .ok (.iconst 0, 1) := by decide +kernel
theorem dX2_takeOver_63 : decode cX2_takeOver 63 = .ok (.aload_n 0, 1) := by decide +kernel
theorem dX2_takeOver_64 : decode cX2_takeOver 64 = .ok (.getfield 30, 3) := by decide +kernel
theorem dX2_takeOver_67 : decode cX2_takeOver 67 = .ok (.iconst 0, 1) := by decide +kernel
theorem dX2_takeOver_68 : decode cX2_takeOver 68 = .ok (.bipush 8, 2) := by decide +kernel
theorem dX2_takeOver_70 : decode cX2_takeOver 70 = .ok (.invokestatic 69, 3) := by decide +kernel
theorem dX2_takeOver_73 : decode cX2_takeOver 73 = .ok (.aload_n 1, 1) := by decide +kernel
theorem dX2_takeOver_74 : decode cX2_takeOver 74 = .ok (.getfield 33, 3) := by decide +kernel
theorem dX2_takeOver_77 : decode cX2_takeOver 77 = .ok (.iconst 0, 1) := by decide +kernel
theorem dX2_takeOver_78 : decode cX2_takeOver 78 = .ok (.aload_n 0, 1) := by decide +kernel
theorem dX2_takeOver_79 : decode cX2_takeOver 79 = .ok (.getfield 33, 3) := by decide +kernel
theorem dX2_takeOver_82 : decode cX2_takeOver 82 = .ok (.iconst 0, 1) := by decide +kernel
theorem dX2_takeOver_83 : decode cX2_takeOver 83 = .ok (.bipush 8, 2) := by decide +kernel
theorem dX2_takeOver_85 : decode cX2_takeOver 85 = .ok (.invokestatic 69, 3) := by decide +kernel
theorem dX2_takeOver_88 : decode cX2_takeOver 88 = .ok (.aload_n 0, 1) := by decide +kernel
theorem dX2_takeOver_89 : decode cX2_takeOver 89 = .ok (.aload_n 1, 1) := by decide +kernel
theorem dX2_takeOver_90 : decode cX2_takeOver 90 = .ok (.getfield 36, 3) := by decide +kernel
theorem dX2_takeOver_93 : decode cX2_takeOver 93 = .ok (.putfield 36, 3) := by decide +kernel
theorem dX2_takeOver_96 : decode cX2_takeOver 96 = .ok (.aload_n 0, 1) := by decide +kernel
theorem dX2_takeOver_97 : decode cX2_takeOver 97 = .ok (.aload_n 1, 1) := by decide +kernel
theorem dX2_takeOver_98 : decode cX2_takeOver 98 = .ok (.getfield 40, 3) := by decide +kernel
theorem dX2_takeOver_101 : decode cX2_takeOver 101 = .ok (.putfield 40, 3) := by decide +kernel
theorem dX2_takeOver_104 : decode cX2_takeOver 104 = .ok (.aload_n 0, 1) := by decide +kernel
theorem dX2_takeOver_105 : decode cX2_takeOver 105 = .ok (.aload_n 1, 1) := by decide +kernel
theorem dX2_takeOver_106 : decode cX2_takeOver 106 = .ok (.getfield 43, 3) := by decide +kernel
theorem dX2_takeOver_109 : decode cX2_takeOver 109 = .ok (.putfield 43, 3) := by decide +kernel
theorem dX2_takeOver_112 : decode cX2_takeOver 112 = .ok (.aload_n 0, 1) := by decide +kernel
theorem dX2_takeOver_113 : decode cX2_takeOver 113 = .ok (.aload_n 1, 1) := by decide +kernel
theorem dX2_takeOver_114 : decode cX2_takeOver 114 = .ok (.getfield 46, 3) := by decide +kernel
theorem dX2_takeOver_117 : decode cX2_takeOver 117 = .ok (.putfield 46, 3) := by decide +kernel
theorem dX2_takeOver_120 : decode cX2_takeOver 120 = .ok (.aload_n 0, 1) := by decide +kernel
theorem dX2_takeOver_121 : decode cX2_takeOver 121 = .ok (.aload_n 1, 1) := by decide +kernel
theorem dX2_takeOver_122 : decode cX2_takeOver 122 = .ok (.getfield 49, 3) := by decide +kernel
theorem dX2_takeOver_125 : decode cX2_takeOver 125 = .ok (.putfield 49, 3) := by decide +kernel
theorem dX2_takeOver_128 : decode cX2_takeOver 128 = .ok (.aload_n 0, 1) := by decide +kernel
theorem dX2_takeOver_129 : decode cX2_takeOver 129 = .ok (.aload_n 1, 1) := by decide +kernel
theorem dX2_takeOver_130 : decode cX2_takeOver 130 = .ok (.getfield 52, 3) := by decide +kernel
theorem dX2_takeOver_133 : decode cX2_takeOver 133 = .ok (.putfield 52, 3) := by decide +kernel
theorem dX2_takeOver_136 : decode cX2_takeOver 136 = .ok (.aload_n 0, 1) := by decide +kernel
theorem dX2_takeOver_137 : decode cX2_takeOver 137 = .ok (.aload_n 1, 1) := by decide +kernel
theorem dX2_takeOver_138 : decode cX2_takeOver 138 = .ok (.getfield 55, 3) := by decide +kernel
theorem dX2_takeOver_141 : decode cX2_takeOver 141 = .ok (.putfield 55, 3) := by decide +kernel
theorem dX2_takeOver_144 : decode cX2_takeOver 144 = .ok (.aload_n 0, 1) := by decide +kernel
theorem dX2_takeOver_145 : decode cX2_takeOver 145 = .ok (.aload_n 1, 1) := by decide +kernel
theorem dX2_takeOver_146 : decode cX2_takeOver 146 = .ok (.getfield 58, 3) := by decide +kernel
theorem dX2_takeOver_149 : decode cX2_takeOver 149 = .ok (.putfield 58, 3) := by decide +kernel
theorem dX2_takeOver_152 : decode cX2_takeOver 152 = .ok (.return_, 1) := by decide +kernel
theorem dX2_has_0 : decode cX2_has 0 = .ok (.iload_n 1, 1) := by decide +kernel
theorem dX2_has_1 : decode cX2_has 1 = .ok (.ifCond .lt 15, 3) := by decide +kernel
theorem dX2_has_4 : decode cX2_has 4 = .ok (.iload_n 1, 1) := by decide +kernel
theorem dX2_has_5 : decode cX2_has 5 = .ok (.aload_n 0, 1) := by decide +kernel
theorem dX2_has_6 : decode cX2_has 6 = .ok (.getfield 40, 3) := by decide +kernel
theorem dX2_has_9 : decode cX2_has 9 = .ok (.if_icmp .ge 7, 3) := by decide +kernel
theorem dX2_has_12 : decode cX2_has 12 = .ok (.iconst 1, 1) := by decide +kernel
theorem dX2_has_13 : decode cX2_has 13 = .ok (.goto 4, 3) := by decide +kernel
theorem dX2_has_16 : decode cX2_has 16 = .ok (.iconst 0, 1) := by decide +kernel
theorem dX2_has_17 : decode cX2_has 17 = .ok (.ireturn, 1) := by decide +kernel
theorem dX2_takeIn_0 : decode cX2_takeIn 0 = .ok (.aload_n 0, 1) := by decide +kernel
theorem dX2_takeIn_1 : decode cX2_takeIn 1 = .ok (.getfield 40, 3) := by decide +kernel
theorem dX2_takeIn_4 : decode cX2_takeIn 4 = .ok (.bipush 8, 2) := by decide +kernel
theorem dX2_takeIn_6 : decode cX2_takeIn 6 = .ok (.if_icmp .lt 5, 3) := by decide +kernel
theorem dX2_takeIn_9 : decode cX2_takeIn 9 = .ok (.iconst (-1), 1) := by decide +kernel
theorem dX2_takeIn_10 : decode cX2_takeIn 10 = .ok (.ireturn, 1) := by decide +kernel
theorem dX2_takeIn_11 : decode cX2_takeIn 11 = .ok (.aload_n 0, 1) := by decide +kernel
theorem dX2_takeIn_12 : decode cX2_takeIn 12 = .ok (.getfield 23, 3) := by decide +kernel
theorem dX2_takeIn_15 : decode cX2_takeIn 15 = .ok (.aload_n 0, 1) := by decide +kernel
theorem dX2_takeIn_16 : decode cX2_takeIn 16 = .ok (.getfield 40, 3) := by decide +kernel
theorem dX2_takeIn_19 : decode cX2_takeIn 19 = .ok (.iload_n 1, 1) := by decide +kernel
theorem dX2_takeIn_20 : decode cX2_takeIn 20 = .ok (.bipush 10, 2) := by decide +kernel
theorem dX2_takeIn_22 : decode cX2_takeIn 22 = .ok (.idiv, 1) := by decide +kernel
theorem dX2_takeIn_23 : decode cX2_takeIn 23 = .ok (.iastore, 1) := by decide +kernel
theorem dX2_takeIn_24 : decode cX2_takeIn 24 = .ok (.aload_n 0, 1) := by decide +kernel
theorem dX2_takeIn_25 : decode cX2_takeIn 25 = .ok (.getfield 27, 3) := by decide +kernel
theorem dX2_takeIn_28 : decode cX2_takeIn 28 = .ok (.aload_n 0, 1) := by decide +kernel
theorem dX2_takeIn_29 : decode cX2_takeIn 29 = .ok (.getfield 40, 3) := by decide +kernel
theorem dX2_takeIn_32 : decode cX2_takeIn 32 = .ok (.iload_n 1, 1) := by decide +kernel
theorem dX2_takeIn_33 : decode cX2_takeIn 33 = .ok (.bipush 10, 2) := by decide +kernel
theorem dX2_takeIn_35 : decode cX2_takeIn 35 = .ok (.irem, 1) := by decide +kernel
theorem dX2_takeIn_36 : decode cX2_takeIn 36 = .ok (.iastore, 1) := by decide +kernel
theorem dX2_takeIn_37 : decode cX2_takeIn 37 = .ok (.aload_n 0, 1) := by decide +kernel
theorem dX2_takeIn_38 : decode cX2_takeIn 38 = .ok (.dup, 1) := by decide +kernel
theorem dX2_takeIn_39 : decode cX2_takeIn 39 = .ok (.getfield 40, 3) := by decide +kernel
theorem dX2_takeIn_42 : decode cX2_takeIn 42 = .ok (.iconst 1, 1) := by decide +kernel
theorem dX2_takeIn_43 : decode cX2_takeIn 43 = .ok (.iadd, 1) := by decide +kernel
theorem dX2_takeIn_44 : decode cX2_takeIn 44 = .ok (.putfield 40, 3) := by decide +kernel
theorem dX2_takeIn_47 : decode cX2_takeIn 47 = .ok (.aload_n 0, 1) := by decide +kernel
theorem dX2_takeIn_48 : decode cX2_takeIn 48 = .ok (.getfield 40, 3) := by decide +kernel
theorem dX2_takeIn_51 : decode cX2_takeIn 51 = .ok (.iconst 1, 1) := by decide +kernel
theorem dX2_takeIn_52 : decode cX2_takeIn 52 = .ok (.isub, 1) := by decide +kernel
theorem dX2_takeIn_53 : decode cX2_takeIn 53 = .ok (.ireturn, 1) := by decide +kernel
theorem dX2_pastAt_0 : decode cX2_pastAt 0 = .ok (.aload_n 0, 1) := by decide +kernel
theorem dX2_pastAt_1 : decode cX2_pastAt 1 = .ok (.getfield 36, 3) := by decide +kernel
theorem dX2_pastAt_4 : decode cX2_pastAt 4 = .ok (.iload_n 1, 1) := by decide +kernel
theorem dX2_pastAt_5 : decode cX2_pastAt 5 = .ok (.ishr, 1) := by decide +kernel
theorem dX2_pastAt_6 : decode cX2_pastAt 6 = .ok (.iconst 1, 1) := by decide +kernel
theorem dX2_pastAt_7 : decode cX2_pastAt 7 = .ok (.iand, 1) := by decide +kernel
theorem dX2_pastAt_8 : decode cX2_pastAt 8 = .ok (.ireturn, 1) := by decide +kernel
theorem dX2_putPast_0 : decode cX2_putPast 0 = .ok (.aload_n 0, 1) := by decide +kernel
theorem dX2_putPast_1 : decode cX2_putPast 1 = .ok (.aload_n 0, 1) := by decide +kernel
theorem dX2_putPast_2 : decode cX2_putPast 2 = .ok (.getfield 36, 3) := by decide +kernel
theorem dX2_putPast_5 : decode cX2_putPast 5 = .ok (.iconst 1, 1) := by decide +kernel
theorem dX2_putPast_6 : decode cX2_putPast 6 = .ok (.iload_n 1, 1) := by decide +kernel
theorem dX2_putPast_7 : decode cX2_putPast 7 = .ok (.ishl, 1) := by decide +kernel
theorem dX2_putPast_8 : decode cX2_putPast 8 = .ok (.iconst (-1), 1) := by decide +kernel
theorem dX2_putPast_9 : decode cX2_putPast 9 = .ok (.ixor, 1) := by decide +kernel
theorem dX2_putPast_10 : decode cX2_putPast 10 = .ok (.iand, 1) := by decide +kernel
theorem dX2_putPast_11 : decode cX2_putPast 11 = .ok (.iload_n 2, 1) := by decide +kernel
theorem dX2_putPast_12 : decode cX2_putPast 12 = .ok (.iload_n 1, 1) := by decide +kernel
theorem dX2_putPast_13 : decode cX2_putPast 13 = .ok (.ishl, 1) := by decide +kernel
theorem dX2_putPast_14 : decode cX2_putPast 14 = .ok (.ior, 1) := by decide +kernel
theorem dX2_putPast_15 : decode cX2_putPast 15 = .ok (.putfield 36, 3) := by decide +kernel
theorem dX2_putPast_18 : decode cX2_putPast 18 = .ok (.return_, 1) := by decide +kernel
theorem dX2_saidAt_0 : decode cX2_saidAt 0 = .ok (.aload_n 0, 1) := by decide +kernel
theorem dX2_saidAt_1 : decode cX2_saidAt 1 = .ok (.getfield 14, 3) := by decide +kernel
theorem dX2_saidAt_4 : decode cX2_saidAt 4 = .ok (.aload_n 0, 1) := by decide +kernel
theorem dX2_saidAt_5 : decode cX2_saidAt 5 = .ok (.iload_n 1, 1) := by decide +kernel
theorem dX2_saidAt_6 : decode cX2_saidAt 6 = .ok (.invokevirtual 75, 3) := by decide +kernel
theorem dX2_saidAt_9 : decode cX2_saidAt 9 = .ok (.aload_n 0, 1) := by decide +kernel
theorem dX2_saidAt_10 : decode cX2_saidAt 10 = .ok (.getfield 46, 3) := by decide +kernel
theorem dX2_saidAt_13 : decode cX2_saidAt 13 = .ok (.bipush 10, 2) := by decide +kernel
theorem dX2_saidAt_15 : decode cX2_saidAt 15 = .ok (.idiv, 1) := by decide +kernel
theorem dX2_saidAt_16 : decode cX2_saidAt 16 = .ok (.aload_n 0, 1) := by decide +kernel
theorem dX2_saidAt_17 : decode cX2_saidAt 17 = .ok (.getfield 43, 3) := by decide +kernel
theorem dX2_saidAt_20 : decode cX2_saidAt 20 = .ok (.bipush 8, 2) := by decide +kernel
theorem dX2_saidAt_22 : decode cX2_saidAt 22 = .ok (.irem, 1) := by decide +kernel
theorem dX2_saidAt_23 : decode cX2_saidAt 23 = .ok (.invokevirtual 79, 3) := by decide +kernel
theorem dX2_saidAt_26 : decode cX2_saidAt 26 = .ok (.ireturn, 1) := by decide +kernel
theorem dX2_behindAt_0 : decode cX2_behindAt 0 = .ok (.aload_n 0, 1) := by decide +kernel
theorem dX2_behindAt_1 : decode cX2_behindAt 1 = .ok (.getfield 20, 3) := by decide +kernel
theorem dX2_behindAt_4 : decode cX2_behindAt 4 = .ok (.aload_n 0, 1) := by decide +kernel
theorem dX2_behindAt_5 : decode cX2_behindAt 5 = .ok (.iload_n 1, 1) := by decide +kernel
theorem dX2_behindAt_6 : decode cX2_behindAt 6 = .ok (.invokevirtual 83, 3) := by decide +kernel
theorem dX2_behindAt_9 : decode cX2_behindAt 9 = .ok (.aload_n 0, 1) := by decide +kernel
theorem dX2_behindAt_10 : decode cX2_behindAt 10 = .ok (.getfield 49, 3) := by decide +kernel
theorem dX2_behindAt_13 : decode cX2_behindAt 13 = .ok (.bipush 10, 2) := by decide +kernel
theorem dX2_behindAt_15 : decode cX2_behindAt 15 = .ok (.idiv, 1) := by decide +kernel
theorem dX2_behindAt_16 : decode cX2_behindAt 16 = .ok (.aload_n 0, 1) := by decide +kernel
theorem dX2_behindAt_17 : decode cX2_behindAt 17 = .ok (.getfield 43, 3) := by decide +kernel
theorem dX2_behindAt_20 : decode cX2_behindAt 20 = .ok (.bipush 8, 2) := by decide +kernel
theorem dX2_behindAt_22 : decode cX2_behindAt 22 = .ok (.irem, 1) := by decide +kernel
theorem dX2_behindAt_23 : decode cX2_behindAt 23 = .ok (.invokevirtual 79, 3) := by decide +kernel
theorem dX2_behindAt_26 : decode cX2_behindAt 26 = .ok (.ireturn, 1) := by decide +kernel
theorem dX2_tellsAt_0 : decode cX2_tellsAt 0 = .ok (.aload_n 0, 1) := by decide +kernel
theorem dX2_tellsAt_1 : decode cX2_tellsAt 1 = .ok (.getfield 46, 3) := by decide +kernel
theorem dX2_tellsAt_4 : decode cX2_tellsAt 4 = .ok (.iconst 1, 1) := by decide +kernel
theorem dX2_tellsAt_5 : decode cX2_tellsAt 5 = .ok (.aload_n 0, 1) := by decide +kernel
theorem dX2_tellsAt_6 : decode cX2_tellsAt 6 = .ok (.getfield 49, 3) := by decide +kernel
theorem dX2_tellsAt_9 : decode cX2_tellsAt 9 = .ok (.iadd, 1) := by decide +kernel
theorem dX2_tellsAt_10 : decode cX2_tellsAt 10 = .ok (.imul, 1) := by decide +kernel
theorem dX2_tellsAt_11 : decode cX2_tellsAt 11 = .ok (.bipush 100, 2) := by decide +kernel
theorem dX2_tellsAt_13 : decode cX2_tellsAt 13 = .ok (.idiv, 1) := by decide +kernel
theorem dX2_tellsAt_14 : decode cX2_tellsAt 14 = .ok (.istore_n 2, 1) := by decide +kernel
theorem dX2_tellsAt_15 : decode cX2_tellsAt 15 = .ok (.aload_n 0, 1) := by decide +kernel
theorem dX2_tellsAt_16 : decode cX2_tellsAt 16 = .ok (.getfield 23, 3) := by decide +kernel
theorem dX2_tellsAt_19 : decode cX2_tellsAt 19 = .ok (.iload_n 1, 1) := by decide +kernel
theorem dX2_tellsAt_20 : decode cX2_tellsAt 20 = .ok (.iaload, 1) := by decide +kernel
theorem dX2_tellsAt_21 : decode cX2_tellsAt 21 = .ok (.tableswitch 89 1 6 #[39, 47, 49, 68, 83, 87], 39) := by decide +kernel
theorem dX2_tellsAt_60 : decode cX2_tellsAt 60 = .ok (.aload_n 0, 1) := by decide +kernel
theorem dX2_tellsAt_61 : decode cX2_tellsAt 61 = .ok (.getfield 46, 3) := by decide +kernel
theorem dX2_tellsAt_64 : decode cX2_tellsAt 64 = .ok (.bipush 10, 2) := by decide +kernel
theorem dX2_tellsAt_66 : decode cX2_tellsAt 66 = .ok (.iadd, 1) := by decide +kernel
theorem dX2_tellsAt_67 : decode cX2_tellsAt 67 = .ok (.ireturn, 1) := by decide +kernel
theorem dX2_tellsAt_68 : decode cX2_tellsAt 68 = .ok (.iload_n 2, 1) := by decide +kernel
theorem dX2_tellsAt_69 : decode cX2_tellsAt 69 = .ok (.ireturn, 1) := by decide +kernel
theorem dX2_tellsAt_70 : decode cX2_tellsAt 70 = .ok (.aload_n 0, 1) := by decide +kernel
theorem dX2_tellsAt_71 : decode cX2_tellsAt 71 = .ok (.getfield 46, 3) := by decide +kernel
theorem dX2_tellsAt_74 : decode cX2_tellsAt 74 = .ok (.bipush 50, 2) := by decide +kernel
theorem dX2_tellsAt_76 : decode cX2_tellsAt 76 = .ok (.if_icmp .le 8, 3) := by decide +kernel
theorem dX2_tellsAt_79 : decode cX2_tellsAt 79 = .ok (.bipush 77, 2) := by decide +kernel
theorem dX2_tellsAt_81 : decode cX2_tellsAt 81 = .ok (.goto 7, 3) := by decide +kernel
theorem dX2_tellsAt_84 : decode cX2_tellsAt 84 = .ok (.aload_n 0, 1) := by decide +kernel
theorem dX2_tellsAt_85 : decode cX2_tellsAt 85 = .ok (.getfield 46, 3) := by decide +kernel
theorem dX2_tellsAt_88 : decode cX2_tellsAt 88 = .ok (.ireturn, 1) := by decide +kernel
theorem dX2_tellsAt_89 : decode cX2_tellsAt 89 = .ok (.aload_n 0, 1) := by decide +kernel
theorem dX2_tellsAt_90 : decode cX2_tellsAt 90 = .ok (.getfield 46, 3) := by decide +kernel
theorem dX2_tellsAt_93 : decode cX2_tellsAt 93 = .ok (.bipush 10, 2) := by decide +kernel
theorem dX2_tellsAt_95 : decode cX2_tellsAt 95 = .ok (.iadd, 1) := by decide +kernel
theorem dX2_tellsAt_96 : decode cX2_tellsAt 96 = .ok (.aload_n 0, 1) := by decide +kernel
theorem dX2_tellsAt_97 : decode cX2_tellsAt 97 = .ok (.getfield 27, 3) := by decide +kernel
theorem dX2_tellsAt_100 : decode cX2_tellsAt 100 = .ok (.iload_n 1, 1) := by decide +kernel
theorem dX2_tellsAt_101 : decode cX2_tellsAt 101 = .ok (.iaload, 1) := by decide +kernel
theorem dX2_tellsAt_102 : decode cX2_tellsAt 102 = .ok (.isub, 1) := by decide +kernel
theorem dX2_tellsAt_103 : decode cX2_tellsAt 103 = .ok (.ireturn, 1) := by decide +kernel
theorem dX2_tellsAt_104 : decode cX2_tellsAt 104 = .ok (.iconst 2, 1) := by decide +kernel
theorem dX2_tellsAt_105 : decode cX2_tellsAt 105 = .ok (.iload_n 2, 1) := by decide +kernel
theorem dX2_tellsAt_106 : decode cX2_tellsAt 106 = .ok (.imul, 1) := by decide +kernel
theorem dX2_tellsAt_107 : decode cX2_tellsAt 107 = .ok (.ireturn, 1) := by decide +kernel
theorem dX2_tellsAt_108 : decode cX2_tellsAt 108 = .ok (.iconst 0, 1) := by decide +kernel
theorem dX2_tellsAt_109 : decode cX2_tellsAt 109 = .ok (.ireturn, 1) := by decide +kernel
theorem dX2_tellsAt_110 : decode cX2_tellsAt 110 = .ok (.aload_n 0, 1) := by decide +kernel
theorem dX2_tellsAt_111 : decode cX2_tellsAt 111 = .ok (.getfield 46, 3) := by decide +kernel
theorem dX2_tellsAt_114 : decode cX2_tellsAt 114 = .ok (.ireturn, 1) := by decide +kernel
theorem dX2_leavesAt_0 : decode cX2_leavesAt 0 = .ok (.aload_n 0, 1) := by decide +kernel
theorem dX2_leavesAt_1 : decode cX2_leavesAt 1 = .ok (.getfield 27, 3) := by decide +kernel
theorem dX2_leavesAt_4 : decode cX2_leavesAt 4 = .ok (.iload_n 1, 1) := by decide +kernel
theorem dX2_leavesAt_5 : decode cX2_leavesAt 5 = .ok (.iaload, 1) := by decide +kernel
theorem dX2_leavesAt_6 : decode cX2_leavesAt 6 = .ok (.istore_n 2, 1) := by decide +kernel
theorem dX2_leavesAt_7 : decode cX2_leavesAt 7 = .ok (.aload_n 0, 1) := by decide +kernel
theorem dX2_leavesAt_8 : decode cX2_leavesAt 8 = .ok (.getfield 46, 3) := by decide +kernel
theorem dX2_leavesAt_11 : decode cX2_leavesAt 11 = .ok (.iload_n 2, 1) := by decide +kernel
theorem dX2_leavesAt_12 : decode cX2_leavesAt 12 = .ok (.iadd, 1) := by decide +kernel
theorem dX2_leavesAt_13 : decode cX2_leavesAt 13 = .ok (.istore_n 3, 1) := by decide +kernel
theorem dX2_leavesAt_14 : decode cX2_leavesAt 14 = .ok (.iload_n 3, 1) := by decide +kernel
theorem dX2_leavesAt_15 : decode cX2_leavesAt 15 = .ok (.iconst 2, 1) := by decide +kernel
theorem dX2_leavesAt_16 : decode cX2_leavesAt 16 = .ok (.idiv, 1) := by decide +kernel
theorem dX2_leavesAt_17 : decode cX2_leavesAt 17 = .ok (.iconst 5, 1) := by decide +kernel
theorem dX2_leavesAt_18 : decode cX2_leavesAt 18 = .ok (.iload_n 2, 1) := by decide +kernel
theorem dX2_leavesAt_19 : decode cX2_leavesAt 19 = .ok (.imul, 1) := by decide +kernel
theorem dX2_leavesAt_20 : decode cX2_leavesAt 20 = .ok (.iadd, 1) := by decide +kernel
theorem dX2_leavesAt_21 : decode cX2_leavesAt 21 = .ok (.istore 4, 2) := by decide +kernel
theorem dX2_leavesAt_23 : decode cX2_leavesAt 23 = .ok (.iload_n 3, 1) := by decide +kernel
theorem dX2_leavesAt_24 : decode cX2_leavesAt 24 = .ok (.aload_n 0, 1) := by decide +kernel
theorem dX2_leavesAt_25 : decode cX2_leavesAt 25 = .ok (.getfield 40, 3) := by decide +kernel
theorem dX2_leavesAt_28 : decode cX2_leavesAt 28 = .ok (.iadd, 1) := by decide +kernel
theorem dX2_leavesAt_29 : decode cX2_leavesAt 29 = .ok (.istore 5, 2) := by decide +kernel
theorem dX2_leavesAt_31 : decode cX2_leavesAt 31 = .ok (.aload_n 0, 1) := by decide +kernel
theorem dX2_leavesAt_32 : decode cX2_leavesAt 32 = .ok (.getfield 23, 3) := by decide +kernel
theorem dX2_leavesAt_35 : decode cX2_leavesAt 35 = .ok (.iload_n 1, 1) := by decide +kernel
theorem dX2_leavesAt_36 : decode cX2_leavesAt 36 = .ok (.iaload, 1) := by decide +kernel
theorem dX2_leavesAt_37 : decode cX2_leavesAt 37 = .ok (.tableswitch 80 1 6 #[39, 42, 45, 61, 67, 78], 39) := by decide +kernel
theorem dX2_leavesAt_76 : decode cX2_leavesAt 76 = .ok (.iload 4, 2) := by decide +kernel
theorem dX2_leavesAt_78 : decode cX2_leavesAt 78 = .ok (.ireturn, 1) := by decide +kernel
theorem dX2_leavesAt_79 : decode cX2_leavesAt 79 = .ok (.iload 5, 2) := by decide +kernel
theorem dX2_leavesAt_81 : decode cX2_leavesAt 81 = .ok (.ireturn, 1) := by decide +kernel
theorem dX2_leavesAt_82 : decode cX2_leavesAt 82 = .ok (.aload_n 0, 1) := by decide +kernel
theorem dX2_leavesAt_83 : decode cX2_leavesAt 83 = .ok (.getfield 43, 3) := by decide +kernel
theorem dX2_leavesAt_86 : decode cX2_leavesAt 86 = .ok (.iconst 2, 1) := by decide +kernel
theorem dX2_leavesAt_87 : decode cX2_leavesAt 87 = .ok (.irem, 1) := by decide +kernel
theorem dX2_leavesAt_88 : decode cX2_leavesAt 88 = .ok (.ifCond .ne 8, 3) := by decide +kernel
theorem dX2_leavesAt_91 : decode cX2_leavesAt 91 = .ok (.bipush 77, 2) := by decide +kernel
theorem dX2_leavesAt_93 : decode cX2_leavesAt 93 = .ok (.goto 4, 3) := by decide +kernel
theorem dX2_leavesAt_96 : decode cX2_leavesAt 96 = .ok (.iload_n 3, 1) := by decide +kernel
theorem dX2_leavesAt_97 : decode cX2_leavesAt 97 = .ok (.ireturn, 1) := by decide +kernel
theorem dX2_leavesAt_98 : decode cX2_leavesAt 98 = .ok (.bipush 99, 2) := by decide +kernel
theorem dX2_leavesAt_100 : decode cX2_leavesAt 100 = .ok (.iload 4, 2) := by decide +kernel
theorem dX2_leavesAt_102 : decode cX2_leavesAt 102 = .ok (.isub, 1) := by decide +kernel
theorem dX2_leavesAt_103 : decode cX2_leavesAt 103 = .ok (.ireturn, 1) := by decide +kernel
theorem dX2_leavesAt_104 : decode cX2_leavesAt 104 = .ok (.iload 5, 2) := by decide +kernel
theorem dX2_leavesAt_106 : decode cX2_leavesAt 106 = .ok (.aload_n 0, 1) := by decide +kernel
theorem dX2_leavesAt_107 : decode cX2_leavesAt 107 = .ok (.getfield 49, 3) := by decide +kernel
theorem dX2_leavesAt_110 : decode cX2_leavesAt 110 = .ok (.bipush 10, 2) := by decide +kernel
theorem dX2_leavesAt_112 : decode cX2_leavesAt 112 = .ok (.idiv, 1) := by decide +kernel
theorem dX2_leavesAt_113 : decode cX2_leavesAt 113 = .ok (.iadd, 1) := by decide +kernel
theorem dX2_leavesAt_114 : decode cX2_leavesAt 114 = .ok (.ireturn, 1) := by decide +kernel
theorem dX2_leavesAt_115 : decode cX2_leavesAt 115 = .ok (.iconst 0, 1) := by decide +kernel
theorem dX2_leavesAt_116 : decode cX2_leavesAt 116 = .ok (.ireturn, 1) := by decide +kernel
theorem dX2_leavesAt_117 : decode cX2_leavesAt 117 = .ok (.iload_n 3, 1) := by decide +kernel
theorem dX2_leavesAt_118 : decode cX2_leavesAt 118 = .ok (.ireturn, 1) := by decide +kernel
theorem dX2_bluntsAt_0 : decode cX2_bluntsAt 0 = .ok (.aload_n 0, 1) := by decide +kernel
theorem dX2_bluntsAt_1 : decode cX2_bluntsAt 1 = .ok (.getfield 27, 3) := by decide +kernel
theorem dX2_bluntsAt_4 : decode cX2_bluntsAt 4 = .ok (.iload_n 1, 1) := by decide +kernel
theorem dX2_bluntsAt_5 : decode cX2_bluntsAt 5 = .ok (.iaload, 1) := by decide +kernel
theorem dX2_bluntsAt_6 : decode cX2_bluntsAt 6 = .ok (.istore_n 2, 1) := by decide +kernel
theorem dX2_bluntsAt_7 : decode cX2_bluntsAt 7 = .ok (.iconst 3, 1) := by decide +kernel
theorem dX2_bluntsAt_8 : decode cX2_bluntsAt 8 = .ok (.istore_n 3, 1) := by decide +kernel
theorem dX2_bluntsAt_9 : decode cX2_bluntsAt 9 = .ok (.iload_n 3, 1) := by decide +kernel
theorem dX2_bluntsAt_10 : decode cX2_bluntsAt 10 = .ok (.iload_n 2, 1) := by decide +kernel
theorem dX2_bluntsAt_11 : decode cX2_bluntsAt 11 = .ok (.iconst 2, 1) := by decide +kernel
theorem dX2_bluntsAt_12 : decode cX2_bluntsAt 12 = .ok (.idiv, 1) := by decide +kernel
theorem dX2_bluntsAt_13 : decode cX2_bluntsAt 13 = .ok (.iadd, 1) := by decide +kernel
theorem dX2_bluntsAt_14 : decode cX2_bluntsAt 14 = .ok (.istore 4, 2) := by decide +kernel
theorem dX2_bluntsAt_16 : decode cX2_bluntsAt 16 = .ok (.aload_n 0, 1) := by decide +kernel
theorem dX2_bluntsAt_17 : decode cX2_bluntsAt 17 = .ok (.getfield 23, 3) := by decide +kernel
theorem dX2_bluntsAt_20 : decode cX2_bluntsAt 20 = .ok (.iload_n 1, 1) := by decide +kernel
theorem dX2_bluntsAt_21 : decode cX2_bluntsAt 21 = .ok (.iaload, 1) := by decide +kernel
theorem dX2_bluntsAt_22 : decode cX2_bluntsAt 22 = .ok (.tableswitch 63 1 6 #[38, 63, 41, 43, 48, 52], 38) := by decide +kernel
theorem dX2_bluntsAt_60 : decode cX2_bluntsAt 60 = .ok (.iload 4, 2) := by decide +kernel
theorem dX2_bluntsAt_62 : decode cX2_bluntsAt 62 = .ok (.ireturn, 1) := by decide +kernel
theorem dX2_bluntsAt_63 : decode cX2_bluntsAt 63 = .ok (.iconst 5, 1) := by decide +kernel
theorem dX2_bluntsAt_64 : decode cX2_bluntsAt 64 = .ok (.ireturn, 1) := by decide +kernel
theorem dX2_bluntsAt_65 : decode cX2_bluntsAt 65 = .ok (.iload 4, 2) := by decide +kernel
theorem dX2_bluntsAt_67 : decode cX2_bluntsAt 67 = .ok (.iconst 2, 1) := by decide +kernel
theorem dX2_bluntsAt_68 : decode cX2_bluntsAt 68 = .ok (.isub, 1) := by decide +kernel
theorem dX2_bluntsAt_69 : decode cX2_bluntsAt 69 = .ok (.ireturn, 1) := by decide +kernel
theorem dX2_bluntsAt_70 : decode cX2_bluntsAt 70 = .ok (.iconst 2, 1) := by decide +kernel
theorem dX2_bluntsAt_71 : decode cX2_bluntsAt 71 = .ok (.iload_n 3, 1) := by decide +kernel
theorem dX2_bluntsAt_72 : decode cX2_bluntsAt 72 = .ok (.imul, 1) := by decide +kernel
theorem dX2_bluntsAt_73 : decode cX2_bluntsAt 73 = .ok (.ireturn, 1) := by decide +kernel
theorem dX2_bluntsAt_74 : decode cX2_bluntsAt 74 = .ok (.iload_n 2, 1) := by decide +kernel
theorem dX2_bluntsAt_75 : decode cX2_bluntsAt 75 = .ok (.iconst 4, 1) := by decide +kernel
theorem dX2_bluntsAt_76 : decode cX2_bluntsAt 76 = .ok (.if_icmp .le 7, 3) := by decide +kernel
theorem dX2_bluntsAt_79 : decode cX2_bluntsAt 79 = .ok (.iload_n 3, 1) := by decide +kernel
theorem dX2_bluntsAt_80 : decode cX2_bluntsAt 80 = .ok (.goto 4, 3) := by decide +kernel
theorem dX2_bluntsAt_83 : decode cX2_bluntsAt 83 = .ok (.iconst 0, 1) := by decide +kernel
theorem dX2_bluntsAt_84 : decode cX2_bluntsAt 84 = .ok (.ireturn, 1) := by decide +kernel
theorem dX2_bluntsAt_85 : decode cX2_bluntsAt 85 = .ok (.iload_n 3, 1) := by decide +kernel
theorem dX2_bluntsAt_86 : decode cX2_bluntsAt 86 = .ok (.ireturn, 1) := by decide +kernel
theorem dX2_passDays_0 : decode cX2_passDays 0 = .ok (.iconst 0, 1) := by decide +kernel
theorem dX2_passDays_1 : decode cX2_passDays 1 = .ok (.istore_n 2, 1) := by decide +kernel
theorem dX2_passDays_2 : decode cX2_passDays 2 = .ok (.iload_n 2, 1) := by decide +kernel
theorem dX2_passDays_3 : decode cX2_passDays 3 = .ok (.iload_n 1, 1) := by decide +kernel
theorem dX2_passDays_4 : decode cX2_passDays 4 = .ok (.if_icmp .ge 17, 3) := by decide +kernel
theorem dX2_passDays_7 : decode cX2_passDays 7 = .ok (.aload_n 0, 1) := by decide +kernel
theorem dX2_passDays_8 : decode cX2_passDays 8 = .ok (.invokevirtual 86, 3) := by decide +kernel
theorem dX2_passDays_11 : decode cX2_passDays 11 = .ok (.aload_n 0, 1) := by decide +kernel
theorem dX2_passDays_12 : decode cX2_passDays 12 = .ok (.invokevirtual 89, 3) := by decide +kernel
theorem dX2_passDays_15 : decode cX2_passDays 15 = .ok (.iinc 2 1, 3) := by decide +kernel
theorem dX2_passDays_18 : decode cX2_passDays 18 = .ok (.goto (-16), 3) := by decide +kernel
theorem dX2_passDays_21 : decode cX2_passDays 21 = .ok (.return_, 1) := by decide +kernel
theorem dX2_passDaysFor_0 : decode cX2_passDaysFor 0 = .ok (.iconst 0, 1) := by decide +kernel
theorem dX2_passDaysFor_1 : decode cX2_passDaysFor 1 = .ok (.istore_n 3, 1) := by decide +kernel
theorem dX2_passDaysFor_2 : decode cX2_passDaysFor 2 = .ok (.iload_n 3, 1) := by decide +kernel
theorem dX2_passDaysFor_3 : decode cX2_passDaysFor 3 = .ok (.iload_n 2, 1) := by decide +kernel
theorem dX2_passDaysFor_4 : decode cX2_passDaysFor 4 = .ok (.if_icmp .ge 25, 3) := by decide +kernel
theorem dX2_passDaysFor_7 : decode cX2_passDaysFor 7 = .ok (.aload_n 0, 1) := by decide +kernel
theorem dX2_passDaysFor_8 : decode cX2_passDaysFor 8 = .ok (.getfield 55, 3) := by decide +kernel
theorem dX2_passDaysFor_11 : decode cX2_passDaysFor 11 = .ok (.iload_n 1, 1) := by decide +kernel
theorem dX2_passDaysFor_12 : decode cX2_passDaysFor 12 = .ok (.if_icmp .ne 7, 3) := by decide +kernel
theorem dX2_passDaysFor_15 : decode cX2_passDaysFor 15 = .ok (.aload_n 0, 1) := by decide +kernel
theorem dX2_passDaysFor_16 : decode cX2_passDaysFor 16 = .ok (.invokevirtual 86, 3) := by decide +kernel
theorem dX2_passDaysFor_19 : decode cX2_passDaysFor 19 = .ok (.aload_n 0, 1) := by decide +kernel
theorem dX2_passDaysFor_20 : decode cX2_passDaysFor 20 = .ok (.invokevirtual 89, 3) := by decide +kernel
theorem dX2_passDaysFor_23 : decode cX2_passDaysFor 23 = .ok (.iinc 3 1, 3) := by decide +kernel
theorem dX2_passDaysFor_26 : decode cX2_passDaysFor 26 = .ok (.goto (-24), 3) := by decide +kernel
theorem dX2_passDaysFor_29 : decode cX2_passDaysFor 29 = .ok (.return_, 1) := by decide +kernel
theorem dX2_hear_0 : decode cX2_hear 0 = .ok (.aload_n 0, 1) := by decide +kernel
theorem dX2_hear_1 : decode cX2_hear 1 = .ok (.aload_n 0, 1) := by decide +kernel
theorem dX2_hear_2 : decode cX2_hear 2 = .ok (.getfield 55, 3) := by decide +kernel
theorem dX2_hear_5 : decode cX2_hear 5 = .ok (.invokevirtual 92, 3) := by decide +kernel
theorem dX2_hear_8 : decode cX2_hear 8 = .ok (.ifCond .eq 62, 3) := by decide +kernel
theorem dX2_hear_11 : decode cX2_hear 11 = .ok (.aload_n 0, 1) := by decide +kernel
theorem dX2_hear_12 : decode cX2_hear 12 = .ok (.getfield 30, 3) := by decide +kernel
theorem dX2_hear_15 : decode cX2_hear 15 = .ok (.aload_n 0, 1) := by decide +kernel
theorem dX2_hear_16 : decode cX2_hear 16 = .ok (.getfield 55, 3) := by decide +kernel
theorem dX2_hear_19 : decode cX2_hear 19 = .ok (.sipush 9999, 3) := by decide +kernel
theorem dX2_hear_22 : decode cX2_hear 22 = .ok (.aload_n 0, 1) := by decide +kernel
theorem dX2_hear_23 : decode cX2_hear 23 = .ok (.getfield 30, 3) := by decide +kernel
theorem dX2_hear_26 : decode cX2_hear 26 = .ok (.aload_n 0, 1) := by decide +kernel
theorem dX2_hear_27 : decode cX2_hear 27 = .ok (.getfield 55, 3) := by decide +kernel
theorem dX2_hear_30 : decode cX2_hear 30 = .ok (.iaload, 1) := by decide +kernel
theorem dX2_hear_31 : decode cX2_hear 31 = .ok (.aload_n 0, 1) := by decide +kernel
theorem dX2_hear_32 : decode cX2_hear 32 = .ok (.aload_n 0, 1) := by decide +kernel
theorem dX2_hear_33 : decode cX2_hear 33 = .ok (.getfield 55, 3) := by decide +kernel
theorem dX2_hear_36 : decode cX2_hear 36 = .ok (.invokevirtual 96, 3) := by decide +kernel
theorem dX2_hear_39 : decode cX2_hear 39 = .ok (.iadd, 1) := by decide +kernel
theorem dX2_hear_40 : decode cX2_hear 40 = .ok (.invokestatic 99, 3) := by decide +kernel
theorem dX2_hear_43 : decode cX2_hear 43 = .ok (.iastore, 1) := by decide +kernel
theorem dX2_hear_44 : decode cX2_hear 44 = .ok (.aload_n 0, 1) := by decide +kernel
theorem dX2_hear_45 : decode cX2_hear 45 = .ok (.getfield 33, 3) := by decide +kernel
theorem dX2_hear_48 : decode cX2_hear 48 = .ok (.aload_n 0, 1) := by decide +kernel
theorem dX2_hear_49 : decode cX2_hear 49 = .ok (.getfield 55, 3) := by decide +kernel
theorem dX2_hear_52 : decode cX2_hear 52 = .ok (.sipush 9999, 3) := by decide +kernel
theorem dX2_hear_55 : decode cX2_hear 55 = .ok (.aload_n 0, 1) := by decide +kernel
theorem dX2_hear_56 : decode cX2_hear 56 = .ok (.getfield 33, 3) := by decide +kernel
theorem dX2_hear_59 : decode cX2_hear 59 = .ok (.aload_n 0, 1) := by decide +kernel
theorem dX2_hear_60 : decode cX2_hear 60 = .ok (.getfield 55, 3) := by decide +kernel
theorem dX2_hear_63 : decode cX2_hear 63 = .ok (.iaload, 1) := by decide +kernel
theorem dX2_hear_64 : decode cX2_hear 64 = .ok (.iconst 1, 1) := by decide +kernel
theorem dX2_hear_65 : decode cX2_hear 65 = .ok (.iadd, 1) := by decide +kernel
theorem dX2_hear_66 : decode cX2_hear 66 = .ok (.invokestatic 99, 3) := by decide +kernel
theorem dX2_hear_69 : decode cX2_hear 69 = .ok (.iastore, 1) := by decide +kernel
theorem dX2_hear_70 : decode cX2_hear 70 = .ok (.return_, 1) := by decide +kernel
theorem dX2_carryOn_0 : decode cX2_carryOn 0 = .ok (.aload_n 0, 1) := by decide +kernel
theorem dX2_carryOn_1 : decode cX2_carryOn 1 = .ok (.aload_n 0, 1) := by decide +kernel
theorem dX2_carryOn_2 : decode cX2_carryOn 2 = .ok (.getfield 55, 3) := by decide +kernel
theorem dX2_carryOn_5 : decode cX2_carryOn 5 = .ok (.invokevirtual 92, 3) := by decide +kernel
theorem dX2_carryOn_8 : decode cX2_carryOn 8 = .ok (.ifCond .eq 46, 3) := by decide +kernel
theorem dX2_carryOn_11 : decode cX2_carryOn 11 = .ok (.aload_n 0, 1) := by decide +kernel
theorem dX2_carryOn_12 : decode cX2_carryOn 12 = .ok (.aload_n 0, 1) := by decide +kernel
theorem dX2_carryOn_13 : decode cX2_carryOn 13 = .ok (.getfield 55, 3) := by decide +kernel
theorem dX2_carryOn_16 : decode cX2_carryOn 16 = .ok (.invokevirtual 105, 3) := by decide +kernel
theorem dX2_carryOn_19 : decode cX2_carryOn 19 = .ok (.istore_n 1, 1) := by decide +kernel
theorem dX2_carryOn_20 : decode cX2_carryOn 20 = .ok (.aload_n 0, 1) := by decide +kernel
theorem dX2_carryOn_21 : decode cX2_carryOn 21 = .ok (.iconst 0, 1) := by decide +kernel
theorem dX2_carryOn_22 : decode cX2_carryOn 22 = .ok (.aload_n 0, 1) := by decide +kernel
theorem dX2_carryOn_23 : decode cX2_carryOn 23 = .ok (.getfield 49, 3) := by decide +kernel
theorem dX2_carryOn_26 : decode cX2_carryOn 26 = .ok (.aload_n 0, 1) := by decide +kernel
theorem dX2_carryOn_27 : decode cX2_carryOn 27 = .ok (.aload_n 0, 1) := by decide +kernel
theorem dX2_carryOn_28 : decode cX2_carryOn 28 = .ok (.getfield 55, 3) := by decide +kernel
theorem dX2_carryOn_31 : decode cX2_carryOn 31 = .ok (.invokevirtual 108, 3) := by decide +kernel
theorem dX2_carryOn_34 : decode cX2_carryOn 34 = .ok (.isub, 1) := by decide +kernel
theorem dX2_carryOn_35 : decode cX2_carryOn 35 = .ok (.invokestatic 111, 3) := by decide +kernel
theorem dX2_carryOn_38 : decode cX2_carryOn 38 = .ok (.putfield 49, 3) := by decide +kernel
theorem dX2_carryOn_41 : decode cX2_carryOn 41 = .ok (.aload_n 0, 1) := by decide +kernel
theorem dX2_carryOn_42 : decode cX2_carryOn 42 = .ok (.iload_n 1, 1) := by decide +kernel
theorem dX2_carryOn_43 : decode cX2_carryOn 43 = .ok (.putfield 46, 3) := by decide +kernel
theorem dX2_carryOn_46 : decode cX2_carryOn 46 = .ok (.aload_n 0, 1) := by decide +kernel
theorem dX2_carryOn_47 : decode cX2_carryOn 47 = .ok (.aload_n 0, 1) := by decide +kernel
theorem dX2_carryOn_48 : decode cX2_carryOn 48 = .ok (.invokevirtual 114, 3) := by decide +kernel
theorem dX2_carryOn_51 : decode cX2_carryOn 51 = .ok (.putfield 55, 3) := by decide +kernel
theorem dX2_carryOn_54 : decode cX2_carryOn 54 = .ok (.aload_n 0, 1) := by decide +kernel
theorem dX2_carryOn_55 : decode cX2_carryOn 55 = .ok (.dup, 1) := by decide +kernel
theorem dX2_carryOn_56 : decode cX2_carryOn 56 = .ok (.getfield 43, 3) := by decide +kernel
theorem dX2_carryOn_59 : decode cX2_carryOn 59 = .ok (.iconst 1, 1) := by decide +kernel
theorem dX2_carryOn_60 : decode cX2_carryOn 60 = .ok (.iadd, 1) := by decide +kernel
theorem dX2_carryOn_61 : decode cX2_carryOn 61 = .ok (.putfield 43, 3) := by decide +kernel
theorem dX2_carryOn_64 : decode cX2_carryOn 64 = .ok (.aload_n 0, 1) := by decide +kernel
theorem dX2_carryOn_65 : decode cX2_carryOn 65 = .ok (.getfield 52, 3) := by decide +kernel
theorem dX2_carryOn_68 : decode cX2_carryOn 68 = .ok (.ifCond .le 21, 3) := by decide +kernel
theorem dX2_carryOn_71 : decode cX2_carryOn 71 = .ok (.aload_n 0, 1) := by decide +kernel
theorem dX2_carryOn_72 : decode cX2_carryOn 72 = .ok (.getfield 43, 3) := by decide +kernel
theorem dX2_carryOn_75 : decode cX2_carryOn 75 = .ok (.aload_n 0, 1) := by decide +kernel
theorem dX2_carryOn_76 : decode cX2_carryOn 76 = .ok (.getfield 52, 3) := by decide +kernel
theorem dX2_carryOn_79 : decode cX2_carryOn 79 = .ok (.irem, 1) := by decide +kernel
theorem dX2_carryOn_80 : decode cX2_carryOn 80 = .ok (.ifCond .ne 9, 3) := by decide +kernel
theorem dX2_carryOn_83 : decode cX2_carryOn 83 = .ok (.aload_n 0, 1) := by decide +kernel
theorem dX2_carryOn_84 : decode cX2_carryOn 84 = .ok (.bipush 99, 2) := by decide +kernel
theorem dX2_carryOn_86 : decode cX2_carryOn 86 = .ok (.putfield 49, 3) := by decide +kernel
theorem dX2_carryOn_89 : decode cX2_carryOn 89 = .ok (.return_, 1) := by decide +kernel
theorem dX2_nextPlace_0 : decode cX2_nextPlace 0 = .ok (.aload_n 0, 1) := by decide +kernel
theorem dX2_nextPlace_1 : decode cX2_nextPlace 1 = .ok (.getfield 55, 3) := by decide +kernel
theorem dX2_nextPlace_4 : decode cX2_nextPlace 4 = .ok (.istore_n 1, 1) := by decide +kernel
theorem dX2_nextPlace_5 : decode cX2_nextPlace 5 = .ok (.iconst 1, 1) := by decide +kernel
theorem dX2_nextPlace_6 : decode cX2_nextPlace 6 = .ok (.istore_n 2, 1) := by decide +kernel
theorem dX2_nextPlace_7 : decode cX2_nextPlace 7 = .ok (.iload_n 2, 1) := by decide +kernel
theorem dX2_nextPlace_8 : decode cX2_nextPlace 8 = .ok (.aload_n 0, 1) := by decide +kernel
theorem dX2_nextPlace_9 : decode cX2_nextPlace 9 = .ok (.getfield 40, 3) := by decide +kernel
theorem dX2_nextPlace_12 : decode cX2_nextPlace 12 = .ok (.if_icmp .ge 37, 3) := by decide +kernel
theorem dX2_nextPlace_15 : decode cX2_nextPlace 15 = .ok (.iload_n 1, 1) := by decide +kernel
theorem dX2_nextPlace_16 : decode cX2_nextPlace 16 = .ok (.iconst 1, 1) := by decide +kernel
theorem dX2_nextPlace_17 : decode cX2_nextPlace 17 = .ok (.iadd, 1) := by decide +kernel
theorem dX2_nextPlace_18 : decode cX2_nextPlace 18 = .ok (.aload_n 0, 1) := by decide +kernel
theorem dX2_nextPlace_19 : decode cX2_nextPlace 19 = .ok (.getfield 40, 3) := by decide +kernel
theorem dX2_nextPlace_22 : decode cX2_nextPlace 22 = .ok (.if_icmp .ge 9, 3) := by decide +kernel
theorem dX2_nextPlace_25 : decode cX2_nextPlace 25 = .ok (.iload_n 1, 1) := by decide +kernel
theorem dX2_nextPlace_26 : decode cX2_nextPlace 26 = .ok (.iconst 1, 1) := by decide +kernel
theorem dX2_nextPlace_27 : decode cX2_nextPlace 27 = .ok (.iadd, 1) := by decide +kernel
theorem dX2_nextPlace_28 : decode cX2_nextPlace 28 = .ok (.goto 4, 3) := by decide +kernel
theorem dX2_nextPlace_31 : decode cX2_nextPlace 31 = .ok (.iconst 0, 1) := by decide +kernel
theorem dX2_nextPlace_32 : decode cX2_nextPlace 32 = .ok (.istore_n 1, 1) := by decide +kernel
theorem dX2_nextPlace_33 : decode cX2_nextPlace 33 = .ok (.aload_n 0, 1) := by decide +kernel
theorem dX2_nextPlace_34 : decode cX2_nextPlace 34 = .ok (.iload_n 1, 1) := by decide +kernel
theorem dX2_nextPlace_35 : decode cX2_nextPlace 35 = .ok (.invokevirtual 118, 3) := by decide +kernel
theorem dX2_nextPlace_38 : decode cX2_nextPlace 38 = .ok (.ifCond .ne 5, 3) := by decide +kernel
theorem dX2_nextPlace_41 : decode cX2_nextPlace 41 = .ok (.iload_n 1, 1) := by decide +kernel
theorem dX2_nextPlace_42 : decode cX2_nextPlace 42 = .ok (.ireturn, 1) := by decide +kernel
theorem dX2_nextPlace_43 : decode cX2_nextPlace 43 = .ok (.iinc 2 1, 3) := by decide +kernel
theorem dX2_nextPlace_46 : decode cX2_nextPlace 46 = .ok (.goto (-39), 3) := by decide +kernel
theorem dX2_nextPlace_49 : decode cX2_nextPlace 49 = .ok (.aload_n 0, 1) := by decide +kernel
theorem dX2_nextPlace_50 : decode cX2_nextPlace 50 = .ok (.getfield 55, 3) := by decide +kernel
theorem dX2_nextPlace_53 : decode cX2_nextPlace 53 = .ok (.ireturn, 1) := by decide +kernel
theorem dX2_drawPlace_0 : decode cX2_drawPlace 0 = .ok (.aload_n 0, 1) := by decide +kernel
theorem dX2_drawPlace_1 : decode cX2_drawPlace 1 = .ok (.getfield 40, 3) := by decide +kernel
theorem dX2_drawPlace_4 : decode cX2_drawPlace 4 = .ok (.ifCond .le 34, 3) := by decide +kernel
theorem dX2_drawPlace_7 : decode cX2_drawPlace 7 = .ok (.aload_n 0, 1) := by decide +kernel
theorem dX2_drawPlace_8 : decode cX2_drawPlace 8 = .ok (.aload_n 0, 1) := by decide +kernel
theorem dX2_drawPlace_9 : decode cX2_drawPlace 9 = .ok (.getfield 58, 3) := by decide +kernel
theorem dX2_drawPlace_12 : decode cX2_drawPlace 12 = .ok (.ldc 121, 2) := by decide +kernel
theorem dX2_drawPlace_14 : decode cX2_drawPlace 14 = .ok (.imul, 1) := by decide +kernel
theorem dX2_drawPlace_15 : decode cX2_drawPlace 15 = .ok (.sipush 12345, 3) := by decide +kernel
theorem dX2_drawPlace_18 : decode cX2_drawPlace 18 = .ok (.iadd, 1) := by decide +kernel
theorem dX2_drawPlace_19 : decode cX2_drawPlace 19 = .ok (.putfield 58, 3) := by decide +kernel
theorem dX2_drawPlace_22 : decode cX2_drawPlace 22 = .ok (.aload_n 0, 1) := by decide +kernel
theorem dX2_drawPlace_23 : decode cX2_drawPlace 23 = .ok (.aload_n 0, 1) := by decide +kernel
theorem dX2_drawPlace_24 : decode cX2_drawPlace 24 = .ok (.getfield 58, 3) := by decide +kernel
theorem dX2_drawPlace_27 : decode cX2_drawPlace 27 = .ok (.bipush 8, 2) := by decide +kernel
theorem dX2_drawPlace_29 : decode cX2_drawPlace 29 = .ok (.iushr, 1) := by decide +kernel
theorem dX2_drawPlace_30 : decode cX2_drawPlace 30 = .ok (.aload_n 0, 1) := by decide +kernel
theorem dX2_drawPlace_31 : decode cX2_drawPlace 31 = .ok (.getfield 40, 3) := by decide +kernel
theorem dX2_drawPlace_34 : decode cX2_drawPlace 34 = .ok (.irem, 1) := by decide +kernel
theorem dX2_drawPlace_35 : decode cX2_drawPlace 35 = .ok (.putfield 55, 3) := by decide +kernel
theorem dX2_drawPlace_38 : decode cX2_drawPlace 38 = .ok (.return_, 1) := by decide +kernel
theorem dX2_heardTogether_0 : decode cX2_heardTogether 0 = .ok (.iconst 0, 1) := by decide +kernel
theorem dX2_heardTogether_1 : decode cX2_heardTogether 1 = .ok (.istore_n 1, 1) := by decide +kernel
theorem dX2_heardTogether_2 : decode cX2_heardTogether 2 = .ok (.iconst 0, 1) := by decide +kernel
theorem dX2_heardTogether_3 : decode cX2_heardTogether 3 = .ok (.istore_n 2, 1) := by decide +kernel
theorem dX2_heardTogether_4 : decode cX2_heardTogether 4 = .ok (.iload_n 2, 1) := by decide +kernel
theorem dX2_heardTogether_5 : decode cX2_heardTogether 5 = .ok (.aload_n 0, 1) := by decide +kernel
theorem dX2_heardTogether_6 : decode cX2_heardTogether 6 = .ok (.getfield 40, 3) := by decide +kernel
theorem dX2_heardTogether_9 : decode cX2_heardTogether 9 = .ok (.if_icmp .ge 18, 3) := by decide +kernel
theorem dX2_heardTogether_12 : decode cX2_heardTogether 12 = .ok (.iload_n 1, 1) := by decide +kernel
theorem dX2_heardTogether_13 : decode cX2_heardTogether 13 = .ok (.aload_n 0, 1) := by decide +kernel
theorem dX2_heardTogether_14 : decode cX2_heardTogether 14 = .ok (.getfield 30, 3) := by decide +kernel
theorem dX2_heardTogether_17 : decode cX2_heardTogether 17 = .ok (.iload_n 2, 1) := by decide +kernel
theorem dX2_heardTogether_18 : decode cX2_heardTogether 18 = .ok (.iaload, 1) := by decide +kernel
theorem dX2_heardTogether_19 : decode cX2_heardTogether 19 = .ok (.iadd, 1) := by decide +kernel
theorem dX2_heardTogether_20 : decode cX2_heardTogether 20 = .ok (.istore_n 1, 1) := by decide +kernel
theorem dX2_heardTogether_21 : decode cX2_heardTogether 21 = .ok (.iinc 2 1, 3) := by decide +kernel
theorem dX2_heardTogether_24 : decode cX2_heardTogether 24 = .ok (.goto (-20), 3) := by decide +kernel
theorem dX2_heardTogether_27 : decode cX2_heardTogether 27 = .ok (.iload_n 1, 1) := by decide +kernel
theorem dX2_heardTogether_28 : decode cX2_heardTogether 28 = .ok (.ireturn, 1) := by decide +kernel
theorem dX2_takeHeard_0 : decode cX2_takeHeard 0 = .ok (.iconst 0, 1) := by decide +kernel
theorem dX2_takeHeard_1 : decode cX2_takeHeard 1 = .ok (.istore_n 2, 1) := by decide +kernel
theorem dX2_takeHeard_2 : decode cX2_takeHeard 2 = .ok (.iload_n 2, 1) := by decide +kernel
theorem dX2_takeHeard_3 : decode cX2_takeHeard 3 = .ok (.aload_n 1, 1) := by decide +kernel
theorem dX2_takeHeard_4 : decode cX2_takeHeard 4 = .ok (.getfield 122, 3) := by decide +kernel
theorem dX2_takeHeard_7 : decode cX2_takeHeard 7 = .ok (.if_icmp .ge 45, 3) := by decide +kernel
theorem dX2_takeHeard_10 : decode cX2_takeHeard 10 = .ok (.iload_n 2, 1) := by decide +kernel
theorem dX2_takeHeard_11 : decode cX2_takeHeard 11 = .ok (.aload_n 0, 1) := by decide +kernel
theorem dX2_takeHeard_12 : decode cX2_takeHeard 12 = .ok (.getfield 40, 3) := by decide +kernel
theorem dX2_takeHeard_15 : decode cX2_takeHeard 15 = .ok (.if_icmp .ge 37, 3) := by decide +kernel
theorem dX2_takeHeard_18 : decode cX2_takeHeard 18 = .ok (.aload_n 1, 1) := by decide +kernel
theorem dX2_takeHeard_19 : decode cX2_takeHeard 19 = .ok (.getfield 127, 3) := by decide +kernel
theorem dX2_takeHeard_22 : decode cX2_takeHeard 22 = .ok (.iload_n 2, 1) := by decide +kernel
theorem dX2_takeHeard_23 : decode cX2_takeHeard 23 = .ok (.iaload, 1) := by decide +kernel
theorem dX2_takeHeard_24 : decode cX2_takeHeard 24 = .ok (.iconst 0, 1) := by decide +kernel
theorem dX2_takeHeard_25 : decode cX2_takeHeard 25 = .ok (.sipush 9999, 3) := by decide +kernel
theorem dX2_takeHeard_28 : decode cX2_takeHeard 28 = .ok (.invokestatic 130, 3) := by decide +kernel
theorem dX2_takeHeard_31 : decode cX2_takeHeard 31 = .ok (.ifCond .eq 21, 3) := by decide +kernel
theorem dX2_takeHeard_34 : decode cX2_takeHeard 34 = .ok (.aload_n 0, 1) := by decide +kernel
theorem dX2_takeHeard_35 : decode cX2_takeHeard 35 = .ok (.getfield 30, 3) := by decide +kernel
theorem dX2_takeHeard_38 : decode cX2_takeHeard 38 = .ok (.iload_n 2, 1) := by decide +kernel
theorem dX2_takeHeard_39 : decode cX2_takeHeard 39 = .ok (.aload_n 1, 1) := by decide +kernel
theorem dX2_takeHeard_40 : decode cX2_takeHeard 40 = .ok (.getfield 127, 3) := by decide +kernel
theorem dX2_takeHeard_43 : decode cX2_takeHeard 43 = .ok (.iload_n 2, 1) := by decide +kernel
theorem dX2_takeHeard_44 : decode cX2_takeHeard 44 = .ok (.iaload, 1) := by decide +kernel
theorem dX2_takeHeard_45 : decode cX2_takeHeard 45 = .ok (.iastore, 1) := by decide +kernel
theorem dX2_takeHeard_46 : decode cX2_takeHeard 46 = .ok (.iinc 2 1, 3) := by decide +kernel
theorem dX2_takeHeard_49 : decode cX2_takeHeard 49 = .ok (.goto (-47), 3) := by decide +kernel
theorem dX2_takeHeard_52 : decode cX2_takeHeard 52 = .ok (.iload_n 2, 1) := by decide +kernel
theorem dX2_takeHeard_53 : decode cX2_takeHeard 53 = .ok (.ireturn, 1) := by decide +kernel
theorem dX2_rightTurns_0 : decode cX2_rightTurns 0 = .ok (.iconst 0, 1) := by decide +kernel
theorem dX2_rightTurns_1 : decode cX2_rightTurns 1 = .ok (.istore_n 2, 1) := by decide +kernel
theorem dX2_rightTurns_2 : decode cX2_rightTurns 2 = .ok (.iload_n 2, 1) := by decide +kernel
theorem dX2_rightTurns_3 : decode cX2_rightTurns 3 = .ok (.aload_n 1, 1) := by decide +kernel
theorem dX2_rightTurns_4 : decode cX2_rightTurns 4 = .ok (.getfield 122, 3) := by decide +kernel
theorem dX2_rightTurns_7 : decode cX2_rightTurns 7 = .ok (.if_icmp .ge 32, 3) := by decide +kernel
theorem dX2_rightTurns_10 : decode cX2_rightTurns 10 = .ok (.iload_n 2, 1) := by decide +kernel
theorem dX2_rightTurns_11 : decode cX2_rightTurns 11 = .ok (.aload_n 0, 1) := by decide +kernel
theorem dX2_rightTurns_12 : decode cX2_rightTurns 12 = .ok (.getfield 40, 3) := by decide +kernel
theorem dX2_rightTurns_15 : decode cX2_rightTurns 15 = .ok (.if_icmp .ge 24, 3) := by decide +kernel
theorem dX2_rightTurns_18 : decode cX2_rightTurns 18 = .ok (.aload_n 1, 1) := by decide +kernel
theorem dX2_rightTurns_19 : decode cX2_rightTurns 19 = .ok (.getfield 127, 3) := by decide +kernel
theorem dX2_rightTurns_22 : decode cX2_rightTurns 22 = .ok (.iload_n 2, 1) := by decide +kernel
theorem dX2_rightTurns_23 : decode cX2_rightTurns 23 = .ok (.iaload, 1) := by decide +kernel
theorem dX2_rightTurns_24 : decode cX2_rightTurns 24 = .ok (.aload_n 0, 1) := by decide +kernel
theorem dX2_rightTurns_25 : decode cX2_rightTurns 25 = .ok (.getfield 33, 3) := by decide +kernel
theorem dX2_rightTurns_28 : decode cX2_rightTurns 28 = .ok (.iload_n 2, 1) := by decide +kernel
theorem dX2_rightTurns_29 : decode cX2_rightTurns 29 = .ok (.iaload, 1) := by decide +kernel
theorem dX2_rightTurns_30 : decode cX2_rightTurns 30 = .ok (.if_icmp .ne 9, 3) := by decide +kernel
theorem dX2_rightTurns_33 : decode cX2_rightTurns 33 = .ok (.iinc 2 1, 3) := by decide +kernel
theorem dX2_rightTurns_36 : decode cX2_rightTurns 36 = .ok (.goto (-34), 3) := by decide +kernel
theorem dX2_rightTurns_39 : decode cX2_rightTurns 39 = .ok (.iload_n 2, 1) := by decide +kernel
theorem dX2_rightTurns_40 : decode cX2_rightTurns 40 = .ok (.ireturn, 1) := by decide +kernel
theorem dX2_rightSaid_0 : decode cX2_rightSaid 0 = .ok (.iconst 0, 1) := by decide +kernel
theorem dX2_rightSaid_1 : decode cX2_rightSaid 1 = .ok (.istore_n 2, 1) := by decide +kernel
theorem dX2_rightSaid_2 : decode cX2_rightSaid 2 = .ok (.iload_n 2, 1) := by decide +kernel
theorem dX2_rightSaid_3 : decode cX2_rightSaid 3 = .ok (.aload_n 1, 1) := by decide +kernel
theorem dX2_rightSaid_4 : decode cX2_rightSaid 4 = .ok (.getfield 122, 3) := by decide +kernel
theorem dX2_rightSaid_7 : decode cX2_rightSaid 7 = .ok (.if_icmp .ge 31, 3) := by decide +kernel
theorem dX2_rightSaid_10 : decode cX2_rightSaid 10 = .ok (.iload_n 2, 1) := by decide +kernel
theorem dX2_rightSaid_11 : decode cX2_rightSaid 11 = .ok (.aload_n 0, 1) := by decide +kernel
theorem dX2_rightSaid_12 : decode cX2_rightSaid 12 = .ok (.getfield 40, 3) := by decide +kernel
theorem dX2_rightSaid_15 : decode cX2_rightSaid 15 = .ok (.if_icmp .ge 23, 3) := by decide +kernel
theorem dX2_rightSaid_18 : decode cX2_rightSaid 18 = .ok (.aload_n 1, 1) := by decide +kernel
theorem dX2_rightSaid_19 : decode cX2_rightSaid 19 = .ok (.getfield 127, 3) := by decide +kernel
theorem dX2_rightSaid_22 : decode cX2_rightSaid 22 = .ok (.iload_n 2, 1) := by decide +kernel
theorem dX2_rightSaid_23 : decode cX2_rightSaid 23 = .ok (.iaload, 1) := by decide +kernel
theorem dX2_rightSaid_24 : decode cX2_rightSaid 24 = .ok (.aload_n 0, 1) := by decide +kernel
theorem dX2_rightSaid_25 : decode cX2_rightSaid 25 = .ok (.iload_n 2, 1) := by decide +kernel
theorem dX2_rightSaid_26 : decode cX2_rightSaid 26 = .ok (.invokevirtual 96, 3) := by decide +kernel
theorem dX2_rightSaid_29 : decode cX2_rightSaid 29 = .ok (.if_icmp .ne 9, 3) := by decide +kernel
theorem dX2_rightSaid_32 : decode cX2_rightSaid 32 = .ok (.iinc 2 1, 3) := by decide +kernel
theorem dX2_rightSaid_35 : decode cX2_rightSaid 35 = .ok (.goto (-33), 3) := by decide +kernel
theorem dX2_rightSaid_38 : decode cX2_rightSaid 38 = .ok (.iload_n 2, 1) := by decide +kernel
theorem dX2_rightSaid_39 : decode cX2_rightSaid 39 = .ok (.ireturn, 1) := by decide +kernel
theorem dX2_changePlaces_0 : decode cX2_changePlaces 0 = .ok (.aload_n 0, 1) := by decide +kernel
theorem dX2_changePlaces_1 : decode cX2_changePlaces 1 = .ok (.getfield 23, 3) := by decide +kernel
theorem dX2_changePlaces_4 : decode cX2_changePlaces 4 = .ok (.iload_n 1, 1) := by decide +kernel
theorem dX2_changePlaces_5 : decode cX2_changePlaces 5 = .ok (.iload_n 2, 1) := by decide +kernel
theorem dX2_changePlaces_6 : decode cX2_changePlaces 6 = .ok (.invokestatic 134, 3) := by decide +kernel
theorem dX2_changePlaces_9 : decode cX2_changePlaces 9 = .ok (.aload_n 0, 1) := by decide +kernel
theorem dX2_changePlaces_10 : decode cX2_changePlaces 10 = .ok (.getfield 27, 3) := by decide +kernel
theorem dX2_changePlaces_13 : decode cX2_changePlaces 13 = .ok (.iload_n 1, 1) := by decide +kernel
theorem dX2_changePlaces_14 : decode cX2_changePlaces 14 = .ok (.iload_n 2, 1) := by decide +kernel
theorem dX2_changePlaces_15 : decode cX2_changePlaces 15 = .ok (.invokestatic 134, 3) := by decide +kernel
theorem dX2_changePlaces_18 : decode cX2_changePlaces 18 = .ok (.aload_n 0, 1) := by decide +kernel
theorem dX2_changePlaces_19 : decode cX2_changePlaces 19 = .ok (.getfield 30, 3) := by decide +kernel
theorem dX2_changePlaces_22 : decode cX2_changePlaces 22 = .ok (.iload_n 1, 1) := by decide +kernel
theorem dX2_changePlaces_23 : decode cX2_changePlaces 23 = .ok (.iload_n 2, 1) := by decide +kernel
theorem dX2_changePlaces_24 : decode cX2_changePlaces 24 = .ok (.invokestatic 134, 3) := by decide +kernel
theorem dX2_changePlaces_27 : decode cX2_changePlaces 27 = .ok (.aload_n 0, 1) := by decide +kernel
theorem dX2_changePlaces_28 : decode cX2_changePlaces 28 = .ok (.getfield 33, 3) := by decide +kernel
theorem dX2_changePlaces_31 : decode cX2_changePlaces 31 = .ok (.iload_n 1, 1) := by decide +kernel
theorem dX2_changePlaces_32 : decode cX2_changePlaces 32 = .ok (.iload_n 2, 1) := by decide +kernel
theorem dX2_changePlaces_33 : decode cX2_changePlaces 33 = .ok (.invokestatic 134, 3) := by decide +kernel
theorem dX2_changePlaces_36 : decode cX2_changePlaces 36 = .ok (.aload_n 0, 1) := by decide +kernel
theorem dX2_changePlaces_37 : decode cX2_changePlaces 37 = .ok (.iload_n 1, 1) := by decide +kernel
theorem dX2_changePlaces_38 : decode cX2_changePlaces 38 = .ok (.invokevirtual 118, 3) := by decide +kernel
theorem dX2_changePlaces_41 : decode cX2_changePlaces 41 = .ok (.istore_n 3, 1) := by decide +kernel
theorem dX2_changePlaces_42 : decode cX2_changePlaces 42 = .ok (.aload_n 0, 1) := by decide +kernel
theorem dX2_changePlaces_43 : decode cX2_changePlaces 43 = .ok (.iload_n 1, 1) := by decide +kernel
theorem dX2_changePlaces_44 : decode cX2_changePlaces 44 = .ok (.aload_n 0, 1) := by decide +kernel
theorem dX2_changePlaces_45 : decode cX2_changePlaces 45 = .ok (.iload_n 2, 1) := by decide +kernel
theorem dX2_changePlaces_46 : decode cX2_changePlaces 46 = .ok (.invokevirtual 118, 3) := by decide +kernel
theorem dX2_changePlaces_49 : decode cX2_changePlaces 49 = .ok (.invokevirtual 138, 3) := by decide +kernel
theorem dX2_changePlaces_52 : decode cX2_changePlaces 52 = .ok (.aload_n 0, 1) := by decide +kernel
theorem dX2_changePlaces_53 : decode cX2_changePlaces 53 = .ok (.iload_n 2, 1) := by decide +kernel
theorem dX2_changePlaces_54 : decode cX2_changePlaces 54 = .ok (.iload_n 3, 1) := by decide +kernel
theorem dX2_changePlaces_55 : decode cX2_changePlaces 55 = .ok (.invokevirtual 138, 3) := by decide +kernel
theorem dX2_changePlaces_58 : decode cX2_changePlaces 58 = .ok (.return_, 1) := by decide +kernel
theorem dX2_changeNumbers_0 : decode cX2_changeNumbers 0 = .ok (.aload_n 0, 1) := by decide +kernel
theorem dX2_changeNumbers_1 : decode cX2_changeNumbers 1 = .ok (.iload_n 1, 1) := by decide +kernel
theorem dX2_changeNumbers_2 : decode cX2_changeNumbers 2 = .ok (.iaload, 1) := by decide +kernel
theorem dX2_changeNumbers_3 : decode cX2_changeNumbers 3 = .ok (.istore_n 3, 1) := by decide +kernel
theorem dX2_changeNumbers_4 : decode cX2_changeNumbers 4 = .ok (.aload_n 0, 1) := by decide +kernel
theorem dX2_changeNumbers_5 : decode cX2_changeNumbers 5 = .ok (.iload_n 1, 1) := by decide +kernel
theorem dX2_changeNumbers_6 : decode cX2_changeNumbers 6 = .ok (.aload_n 0, 1) := by decide +kernel
theorem dX2_changeNumbers_7 : decode cX2_changeNumbers 7 = .ok (.iload_n 2, 1) := by decide +kernel
theorem dX2_changeNumbers_8 : decode cX2_changeNumbers 8 = .ok (.iaload, 1) := by decide +kernel
theorem dX2_changeNumbers_9 : decode cX2_changeNumbers 9 = .ok (.iastore, 1) := by decide +kernel
theorem dX2_changeNumbers_10 : decode cX2_changeNumbers 10 = .ok (.aload_n 0, 1) := by decide +kernel
theorem dX2_changeNumbers_11 : decode cX2_changeNumbers 11 = .ok (.iload_n 2, 1) := by decide +kernel
theorem dX2_changeNumbers_12 : decode cX2_changeNumbers 12 = .ok (.iload_n 3, 1) := by decide +kernel
theorem dX2_changeNumbers_13 : decode cX2_changeNumbers 13 = .ok (.iastore, 1) := by decide +kernel
theorem dX2_changeNumbers_14 : decode cX2_changeNumbers 14 = .ok (.return_, 1) := by decide +kernel
theorem dX6_init_0 : decode cX6_init 0 = .ok (.aload_n 0, 1) := by decide +kernel
theorem dX6_init_1 : decode cX6_init 1 = .ok (.invokespecial 3, 3) := by decide +kernel
theorem dX6_init_4 : decode cX6_init 4 = .ok (.aload_n 0, 1) := by decide +kernel
theorem dX6_init_5 : decode cX6_init 5 = .ok (.new 9, 3) := by decide +kernel
theorem dX6_init_8 : decode cX6_init 8 = .ok (.dup, 1) := by decide +kernel
theorem dX6_init_9 : decode cX6_init 9 = .ok (.invokespecial 11, 3) := by decide +kernel
theorem dX6_init_12 : decode cX6_init 12 = .ok (.putfield 12, 3) := by decide +kernel
theorem dX6_init_15 : decode cX6_init 15 = .ok (.aload_n 0, 1) := by decide +kernel
theorem dX6_init_16 : decode cX6_init 16 = .ok (.iconst (-1), 1) := by decide +kernel
theorem dX6_init_17 : decode cX6_init 17 = .ok (.putfield 18, 3) := by decide +kernel
theorem dX6_init_20 : decode cX6_init 20 = .ok (.aload_n 0, 1) := by decide +kernel
theorem dX6_init_21 : decode cX6_init 21 = .ok (.iconst 0, 1) := by decide +kernel
theorem dX6_init_22 : decode cX6_init 22 = .ok (.putfield 22, 3) := by decide +kernel
theorem dX6_init_25 : decode cX6_init 25 = .ok (.return_, 1) := by decide +kernel
theorem dX6_daysOn_0 : decode cX6_daysOn 0 = .ok (.aload_n 0, 1) := by decide +kernel
theorem dX6_daysOn_1 : decode cX6_daysOn 1 = .ok (.getfield 12, 3) := by decide +kernel
theorem dX6_daysOn_4 : decode cX6_daysOn 4 = .ok (.aload_n 1, 1) := by decide +kernel
theorem dX6_daysOn_5 : decode cX6_daysOn 5 = .ok (.invokevirtual 25, 3) := by decide +kernel
theorem dX6_daysOn_8 : decode cX6_daysOn 8 = .ok (.aload_n 0, 1) := by decide +kernel
theorem dX6_daysOn_9 : decode cX6_daysOn 9 = .ok (.getfield 12, 3) := by decide +kernel
theorem dX6_daysOn_12 : decode cX6_daysOn 12 = .ok (.iload_n 2, 1) := by decide +kernel
theorem dX6_daysOn_13 : decode cX6_daysOn 13 = .ok (.invokevirtual 29, 3) := by decide +kernel
theorem dX6_daysOn_16 : decode cX6_daysOn 16 = .ok (.aload_n 0, 1) := by decide +kernel
theorem dX6_daysOn_17 : decode cX6_daysOn 17 = .ok (.getfield 12, 3) := by decide +kernel
theorem dX6_daysOn_20 : decode cX6_daysOn 20 = .ok (.areturn, 1) := by decide +kernel
theorem dX6_daysUntil_0 : decode cX6_daysUntil 0 = .ok (.aload_n 0, 1) := by decide +kernel
theorem dX6_daysUntil_1 : decode cX6_daysUntil 1 = .ok (.getfield 12, 3) := by decide +kernel
theorem dX6_daysUntil_4 : decode cX6_daysUntil 4 = .ok (.aload_n 1, 1) := by decide +kernel
theorem dX6_daysUntil_5 : decode cX6_daysUntil 5 = .ok (.invokevirtual 25, 3) := by decide +kernel
theorem dX6_daysUntil_8 : decode cX6_daysUntil 8 = .ok (.iconst 0, 1) := by decide +kernel
theorem dX6_daysUntil_9 : decode cX6_daysUntil 9 = .ok (.istore 4, 2) := by decide +kernel
theorem dX6_daysUntil_11 : decode cX6_daysUntil 11 = .ok (.iload 4, 2) := by decide +kernel
theorem dX6_daysUntil_13 : decode cX6_daysUntil 13 = .ok (.bipush 60, 2) := by decide +kernel
theorem dX6_daysUntil_15 : decode cX6_daysUntil 15 = .ok (.if_icmp .gt 34, 3) := by decide +kernel
theorem dX6_daysUntil_18 : decode cX6_daysUntil 18 = .ok (.aload_n 0, 1) := by decide +kernel
theorem dX6_daysUntil_19 : decode cX6_daysUntil 19 = .ok (.getfield 12, 3) := by decide +kernel
theorem dX6_daysUntil_22 : decode cX6_daysUntil 22 = .ok (.getfield 33, 3) := by decide +kernel
theorem dX6_daysUntil_25 : decode cX6_daysUntil 25 = .ok (.iload_n 2, 1) := by decide +kernel
theorem dX6_daysUntil_26 : decode cX6_daysUntil 26 = .ok (.iaload, 1) := by decide +kernel
theorem dX6_daysUntil_27 : decode cX6_daysUntil 27 = .ok (.iload_n 3, 1) := by decide +kernel
theorem dX6_daysUntil_28 : decode cX6_daysUntil 28 = .ok (.if_icmp .lt 6, 3) := by decide +kernel
theorem dX6_daysUntil_31 : decode cX6_daysUntil 31 = .ok (.iload 4, 2) := by decide +kernel
theorem dX6_daysUntil_33 : decode cX6_daysUntil 33 = .ok (.ireturn, 1) := by decide +kernel
theorem dX6_daysUntil_34 : decode cX6_daysUntil 34 = .ok (.aload_n 0, 1) := by decide +kernel
theorem dX6_daysUntil_35 : decode cX6_daysUntil 35 = .ok (.getfield 12, 3) := by decide +kernel
theorem dX6_daysUntil_38 : decode cX6_daysUntil 38 = .ok (.iload_n 2, 1) := by decide +kernel
theorem dX6_daysUntil_39 : decode cX6_daysUntil 39 = .ok (.iconst 1, 1) := by decide +kernel
theorem dX6_daysUntil_40 : decode cX6_daysUntil 40 = .ok (.invokevirtual 37, 3) := by decide +kernel
theorem dX6_daysUntil_43 : decode cX6_daysUntil 43 = .ok (.iinc 4 1, 3) := by decide +kernel
theorem dX6_daysUntil_46 : decode cX6_daysUntil 46 = .ok (.goto (-35), 3) := by decide +kernel
theorem dX6_daysUntil_49 : decode cX6_daysUntil 49 = .ok (.iconst (-1), 1) := by decide +kernel
theorem dX6_daysUntil_50 : decode cX6_daysUntil 50 = .ok (.ireturn, 1) := by decide +kernel
theorem dX6_seekStart_0 : decode cX6_seekStart 0 = .ok (.aload_n 0, 1) := by decide +kernel
theorem dX6_seekStart_1 : decode cX6_seekStart 1 = .ok (.iconst (-1), 1) := by decide +kernel
theorem dX6_seekStart_2 : decode cX6_seekStart 2 = .ok (.putfield 18, 3) := by decide +kernel
theorem dX6_seekStart_5 : decode cX6_seekStart 5 = .ok (.aload_n 0, 1) := by decide +kernel
theorem dX6_seekStart_6 : decode cX6_seekStart 6 = .ok (.iconst (-1), 1) := by decide +kernel
theorem dX6_seekStart_7 : decode cX6_seekStart 7 = .ok (.putfield 22, 3) := by decide +kernel
theorem dX6_seekStart_10 : decode cX6_seekStart 10 = .ok (.iconst 0, 1) := by decide +kernel
theorem dX6_seekStart_11 : decode cX6_seekStart 11 = .ok (.istore 4, 2) := by decide +kernel
theorem dX6_seekStart_13 : decode cX6_seekStart 13 = .ok (.iload 4, 2) := by decide +kernel
theorem dX6_seekStart_15 : decode cX6_seekStart 15 = .ok (.aload_n 1, 1) := by decide +kernel
theorem dX6_seekStart_16 : decode cX6_seekStart 16 = .ok (.getfield 41, 3) := by decide +kernel
theorem dX6_seekStart_19 : decode cX6_seekStart 19 = .ok (.if_icmp .ge 70, 3) := by decide +kernel
theorem dX6_seekStart_22 : decode cX6_seekStart 22 = .ok (.aload_n 0, 1) := by decide +kernel
theorem dX6_seekStart_23 : decode cX6_seekStart 23 = .ok (.getfield 12, 3) := by decide +kernel
theorem dX6_seekStart_26 : decode cX6_seekStart 26 = .ok (.aload_n 1, 1) := by decide +kernel
theorem dX6_seekStart_27 : decode cX6_seekStart 27 = .ok (.invokevirtual 25, 3) := by decide +kernel
theorem dX6_seekStart_30 : decode cX6_seekStart 30 = .ok (.aload_n 0, 1) := by decide +kernel
theorem dX6_seekStart_31 : decode cX6_seekStart 31 = .ok (.getfield 12, 3) := by decide +kernel
theorem dX6_seekStart_34 : decode cX6_seekStart 34 = .ok (.iload 4, 2) := by decide +kernel
theorem dX6_seekStart_36 : decode cX6_seekStart 36 = .ok (.putfield 44, 3) := by decide +kernel
theorem dX6_seekStart_39 : decode cX6_seekStart 39 = .ok (.aload_n 0, 1) := by decide +kernel
theorem dX6_seekStart_40 : decode cX6_seekStart 40 = .ok (.getfield 12, 3) := by decide +kernel
theorem dX6_seekStart_43 : decode cX6_seekStart 43 = .ok (.iload_n 2, 1) := by decide +kernel
theorem dX6_seekStart_44 : decode cX6_seekStart 44 = .ok (.iload_n 3, 1) := by decide +kernel
theorem dX6_seekStart_45 : decode cX6_seekStart 45 = .ok (.invokevirtual 37, 3) := by decide +kernel
theorem dX6_seekStart_48 : decode cX6_seekStart 48 = .ok (.aload_n 0, 1) := by decide +kernel
theorem dX6_seekStart_49 : decode cX6_seekStart 49 = .ok (.getfield 12, 3) := by decide +kernel
theorem dX6_seekStart_52 : decode cX6_seekStart 52 = .ok (.getfield 33, 3) := by decide +kernel
theorem dX6_seekStart_55 : decode cX6_seekStart 55 = .ok (.iload_n 2, 1) := by decide +kernel
theorem dX6_seekStart_56 : decode cX6_seekStart 56 = .ok (.iaload, 1) := by decide +kernel
theorem dX6_seekStart_57 : decode cX6_seekStart 57 = .ok (.aload_n 0, 1) := by decide +kernel
theorem dX6_seekStart_58 : decode cX6_seekStart 58 = .ok (.getfield 22, 3) := by decide +kernel
theorem dX6_seekStart_61 : decode cX6_seekStart 61 = .ok (.if_icmp .le 22, 3) := by decide +kernel
theorem dX6_seekStart_64 : decode cX6_seekStart 64 = .ok (.aload_n 0, 1) := by decide +kernel
theorem dX6_seekStart_65 : decode cX6_seekStart 65 = .ok (.iload 4, 2) := by decide +kernel
theorem dX6_seekStart_67 : decode cX6_seekStart 67 = .ok (.putfield 18, 3) := by decide +kernel
theorem dX6_seekStart_70 : decode cX6_seekStart 70 = .ok (.aload_n 0, 1) := by decide +kernel
theorem dX6_seekStart_71 : decode cX6_seekStart 71 = .ok (.aload_n 0, 1) := by decide +kernel
theorem dX6_seekStart_72 : decode cX6_seekStart 72 = .ok (.getfield 12, 3) := by decide +kernel
theorem dX6_seekStart_75 : decode cX6_seekStart 75 = .ok (.getfield 33, 3) := by decide +kernel
theorem dX6_seekStart_78 : decode cX6_seekStart 78 = .ok (.iload_n 2, 1) := by decide +kernel
theorem dX6_seekStart_79 : decode cX6_seekStart 79 = .ok (.iaload, 1) := by decide +kernel
theorem dX6_seekStart_80 : decode cX6_seekStart 80 = .ok (.putfield 22, 3) := by decide +kernel
theorem dX6_seekStart_83 : decode cX6_seekStart 83 = .ok (.iinc 4 1, 3) := by decide +kernel
theorem dX6_seekStart_86 : decode cX6_seekStart 86 = .ok (.goto (-73), 3) := by decide +kernel
theorem dX6_seekStart_89 : decode cX6_seekStart 89 = .ok (.return_, 1) := by decide +kernel
theorem dX6_seekSwap_0 : decode cX6_seekSwap 0 = .ok (.aload_n 0, 1) := by decide +kernel
theorem dX6_seekSwap_1 : decode cX6_seekSwap 1 = .ok (.iconst (-1), 1) := by decide +kernel
theorem dX6_seekSwap_2 : decode cX6_seekSwap 2 = .ok (.putfield 18, 3) := by decide +kernel
theorem dX6_seekSwap_5 : decode cX6_seekSwap 5 = .ok (.aload_n 0, 1) := by decide +kernel
theorem dX6_seekSwap_6 : decode cX6_seekSwap 6 = .ok (.getfield 12, 3) := by decide +kernel
theorem dX6_seekSwap_9 : decode cX6_seekSwap 9 = .ok (.aload_n 1, 1) := by decide +kernel
theorem dX6_seekSwap_10 : decode cX6_seekSwap 10 = .ok (.invokevirtual 25, 3) := by decide +kernel
theorem dX6_seekSwap_13 : decode cX6_seekSwap 13 = .ok (.aload_n 0, 1) := by decide +kernel
theorem dX6_seekSwap_14 : decode cX6_seekSwap 14 = .ok (.getfield 12, 3) := by decide +kernel
theorem dX6_seekSwap_17 : decode cX6_seekSwap 17 = .ok (.iload_n 2, 1) := by decide +kernel
theorem dX6_seekSwap_18 : decode cX6_seekSwap 18 = .ok (.invokevirtual 29, 3) := by decide +kernel
theorem dX6_seekSwap_21 : decode cX6_seekSwap 21 = .ok (.aload_n 0, 1) := by decide +kernel
theorem dX6_seekSwap_22 : decode cX6_seekSwap 22 = .ok (.aload_n 0, 1) := by decide +kernel
theorem dX6_seekSwap_23 : decode cX6_seekSwap 23 = .ok (.getfield 12, 3) := by decide +kernel
theorem dX6_seekSwap_26 : decode cX6_seekSwap 26 = .ok (.invokevirtual 47, 3) := by decide +kernel
theorem dX6_seekSwap_29 : decode cX6_seekSwap 29 = .ok (.putfield 22, 3) := by decide +kernel
theorem dX6_seekSwap_32 : decode cX6_seekSwap 32 = .ok (.iconst 0, 1) := by decide +kernel
theorem dX6_seekSwap_33 : decode cX6_seekSwap 33 = .ok (.istore_n 3, 1) := by decide +kernel
theorem dX6_seekSwap_34 : decode cX6_seekSwap 34 = .ok (.iload_n 3, 1) := by decide +kernel
theorem dX6_seekSwap_35 : decode cX6_seekSwap 35 = .ok (.aload_n 1, 1) := by decide +kernel
theorem dX6_seekSwap_36 : decode cX6_seekSwap 36 = .ok (.getfield 41, 3) := by decide +kernel
theorem dX6_seekSwap_39 : decode cX6_seekSwap 39 = .ok (.if_icmp .ge 90, 3) := by decide +kernel
theorem dX6_seekSwap_42 : decode cX6_seekSwap 42 = .ok (.iload_n 3, 1) := by decide +kernel
theorem dX6_seekSwap_43 : decode cX6_seekSwap 43 = .ok (.iconst 1, 1) := by decide +kernel
theorem dX6_seekSwap_44 : decode cX6_seekSwap 44 = .ok (.iadd, 1) := by decide +kernel
theorem dX6_seekSwap_45 : decode cX6_seekSwap 45 = .ok (.istore 4, 2) := by decide +kernel
theorem dX6_seekSwap_47 : decode cX6_seekSwap 47 = .ok (.iload 4, 2) := by decide +kernel
theorem dX6_seekSwap_49 : decode cX6_seekSwap 49 = .ok (.aload_n 1, 1) := by decide +kernel
theorem dX6_seekSwap_50 : decode cX6_seekSwap 50 = .ok (.getfield 41, 3) := by decide +kernel
theorem dX6_seekSwap_53 : decode cX6_seekSwap 53 = .ok (.if_icmp .ge 70, 3) := by decide +kernel
theorem dX6_seekSwap_56 : decode cX6_seekSwap 56 = .ok (.aload_n 0, 1) := by decide +kernel
theorem dX6_seekSwap_57 : decode cX6_seekSwap 57 = .ok (.getfield 12, 3) := by decide +kernel
theorem dX6_seekSwap_60 : decode cX6_seekSwap 60 = .ok (.aload_n 1, 1) := by decide +kernel
theorem dX6_seekSwap_61 : decode cX6_seekSwap 61 = .ok (.invokevirtual 25, 3) := by decide +kernel
theorem dX6_seekSwap_64 : decode cX6_seekSwap 64 = .ok (.aload_n 0, 1) := by decide +kernel
theorem dX6_seekSwap_65 : decode cX6_seekSwap 65 = .ok (.getfield 12, 3) := by decide +kernel
theorem dX6_seekSwap_68 : decode cX6_seekSwap 68 = .ok (.iload_n 3, 1) := by decide +kernel
theorem dX6_seekSwap_69 : decode cX6_seekSwap 69 = .ok (.iload 4, 2) := by decide +kernel
theorem dX6_seekSwap_71 : decode cX6_seekSwap 71 = .ok (.invokevirtual 51, 3) := by decide +kernel
theorem dX6_seekSwap_74 : decode cX6_seekSwap 74 = .ok (.aload_n 0, 1) := by decide +kernel
theorem dX6_seekSwap_75 : decode cX6_seekSwap 75 = .ok (.getfield 12, 3) := by decide +kernel
theorem dX6_seekSwap_78 : decode cX6_seekSwap 78 = .ok (.iload_n 2, 1) := by decide +kernel
theorem dX6_seekSwap_79 : decode cX6_seekSwap 79 = .ok (.invokevirtual 29, 3) := by decide +kernel
theorem dX6_seekSwap_82 : decode cX6_seekSwap 82 = .ok (.aload_n 0, 1) := by decide +kernel
theorem dX6_seekSwap_83 : decode cX6_seekSwap 83 = .ok (.getfield 12, 3) := by decide +kernel
theorem dX6_seekSwap_86 : decode cX6_seekSwap 86 = .ok (.invokevirtual 47, 3) := by decide +kernel
theorem dX6_seekSwap_89 : decode cX6_seekSwap 89 = .ok (.istore 5, 2) := by decide +kernel
theorem dX6_seekSwap_91 : decode cX6_seekSwap 91 = .ok (.iload 5, 2) := by decide +kernel
theorem dX6_seekSwap_93 : decode cX6_seekSwap 93 = .ok (.aload_n 0, 1) := by decide +kernel
theorem dX6_seekSwap_94 : decode cX6_seekSwap 94 = .ok (.getfield 22, 3) := by decide +kernel
theorem dX6_seekSwap_97 : decode cX6_seekSwap 97 = .ok (.if_icmp .ge 20, 3) := by decide +kernel
theorem dX6_seekSwap_100 : decode cX6_seekSwap 100 = .ok (.aload_n 0, 1) := by decide +kernel
theorem dX6_seekSwap_101 : decode cX6_seekSwap 101 = .ok (.bipush 10, 2) := by decide +kernel
theorem dX6_seekSwap_103 : decode cX6_seekSwap 103 = .ok (.iload_n 3, 1) := by decide +kernel
theorem dX6_seekSwap_104 : decode cX6_seekSwap 104 = .ok (.imul, 1) := by decide +kernel
theorem dX6_seekSwap_105 : decode cX6_seekSwap 105 = .ok (.iload 4, 2) := by decide +kernel
theorem dX6_seekSwap_107 : decode cX6_seekSwap 107 = .ok (.iadd, 1) := by decide +kernel
theorem dX6_seekSwap_108 : decode cX6_seekSwap 108 = .ok (.putfield 18, 3) := by decide +kernel
theorem dX6_seekSwap_111 : decode cX6_seekSwap 111 = .ok (.aload_n 0, 1) := by decide +kernel
theorem dX6_seekSwap_112 : decode cX6_seekSwap 112 = .ok (.iload 5, 2) := by decide +kernel
theorem dX6_seekSwap_114 : decode cX6_seekSwap 114 = .ok (.putfield 22, 3) := by decide +kernel
theorem dX6_seekSwap_117 : decode cX6_seekSwap 117 = .ok (.iinc 4 1, 3) := by decide +kernel
theorem dX6_seekSwap_120 : decode cX6_seekSwap 120 = .ok (.goto (-73), 3) := by decide +kernel
theorem dX6_seekSwap_123 : decode cX6_seekSwap 123 = .ok (.iinc 3 1, 3) := by decide +kernel
theorem dX6_seekSwap_126 : decode cX6_seekSwap 126 = .ok (.goto (-92), 3) := by decide +kernel
theorem dX6_seekSwap_129 : decode cX6_seekSwap 129 = .ok (.return_, 1) := by decide +kernel
theorem dX6_fewestPast_0 : decode cX6_fewestPast 0 = .ok (.iconst 1, 1) := by decide +kernel
theorem dX6_fewestPast_1 : decode cX6_fewestPast 1 = .ok (.aload_n 1, 1) := by decide +kernel
theorem dX6_fewestPast_2 : decode cX6_fewestPast 2 = .ok (.getfield 41, 3) := by decide +kernel
theorem dX6_fewestPast_5 : decode cX6_fewestPast 5 = .ok (.ishl, 1) := by decide +kernel
theorem dX6_fewestPast_6 : decode cX6_fewestPast 6 = .ok (.istore 4, 2) := by decide +kernel
theorem dX6_fewestPast_8 : decode cX6_fewestPast 8 = .ok (.iconst 0, 1) := by decide +kernel
theorem dX6_fewestPast_9 : decode cX6_fewestPast 9 = .ok (.istore 5, 2) := by decide +kernel
theorem dX6_fewestPast_11 : decode cX6_fewestPast 11 = .ok (.iload 5, 2) := by decide +kernel
theorem dX6_fewestPast_13 : decode cX6_fewestPast 13 = .ok (.aload_n 1, 1) := by decide +kernel
theorem dX6_fewestPast_14 : decode cX6_fewestPast 14 = .ok (.getfield 41, 3) := by decide +kernel
theorem dX6_fewestPast_17 : decode cX6_fewestPast 17 = .ok (.if_icmp .gt 60, 3) := by decide +kernel
theorem dX6_fewestPast_20 : decode cX6_fewestPast 20 = .ok (.iconst 0, 1) := by decide +kernel
theorem dX6_fewestPast_21 : decode cX6_fewestPast 21 = .ok (.istore 6, 2) := by decide +kernel
theorem dX6_fewestPast_23 : decode cX6_fewestPast 23 = .ok (.iload 6, 2) := by decide +kernel
theorem dX6_fewestPast_25 : decode cX6_fewestPast 25 = .ok (.iload 4, 2) := by decide +kernel
theorem dX6_fewestPast_27 : decode cX6_fewestPast 27 = .ok (.if_icmp .ge 44, 3) := by decide +kernel
theorem dX6_fewestPast_30 : decode cX6_fewestPast 30 = .ok (.iload 6, 2) := by decide +kernel
theorem dX6_fewestPast_32 : decode cX6_fewestPast 32 = .ok (.invokestatic 54, 3) := by decide +kernel
theorem dX6_fewestPast_35 : decode cX6_fewestPast 35 = .ok (.iload 5, 2) := by decide +kernel
theorem dX6_fewestPast_37 : decode cX6_fewestPast 37 = .ok (.if_icmp .ne 28, 3) := by decide +kernel
theorem dX6_fewestPast_40 : decode cX6_fewestPast 40 = .ok (.iload 6, 2) := by decide +kernel
theorem dX6_fewestPast_42 : decode cX6_fewestPast 42 = .ok (.aload_n 1, 1) := by decide +kernel
theorem dX6_fewestPast_43 : decode cX6_fewestPast 43 = .ok (.getfield 60, 3) := by decide +kernel
theorem dX6_fewestPast_46 : decode cX6_fewestPast 46 = .ok (.iand, 1) := by decide +kernel
theorem dX6_fewestPast_47 : decode cX6_fewestPast 47 = .ok (.ifCond .ne 18, 3) := by decide +kernel
theorem dX6_fewestPast_50 : decode cX6_fewestPast 50 = .ok (.aload_n 0, 1) := by decide +kernel
theorem dX6_fewestPast_51 : decode cX6_fewestPast 51 = .ok (.aload_n 1, 1) := by decide +kernel
theorem dX6_fewestPast_52 : decode cX6_fewestPast 52 = .ok (.iload 6, 2) := by decide +kernel
theorem dX6_fewestPast_54 : decode cX6_fewestPast 54 = .ok (.iload_n 2, 1) := by decide +kernel
theorem dX6_fewestPast_55 : decode cX6_fewestPast 55 = .ok (.invokevirtual 63, 3) := by decide +kernel
theorem dX6_fewestPast_58 : decode cX6_fewestPast 58 = .ok (.iload_n 3, 1) := by decide +kernel
theorem dX6_fewestPast_59 : decode cX6_fewestPast 59 = .ok (.if_icmp .gt 6, 3) := by decide +kernel
theorem dX6_fewestPast_62 : decode cX6_fewestPast 62 = .ok (.iload 6, 2) := by decide +kernel
theorem dX6_fewestPast_64 : decode cX6_fewestPast 64 = .ok (.ireturn, 1) := by decide +kernel
theorem dX6_fewestPast_65 : decode cX6_fewestPast 65 = .ok (.iinc 6 1, 3) := by decide +kernel
theorem dX6_fewestPast_68 : decode cX6_fewestPast 68 = .ok (.goto (-45), 3) := by decide +kernel
theorem dX6_fewestPast_71 : decode cX6_fewestPast 71 = .ok (.iinc 5 1, 3) := by decide +kernel
theorem dX6_fewestPast_74 : decode cX6_fewestPast 74 = .ok (.goto (-63), 3) := by decide +kernel
theorem dX6_fewestPast_77 : decode cX6_fewestPast 77 = .ok (.iconst (-1), 1) := by decide +kernel
theorem dX6_fewestPast_78 : decode cX6_fewestPast 78 = .ok (.ireturn, 1) := by decide +kernel
theorem dX6_viewWithout_0 : decode cX6_viewWithout 0 = .ok (.aload_n 0, 1) := by decide +kernel
theorem dX6_viewWithout_1 : decode cX6_viewWithout 1 = .ok (.getfield 12, 3) := by decide +kernel
theorem dX6_viewWithout_4 : decode cX6_viewWithout 4 = .ok (.aload_n 1, 1) := by decide +kernel
theorem dX6_viewWithout_5 : decode cX6_viewWithout 5 = .ok (.invokevirtual 25, 3) := by decide +kernel
theorem dX6_viewWithout_8 : decode cX6_viewWithout 8 = .ok (.aload_n 0, 1) := by decide +kernel
theorem dX6_viewWithout_9 : decode cX6_viewWithout 9 = .ok (.getfield 12, 3) := by decide +kernel
theorem dX6_viewWithout_12 : decode cX6_viewWithout 12 = .ok (.aload_n 1, 1) := by decide +kernel
theorem dX6_viewWithout_13 : decode cX6_viewWithout 13 = .ok (.getfield 60, 3) := by decide +kernel
theorem dX6_viewWithout_16 : decode cX6_viewWithout 16 = .ok (.iload_n 2, 1) := by decide +kernel
theorem dX6_viewWithout_17 : decode cX6_viewWithout 17 = .ok (.ior, 1) := by decide +kernel
theorem dX6_viewWithout_18 : decode cX6_viewWithout 18 = .ok (.putfield 60, 3) := by decide +kernel
theorem dX6_viewWithout_21 : decode cX6_viewWithout 21 = .ok (.iconst 0, 1) := by decide +kernel
theorem dX6_viewWithout_22 : decode cX6_viewWithout 22 = .ok (.istore 4, 2) := by decide +kernel
theorem dX6_viewWithout_24 : decode cX6_viewWithout 24 = .ok (.iload 4, 2) := by decide +kernel
theorem dX6_viewWithout_26 : decode cX6_viewWithout 26 = .ok (.iload_n 3, 1) := by decide +kernel
theorem dX6_viewWithout_27 : decode cX6_viewWithout 27 = .ok (.if_icmp .ge 16, 3) := by decide +kernel
theorem dX6_viewWithout_30 : decode cX6_viewWithout 30 = .ok (.aload_n 0, 1) := by decide +kernel
theorem dX6_viewWithout_31 : decode cX6_viewWithout 31 = .ok (.getfield 12, 3) := by decide +kernel
theorem dX6_viewWithout_34 : decode cX6_viewWithout 34 = .ok (.invokevirtual 67, 3) := by decide +kernel
theorem dX6_viewWithout_37 : decode cX6_viewWithout 37 = .ok (.iinc 4 1, 3) := by decide +kernel
theorem dX6_viewWithout_40 : decode cX6_viewWithout 40 = .ok (.goto (-16), 3) := by decide +kernel
theorem dX6_viewWithout_43 : decode cX6_viewWithout 43 = .ok (.aload_n 0, 1) := by decide +kernel
theorem dX6_viewWithout_44 : decode cX6_viewWithout 44 = .ok (.getfield 12, 3) := by decide +kernel
theorem dX6_viewWithout_47 : decode cX6_viewWithout 47 = .ok (.getfield 70, 3) := by decide +kernel
theorem dX6_viewWithout_50 : decode cX6_viewWithout 50 = .ok (.ireturn, 1) := by decide +kernel
theorem dX6_likelyViews_0 : decode cX6_likelyViews 0 = .ok (.iconst 0, 1) := by decide +kernel
theorem dX6_likelyViews_1 : decode cX6_likelyViews 1 = .ok (.istore 5, 2) := by decide +kernel
theorem dX6_likelyViews_3 : decode cX6_likelyViews 3 = .ok (.iconst 0, 1) := by decide +kernel
theorem dX6_likelyViews_4 : decode cX6_likelyViews 4 = .ok (.istore 6, 2) := by decide +kernel
theorem dX6_likelyViews_6 : decode cX6_likelyViews 6 = .ok (.iload 6, 2) := by decide +kernel
theorem dX6_likelyViews_8 : decode cX6_likelyViews 8 = .ok (.bipush 99, 2) := by decide +kernel
theorem dX6_likelyViews_10 : decode cX6_likelyViews 10 = .ok (.if_icmp .gt 52, 3) := by decide +kernel
theorem dX6_likelyViews_13 : decode cX6_likelyViews 13 = .ok (.aload_n 0, 1) := by decide +kernel
theorem dX6_likelyViews_14 : decode cX6_likelyViews 14 = .ok (.getfield 12, 3) := by decide +kernel
theorem dX6_likelyViews_17 : decode cX6_likelyViews 17 = .ok (.aload_n 1, 1) := by decide +kernel
theorem dX6_likelyViews_18 : decode cX6_likelyViews 18 = .ok (.invokevirtual 25, 3) := by decide +kernel
theorem dX6_likelyViews_21 : decode cX6_likelyViews 21 = .ok (.aload_n 0, 1) := by decide +kernel
theorem dX6_likelyViews_22 : decode cX6_likelyViews 22 = .ok (.getfield 12, 3) := by decide +kernel
theorem dX6_likelyViews_25 : decode cX6_likelyViews 25 = .ok (.iload 6, 2) := by decide +kernel
theorem dX6_likelyViews_27 : decode cX6_likelyViews 27 = .ok (.putfield 70, 3) := by decide +kernel
theorem dX6_likelyViews_30 : decode cX6_likelyViews 30 = .ok (.aload_n 0, 1) := by decide +kernel
theorem dX6_likelyViews_31 : decode cX6_likelyViews 31 = .ok (.getfield 12, 3) := by decide +kernel
theorem dX6_likelyViews_34 : decode cX6_likelyViews 34 = .ok (.iload_n 2, 1) := by decide +kernel
theorem dX6_likelyViews_35 : decode cX6_likelyViews 35 = .ok (.iload 4, 2) := by decide +kernel
theorem dX6_likelyViews_37 : decode cX6_likelyViews 37 = .ok (.invokevirtual 37, 3) := by decide +kernel
theorem dX6_likelyViews_40 : decode cX6_likelyViews 40 = .ok (.aload_n 0, 1) := by decide +kernel
theorem dX6_likelyViews_41 : decode cX6_likelyViews 41 = .ok (.getfield 12, 3) := by decide +kernel
theorem dX6_likelyViews_44 : decode cX6_likelyViews 44 = .ok (.getfield 33, 3) := by decide +kernel
theorem dX6_likelyViews_47 : decode cX6_likelyViews 47 = .ok (.iload_n 2, 1) := by decide +kernel
theorem dX6_likelyViews_48 : decode cX6_likelyViews 48 = .ok (.iaload, 1) := by decide +kernel
theorem dX6_likelyViews_49 : decode cX6_likelyViews 49 = .ok (.iload_n 3, 1) := by decide +kernel
theorem dX6_likelyViews_50 : decode cX6_likelyViews 50 = .ok (.if_icmp .lt 6, 3) := by decide +kernel
theorem dX6_likelyViews_53 : decode cX6_likelyViews 53 = .ok (.iinc 5 1, 3) := by decide +kernel
theorem dX6_likelyViews_56 : decode cX6_likelyViews 56 = .ok (.iinc 6 1, 3) := by decide +kernel
theorem dX6_likelyViews_59 : decode cX6_likelyViews 59 = .ok (.goto (-53), 3) := by decide +kernel
theorem dX6_likelyViews_62 : decode cX6_likelyViews 62 = .ok (.iload 5, 2) := by decide +kernel
theorem dX6_likelyViews_64 : decode cX6_likelyViews 64 = .ok (.ireturn, 1) := by decide +kernel
theorem dX6_placesThatFit_0 : decode cX6_placesThatFit 0 = .ok (.iconst 0, 1) := by decide +kernel
theorem dX6_placesThatFit_1 : decode cX6_placesThatFit 1 = .ok (.istore_n 3, 1) := by decide +kernel
theorem dX6_placesThatFit_2 : decode cX6_placesThatFit 2 = .ok (.iconst 0, 1) := by decide +kernel
theorem dX6_placesThatFit_3 : decode cX6_placesThatFit 3 = .ok (.istore 4, 2) := by decide +kernel
theorem dX6_placesThatFit_5 : decode cX6_placesThatFit 5 = .ok (.iload 4, 2) := by decide +kernel
theorem dX6_placesThatFit_7 : decode cX6_placesThatFit 7 = .ok (.aload_n 1, 1) := by decide +kernel
theorem dX6_placesThatFit_8 : decode cX6_placesThatFit 8 = .ok (.getfield 41, 3) := by decide +kernel
theorem dX6_placesThatFit_11 : decode cX6_placesThatFit 11 = .ok (.if_icmp .ge 27, 3) := by decide +kernel
theorem dX6_placesThatFit_14 : decode cX6_placesThatFit 14 = .ok (.aload_n 0, 1) := by decide +kernel
theorem dX6_placesThatFit_15 : decode cX6_placesThatFit 15 = .ok (.aload_n 1, 1) := by decide +kernel
theorem dX6_placesThatFit_16 : decode cX6_placesThatFit 16 = .ok (.iload 4, 2) := by decide +kernel
theorem dX6_placesThatFit_18 : decode cX6_placesThatFit 18 = .ok (.aload_n 2, 1) := by decide +kernel
theorem dX6_placesThatFit_19 : decode cX6_placesThatFit 19 = .ok (.invokevirtual 73, 3) := by decide +kernel
theorem dX6_placesThatFit_22 : decode cX6_placesThatFit 22 = .ok (.ifCond .eq 10, 3) := by decide +kernel
theorem dX6_placesThatFit_25 : decode cX6_placesThatFit 25 = .ok (.iload_n 3, 1) := by decide +kernel
theorem dX6_placesThatFit_26 : decode cX6_placesThatFit 26 = .ok (.iconst 1, 1) := by decide +kernel
theorem dX6_placesThatFit_27 : decode cX6_placesThatFit 27 = .ok (.iload 4, 2) := by decide +kernel
theorem dX6_placesThatFit_29 : decode cX6_placesThatFit 29 = .ok (.ishl, 1) := by decide +kernel
theorem dX6_placesThatFit_30 : decode cX6_placesThatFit 30 = .ok (.ior, 1) := by decide +kernel
theorem dX6_placesThatFit_31 : decode cX6_placesThatFit 31 = .ok (.istore_n 3, 1) := by decide +kernel
theorem dX6_placesThatFit_32 : decode cX6_placesThatFit 32 = .ok (.iinc 4 1, 3) := by decide +kernel
theorem dX6_placesThatFit_35 : decode cX6_placesThatFit 35 = .ok (.goto (-30), 3) := by decide +kernel
theorem dX6_placesThatFit_38 : decode cX6_placesThatFit 38 = .ok (.iload_n 3, 1) := by decide +kernel
theorem dX6_placesThatFit_39 : decode cX6_placesThatFit 39 = .ok (.ireturn, 1) := by decide +kernel
theorem dX6_isFitting_0 : decode cX6_isFitting 0 = .ok (.aload_n 0, 1) := by decide +kernel
theorem dX6_isFitting_1 : decode cX6_isFitting 1 = .ok (.getfield 12, 3) := by decide +kernel
theorem dX6_isFitting_4 : decode cX6_isFitting 4 = .ok (.aload_n 1, 1) := by decide +kernel
theorem dX6_isFitting_5 : decode cX6_isFitting 5 = .ok (.invokevirtual 25, 3) := by decide +kernel
theorem dX6_isFitting_8 : decode cX6_isFitting 8 = .ok (.aload_n 0, 1) := by decide +kernel
theorem dX6_isFitting_9 : decode cX6_isFitting 9 = .ok (.getfield 12, 3) := by decide +kernel
theorem dX6_isFitting_12 : decode cX6_isFitting 12 = .ok (.iload_n 2, 1) := by decide +kernel
theorem dX6_isFitting_13 : decode cX6_isFitting 13 = .ok (.putfield 44, 3) := by decide +kernel
theorem dX6_isFitting_16 : decode cX6_isFitting 16 = .ok (.iconst 0, 1) := by decide +kernel
theorem dX6_isFitting_17 : decode cX6_isFitting 17 = .ok (.istore 4, 2) := by decide +kernel
theorem dX6_isFitting_19 : decode cX6_isFitting 19 = .ok (.iload 4, 2) := by decide +kernel
theorem dX6_isFitting_21 : decode cX6_isFitting 21 = .ok (.aload_n 3, 1) := by decide +kernel
theorem dX6_isFitting_22 : decode cX6_isFitting 22 = .ok (.getfield 77, 3) := by decide +kernel
theorem dX6_isFitting_25 : decode cX6_isFitting 25 = .ok (.if_icmp .ge 35, 3) := by decide +kernel
theorem dX6_isFitting_28 : decode cX6_isFitting 28 = .ok (.aload_n 0, 1) := by decide +kernel
theorem dX6_isFitting_29 : decode cX6_isFitting 29 = .ok (.getfield 12, 3) := by decide +kernel
theorem dX6_isFitting_32 : decode cX6_isFitting 32 = .ok (.getfield 70, 3) := by decide +kernel
theorem dX6_isFitting_35 : decode cX6_isFitting 35 = .ok (.aload_n 3, 1) := by decide +kernel
theorem dX6_isFitting_36 : decode cX6_isFitting 36 = .ok (.getfield 82, 3) := by decide +kernel
theorem dX6_isFitting_39 : decode cX6_isFitting 39 = .ok (.iload 4, 2) := by decide +kernel
theorem dX6_isFitting_41 : decode cX6_isFitting 41 = .ok (.iaload, 1) := by decide +kernel
theorem dX6_isFitting_42 : decode cX6_isFitting 42 = .ok (.if_icmp .eq 5, 3) := by decide +kernel
theorem dX6_isFitting_45 : decode cX6_isFitting 45 = .ok (.iconst 0, 1) := by decide +kernel
theorem dX6_isFitting_46 : decode cX6_isFitting 46 = .ok (.ireturn, 1) := by decide +kernel
theorem dX6_isFitting_47 : decode cX6_isFitting 47 = .ok (.aload_n 0, 1) := by decide +kernel
theorem dX6_isFitting_48 : decode cX6_isFitting 48 = .ok (.getfield 12, 3) := by decide +kernel
theorem dX6_isFitting_51 : decode cX6_isFitting 51 = .ok (.invokevirtual 67, 3) := by decide +kernel
theorem dX6_isFitting_54 : decode cX6_isFitting 54 = .ok (.iinc 4 1, 3) := by decide +kernel
theorem dX6_isFitting_57 : decode cX6_isFitting 57 = .ok (.goto (-38), 3) := by decide +kernel
theorem dX6_isFitting_60 : decode cX6_isFitting 60 = .ok (.iconst 1, 1) := by decide +kernel
theorem dX6_isFitting_61 : decode cX6_isFitting 61 = .ok (.ireturn, 1) := by decide +kernel
theorem dX7_init_0 : decode cX7_init 0 = .ok (.aload_n 0, 1) := by decide +kernel
theorem dX7_init_1 : decode cX7_init 1 = .ok (.invokespecial 3, 3) := by decide +kernel
theorem dX7_init_4 : decode cX7_init 4 = .ok (.aload_n 0, 1) := by decide +kernel
theorem dX7_init_5 : decode cX7_init 5 = .ok (.new 9, 3) := by decide +kernel
theorem dX7_init_8 : decode cX7_init 8 = .ok (.dup, 1) := by decide +kernel
theorem dX7_init_9 : decode cX7_init 9 = .ok (.bipush 30, 2) := by decide +kernel
theorem dX7_init_11 : decode cX7_init 11 = .ok (.invokespecial 11, 3) := by decide +kernel
theorem dX7_init_14 : decode cX7_init 14 = .ok (.putfield 14, 3) := by decide +kernel
theorem dX7_init_17 : decode cX7_init 17 = .ok (.aload_n 0, 1) := by decide +kernel
theorem dX7_init_18 : decode cX7_init 18 = .ok (.iconst 0, 1) := by decide +kernel
theorem dX7_init_19 : decode cX7_init 19 = .ok (.putfield 20, 3) := by decide +kernel
theorem dX7_init_22 : decode cX7_init 22 = .ok (.aload_n 0, 1) := by decide +kernel
theorem dX7_init_23 : decode cX7_init 23 = .ok (.iconst 0, 1) := by decide +kernel
theorem dX7_init_24 : decode cX7_init 24 = .ok (.putfield 24, 3) := by decide +kernel
theorem dX7_init_27 : decode cX7_init 27 = .ok (.aload_n 0, 1) := by decide +kernel
theorem dX7_init_28 : decode cX7_init 28 = .ok (.iconst 0, 1) := by decide +kernel
theorem dX7_init_29 : decode cX7_init 29 = .ok (.putfield 28, 3) := by decide +kernel
theorem dX7_init_32 : decode cX7_init 32 = .ok (.aload_n 0, 1) := by decide +kernel
theorem dX7_init_33 : decode cX7_init 33 = .ok (.iconst 0, 1) := by decide +kernel
theorem dX7_init_34 : decode cX7_init 34 = .ok (.putfield 31, 3) := by decide +kernel
theorem dX7_init_37 : decode cX7_init 37 = .ok (.return_, 1) := by decide +kernel
theorem dX7_answer_0 : decode cX7_answer 0 = .ok (.aload_n 0, 1) := by decide +kernel
theorem dX7_answer_1 : decode cX7_answer 1 = .ok (.getfield 14, 3) := by decide +kernel
theorem dX7_answer_4 : decode cX7_answer 4 = .ok (.invokevirtual 34, 3) := by decide +kernel
theorem dX7_answer_7 : decode cX7_answer 7 = .ok (.aload_n 0, 1) := by decide +kernel
theorem dX7_answer_8 : decode cX7_answer 8 = .ok (.iconst 0, 1) := by decide +kernel
theorem dX7_answer_9 : decode cX7_answer 9 = .ok (.putfield 20, 3) := by decide +kernel
theorem dX7_answer_12 : decode cX7_answer 12 = .ok (.aload_n 0, 1) := by decide +kernel
theorem dX7_answer_13 : decode cX7_answer 13 = .ok (.aload_n 1, 1) := by decide +kernel
theorem dX7_answer_14 : decode cX7_answer 14 = .ok (.getfield 37, 3) := by decide +kernel
theorem dX7_answer_17 : decode cX7_answer 17 = .ok (.iload_n 2, 1) := by decide +kernel
theorem dX7_answer_18 : decode cX7_answer 18 = .ok (.iaload, 1) := by decide +kernel
theorem dX7_answer_19 : decode cX7_answer 19 = .ok (.putfield 24, 3) := by decide +kernel
theorem dX7_answer_22 : decode cX7_answer 22 = .ok (.aload_n 0, 1) := by decide +kernel
theorem dX7_answer_23 : decode cX7_answer 23 = .ok (.iload_n 2, 1) := by decide +kernel
theorem dX7_answer_24 : decode cX7_answer 24 = .ok (.putfield 28, 3) := by decide +kernel
theorem dX7_answer_27 : decode cX7_answer 27 = .ok (.aload_n 0, 1) := by decide +kernel
theorem dX7_answer_28 : decode cX7_answer 28 = .ok (.aload_n 1, 1) := by decide +kernel
theorem dX7_answer_29 : decode cX7_answer 29 = .ok (.getfield 43, 3) := by decide +kernel
theorem dX7_answer_32 : decode cX7_answer 32 = .ok (.iload_n 2, 1) := by decide +kernel
theorem dX7_answer_33 : decode cX7_answer 33 = .ok (.iaload, 1) := by decide +kernel
theorem dX7_answer_34 : decode cX7_answer 34 = .ok (.putfield 31, 3) := by decide +kernel
theorem dX7_answer_37 : decode cX7_answer 37 = .ok (.aload_n 0, 1) := by decide +kernel
theorem dX7_answer_38 : decode cX7_answer 38 = .ok (.iload_n 3, 1) := by decide +kernel
theorem dX7_answer_39 : decode cX7_answer 39 = .ok (.aload_n 0, 1) := by decide +kernel
theorem dX7_answer_40 : decode cX7_answer 40 = .ok (.getfield 24, 3) := by decide +kernel
theorem dX7_answer_43 : decode cX7_answer 43 = .ok (.iload 4, 2) := by decide +kernel
theorem dX7_answer_45 : decode cX7_answer 45 = .ok (.iconst 0, 1) := by decide +kernel
theorem dX7_answer_46 : decode cX7_answer 46 = .ok (.invokevirtual 46, 3) := by decide +kernel
theorem dX7_answer_49 : decode cX7_answer 49 = .ok (.ireturn, 1) := by decide +kernel
theorem dX7_speak_0 : decode cX7_speak 0 = .ok (.aload_n 0, 1) := by decide +kernel
theorem dX7_speak_1 : decode cX7_speak 1 = .ok (.getfield 20, 3) := by decide +kernel
theorem dX7_speak_4 : decode cX7_speak 4 = .ok (.ifCond .ne 10, 3) := by decide +kernel
theorem dX7_speak_7 : decode cX7_speak 7 = .ok (.iload 4, 2) := by decide +kernel
theorem dX7_speak_9 : decode cX7_speak 9 = .ok (.bipush 10, 2) := by decide +kernel
theorem dX7_speak_11 : decode cX7_speak 11 = .ok (.if_icmp .le 5, 3) := by decide +kernel
theorem dX7_speak_14 : decode cX7_speak 14 = .ok (.iconst 0, 1) := by decide +kernel
theorem dX7_speak_15 : decode cX7_speak 15 = .ok (.ireturn, 1) := by decide +kernel
theorem dX7_speak_16 : decode cX7_speak 16 = .ok (.iload_n 1, 1) := by decide +kernel
theorem dX7_speak_17 : decode cX7_speak 17 = .ok (.iload_n 2, 1) := by decide +kernel
theorem dX7_speak_18 : decode cX7_speak 18 = .ok (.invokestatic 50, 3) := by decide +kernel
theorem dX7_speak_21 : decode cX7_speak 21 = .ok (.istore 5, 2) := by decide +kernel
theorem dX7_speak_23 : decode cX7_speak 23 = .ok (.getstatic 54, 3) := by decide +kernel
theorem dX7_speak_26 : decode cX7_speak 26 = .ok (.iconst 4, 1) := by decide +kernel
theorem dX7_speak_27 : decode cX7_speak 27 = .ok (.iload 5, 2) := by decide +kernel
theorem dX7_speak_29 : decode cX7_speak 29 = .ok (.imul, 1) := by decide +kernel
theorem dX7_speak_30 : decode cX7_speak 30 = .ok (.iload_n 1, 1) := by decide +kernel
theorem dX7_speak_31 : decode cX7_speak 31 = .ok (.iadd, 1) := by decide +kernel
theorem dX7_speak_32 : decode cX7_speak 32 = .ok (.iaload, 1) := by decide +kernel
theorem dX7_speak_33 : decode cX7_speak 33 = .ok (.istore 6, 2) := by decide +kernel
theorem dX7_speak_35 : decode cX7_speak 35 = .ok (.aload_n 0, 1) := by decide +kernel
theorem dX7_speak_36 : decode cX7_speak 36 = .ok (.getfield 14, 3) := by decide +kernel
theorem dX7_speak_39 : decode cX7_speak 39 = .ok (.iload 6, 2) := by decide +kernel
theorem dX7_speak_41 : decode cX7_speak 41 = .ok (.invokevirtual 57, 3) := by decide +kernel
theorem dX7_speak_44 : decode cX7_speak 44 = .ok (.aload_n 0, 1) := by decide +kernel
theorem dX7_speak_45 : decode cX7_speak 45 = .ok (.iload 6, 2) := by decide +kernel
theorem dX7_speak_47 : decode cX7_speak 47 = .ok (.getstatic 60, 3) := by decide +kernel
theorem dX7_speak_50 : decode cX7_speak 50 = .ok (.iload 5, 2) := by decide +kernel
theorem dX7_speak_52 : decode cX7_speak 52 = .ok (.iaload, 1) := by decide +kernel
theorem dX7_speak_53 : decode cX7_speak 53 = .ok (.iload_n 3, 1) := by decide +kernel
theorem dX7_speak_54 : decode cX7_speak 54 = .ok (.iload 4, 2) := by decide +kernel
theorem dX7_speak_56 : decode cX7_speak 56 = .ok (.iconst 1, 1) := by decide +kernel
theorem dX7_speak_57 : decode cX7_speak 57 = .ok (.iadd, 1) := by decide +kernel
theorem dX7_speak_58 : decode cX7_speak 58 = .ok (.invokevirtual 63, 3) := by decide +kernel
theorem dX7_speak_61 : decode cX7_speak 61 = .ok (.ireturn, 1) := by decide +kernel
theorem dX7_workOut_0 : decode cX7_workOut 0 = .ok (.iload_n 1, 1) := by decide +kernel
theorem dX7_workOut_1 : decode cX7_workOut 1 = .ok (.lookupswitch 277 #[(10, 115), (11, 122), (12, 137), (13, 155), (20, 161), (21, 173), (30, 196), (40, 208), (50, 220), (51, 232), (60, 247), (70, 259), (71, 262)], 115) := by decide +kernel
theorem dX7_workOut_116 : decode cX7_workOut 116 = .ok (.iload_n 3, 1) := by decide +kernel
theorem dX7_workOut_117 : decode cX7_workOut 117 = .ok (.aload_n 0, 1) := by decide +kernel
theorem dX7_workOut_118 : decode cX7_workOut 118 = .ok (.getfield 28, 3) := by decide +kernel
theorem dX7_workOut_121 : decode cX7_workOut 121 = .ok (.iadd, 1) := by decide +kernel
theorem dX7_workOut_122 : decode cX7_workOut 122 = .ok (.ireturn, 1) := by decide +kernel
theorem dX7_workOut_123 : decode cX7_workOut 123 = .ok (.aload_n 0, 1) := by decide +kernel
theorem dX7_workOut_124 : decode cX7_workOut 124 = .ok (.iconst 0, 1) := by decide +kernel
theorem dX7_workOut_125 : decode cX7_workOut 125 = .ok (.aload_n 0, 1) := by decide +kernel
theorem dX7_workOut_126 : decode cX7_workOut 126 = .ok (.getfield 24, 3) := by decide +kernel
theorem dX7_workOut_129 : decode cX7_workOut 129 = .ok (.iload_n 3, 1) := by decide +kernel
theorem dX7_workOut_130 : decode cX7_workOut 130 = .ok (.iload 4, 2) := by decide +kernel
theorem dX7_workOut_132 : decode cX7_workOut 132 = .ok (.invokevirtual 46, 3) := by decide +kernel
theorem dX7_workOut_135 : decode cX7_workOut 135 = .ok (.iconst 2, 1) := by decide +kernel
theorem dX7_workOut_136 : decode cX7_workOut 136 = .ok (.imul, 1) := by decide +kernel
theorem dX7_workOut_137 : decode cX7_workOut 137 = .ok (.ireturn, 1) := by decide +kernel
theorem dX7_workOut_138 : decode cX7_workOut 138 = .ok (.aload_n 0, 1) := by decide +kernel
theorem dX7_workOut_139 : decode cX7_workOut 139 = .ok (.iconst 1, 1) := by decide +kernel
theorem dX7_workOut_140 : decode cX7_workOut 140 = .ok (.aload_n 0, 1) := by decide +kernel
theorem dX7_workOut_141 : decode cX7_workOut 141 = .ok (.getfield 24, 3) := by decide +kernel
theorem dX7_workOut_144 : decode cX7_workOut 144 = .ok (.iload_n 3, 1) := by decide +kernel
theorem dX7_workOut_145 : decode cX7_workOut 145 = .ok (.iload 4, 2) := by decide +kernel
theorem dX7_workOut_147 : decode cX7_workOut 147 = .ok (.invokevirtual 46, 3) := by decide +kernel
theorem dX7_workOut_150 : decode cX7_workOut 150 = .ok (.aload_n 0, 1) := by decide +kernel
theorem dX7_workOut_151 : decode cX7_workOut 151 = .ok (.getfield 31, 3) := by decide +kernel
theorem dX7_workOut_154 : decode cX7_workOut 154 = .ok (.isub, 1) := by decide +kernel
theorem dX7_workOut_155 : decode cX7_workOut 155 = .ok (.ireturn, 1) := by decide +kernel
theorem dX7_workOut_156 : decode cX7_workOut 156 = .ok (.aload_n 0, 1) := by decide +kernel
theorem dX7_workOut_157 : decode cX7_workOut 157 = .ok (.iload_n 3, 1) := by decide +kernel
theorem dX7_workOut_158 : decode cX7_workOut 158 = .ok (.invokevirtual 66, 3) := by decide +kernel
theorem dX7_workOut_161 : decode cX7_workOut 161 = .ok (.ireturn, 1) := by decide +kernel
theorem dX7_workOut_162 : decode cX7_workOut 162 = .ok (.aload_n 0, 1) := by decide +kernel
theorem dX7_workOut_163 : decode cX7_workOut 163 = .ok (.iconst 0, 1) := by decide +kernel
theorem dX7_workOut_164 : decode cX7_workOut 164 = .ok (.iload_n 2, 1) := by decide +kernel
theorem dX7_workOut_165 : decode cX7_workOut 165 = .ok (.iload_n 3, 1) := by decide +kernel
theorem dX7_workOut_166 : decode cX7_workOut 166 = .ok (.iload 4, 2) := by decide +kernel
theorem dX7_workOut_168 : decode cX7_workOut 168 = .ok (.invokevirtual 46, 3) := by decide +kernel
theorem dX7_workOut_171 : decode cX7_workOut 171 = .ok (.iconst 4, 1) := by decide +kernel
theorem dX7_workOut_172 : decode cX7_workOut 172 = .ok (.isub, 1) := by decide +kernel
theorem dX7_workOut_173 : decode cX7_workOut 173 = .ok (.ireturn, 1) := by decide +kernel
theorem dX7_workOut_174 : decode cX7_workOut 174 = .ok (.aload_n 0, 1) := by decide +kernel
theorem dX7_workOut_175 : decode cX7_workOut 175 = .ok (.iconst 3, 1) := by decide +kernel
theorem dX7_workOut_176 : decode cX7_workOut 176 = .ok (.iload_n 2, 1) := by decide +kernel
theorem dX7_workOut_177 : decode cX7_workOut 177 = .ok (.iload_n 3, 1) := by decide +kernel
theorem dX7_workOut_178 : decode cX7_workOut 178 = .ok (.iload 4, 2) := by decide +kernel
theorem dX7_workOut_180 : decode cX7_workOut 180 = .ok (.invokevirtual 46, 3) := by decide +kernel
theorem dX7_workOut_183 : decode cX7_workOut 183 = .ok (.aload_n 0, 1) := by decide +kernel
theorem dX7_workOut_184 : decode cX7_workOut 184 = .ok (.iconst 1, 1) := by decide +kernel
theorem dX7_workOut_185 : decode cX7_workOut 185 = .ok (.aload_n 0, 1) := by decide +kernel
theorem dX7_workOut_186 : decode cX7_workOut 186 = .ok (.getfield 24, 3) := by decide +kernel
theorem dX7_workOut_189 : decode cX7_workOut 189 = .ok (.iconst 1, 1) := by decide +kernel
theorem dX7_workOut_190 : decode cX7_workOut 190 = .ok (.iload 4, 2) := by decide +kernel
theorem dX7_workOut_192 : decode cX7_workOut 192 = .ok (.invokevirtual 46, 3) := by decide +kernel
theorem dX7_workOut_195 : decode cX7_workOut 195 = .ok (.iadd, 1) := by decide +kernel
theorem dX7_workOut_196 : decode cX7_workOut 196 = .ok (.ireturn, 1) := by decide +kernel
theorem dX7_workOut_197 : decode cX7_workOut 197 = .ok (.iconst 0, 1) := by decide +kernel
theorem dX7_workOut_198 : decode cX7_workOut 198 = .ok (.aload_n 0, 1) := by decide +kernel
theorem dX7_workOut_199 : decode cX7_workOut 199 = .ok (.iconst 1, 1) := by decide +kernel
theorem dX7_workOut_200 : decode cX7_workOut 200 = .ok (.iload_n 2, 1) := by decide +kernel
theorem dX7_workOut_201 : decode cX7_workOut 201 = .ok (.iload_n 3, 1) := by decide +kernel
theorem dX7_workOut_202 : decode cX7_workOut 202 = .ok (.iload 4, 2) := by decide +kernel
theorem dX7_workOut_204 : decode cX7_workOut 204 = .ok (.invokevirtual 46, 3) := by decide +kernel
theorem dX7_workOut_207 : decode cX7_workOut 207 = .ok (.isub, 1) := by decide +kernel
theorem dX7_workOut_208 : decode cX7_workOut 208 = .ok (.ireturn, 1) := by decide +kernel
theorem dX7_workOut_209 : decode cX7_workOut 209 = .ok (.aload_n 0, 1) := by decide +kernel
theorem dX7_workOut_210 : decode cX7_workOut 210 = .ok (.iconst 2, 1) := by decide +kernel
theorem dX7_workOut_211 : decode cX7_workOut 211 = .ok (.iload_n 2, 1) := by decide +kernel
theorem dX7_workOut_212 : decode cX7_workOut 212 = .ok (.iload_n 3, 1) := by decide +kernel
theorem dX7_workOut_213 : decode cX7_workOut 213 = .ok (.iconst 2, 1) := by decide +kernel
theorem dX7_workOut_214 : decode cX7_workOut 214 = .ok (.idiv, 1) := by decide +kernel
theorem dX7_workOut_215 : decode cX7_workOut 215 = .ok (.iload 4, 2) := by decide +kernel
theorem dX7_workOut_217 : decode cX7_workOut 217 = .ok (.invokevirtual 46, 3) := by decide +kernel
theorem dX7_workOut_220 : decode cX7_workOut 220 = .ok (.ireturn, 1) := by decide +kernel
theorem dX7_workOut_221 : decode cX7_workOut 221 = .ok (.aload_n 0, 1) := by decide +kernel
theorem dX7_workOut_222 : decode cX7_workOut 222 = .ok (.iconst 0, 1) := by decide +kernel
theorem dX7_workOut_223 : decode cX7_workOut 223 = .ok (.iload_n 2, 1) := by decide +kernel
theorem dX7_workOut_224 : decode cX7_workOut 224 = .ok (.iload_n 3, 1) := by decide +kernel
theorem dX7_workOut_225 : decode cX7_workOut 225 = .ok (.iload 4, 2) := by decide +kernel
theorem dX7_workOut_227 : decode cX7_workOut 227 = .ok (.invokevirtual 46, 3) := by decide +kernel
theorem dX7_workOut_230 : decode cX7_workOut 230 = .ok (.iconst 3, 1) := by decide +kernel
theorem dX7_workOut_231 : decode cX7_workOut 231 = .ok (.imul, 1) := by decide +kernel
theorem dX7_workOut_232 : decode cX7_workOut 232 = .ok (.ireturn, 1) := by decide +kernel
theorem dX7_workOut_233 : decode cX7_workOut 233 = .ok (.aload_n 0, 1) := by decide +kernel
theorem dX7_workOut_234 : decode cX7_workOut 234 = .ok (.iconst 2, 1) := by decide +kernel
theorem dX7_workOut_235 : decode cX7_workOut 235 = .ok (.iload_n 2, 1) := by decide +kernel
theorem dX7_workOut_236 : decode cX7_workOut 236 = .ok (.iload_n 3, 1) := by decide +kernel
theorem dX7_workOut_237 : decode cX7_workOut 237 = .ok (.iload 4, 2) := by decide +kernel
theorem dX7_workOut_239 : decode cX7_workOut 239 = .ok (.invokevirtual 46, 3) := by decide +kernel
theorem dX7_workOut_242 : decode cX7_workOut 242 = .ok (.aload_n 0, 1) := by decide +kernel
theorem dX7_workOut_243 : decode cX7_workOut 243 = .ok (.getfield 28, 3) := by decide +kernel
theorem dX7_workOut_246 : decode cX7_workOut 246 = .ok (.ixor, 1) := by decide +kernel
theorem dX7_workOut_247 : decode cX7_workOut 247 = .ok (.ireturn, 1) := by decide +kernel
theorem dX7_workOut_248 : decode cX7_workOut 248 = .ok (.aload_n 0, 1) := by decide +kernel
theorem dX7_workOut_249 : decode cX7_workOut 249 = .ok (.iconst 1, 1) := by decide +kernel
theorem dX7_workOut_250 : decode cX7_workOut 250 = .ok (.iload_n 2, 1) := by decide +kernel
theorem dX7_workOut_251 : decode cX7_workOut 251 = .ok (.iload_n 3, 1) := by decide +kernel
theorem dX7_workOut_252 : decode cX7_workOut 252 = .ok (.iconst 1, 1) := by decide +kernel
theorem dX7_workOut_253 : decode cX7_workOut 253 = .ok (.iadd, 1) := by decide +kernel
theorem dX7_workOut_254 : decode cX7_workOut 254 = .ok (.iload 4, 2) := by decide +kernel
theorem dX7_workOut_256 : decode cX7_workOut 256 = .ok (.invokevirtual 46, 3) := by decide +kernel
theorem dX7_workOut_259 : decode cX7_workOut 259 = .ok (.ireturn, 1) := by decide +kernel
theorem dX7_workOut_260 : decode cX7_workOut 260 = .ok (.bipush 9, 2) := by decide +kernel
theorem dX7_workOut_262 : decode cX7_workOut 262 = .ok (.ireturn, 1) := by decide +kernel
theorem dX7_workOut_263 : decode cX7_workOut 263 = .ok (.aload_n 0, 1) := by decide +kernel
theorem dX7_workOut_264 : decode cX7_workOut 264 = .ok (.iconst 1, 1) := by decide +kernel
theorem dX7_workOut_265 : decode cX7_workOut 265 = .ok (.iload_n 2, 1) := by decide +kernel
theorem dX7_workOut_266 : decode cX7_workOut 266 = .ok (.iload_n 3, 1) := by decide +kernel
theorem dX7_workOut_267 : decode cX7_workOut 267 = .ok (.iload 4, 2) := by decide +kernel
theorem dX7_workOut_269 : decode cX7_workOut 269 = .ok (.invokevirtual 46, 3) := by decide +kernel
theorem dX7_workOut_272 : decode cX7_workOut 272 = .ok (.aload_n 0, 1) := by decide +kernel
theorem dX7_workOut_273 : decode cX7_workOut 273 = .ok (.getfield 31, 3) := by decide +kernel
theorem dX7_workOut_276 : decode cX7_workOut 276 = .ok (.iadd, 1) := by decide +kernel
theorem dX7_workOut_277 : decode cX7_workOut 277 = .ok (.ireturn, 1) := by decide +kernel
theorem dX7_workOut_278 : decode cX7_workOut 278 = .ok (.iconst 0, 1) := by decide +kernel
theorem dX7_workOut_279 : decode cX7_workOut 279 = .ok (.ireturn, 1) := by decide +kernel
theorem dX7_ownerOf_0 : decode cX7_ownerOf 0 = .ok (.iload_n 1, 1) := by decide +kernel
theorem dX7_ownerOf_1 : decode cX7_ownerOf 1 = .ok (.istore_n 2, 1) := by decide +kernel
theorem dX7_ownerOf_2 : decode cX7_ownerOf 2 = .ok (.iconst 0, 1) := by decide +kernel
theorem dX7_ownerOf_3 : decode cX7_ownerOf 3 = .ok (.istore_n 3, 1) := by decide +kernel
theorem dX7_ownerOf_4 : decode cX7_ownerOf 4 = .ok (.iload_n 3, 1) := by decide +kernel
theorem dX7_ownerOf_5 : decode cX7_ownerOf 5 = .ok (.iconst 2, 1) := by decide +kernel
theorem dX7_ownerOf_6 : decode cX7_ownerOf 6 = .ok (.if_icmp .ge 27, 3) := by decide +kernel
theorem dX7_ownerOf_9 : decode cX7_ownerOf 9 = .ok (.getstatic 54, 3) := by decide +kernel
theorem dX7_ownerOf_12 : decode cX7_ownerOf 12 = .ok (.iconst 4, 1) := by decide +kernel
theorem dX7_ownerOf_13 : decode cX7_ownerOf 13 = .ok (.iload_n 2, 1) := by decide +kernel
theorem dX7_ownerOf_14 : decode cX7_ownerOf 14 = .ok (.imul, 1) := by decide +kernel
theorem dX7_ownerOf_15 : decode cX7_ownerOf 15 = .ok (.iload_n 0, 1) := by decide +kernel
theorem dX7_ownerOf_16 : decode cX7_ownerOf 16 = .ok (.iadd, 1) := by decide +kernel
theorem dX7_ownerOf_17 : decode cX7_ownerOf 17 = .ok (.iaload, 1) := by decide +kernel
theorem dX7_ownerOf_18 : decode cX7_ownerOf 18 = .ok (.ifCond .ne 15, 3) := by decide +kernel
theorem dX7_ownerOf_21 : decode cX7_ownerOf 21 = .ok (.getstatic 60, 3) := by decide +kernel
theorem dX7_ownerOf_24 : decode cX7_ownerOf 24 = .ok (.iload_n 2, 1) := by decide +kernel
theorem dX7_ownerOf_25 : decode cX7_ownerOf 25 = .ok (.iaload, 1) := by decide +kernel
theorem dX7_ownerOf_26 : decode cX7_ownerOf 26 = .ok (.istore_n 2, 1) := by decide +kernel
theorem dX7_ownerOf_27 : decode cX7_ownerOf 27 = .ok (.iinc 3 1, 3) := by decide +kernel
theorem dX7_ownerOf_30 : decode cX7_ownerOf 30 = .ok (.goto (-26), 3) := by decide +kernel
theorem dX7_ownerOf_33 : decode cX7_ownerOf 33 = .ok (.iload_n 2, 1) := by decide +kernel
theorem dX7_ownerOf_34 : decode cX7_ownerOf 34 = .ok (.ireturn, 1) := by decide +kernel
theorem dX7_part_0 : decode cX7_part 0 = .ok (.aload_n 0, 1) := by decide +kernel
theorem dX7_part_1 : decode cX7_part 1 = .ok (.getfield 31, 3) := by decide +kernel
theorem dX7_part_4 : decode cX7_part 4 = .ok (.aload_n 0, 1) := by decide +kernel
theorem dX7_part_5 : decode cX7_part 5 = .ok (.getfield 28, 3) := by decide +kernel
theorem dX7_part_8 : decode cX7_part 8 = .ok (.if_icmp .ne 10, 3) := by decide +kernel
theorem dX7_part_11 : decode cX7_part 11 = .ok (.aload_n 0, 1) := by decide +kernel
theorem dX7_part_12 : decode cX7_part 12 = .ok (.iconst 1, 1) := by decide +kernel
theorem dX7_part_13 : decode cX7_part 13 = .ok (.putfield 20, 3) := by decide +kernel
theorem dX7_part_16 : decode cX7_part 16 = .ok (.iconst 0, 1) := by decide +kernel
theorem dX7_part_17 : decode cX7_part 17 = .ok (.ireturn, 1) := by decide +kernel
theorem dX7_part_18 : decode cX7_part 18 = .ok (.iload_n 1, 1) := by decide +kernel
theorem dX7_part_19 : decode cX7_part 19 = .ok (.aload_n 0, 1) := by decide +kernel
theorem dX7_part_20 : decode cX7_part 20 = .ok (.getfield 31, 3) := by decide +kernel
theorem dX7_part_23 : decode cX7_part 23 = .ok (.aload_n 0, 1) := by decide +kernel
theorem dX7_part_24 : decode cX7_part 24 = .ok (.getfield 28, 3) := by decide +kernel
theorem dX7_part_27 : decode cX7_part 27 = .ok (.isub, 1) := by decide +kernel
theorem dX7_part_28 : decode cX7_part 28 = .ok (.idiv, 1) := by decide +kernel
theorem dX7_part_29 : decode cX7_part 29 = .ok (.ireturn, 1) := by decide +kernel
