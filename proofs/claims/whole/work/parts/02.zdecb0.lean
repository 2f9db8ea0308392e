theorem dX2_init_0 : decode cX2_init 0 = .ok (.aload_n 0, 1) := by decide +kernel
theorem dX2_init_1 : decode cX2_init 1 = .ok (.invokespecial 3, 3) := by decide +kernel
theorem dX2_init_4 : decode cX2_init 4 = .ok (.aload_n 0, 1) := by decide +kernel
theorem dX2_init_5 : decode cX2_init 5 = .ok (.bipush 8, 2) := by decide +kernel
theorem dX2_init_7 : decode cX2_init 7 = .ok (.newarray .int, 2) := by decide +kernel
theorem dX2_init_9 : decode cX2_init 9 = .ok (.putfield 9, 3) := by decide +kernel
theorem dX2_init_12 : decode cX2_init 12 = .ok (.aload_n 0, 1) := by decide +kernel
theorem dX2_init_13 : decode cX2_init 13 = .ok (.bipush 8, 2) := by decide +kernel
theorem dX2_init_15 : decode cX2_init 15 = .ok (.newarray .int, 2) := by decide +kernel
theorem dX2_init_17 : decode cX2_init 17 = .ok (.putfield 15, 3) := by decide +kernel
theorem dX2_init_20 : decode cX2_init 20 = .ok (.aload_n 0, 1) := by decide +kernel
theorem dX2_init_21 : decode cX2_init 21 = .ok (.bipush 8, 2) := by decide +kernel
theorem dX2_init_23 : decode cX2_init 23 = .ok (.newarray .int, 2) := by decide +kernel
theorem dX2_init_25 : decode cX2_init 25 = .ok (.putfield 18, 3) := by decide +kernel
theorem dX2_init_28 : decode cX2_init 28 = .ok (.aload_n 0, 1) := by decide +kernel
theorem dX2_init_29 : decode cX2_init 29 = .ok (.bipush 8, 2) := by decide +kernel
theorem dX2_init_31 : decode cX2_init 31 = .ok (.newarray .int, 2) := by decide +kernel
theorem dX2_init_33 : decode cX2_init 33 = .ok (.putfield 21, 3) := by decide +kernel
theorem dX2_init_36 : decode cX2_init 36 = .ok (.aload_n 0, 1) := by decide +kernel
theorem dX2_init_37 : decode cX2_init 37 = .ok (.iconst 0, 1) := by decide +kernel
theorem dX2_init_38 : decode cX2_init 38 = .ok (.putfield 24, 3) := by decide +kernel
theorem dX2_init_41 : decode cX2_init 41 = .ok (.aload_n 0, 1) := by decide +kernel
theorem dX2_init_42 : decode cX2_init 42 = .ok (.iconst 0, 1) := by decide +kernel
theorem dX2_init_43 : decode cX2_init 43 = .ok (.putfield 28, 3) := by decide +kernel
theorem dX2_init_46 : decode cX2_init 46 = .ok (.aload_n 0, 1) := by decide +kernel
theorem dX2_init_47 : decode cX2_init 47 = .ok (.iconst 0, 1) := by decide +kernel
theorem dX2_init_48 : decode cX2_init 48 = .ok (.putfield 31, 3) := by decide +kernel
theorem dX2_init_51 : decode cX2_init 51 = .ok (.aload_n 0, 1) := by decide +kernel
theorem dX2_init_52 : decode cX2_init 52 = .ok (.iconst 0, 1) := by decide +kernel
theorem dX2_init_53 : decode cX2_init 53 = .ok (.putfield 34, 3) := by decide +kernel
theorem dX2_init_56 : decode cX2_init 56 = .ok (.aload_n 0, 1) := by decide +kernel
theorem dX2_init_57 : decode cX2_init 57 = .ok (.bipush 99, 2) := by decide +kernel
theorem dX2_init_59 : decode cX2_init 59 = .ok (.putfield 37, 3) := by decide +kernel
theorem dX2_init_62 : decode cX2_init 62 = .ok (.aload_n 0, 1) := by decide +kernel
theorem dX2_init_63 : decode cX2_init 63 = .ok (.bipush 7, 2) := by decide +kernel
theorem dX2_init_65 : decode cX2_init 65 = .ok (.putfield 40, 3) := by decide +kernel
theorem dX2_init_68 : decode cX2_init 68 = .ok (.aload_n 0, 1) := by decide +kernel
theorem dX2_init_69 : decode cX2_init 69 = .ok (.iconst 0, 1) := by decide +kernel
theorem dX2_init_70 : decode cX2_init 70 = .ok (.putfield 43, 3) := by decide +kernel
theorem dX2_init_73 : decode cX2_init 73 = .ok (.aload_n 0, 1) := by decide +kernel
theorem dX2_init_74 : decode cX2_init 74 = .ok (.iconst 1, 1) := by decide +kernel
theorem dX2_init_75 : decode cX2_init 75 = .ok (.putfield 46, 3) := by decide +kernel
theorem dX2_init_78 : decode cX2_init 78 = .ok (.aload_n 0, 1) := by decide +kernel
theorem dX2_init_79 : decode cX2_init 79 = .ok (.aload_n 1, 1) := by decide +kernel
theorem dX2_init_80 : decode cX2_init 80 = .ok (.putfield 49, 3) := by decide +kernel
theorem dX2_init_83 : decode cX2_init 83 = .ok (.aload_n 0, 1) := by decide +kernel
theorem dX2_init_84 : decode cX2_init 84 = .ok (.aload_n 2, 1) := by decide +kernel
theorem dX2_init_85 : decode cX2_init 85 = .ok (.putfield 53, 3) := by decide +kernel
theorem dX2_init_88 : decode cX2_init 88 = .ok (.return_, 1) := by decide +kernel
theorem dX2_takeOver_0 : decode cX2_takeOver 0 = .ok (.aload_n 1, 1) := by decide +kernel
theorem dX2_takeOver_1 : decode cX2_takeOver 1 = .ok (.getfield 9, 3) := by decide +kernel
theorem dX2_takeOver_4 : decode cX2_takeOver 4 = .ok (.iconst 0, 1) := by decide +kernel
theorem dX2_takeOver_5 : decode cX2_takeOver 5 = .ok (.aload_n 0, 1) := by decide +kernel
theorem dX2_takeOver_6 : decode cX2_takeOver 6 = .ok (.getfield 9, 3) := by decide +kernel
theorem dX2_takeOver_9 : decode cX2_takeOver 9 = .ok (.iconst 0, 1) := by decide +kernel
theorem dX2_takeOver_10 : decode cX2_takeOver 10 = .ok (.bipush 8, 2) := by decide +kernel
theorem dX2_takeOver_12 : decode cX2_takeOver 12 = .ok (.invokestatic 56, 3) := by decide +kernel
theorem dX2_takeOver_15 : decode cX2_takeOver 15 = .ok (.aload_n 1, 1) := by decide +kernel
theorem dX2_takeOver_16 : decode cX2_takeOver 16 = .ok (.getfield 15, 3) := by decide +kernel
theorem dX2_takeOver_19 : decode cX2_takeOver 19 = .ok (.iconst 0, 1) := by decide +kernel
theorem dX2_takeOver_20 : decode cX2_takeOver 20 = .ok (.aload_n 0, 1) := by decide +kernel
theorem dX2_takeOver_21 : decode cX2_takeOver 21 = .ok (.getfield 15, 3) := by decide +kernel
theorem dX2_takeOver_24 : decode cX2_takeOver 24 = .ok (.iconst 0, 1) := by decide +kernel
theorem dX2_takeOver_25 : decode cX2_takeOver 25 = .ok (.bipush 8, 2) := by decide +kernel
theorem dX2_takeOver_27 : decode cX2_takeOver 27 = .ok (.invokestatic 56, 3) := by decide +kernel
theorem dX2_takeOver_30 : decode cX2_takeOver 30 = .ok (.aload_n 1, 1) := by decide +kernel
theorem dX2_takeOver_31 : decode cX2_takeOver 31 = .ok (.getfield 18, 3) := by decide +kernel
theorem dX2_takeOver_34 : decode cX2_takeOver 34 = .ok (.iconst 0, 1) := by decide +kernel
theorem dX2_takeOver_35 : decode cX2_takeOver 35 = .ok (.aload_n 0, 1) := by decide +kernel
theorem dX2_takeOver_36 : decode cX2_takeOver 36 = .ok (.getfield 18, 3) := by decide +kernel
theorem dX2_takeOver_39 : decode cX2_takeOver 39 = .ok (.iconst 0, 1) := by decide +kernel
theorem dX2_takeOver_40 : decode cX2_takeOver 40 = .ok (.bipush 8, 2) := by decide +kernel
theorem dX2_takeOver_42 : decode cX2_takeOver 42 = .ok (.invokestatic 56, 3) := by decide +kernel
theorem dX2_takeOver_45 : decode cX2_takeOver 45 = .ok (.aload_n 1, 1) := by decide +kernel
theorem dX2_takeOver_46 : decode cX2_takeOver 46 = .ok (.getfield 21, 3) := by decide +kernel
theorem dX2_takeOver_49 : decode cX2_takeOver 49 = .ok (.iconst 0, 1) := by decide +kernel
theorem dX2_takeOver_50 : decode cX2_takeOver 50 = .ok (.aload_n 0, 1) := by decide +kernel
theorem dX2_takeOver_51 : decode cX2_takeOver 51 = .ok (.getfield 21, 3) := by decide +kernel
theorem dX2_takeOver_54 : decode cX2_takeOver 54 = .ok (.iconst 0, 1) := by decide +kernel
theorem dX2_takeOver_55 : decode cX2_takeOver 55 = .ok (.bipush 8, 2) := by decide +kernel
theorem dX2_takeOver_57 : decode cX2_takeOver 57 = .ok (.invokestatic 56, 3) := by decide +kernel
theorem dX2_takeOver_60 : decode cX2_takeOver 60 = .ok (.aload_n 0, 1) := by decide +kernel
theorem dX2_takeOver_61 : decode cX2_takeOver 61 = .ok (.aload_n 1, 1) := by decide +kernel
theorem dX2_takeOver_62 : decode cX2_takeOver 62 = .ok (.getfield 24, 3) := by decide +kernel
theorem dX2_takeOver_65 : decode cX2_takeOver 65 = .ok (.putfield 24, 3) := by decide +kernel
theorem dX2_takeOver_68 : decode cX2_takeOver 68 = .ok (.aload_n 0, 1) := by decide +kernel
theorem dX2_takeOver_69 : decode cX2_takeOver 69 = .ok (.aload_n 1, 1) := by decide +kernel
theorem dX2_takeOver_70 : decode cX2_takeOver 70 = .ok (.getfield 28, 3) := by decide +kernel
theorem dX2_takeOver_73 : decode cX2_takeOver 73 = .ok (.putfield 28, 3) := by decide +kernel
theorem dX2_takeOver_76 : decode cX2_takeOver 76 = .ok (.aload_n 0, 1) := by decide +kernel
theorem dX2_takeOver_77 : decode cX2_takeOver 77 = .ok (.aload_n 1, 1) := by decide +kernel
theorem dX2_takeOver_78 : decode cX2_takeOver 78 = .ok (.getfield 31, 3) := by decide +kernel
theorem dX2_takeOver_81 : decode cX2_takeOver 81 = .ok (.putfield 31, 3) := by decide +kernel
theorem dX2_takeOver_84 : decode cX2_takeOver 84 = .ok (.aload_n 0, 1) := by decide +kernel
theorem dX2_takeOver_85 : decode cX2_takeOver 85 = .ok (.aload_n 1, 1) := by decide +kernel
theorem dX2_takeOver_86 : decode cX2_takeOver 86 = .ok (.getfield 34, 3) := by decide +kernel
theorem dX2_takeOver_89 : decode cX2_takeOver 89 = .ok (.putfield 34, 3) := by decide +kernel
theorem dX2_takeOver_92 : decode cX2_takeOver 92 = .ok (.aload_n 0, 1) := by decide +kernel
theorem dX2_takeOver_93 : decode cX2_takeOver 93 = .ok (.aload_n 1, 1) := by decide +kernel
theorem dX2_takeOver_94 : decode cX2_takeOver 94 = .ok (.getfield 37, 3) := by decide +kernel
theorem dX2_takeOver_97 : decode cX2_takeOver 97 = .ok (.putfield 37, 3) := by decide +kernel
theorem dX2_takeOver_100 : decode cX2_takeOver 100 = .ok (.aload_n 0, 1) := by decide +kernel
theorem dX2_takeOver_101 : decode cX2_takeOver 101 = .ok (.aload_n 1, 1) := by decide +kernel
theorem dX2_takeOver_102 : decode cX2_takeOver 102 = .ok (.getfield 40, 3) := by decide +kernel
theorem dX2_takeOver_105 : decode cX2_takeOver 105 = .ok (.putfield 40, 3) := by decide +kernel
theorem dX2_takeOver_108 : decode cX2_takeOver 108 = .ok (.aload_n 0, 1) := by decide +kernel
theorem dX2_takeOver_109 : decode cX2_takeOver 109 = .ok (.aload_n 1, 1) := by decide +kernel
theorem dX2_takeOver_110 : decode cX2_takeOver 110 = .ok (.getfield 43, 3) := by decide +kernel
theorem dX2_takeOver_113 : decode cX2_takeOver 113 = .ok (.putfield 43, 3) := by decide +kernel
theorem dX2_takeOver_116 : decode cX2_takeOver 116 = .ok (.aload_n 0, 1) := by decide +kernel
theorem dX2_takeOver_117 : decode cX2_takeOver 117 = .ok (.aload_n 1, 1) := by decide +kernel
theorem dX2_takeOver_118 : decode cX2_takeOver 118 = .ok (.getfield 46, 3) := by decide +kernel
theorem dX2_takeOver_121 : decode cX2_takeOver 121 = .ok (.putfield 46, 3) := by decide +kernel
theorem dX2_takeOver_124 : decode cX2_takeOver 124 = .ok (.return_, 1) := by decide +kernel
theorem dX2_has_0 : decode cX2_has 0 = .ok (.iload_n 1, 1) := by decide +kernel
theorem dX2_has_1 : decode cX2_has 1 = .ok (.ifCond .lt 15, 3) := by decide +kernel
theorem dX2_has_4 : decode cX2_has 4 = .ok (.iload_n 1, 1) := by decide +kernel
theorem dX2_has_5 : decode cX2_has 5 = .ok (.aload_n 0, 1) := by decide +kernel
theorem dX2_has_6 : decode cX2_has 6 = .ok (.getfield 28, 3) := by decide +kernel
theorem dX2_has_9 : decode cX2_has 9 = .ok (.if_icmp .ge 7, 3) := by decide +kernel
theorem dX2_has_12 : decode cX2_has 12 = .ok (.iconst 1, 1) := by decide +kernel
theorem dX2_has_13 : decode cX2_has 13 = .ok (.goto 4, 3) := by decide +kernel
theorem dX2_has_16 : decode cX2_has 16 = .ok (.iconst 0, 1) := by decide +kernel
theorem dX2_has_17 : decode cX2_has 17 = .ok (.ireturn, 1) := by decide +kernel
theorem dX2_takeIn_0 : decode cX2_takeIn 0 = .ok (.aload_n 0, 1) := by decide +kernel
theorem dX2_takeIn_1 : decode cX2_takeIn 1 = .ok (.getfield 28, 3) := by decide +kernel
theorem dX2_takeIn_4 : decode cX2_takeIn 4 = .ok (.bipush 8, 2) := by decide +kernel
theorem dX2_takeIn_6 : decode cX2_takeIn 6 = .ok (.if_icmp .lt 5, 3) := by decide +kernel
theorem dX2_takeIn_9 : decode cX2_takeIn 9 = .ok (.iconst (-1), 1) := by decide +kernel
theorem dX2_takeIn_10 : decode cX2_takeIn 10 = .ok (.ireturn, 1) := by decide +kernel
theorem dX2_takeIn_11 : decode cX2_takeIn 11 = .ok (.aload_n 0, 1) := by decide +kernel
theorem dX2_takeIn_12 : decode cX2_takeIn 12 = .ok (.getfield 9, 3) := by decide +kernel
theorem dX2_takeIn_15 : decode cX2_takeIn 15 = .ok (.aload_n 0, 1) := by decide +kernel
theorem dX2_takeIn_16 : decode cX2_takeIn 16 = .ok (.getfield 28, 3) := by decide +kernel
theorem dX2_takeIn_19 : decode cX2_takeIn 19 = .ok (.iload_n 1, 1) := by decide +kernel
theorem dX2_takeIn_20 : decode cX2_takeIn 20 = .ok (.bipush 10, 2) := by decide +kernel
theorem dX2_takeIn_22 : decode cX2_takeIn 22 = .ok (.idiv, 1) := by decide +kernel
theorem dX2_takeIn_23 : decode cX2_takeIn 23 = .ok (.iastore, 1) := by decide +kernel
theorem dX2_takeIn_24 : decode cX2_takeIn 24 = .ok (.aload_n 0, 1) := by decide +kernel
theorem dX2_takeIn_25 : decode cX2_takeIn 25 = .ok (.getfield 15, 3) := by decide +kernel
theorem dX2_takeIn_28 : decode cX2_takeIn 28 = .ok (.aload_n 0, 1) := by decide +kernel
theorem dX2_takeIn_29 : decode cX2_takeIn 29 = .ok (.getfield 28, 3) := by decide +kernel
theorem dX2_takeIn_32 : decode cX2_takeIn 32 = .ok (.iload_n 1, 1) := by decide +kernel
theorem dX2_takeIn_33 : decode cX2_takeIn 33 = .ok (.bipush 10, 2) := by decide +kernel
theorem dX2_takeIn_35 : decode cX2_takeIn 35 = .ok (.irem, 1) := by decide +kernel
theorem dX2_takeIn_36 : decode cX2_takeIn 36 = .ok (.iastore, 1) := by decide +kernel
theorem dX2_takeIn_37 : decode cX2_takeIn 37 = .ok (.aload_n 0, 1) := by decide +kernel
theorem dX2_takeIn_38 : decode cX2_takeIn 38 = .ok (.dup, 1) := by decide +kernel
theorem dX2_takeIn_39 : decode cX2_takeIn 39 = .ok (.getfield 28, 3) := by decide +kernel
theorem dX2_takeIn_42 : decode cX2_takeIn 42 = .ok (.iconst 1, 1) := by decide +kernel
theorem dX2_takeIn_43 : decode cX2_takeIn 43 = .ok (.iadd, 1) := by decide +kernel
theorem dX2_takeIn_44 : decode cX2_takeIn 44 = .ok (.putfield 28, 3) := by decide +kernel
theorem dX2_takeIn_47 : decode cX2_takeIn 47 = .ok (.aload_n 0, 1) := by decide +kernel
theorem dX2_takeIn_48 : decode cX2_takeIn 48 = .ok (.getfield 28, 3) := by decide +kernel
theorem dX2_takeIn_51 : decode cX2_takeIn 51 = .ok (.iconst 1, 1) := by decide +kernel
theorem dX2_takeIn_52 : decode cX2_takeIn 52 = .ok (.isub, 1) := by decide +kernel
theorem dX2_takeIn_53 : decode cX2_takeIn 53 = .ok (.ireturn, 1) := by decide +kernel
theorem dX2_pastAt_0 : decode cX2_pastAt 0 = .ok (.aload_n 0, 1) := by decide +kernel
theorem dX2_pastAt_1 : decode cX2_pastAt 1 = .ok (.getfield 24, 3) := by decide +kernel
theorem dX2_pastAt_4 : decode cX2_pastAt 4 = .ok (.iload_n 1, 1) := by decide +kernel
theorem dX2_pastAt_5 : decode cX2_pastAt 5 = .ok (.ishr, 1) := by decide +kernel
theorem dX2_pastAt_6 : decode cX2_pastAt 6 = .ok (.iconst 1, 1) := by decide +kernel
theorem dX2_pastAt_7 : decode cX2_pastAt 7 = .ok (.iand, 1) := by decide +kernel
theorem dX2_pastAt_8 : decode cX2_pastAt 8 = .ok (.ireturn, 1) := by decide +kernel
theorem dX2_putPast_0 : decode cX2_putPast 0 = .ok (.aload_n 0, 1) := by decide +kernel
theorem dX2_putPast_1 : decode cX2_putPast 1 = .ok (.aload_n 0, 1) := by decide +kernel
theorem dX2_putPast_2 : decode cX2_putPast 2 = .ok (.getfield 24, 3) := by decide +kernel
theorem dX2_putPast_5 : decode cX2_putPast 5 = .ok (.iconst 1, 1) := by decide +kernel
theorem dX2_putPast_6 : decode cX2_putPast 6 = .ok (.iload_n 1, 1) := by decide +kernel
theorem dX2_putPast_7 : decode cX2_putPast 7 = .ok (.ishl, 1) := by decide +kernel
theorem dX2_putPast_8 : decode cX2_putPast 8 = .ok (.iconst (-1), 1) := by decide +kernel
theorem dX2_putPast_9 : decode cX2_putPast 9 = .ok (.ixor, 1) := by decide +kernel
theorem dX2_putPast_10 : decode cX2_putPast 10 = .ok (.iand, 1) := by decide +kernel
theorem dX2_putPast_11 : decode cX2_putPast 11 = .ok (.iload_n 2, 1) := by decide +kernel
theorem dX2_putPast_12 : decode cX2_putPast 12 = .ok (.iload_n 1, 1) := by decide +kernel
theorem dX2_putPast_13 : decode cX2_putPast 13 = .ok (.ishl, 1) := by decide +kernel
theorem dX2_putPast_14 : decode cX2_putPast 14 = .ok (.ior, 1) := by decide +kernel
theorem dX2_putPast_15 : decode cX2_putPast 15 = .ok (.putfield 24, 3) := by decide +kernel
theorem dX2_putPast_18 : decode cX2_putPast 18 = .ok (.return_, 1) := by decide +kernel
theorem dX2_saidAt_0 : decode cX2_saidAt 0 = .ok (.aload_n 0, 1) := by decide +kernel
theorem dX2_saidAt_1 : decode cX2_saidAt 1 = .ok (.getfield 49, 3) := by decide +kernel
theorem dX2_saidAt_4 : decode cX2_saidAt 4 = .ok (.aload_n 0, 1) := by decide +kernel
theorem dX2_saidAt_5 : decode cX2_saidAt 5 = .ok (.iload_n 1, 1) := by decide +kernel
theorem dX2_saidAt_6 : decode cX2_saidAt 6 = .ok (.invokevirtual 62, 3) := by decide +kernel
theorem dX2_saidAt_9 : decode cX2_saidAt 9 = .ok (.aload_n 0, 1) := by decide +kernel
theorem dX2_saidAt_10 : decode cX2_saidAt 10 = .ok (.getfield 34, 3) := by decide +kernel
theorem dX2_saidAt_13 : decode cX2_saidAt 13 = .ok (.bipush 10, 2) := by decide +kernel
theorem dX2_saidAt_15 : decode cX2_saidAt 15 = .ok (.idiv, 1) := by decide +kernel
theorem dX2_saidAt_16 : decode cX2_saidAt 16 = .ok (.aload_n 0, 1) := by decide +kernel
theorem dX2_saidAt_17 : decode cX2_saidAt 17 = .ok (.getfield 31, 3) := by decide +kernel
theorem dX2_saidAt_20 : decode cX2_saidAt 20 = .ok (.bipush 8, 2) := by decide +kernel
theorem dX2_saidAt_22 : decode cX2_saidAt 22 = .ok (.irem, 1) := by decide +kernel
theorem dX2_saidAt_23 : decode cX2_saidAt 23 = .ok (.invokevirtual 66, 3) := by decide +kernel
theorem dX2_saidAt_26 : decode cX2_saidAt 26 = .ok (.ireturn, 1) := by decide +kernel
theorem dX2_behindAt_0 : decode cX2_behindAt 0 = .ok (.aload_n 0, 1) := by decide +kernel
theorem dX2_behindAt_1 : decode cX2_behindAt 1 = .ok (.getfield 53, 3) := by decide +kernel
theorem dX2_behindAt_4 : decode cX2_behindAt 4 = .ok (.aload_n 0, 1) := by decide +kernel
theorem dX2_behindAt_5 : decode cX2_behindAt 5 = .ok (.iload_n 1, 1) := by decide +kernel
theorem dX2_behindAt_6 : decode cX2_behindAt 6 = .ok (.invokevirtual 72, 3) := by decide +kernel
theorem dX2_behindAt_9 : decode cX2_behindAt 9 = .ok (.aload_n 0, 1) := by decide +kernel
theorem dX2_behindAt_10 : decode cX2_behindAt 10 = .ok (.getfield 37, 3) := by decide +kernel
theorem dX2_behindAt_13 : decode cX2_behindAt 13 = .ok (.bipush 10, 2) := by decide +kernel
theorem dX2_behindAt_15 : decode cX2_behindAt 15 = .ok (.idiv, 1) := by decide +kernel
theorem dX2_behindAt_16 : decode cX2_behindAt 16 = .ok (.aload_n 0, 1) := by decide +kernel
theorem dX2_behindAt_17 : decode cX2_behindAt 17 = .ok (.getfield 31, 3) := by decide +kernel
theorem dX2_behindAt_20 : decode cX2_behindAt 20 = .ok (.bipush 8, 2) := by decide +kernel
theorem dX2_behindAt_22 : decode cX2_behindAt 22 = .ok (.irem, 1) := by decide +kernel
theorem dX2_behindAt_23 : decode cX2_behindAt 23 = .ok (.invokevirtual 66, 3) := by decide +kernel
theorem dX2_behindAt_26 : decode cX2_behindAt 26 = .ok (.ireturn, 1) := by decide +kernel
theorem dX2_tellsAt_0 : decode cX2_tellsAt 0 = .ok (.aload_n 0, 1) := by decide +kernel
theorem dX2_tellsAt_1 : decode cX2_tellsAt 1 = .ok (.getfield 34, 3) := by decide +kernel
theorem dX2_tellsAt_4 : decode cX2_tellsAt 4 = .ok (.iconst 1, 1) := by decide +kernel
theorem dX2_tellsAt_5 : decode cX2_tellsAt 5 = .ok (.aload_n 0, 1) := by decide +kernel
theorem dX2_tellsAt_6 : decode cX2_tellsAt 6 = .ok (.getfield 37, 3) := by decide +kernel
theorem dX2_tellsAt_9 : decode cX2_tellsAt 9 = .ok (.iadd, 1) := by decide +kernel
theorem dX2_tellsAt_10 : decode cX2_tellsAt 10 = .ok (.imul, 1) := by decide +kernel
theorem dX2_tellsAt_11 : decode cX2_tellsAt 11 = .ok (.bipush 100, 2) := by decide +kernel
theorem dX2_tellsAt_13 : decode cX2_tellsAt 13 = .ok (.idiv, 1) := by decide +kernel
theorem dX2_tellsAt_14 : decode cX2_tellsAt 14 = .ok (.istore_n 2, 1) := by decide +kernel
theorem dX2_tellsAt_15 : decode cX2_tellsAt 15 = .ok (.aload_n 0, 1) := by decide +kernel
theorem dX2_tellsAt_16 : decode cX2_tellsAt 16 = .ok (.getfield 9, 3) := by decide +kernel
theorem dX2_tellsAt_19 : decode cX2_tellsAt 19 = .ok (.iload_n 1, 1) := by decide +kernel
theorem dX2_tellsAt_20 : decode cX2_tellsAt 20 = .ok (.iaload, 1) := by decide +kernel
theorem dX2_tellsAt_21 : decode cX2_tellsAt 21 = .ok (.tableswitch 89 1 6 #[39, 47, 49, 68, 83, 87], 39) := by decide +kernel
theorem dX2_tellsAt_60 : decode cX2_tellsAt 60 = .ok (.aload_n 0, 1) := by decide +kernel
theorem dX2_tellsAt_61 : decode cX2_tellsAt 61 = .ok (.getfield 34, 3) := by decide +kernel
theorem dX2_tellsAt_64 : decode cX2_tellsAt 64 = .ok (.bipush 10, 2) := by decide +kernel
theorem dX2_tellsAt_66 : decode cX2_tellsAt 66 = .ok (.iadd, 1) := by decide +kernel
theorem dX2_tellsAt_67 : decode cX2_tellsAt 67 = .ok (.ireturn, 1) := by decide +kernel
theorem dX2_tellsAt_68 : decode cX2_tellsAt 68 = .ok (.iload_n 2, 1) := by decide +kernel
theorem dX2_tellsAt_69 : decode cX2_tellsAt 69 = .ok (.ireturn, 1) := by decide +kernel
theorem dX2_tellsAt_70 : decode cX2_tellsAt 70 = .ok (.aload_n 0, 1) := by decide +kernel
theorem dX2_tellsAt_71 : decode cX2_tellsAt 71 = .ok (.getfield 34, 3) := by decide +kernel
theorem dX2_tellsAt_74 : decode cX2_tellsAt 74 = .ok (.bipush 50, 2) := by decide +kernel
theorem dX2_tellsAt_76 : decode cX2_tellsAt 76 = .ok (.if_icmp .le 8, 3) := by decide +kernel
theorem dX2_tellsAt_79 : decode cX2_tellsAt 79 = .ok (.bipush 77, 2) := by decide +kernel
theorem dX2_tellsAt_81 : decode cX2_tellsAt 81 = .ok (.goto 7, 3) := by decide +kernel
theorem dX2_tellsAt_84 : decode cX2_tellsAt 84 = .ok (.aload_n 0, 1) := by decide +kernel
theorem dX2_tellsAt_85 : decode cX2_tellsAt 85 = .ok (.getfield 34, 3) := by decide +kernel
theorem dX2_tellsAt_88 : decode cX2_tellsAt 88 = .ok (.ireturn, 1) := by decide +kernel
theorem dX2_tellsAt_89 : decode cX2_tellsAt 89 = .ok (.aload_n 0, 1) := by decide +kernel
theorem dX2_tellsAt_90 : decode cX2_tellsAt 90 = .ok (.getfield 34, 3) := by decide +kernel
theorem dX2_tellsAt_93 : decode cX2_tellsAt 93 = .ok (.bipush 10, 2) := by decide +kernel
theorem dX2_tellsAt_95 : decode cX2_tellsAt 95 = .ok (.iadd, 1) := by decide +kernel
theorem dX2_tellsAt_96 : decode cX2_tellsAt 96 = .ok (.aload_n 0, 1) := by decide +kernel
theorem dX2_tellsAt_97 : decode cX2_tellsAt 97 = .ok (.getfield 15, 3) := by decide +kernel
theorem dX2_tellsAt_100 : decode cX2_tellsAt 100 = .ok (.iload_n 1, 1) := by decide +kernel
theorem dX2_tellsAt_101 : decode cX2_tellsAt 101 = .ok (.iaload, 1) := by decide +kernel
theorem dX2_tellsAt_102 : decode cX2_tellsAt 102 = .ok (.isub, 1) := by decide +kernel
theorem dX2_tellsAt_103 : decode cX2_tellsAt 103 = .ok (.ireturn, 1) := by decide +kernel
theorem dX2_tellsAt_104 : decode cX2_tellsAt 104 = .ok (.iconst 2, 1) := by decide +kernel
theorem dX2_tellsAt_105 : decode cX2_tellsAt 105 = .ok (.iload_n 2, 1) := by decide +kernel
theorem dX2_tellsAt_106 : decode cX2_tellsAt 106 = .ok (.imul, 1) := by decide +kernel
theorem dX2_tellsAt_107 : decode cX2_tellsAt 107 = .ok (.ireturn, 1) := by decide +kernel
theorem dX2_tellsAt_108 : decode cX2_tellsAt 108 = .ok (.iconst 0, 1) := by decide +kernel
theorem dX2_tellsAt_109 : decode cX2_tellsAt 109 = .ok (.ireturn, 1) := by decide +kernel
theorem dX2_tellsAt_110 : decode cX2_tellsAt 110 = .ok (.aload_n 0, 1) := by decide +kernel
theorem dX2_tellsAt_111 : decode cX2_tellsAt 111 = .ok (.getfield 34, 3) := by decide +kernel
theorem dX2_tellsAt_114 : decode cX2_tellsAt 114 = .ok (.ireturn, 1) := by decide +kernel
theorem dX2_leavesAt_0 : decode cX2_leavesAt 0 = .ok (.aload_n 0, 1) := by decide +kernel
theorem dX2_leavesAt_1 : decode cX2_leavesAt 1 = .ok (.getfield 15, 3) := by decide +kernel
theorem dX2_leavesAt_4 : decode cX2_leavesAt 4 = .ok (.iload_n 1, 1) := by decide +kernel
theorem dX2_leavesAt_5 : decode cX2_leavesAt 5 = .ok (.iaload, 1) := by decide +kernel
theorem dX2_leavesAt_6 : decode cX2_leavesAt 6 = .ok (.istore_n 2, 1) := by decide +kernel
theorem dX2_leavesAt_7 : decode cX2_leavesAt 7 = .ok (.aload_n 0, 1) := by decide +kernel
theorem dX2_leavesAt_8 : decode cX2_leavesAt 8 = .ok (.getfield 34, 3) := by decide +kernel
theorem dX2_leavesAt_11 : decode cX2_leavesAt 11 = .ok (.iload_n 2, 1) := by decide +kernel
theorem dX2_leavesAt_12 : decode cX2_leavesAt 12 = .ok (.iadd, 1) := by decide +kernel
theorem dX2_leavesAt_13 : decode cX2_leavesAt 13 = .ok (.istore_n 3, 1) := by decide +kernel
theorem dX2_leavesAt_14 : decode cX2_leavesAt 14 = .ok (.iload_n 3, 1) := by decide +kernel
theorem dX2_leavesAt_15 : decode cX2_leavesAt 15 = .ok (.iconst 2, 1) := by decide +kernel
theorem dX2_leavesAt_16 : decode cX2_leavesAt 16 = .ok (.idiv, 1) := by decide +kernel
theorem dX2_leavesAt_17 : decode cX2_leavesAt 17 = .ok (.iconst 5, 1) := by decide +kernel
theorem dX2_leavesAt_18 : decode cX2_leavesAt 18 = .ok (.iload_n 2, 1) := by decide +kernel
theorem dX2_leavesAt_19 : decode cX2_leavesAt 19 = .ok (.imul, 1) := by decide +kernel
theorem dX2_leavesAt_20 : decode cX2_leavesAt 20 = .ok (.iadd, 1) := by decide +kernel
theorem dX2_leavesAt_21 : decode cX2_leavesAt 21 = .ok (.istore 4, 2) := by decide +kernel
theorem dX2_leavesAt_23 : decode cX2_leavesAt 23 = .ok (.iload_n 3, 1) := by decide +kernel
theorem dX2_leavesAt_24 : decode cX2_leavesAt 24 = .ok (.aload_n 0, 1) := by decide +kernel
theorem dX2_leavesAt_25 : decode cX2_leavesAt 25 = .ok (.getfield 28, 3) := by decide +kernel
theorem dX2_leavesAt_28 : decode cX2_leavesAt 28 = .ok (.iadd, 1) := by decide +kernel
theorem dX2_leavesAt_29 : decode cX2_leavesAt 29 = .ok (.istore 5, 2) := by decide +kernel
theorem dX2_leavesAt_31 : decode cX2_leavesAt 31 = .ok (.aload_n 0, 1) := by decide +kernel
theorem dX2_leavesAt_32 : decode cX2_leavesAt 32 = .ok (.getfield 9, 3) := by decide +kernel
theorem dX2_leavesAt_35 : decode cX2_leavesAt 35 = .ok (.iload_n 1, 1) := by decide +kernel
theorem dX2_leavesAt_36 : decode cX2_leavesAt 36 = .ok (.iaload, 1) := by decide +kernel
theorem dX2_leavesAt_37 : decode cX2_leavesAt 37 = .ok (.tableswitch 80 1 6 #[39, 42, 45, 61, 67, 78], 39) := by decide +kernel
theorem dX2_leavesAt_76 : decode cX2_leavesAt 76 = .ok (.iload 4, 2) := by decide +kernel
theorem dX2_leavesAt_78 : decode cX2_leavesAt 78 = .ok (.ireturn, 1) := by decide +kernel
theorem dX2_leavesAt_79 : decode cX2_leavesAt 79 = .ok (.iload 5, 2) := by decide +kernel
theorem dX2_leavesAt_81 : decode cX2_leavesAt 81 = .ok (.ireturn, 1) := by decide +kernel
theorem dX2_leavesAt_82 : decode cX2_leavesAt 82 = .ok (.aload_n 0, 1) := by decide +kernel
theorem dX2_leavesAt_83 : decode cX2_leavesAt 83 = .ok (.getfield 31, 3) := by decide +kernel
theorem dX2_leavesAt_86 : decode cX2_leavesAt 86 = .ok (.iconst 2, 1) := by decide +kernel
theorem dX2_leavesAt_87 : decode cX2_leavesAt 87 = .ok (.irem, 1) := by decide +kernel
theorem dX2_leavesAt_88 : decode cX2_leavesAt 88 = .ok (.ifCond .ne 8, 3) := by decide +kernel
theorem dX2_leavesAt_91 : decode cX2_leavesAt 91 = .ok (.bipush 77, 2) := by decide +kernel
theorem dX2_leavesAt_93 : decode cX2_leavesAt 93 = .ok (.goto 4, 3) := by decide +kernel
theorem dX2_leavesAt_96 : decode cX2_leavesAt 96 = .ok (.iload_n 3, 1) := by decide +kernel
theorem dX2_leavesAt_97 : decode cX2_leavesAt 97 = .ok (.ireturn, 1) := by decide +kernel
theorem dX2_leavesAt_98 : decode cX2_leavesAt 98 = .ok (.bipush 99, 2) := by decide +kernel
theorem dX2_leavesAt_100 : decode cX2_leavesAt 100 = .ok (.iload 4, 2) := by decide +kernel
theorem dX2_leavesAt_102 : decode cX2_leavesAt 102 = .ok (.isub, 1) := by decide +kernel
theorem dX2_leavesAt_103 : decode cX2_leavesAt 103 = .ok (.ireturn, 1) := by decide +kernel
theorem dX2_leavesAt_104 : decode cX2_leavesAt 104 = .ok (.iload 5, 2) := by decide +kernel
theorem dX2_leavesAt_106 : decode cX2_leavesAt 106 = .ok (.aload_n 0, 1) := by decide +kernel
theorem dX2_leavesAt_107 : decode cX2_leavesAt 107 = .ok (.getfield 37, 3) := by decide +kernel
theorem dX2_leavesAt_110 : decode cX2_leavesAt 110 = .ok (.bipush 10, 2) := by decide +kernel
theorem dX2_leavesAt_112 : decode cX2_leavesAt 112 = .ok (.idiv, 1) := by decide +kernel
theorem dX2_leavesAt_113 : decode cX2_leavesAt 113 = .ok (.iadd, 1) := by decide +kernel
theorem dX2_leavesAt_114 : decode cX2_leavesAt 114 = .ok (.ireturn, 1) := by decide +kernel
theorem dX2_leavesAt_115 : decode cX2_leavesAt 115 = .ok (.iconst 0, 1) := by decide +kernel
theorem dX2_leavesAt_116 : decode cX2_leavesAt 116 = .ok (.ireturn, 1) := by decide +kernel
theorem dX2_leavesAt_117 : decode cX2_leavesAt 117 = .ok (.iload_n 3, 1) := by decide +kernel
theorem dX2_leavesAt_118 : decode cX2_leavesAt 118 = .ok (.ireturn, 1) := by decide +kernel
theorem dX2_bluntsAt_0 : decode cX2_bluntsAt 0 = .ok (.aload_n 0, 1) := by decide +kernel
theorem dX2_bluntsAt_1 : decode cX2_bluntsAt 1 = .ok (.getfield 15, 3) := by decide +kernel
theorem dX2_bluntsAt_4 : decode cX2_bluntsAt 4 = .ok (.iload_n 1, 1) := by decide +kernel
theorem dX2_bluntsAt_5 : decode cX2_bluntsAt 5 = .ok (.iaload, 1) := by decide +kernel
theorem dX2_bluntsAt_6 : decode cX2_bluntsAt 6 = .ok (.istore_n 2, 1) := by decide +kernel
theorem dX2_bluntsAt_7 : decode cX2_bluntsAt 7 = .ok (.iconst 3, 1) := by decide +kernel
theorem dX2_bluntsAt_8 : decode cX2_bluntsAt 8 = .ok (.istore_n 3, 1) := by decide +kernel
theorem dX2_bluntsAt_9 : decode cX2_bluntsAt 9 = .ok (.iload_n 3, 1) := by decide +kernel
theorem dX2_bluntsAt_10 : decode cX2_bluntsAt 10 = .ok (.iload_n 2, 1) := by decide +kernel
theorem dX2_bluntsAt_11 : decode cX2_bluntsAt 11 = .ok (.iconst 2, 1) := by decide +kernel
theorem dX2_bluntsAt_12 : decode cX2_bluntsAt 12 = .ok (.idiv, 1) := by decide +kernel
theorem dX2_bluntsAt_13 : decode cX2_bluntsAt 13 = .ok (.iadd, 1) := by decide +kernel
theorem dX2_bluntsAt_14 : decode cX2_bluntsAt 14 = .ok (.istore 4, 2) := by decide +kernel
theorem dX2_bluntsAt_16 : decode cX2_bluntsAt 16 = .ok (.aload_n 0, 1) := by decide +kernel
theorem dX2_bluntsAt_17 : decode cX2_bluntsAt 17 = .ok (.getfield 9, 3) := by decide +kernel
theorem dX2_bluntsAt_20 : decode cX2_bluntsAt 20 = .ok (.iload_n 1, 1) := by decide +kernel
theorem dX2_bluntsAt_21 : decode cX2_bluntsAt 21 = .ok (.iaload, 1) := by decide +kernel
theorem dX2_bluntsAt_22 : decode cX2_bluntsAt 22 = .ok (.tableswitch 63 1 6 #[38, 63, 41, 43, 48, 52], 38) := by decide +kernel
theorem dX2_bluntsAt_60 : decode cX2_bluntsAt 60 = .ok (.iload 4, 2) := by decide +kernel
theorem dX2_bluntsAt_62 : decode cX2_bluntsAt 62 = .ok (.ireturn, 1) := by decide +kernel
theorem dX2_bluntsAt_63 : decode cX2_bluntsAt 63 = .ok (.iconst 5, 1) := by decide +kernel
theorem dX2_bluntsAt_64 : decode cX2_bluntsAt 64 = .ok (.ireturn, 1) := by decide +kernel
theorem dX2_bluntsAt_65 : decode cX2_bluntsAt 65 = .ok (.iload 4, 2) := by decide +kernel
theorem dX2_bluntsAt_67 : decode cX2_bluntsAt 67 = .ok (.iconst 2, 1) := by decide +kernel
theorem dX2_bluntsAt_68 : decode cX2_bluntsAt 68 = .ok (.isub, 1) := by decide +kernel
theorem dX2_bluntsAt_69 : decode cX2_bluntsAt 69 = .ok (.ireturn, 1) := by decide +kernel
theorem dX2_bluntsAt_70 : decode cX2_bluntsAt 70 = .ok (.iconst 2, 1) := by decide +kernel
theorem dX2_bluntsAt_71 : decode cX2_bluntsAt 71 = .ok (.iload_n 3, 1) := by decide +kernel
theorem dX2_bluntsAt_72 : decode cX2_bluntsAt 72 = .ok (.imul, 1) := by decide +kernel
theorem dX2_bluntsAt_73 : decode cX2_bluntsAt 73 = .ok (.ireturn, 1) := by decide +kernel
theorem dX2_bluntsAt_74 : decode cX2_bluntsAt 74 = .ok (.iload_n 2, 1) := by decide +kernel
theorem dX2_bluntsAt_75 : decode cX2_bluntsAt 75 = .ok (.iconst 4, 1) := by decide +kernel
theorem dX2_bluntsAt_76 : decode cX2_bluntsAt 76 = .ok (.if_icmp .le 7, 3) := by decide +kernel
theorem dX2_bluntsAt_79 : decode cX2_bluntsAt 79 = .ok (.iload_n 3, 1) := by decide +kernel
theorem dX2_bluntsAt_80 : decode cX2_bluntsAt 80 = .ok (.goto 4, 3) := by decide +kernel
theorem dX2_bluntsAt_83 : decode cX2_bluntsAt 83 = .ok (.iconst 0, 1) := by decide +kernel
theorem dX2_bluntsAt_84 : decode cX2_bluntsAt 84 = .ok (.ireturn, 1) := by decide +kernel
theorem dX2_bluntsAt_85 : decode cX2_bluntsAt 85 = .ok (.iload_n 3, 1) := by decide +kernel
theorem dX2_bluntsAt_86 : decode cX2_bluntsAt 86 = .ok (.ireturn, 1) := by decide +kernel
theorem dX2_passDays_0 : decode cX2_passDays 0 = .ok (.iconst 0, 1) := by decide +kernel
theorem dX2_passDays_1 : decode cX2_passDays 1 = .ok (.istore_n 2, 1) := by decide +kernel
theorem dX2_passDays_2 : decode cX2_passDays 2 = .ok (.iload_n 2, 1) := by decide +kernel
theorem dX2_passDays_3 : decode cX2_passDays 3 = .ok (.iload_n 1, 1) := by decide +kernel
theorem dX2_passDays_4 : decode cX2_passDays 4 = .ok (.if_icmp .ge 17, 3) := by decide +kernel
theorem dX2_passDays_7 : decode cX2_passDays 7 = .ok (.aload_n 0, 1) := by decide +kernel
theorem dX2_passDays_8 : decode cX2_passDays 8 = .ok (.invokevirtual 75, 3) := by decide +kernel
theorem dX2_passDays_11 : decode cX2_passDays 11 = .ok (.aload_n 0, 1) := by decide +kernel
theorem dX2_passDays_12 : decode cX2_passDays 12 = .ok (.invokevirtual 78, 3) := by decide +kernel
theorem dX2_passDays_15 : decode cX2_passDays 15 = .ok (.iinc 2 1, 3) := by decide +kernel
theorem dX2_passDays_18 : decode cX2_passDays 18 = .ok (.goto (-16), 3) := by decide +kernel
theorem dX2_passDays_21 : decode cX2_passDays 21 = .ok (.return_, 1) := by decide +kernel
theorem dX2_passDaysFor_0 : decode cX2_passDaysFor 0 = .ok (.iconst 0, 1) := by decide +kernel
theorem dX2_passDaysFor_1 : decode cX2_passDaysFor 1 = .ok (.istore_n 3, 1) := by decide +kernel
theorem dX2_passDaysFor_2 : decode cX2_passDaysFor 2 = .ok (.iload_n 3, 1) := by decide +kernel
theorem dX2_passDaysFor_3 : decode cX2_passDaysFor 3 = .ok (.iload_n 2, 1) := by decide +kernel
theorem dX2_passDaysFor_4 : decode cX2_passDaysFor 4 = .ok (.if_icmp .ge 25, 3) := by decide +kernel
theorem dX2_passDaysFor_7 : decode cX2_passDaysFor 7 = .ok (.aload_n 0, 1) := by decide +kernel
theorem dX2_passDaysFor_8 : decode cX2_passDaysFor 8 = .ok (.getfield 43, 3) := by decide +kernel
theorem dX2_passDaysFor_11 : decode cX2_passDaysFor 11 = .ok (.iload_n 1, 1) := by decide +kernel
theorem dX2_passDaysFor_12 : decode cX2_passDaysFor 12 = .ok (.if_icmp .ne 7, 3) := by decide +kernel
theorem dX2_passDaysFor_15 : decode cX2_passDaysFor 15 = .ok (.aload_n 0, 1) := by decide +kernel
theorem dX2_passDaysFor_16 : decode cX2_passDaysFor 16 = .ok (.invokevirtual 75, 3) := by decide +kernel
theorem dX2_passDaysFor_19 : decode cX2_passDaysFor 19 = .ok (.aload_n 0, 1) := by decide +kernel
theorem dX2_passDaysFor_20 : decode cX2_passDaysFor 20 = .ok (.invokevirtual 78, 3) := by decide +kernel
theorem dX2_passDaysFor_23 : decode cX2_passDaysFor 23 = .ok (.iinc 3 1, 3) := by decide +kernel
theorem dX2_passDaysFor_26 : decode cX2_passDaysFor 26 = .ok (.goto (-24), 3) := by decide +kernel
theorem dX2_passDaysFor_29 : decode cX2_passDaysFor 29 = .ok (.return_, 1) := by decide +kernel
theorem dX2_hear_0 : decode cX2_hear 0 = .ok (.aload_n 0, 1) := by decide +kernel
theorem dX2_hear_1 : decode cX2_hear 1 = .ok (.aload_n 0, 1) := by decide +kernel
theorem dX2_hear_2 : decode cX2_hear 2 = .ok (.getfield 43, 3) := by decide +kernel
theorem dX2_hear_5 : decode cX2_hear 5 = .ok (.invokevirtual 81, 3) := by decide +kernel
theorem dX2_hear_8 : decode cX2_hear 8 = .ok (.ifCond .eq 62, 3) := by decide +kernel
theorem dX2_hear_11 : decode cX2_hear 11 = .ok (.aload_n 0, 1) := by decide +kernel
theorem dX2_hear_12 : decode cX2_hear 12 = .ok (.getfield 18, 3) := by decide +kernel
theorem dX2_hear_15 : decode cX2_hear 15 = .ok (.aload_n 0, 1) := by decide +kernel
theorem dX2_hear_16 : decode cX2_hear 16 = .ok (.getfield 43, 3) := by decide +kernel
theorem dX2_hear_19 : decode cX2_hear 19 = .ok (.sipush 9999, 3) := by decide +kernel
theorem dX2_hear_22 : decode cX2_hear 22 = .ok (.aload_n 0, 1) := by decide +kernel
theorem dX2_hear_23 : decode cX2_hear 23 = .ok (.getfield 18, 3) := by decide +kernel
theorem dX2_hear_26 : decode cX2_hear 26 = .ok (.aload_n 0, 1) := by decide +kernel
theorem dX2_hear_27 : decode cX2_hear 27 = .ok (.getfield 43, 3) := by decide +kernel
theorem dX2_hear_30 : decode cX2_hear 30 = .ok (.iaload, 1) := by decide +kernel
theorem dX2_hear_31 : decode cX2_hear 31 = .ok (.aload_n 0, 1) := by decide +kernel
theorem dX2_hear_32 : decode cX2_hear 32 = .ok (.aload_n 0, 1) := by decide +kernel
theorem dX2_hear_33 : decode cX2_hear 33 = .ok (.getfield 43, 3) := by decide +kernel
theorem dX2_hear_36 : decode cX2_hear 36 = .ok (.invokevirtual 85, 3) := by decide +kernel
theorem dX2_hear_39 : decode cX2_hear 39 = .ok (.iadd, 1) := by decide +kernel
theorem dX2_hear_40 : decode cX2_hear 40 = .ok (.invokestatic 88, 3) := by decide +kernel
theorem dX2_hear_43 : decode cX2_hear 43 = .ok (.iastore, 1) := by decide +kernel
theorem dX2_hear_44 : decode cX2_hear 44 = .ok (.aload_n 0, 1) := by decide +kernel
theorem dX2_hear_45 : decode cX2_hear 45 = .ok (.getfield 21, 3) := by decide +kernel
theorem dX2_hear_48 : decode cX2_hear 48 = .ok (.aload_n 0, 1) := by decide +kernel
theorem dX2_hear_49 : decode cX2_hear 49 = .ok (.getfield 43, 3) := by decide +kernel
theorem dX2_hear_52 : decode cX2_hear 52 = .ok (.sipush 9999, 3) := by decide +kernel
theorem dX2_hear_55 : decode cX2_hear 55 = .ok (.aload_n 0, 1) := by decide +kernel
theorem dX2_hear_56 : decode cX2_hear 56 = .ok (.getfield 21, 3) := by decide +kernel
theorem dX2_hear_59 : decode cX2_hear 59 = .ok (.aload_n 0, 1) := by decide +kernel
theorem dX2_hear_60 : decode cX2_hear 60 = .ok (.getfield 43, 3) := by decide +kernel
theorem dX2_hear_63 : decode cX2_hear 63 = .ok (.iaload, 1) := by decide +kernel
theorem dX2_hear_64 : decode cX2_hear 64 = .ok (.iconst 1, 1) := by decide +kernel
theorem dX2_hear_65 : decode cX2_hear 65 = .ok (.iadd, 1) := by decide +kernel
theorem dX2_hear_66 : decode cX2_hear 66 = .ok (.invokestatic 88, 3) := by decide +kernel
theorem dX2_hear_69 : decode cX2_hear 69 = .ok (.iastore, 1) := by decide +kernel
theorem dX2_hear_70 : decode cX2_hear 70 = .ok (.return_, 1) := by decide +kernel
theorem dX2_carryOn_0 : decode cX2_carryOn 0 = .ok (.aload_n 0, 1) := by decide +kernel
theorem dX2_carryOn_1 : decode cX2_carryOn 1 = .ok (.aload_n 0, 1) := by decide +kernel
theorem dX2_carryOn_2 : decode cX2_carryOn 2 = .ok (.getfield 43, 3) := by decide +kernel
theorem dX2_carryOn_5 : decode cX2_carryOn 5 = .ok (.invokevirtual 81, 3) := by decide +kernel
theorem dX2_carryOn_8 : decode cX2_carryOn 8 = .ok (.ifCond .eq 46, 3) := by decide +kernel
theorem dX2_carryOn_11 : decode cX2_carryOn 11 = .ok (.aload_n 0, 1) := by decide +kernel
theorem dX2_carryOn_12 : decode cX2_carryOn 12 = .ok (.aload_n 0, 1) := by decide +kernel
theorem dX2_carryOn_13 : decode cX2_carryOn 13 = .ok (.getfield 43, 3) := by decide +kernel
theorem dX2_carryOn_16 : decode cX2_carryOn 16 = .ok (.invokevirtual 94, 3) := by decide +kernel
theorem dX2_carryOn_19 : decode cX2_carryOn 19 = .ok (.istore_n 1, 1) := by decide +kernel
theorem dX2_carryOn_20 : decode cX2_carryOn 20 = .ok (.aload_n 0, 1) := by decide +kernel
theorem dX2_carryOn_21 : decode cX2_carryOn 21 = .ok (.iconst 0, 1) := by decide +kernel
theorem dX2_carryOn_22 : decode cX2_carryOn 22 = .ok (.aload_n 0, 1) := by decide +kernel
theorem dX2_carryOn_23 : decode cX2_carryOn 23 = .ok (.getfield 37, 3) := by decide +kernel
theorem dX2_carryOn_26 : decode cX2_carryOn 26 = .ok (.aload_n 0, 1) := by decide +kernel
theorem dX2_carryOn_27 : decode cX2_carryOn 27 = .ok (.aload_n 0, 1) := by decide +kernel
theorem dX2_carryOn_28 : decode cX2_carryOn 28 = .ok (.getfield 43, 3) := by decide +kernel
theorem dX2_carryOn_31 : decode cX2_carryOn 31 = .ok (.invokevirtual 97, 3) := by decide +kernel
theorem dX2_carryOn_34 : decode cX2_carryOn 34 = .ok (.isub, 1) := by decide +kernel
theorem dX2_carryOn_35 : decode cX2_carryOn 35 = .ok (.invokestatic 100, 3) := by decide +kernel
theorem dX2_carryOn_38 : decode cX2_carryOn 38 = .ok (.putfield 37, 3) := by decide +kernel
theorem dX2_carryOn_41 : decode cX2_carryOn 41 = .ok (.aload_n 0, 1) := by decide +kernel
theorem dX2_carryOn_42 : decode cX2_carryOn 42 = .ok (.iload_n 1, 1) := by decide +kernel
theorem dX2_carryOn_43 : decode cX2_carryOn 43 = .ok (.putfield 34, 3) := by decide +kernel
theorem dX2_carryOn_46 : decode cX2_carryOn 46 = .ok (.aload_n 0, 1) := by decide +kernel
theorem dX2_carryOn_47 : decode cX2_carryOn 47 = .ok (.aload_n 0, 1) := by decide +kernel
theorem dX2_carryOn_48 : decode cX2_carryOn 48 = .ok (.invokevirtual 103, 3) := by decide +kernel
theorem dX2_carryOn_51 : decode cX2_carryOn 51 = .ok (.putfield 43, 3) := by decide +kernel
theorem dX2_carryOn_54 : decode cX2_carryOn 54 = .ok (.aload_n 0, 1) := by decide +kernel
theorem dX2_carryOn_55 : decode cX2_carryOn 55 = .ok (.dup, 1) := by decide +kernel
theorem dX2_carryOn_56 : decode cX2_carryOn 56 = .ok (.getfield 31, 3) := by decide +kernel
theorem dX2_carryOn_59 : decode cX2_carryOn 59 = .ok (.iconst 1, 1) := by decide +kernel
theorem dX2_carryOn_60 : decode cX2_carryOn 60 = .ok (.iadd, 1) := by decide +kernel
theorem dX2_carryOn_61 : decode cX2_carryOn 61 = .ok (.putfield 31, 3) := by decide +kernel
theorem dX2_carryOn_64 : decode cX2_carryOn 64 = .ok (.aload_n 0, 1) := by decide +kernel
theorem dX2_carryOn_65 : decode cX2_carryOn 65 = .ok (.getfield 40, 3) := by decide +kernel
theorem dX2_carryOn_68 : decode cX2_carryOn 68 = .ok (.ifCond .le 21, 3) := by decide +kernel
theorem dX2_carryOn_71 : decode cX2_carryOn 71 = .ok (.aload_n 0, 1) := by decide +kernel
theorem dX2_carryOn_72 : decode cX2_carryOn 72 = .ok (.getfield 31, 3) := by decide +kernel
theorem dX2_carryOn_75 : decode cX2_carryOn 75 = .ok (.aload_n 0, 1) := by decide +kernel
theorem dX2_carryOn_76 : decode cX2_carryOn 76 = .ok (.getfield 40, 3) := by decide +kernel
theorem dX2_carryOn_79 : decode cX2_carryOn 79 = .ok (.irem, 1) := by decide +kernel
theorem dX2_carryOn_80 : decode cX2_carryOn 80 = .ok (.ifCond .ne 9, 3) := by decide +kernel
theorem dX2_carryOn_83 : decode cX2_carryOn 83 = .ok (.aload_n 0, 1) := by decide +kernel
theorem dX2_carryOn_84 : decode cX2_carryOn 84 = .ok (.bipush 99, 2) := by decide +kernel
theorem dX2_carryOn_86 : decode cX2_carryOn 86 = .ok (.putfield 37, 3) := by decide +kernel
theorem dX2_carryOn_89 : decode cX2_carryOn 89 = .ok (.return_, 1) := by decide +kernel
theorem dX2_nextPlace_0 : decode cX2_nextPlace 0 = .ok (.aload_n 0, 1) := by decide +kernel
theorem dX2_nextPlace_1 : decode cX2_nextPlace 1 = .ok (.getfield 43, 3) := by decide +kernel
theorem dX2_nextPlace_4 : decode cX2_nextPlace 4 = .ok (.istore_n 1, 1) := by decide +kernel
theorem dX2_nextPlace_5 : decode cX2_nextPlace 5 = .ok (.iconst 1, 1) := by decide +kernel
theorem dX2_nextPlace_6 : decode cX2_nextPlace 6 = .ok (.istore_n 2, 1) := by decide +kernel
theorem dX2_nextPlace_7 : decode cX2_nextPlace 7 = .ok (.iload_n 2, 1) := by decide +kernel
theorem dX2_nextPlace_8 : decode cX2_nextPlace 8 = .ok (.aload_n 0, 1) := by decide +kernel
theorem dX2_nextPlace_9 : decode cX2_nextPlace 9 = .ok (.getfield 28, 3) := by decide +kernel
theorem dX2_nextPlace_12 : decode cX2_nextPlace 12 = .ok (.if_icmp .ge 37, 3) := by decide +kernel
theorem dX2_nextPlace_15 : decode cX2_nextPlace 15 = .ok (.iload_n 1, 1) := by decide +kernel
theorem dX2_nextPlace_16 : decode cX2_nextPlace 16 = .ok (.iconst 1, 1) := by decide +kernel
theorem dX2_nextPlace_17 : decode cX2_nextPlace 17 = .ok (.iadd, 1) := by decide +kernel
theorem dX2_nextPlace_18 : decode cX2_nextPlace 18 = .ok (.aload_n 0, 1) := by decide +kernel
theorem dX2_nextPlace_19 : decode cX2_nextPlace 19 = .ok (.getfield 28, 3) := by decide +kernel
theorem dX2_nextPlace_22 : decode cX2_nextPlace 22 = .ok (.if_icmp .ge 9, 3) := by decide +kernel
theorem dX2_nextPlace_25 : decode cX2_nextPlace 25 = .ok (.iload_n 1, 1) := by decide +kernel
theorem dX2_nextPlace_26 : decode cX2_nextPlace 26 = .ok (.iconst 1, 1) := by decide +kernel
theorem dX2_nextPlace_27 : decode cX2_nextPlace 27 = .ok (.iadd, 1) := by decide +kernel
theorem dX2_nextPlace_28 : decode cX2_nextPlace 28 = .ok (.goto 4, 3) := by decide +kernel
theorem dX2_nextPlace_31 : decode cX2_nextPlace 31 = .ok (.iconst 0, 1) := by decide +kernel
theorem dX2_nextPlace_32 : decode cX2_nextPlace 32 = .ok (.istore_n 1, 1) := by decide +kernel
theorem dX2_nextPlace_33 : decode cX2_nextPlace 33 = .ok (.aload_n 0, 1) := by decide +kernel
theorem dX2_nextPlace_34 : decode cX2_nextPlace 34 = .ok (.iload_n 1, 1) := by decide +kernel
theorem dX2_nextPlace_35 : decode cX2_nextPlace 35 = .ok (.invokevirtual 107, 3) := by decide +kernel
theorem dX2_nextPlace_38 : decode cX2_nextPlace 38 = .ok (.ifCond .ne 5, 3) := by decide +kernel
theorem dX2_nextPlace_41 : decode cX2_nextPlace 41 = .ok (.iload_n 1, 1) := by decide +kernel
theorem dX2_nextPlace_42 : decode cX2_nextPlace 42 = .ok (.ireturn, 1) := by decide +kernel
theorem dX2_nextPlace_43 : decode cX2_nextPlace 43 = .ok (.iinc 2 1, 3) := by decide +kernel
theorem dX2_nextPlace_46 : decode cX2_nextPlace 46 = .ok (.goto (-39), 3) := by decide +kernel
theorem dX2_nextPlace_49 : decode cX2_nextPlace 49 = .ok (.aload_n 0, 1) := by decide +kernel
theorem dX2_nextPlace_50 : decode cX2_nextPlace 50 = .ok (.getfield 43, 3) := by decide +kernel
theorem dX2_nextPlace_53 : decode cX2_nextPlace 53 = .ok (.ireturn, 1) := by decide +kernel
theorem dX2_drawPlace_0 : decode cX2_drawPlace 0 = .ok (.aload_n 0, 1) := by decide +kernel
theorem dX2_drawPlace_1 : decode cX2_drawPlace 1 = .ok (.getfield 28, 3) := by decide +kernel
theorem dX2_drawPlace_4 : decode cX2_drawPlace 4 = .ok (.ifCond .le 34, 3) := by decide +kernel
theorem dX2_drawPlace_7 : decode cX2_drawPlace 7 = .ok (.aload_n 0, 1) := by decide +kernel
theorem dX2_drawPlace_8 : decode cX2_drawPlace 8 = .ok (.aload_n 0, 1) := by decide +kernel
theorem dX2_drawPlace_9 : decode cX2_drawPlace 9 = .ok (.getfield 46, 3) := by decide +kernel
theorem dX2_drawPlace_12 : decode cX2_drawPlace 12 = .ok (.ldc 110, 2) := by decide +kernel
theorem dX2_drawPlace_14 : decode cX2_drawPlace 14 = .ok (.imul, 1) := by decide +kernel
theorem dX2_drawPlace_15 : decode cX2_drawPlace 15 = .ok (.sipush 12345, 3) := by decide +kernel
theorem dX2_drawPlace_18 : decode cX2_drawPlace 18 = .ok (.iadd, 1) := by decide +kernel
theorem dX2_drawPlace_19 : decode cX2_drawPlace 19 = .ok (.putfield 46, 3) := by decide +kernel
theorem dX2_drawPlace_22 : decode cX2_drawPlace 22 = .ok (.aload_n 0, 1) := by decide +kernel
theorem dX2_drawPlace_23 : decode cX2_drawPlace 23 = .ok (.aload_n 0, 1) := by decide +kernel
theorem dX2_drawPlace_24 : decode cX2_drawPlace 24 = .ok (.getfield 46, 3) := by decide +kernel
theorem dX2_drawPlace_27 : decode cX2_drawPlace 27 = .ok (.bipush 8, 2) := by decide +kernel
theorem dX2_drawPlace_29 : decode cX2_drawPlace 29 = .ok (.iushr, 1) := by decide +kernel
theorem dX2_drawPlace_30 : decode cX2_drawPlace 30 = .ok (.aload_n 0, 1) := by decide +kernel
theorem dX2_drawPlace_31 : decode cX2_drawPlace 31 = .ok (.getfield 28, 3) := by decide +kernel
theorem dX2_drawPlace_34 : decode cX2_drawPlace 34 = .ok (.irem, 1) := by decide +kernel
theorem dX2_drawPlace_35 : decode cX2_drawPlace 35 = .ok (.putfield 43, 3) := by decide +kernel
theorem dX2_drawPlace_38 : decode cX2_drawPlace 38 = .ok (.return_, 1) := by decide +kernel
theorem dX2_heardTogether_0 : decode cX2_heardTogether 0 = .ok (.iconst 0, 1) := by decide +kernel
theorem dX2_heardTogether_1 : decode cX2_heardTogether 1 = .ok (.istore_n 1, 1) := by decide +kernel
theorem dX2_heardTogether_2 : decode cX2_heardTogether 2 = .ok (.iconst 0, 1) := by decide +kernel
theorem dX2_heardTogether_3 : decode cX2_heardTogether 3 = .ok (.istore_n 2, 1) := by decide +kernel
theorem dX2_heardTogether_4 : decode cX2_heardTogether 4 = .ok (.iload_n 2, 1) := by decide +kernel
theorem dX2_heardTogether_5 : decode cX2_heardTogether 5 = .ok (.aload_n 0, 1) := by decide +kernel
theorem dX2_heardTogether_6 : decode cX2_heardTogether 6 = .ok (.getfield 28, 3) := by decide +kernel
theorem dX2_heardTogether_9 : decode cX2_heardTogether 9 = .ok (.if_icmp .ge 18, 3) := by decide +kernel
theorem dX2_heardTogether_12 : decode cX2_heardTogether 12 = .ok (.iload_n 1, 1) := by decide +kernel
theorem dX2_heardTogether_13 : decode cX2_heardTogether 13 = .ok (.aload_n 0, 1) := by decide +kernel
theorem dX2_heardTogether_14 : decode cX2_heardTogether 14 = .ok (.getfield 18, 3) := by decide +kernel
theorem dX2_heardTogether_17 : decode cX2_heardTogether 17 = .ok (.iload_n 2, 1) := by decide +kernel
theorem dX2_heardTogether_18 : decode cX2_heardTogether 18 = .ok (.iaload, 1) := by decide +kernel
theorem dX2_heardTogether_19 : decode cX2_heardTogether 19 = .ok (.iadd, 1) := by decide +kernel
theorem dX2_heardTogether_20 : decode cX2_heardTogether 20 = .ok (.istore_n 1, 1) := by decide +kernel
theorem dX2_heardTogether_21 : decode cX2_heardTogether 21 = .ok (.iinc 2 1, 3) := by decide +kernel
theorem dX2_heardTogether_24 : decode cX2_heardTogether 24 = .ok (.goto (-20), 3) := by decide +kernel
theorem dX2_heardTogether_27 : decode cX2_heardTogether 27 = .ok (.iload_n 1, 1) := by decide +kernel
theorem dX2_heardTogether_28 : decode cX2_heardTogether 28 = .ok (.ireturn, 1) := by decide +kernel
theorem dX2_takeHeard_0 : decode cX2_takeHeard 0 = .ok (.iconst 0, 1) := by decide +kernel
theorem dX2_takeHeard_1 : decode cX2_takeHeard 1 = .ok (.istore_n 2, 1) := by decide +kernel
theorem dX2_takeHeard_2 : decode cX2_takeHeard 2 = .ok (.iload_n 2, 1) := by decide +kernel
theorem dX2_takeHeard_3 : decode cX2_takeHeard 3 = .ok (.aload_n 1, 1) := by decide +kernel
theorem dX2_takeHeard_4 : decode cX2_takeHeard 4 = .ok (.getfield 111, 3) := by decide +kernel
theorem dX2_takeHeard_7 : decode cX2_takeHeard 7 = .ok (.if_icmp .ge 45, 3) := by decide +kernel
theorem dX2_takeHeard_10 : decode cX2_takeHeard 10 = .ok (.iload_n 2, 1) := by decide +kernel
theorem dX2_takeHeard_11 : decode cX2_takeHeard 11 = .ok (.aload_n 0, 1) := by decide +kernel
theorem dX2_takeHeard_12 : decode cX2_takeHeard 12 = .ok (.getfield 28, 3) := by decide +kernel
theorem dX2_takeHeard_15 : decode cX2_takeHeard 15 = .ok (.if_icmp .ge 37, 3) := by decide +kernel
theorem dX2_takeHeard_18 : decode cX2_takeHeard 18 = .ok (.aload_n 1, 1) := by decide +kernel
theorem dX2_takeHeard_19 : decode cX2_takeHeard 19 = .ok (.getfield 116, 3) := by decide +kernel
theorem dX2_takeHeard_22 : decode cX2_takeHeard 22 = .ok (.iload_n 2, 1) := by decide +kernel
theorem dX2_takeHeard_23 : decode cX2_takeHeard 23 = .ok (.iaload, 1) := by decide +kernel
theorem dX2_takeHeard_24 : decode cX2_takeHeard 24 = .ok (.iconst 0, 1) := by decide +kernel
theorem dX2_takeHeard_25 : decode cX2_takeHeard 25 = .ok (.sipush 9999, 3) := by decide +kernel
theorem dX2_takeHeard_28 : decode cX2_takeHeard 28 = .ok (.invokestatic 119, 3) := by decide +kernel
theorem dX2_takeHeard_31 : decode cX2_takeHeard 31 = .ok (.ifCond .eq 21, 3) := by decide +kernel
theorem dX2_takeHeard_34 : decode cX2_takeHeard 34 = .ok (.aload_n 0, 1) := by decide +kernel
theorem dX2_takeHeard_35 : decode cX2_takeHeard 35 = .ok (.getfield 18, 3) := by decide +kernel
theorem dX2_takeHeard_38 : decode cX2_takeHeard 38 = .ok (.iload_n 2, 1) := by decide +kernel
theorem dX2_takeHeard_39 : decode cX2_takeHeard 39 = .ok (.aload_n 1, 1) := by decide +kernel
theorem dX2_takeHeard_40 : decode cX2_takeHeard 40 = .ok (.getfield 116, 3) := by decide +kernel
theorem dX2_takeHeard_43 : decode cX2_takeHeard 43 = .ok (.iload_n 2, 1) := by decide +kernel
theorem dX2_takeHeard_44 : decode cX2_takeHeard 44 = .ok (.iaload, 1) := by decide +kernel
theorem dX2_takeHeard_45 : decode cX2_takeHeard 45 = .ok (.iastore, 1) := by decide +kernel
theorem dX2_takeHeard_46 : decode cX2_takeHeard 46 = .ok (.iinc 2 1, 3) := by decide +kernel
theorem dX2_takeHeard_49 : decode cX2_takeHeard 49 = .ok (.goto (-47), 3) := by decide +kernel
theorem dX2_takeHeard_52 : decode cX2_takeHeard 52 = .ok (.iload_n 2, 1) := by decide +kernel
theorem dX2_takeHeard_53 : decode cX2_takeHeard 53 = .ok (.ireturn, 1) := by decide +kernel
theorem dX2_rightTurns_0 : decode cX2_rightTurns 0 = .ok (.iconst 0, 1) := by decide +kernel
theorem dX2_rightTurns_1 : decode cX2_rightTurns 1 = .ok (.istore_n 2, 1) := by decide +kernel
theorem dX2_rightTurns_2 : decode cX2_rightTurns 2 = .ok (.iload_n 2, 1) := by decide +kernel
theorem dX2_rightTurns_3 : decode cX2_rightTurns 3 = .ok (.aload_n 1, 1) := by decide +kernel
theorem dX2_rightTurns_4 : decode cX2_rightTurns 4 = .ok (.getfield 111, 3) := by decide +kernel
theorem dX2_rightTurns_7 : decode cX2_rightTurns 7 = .ok (.if_icmp .ge 32, 3) := by decide +kernel
theorem dX2_rightTurns_10 : decode cX2_rightTurns 10 = .ok (.iload_n 2, 1) := by decide +kernel
theorem dX2_rightTurns_11 : decode cX2_rightTurns 11 = .ok (.aload_n 0, 1) := by decide +kernel
theorem dX2_rightTurns_12 : decode cX2_rightTurns 12 = .ok (.getfield 28, 3) := by decide +kernel
theorem dX2_rightTurns_15 : decode cX2_rightTurns 15 = .ok (.if_icmp .ge 24, 3) := by decide +kernel
theorem dX2_rightTurns_18 : decode cX2_rightTurns 18 = .ok (.aload_n 1, 1) := by decide +kernel
theorem dX2_rightTurns_19 : decode cX2_rightTurns 19 = .ok (.getfield 116, 3) := by decide +kernel
theorem dX2_rightTurns_22 : decode cX2_rightTurns 22 = .ok (.iload_n 2, 1) := by decide +kernel
theorem dX2_rightTurns_23 : decode cX2_rightTurns 23 = .ok (.iaload, 1) := by decide +kernel
theorem dX2_rightTurns_24 : decode cX2_rightTurns 24 = .ok (.aload_n 0, 1) := by decide +kernel
theorem dX2_rightTurns_25 : decode cX2_rightTurns 25 = .ok (.getfield 21, 3) := by decide +kernel
theorem dX2_rightTurns_28 : decode cX2_rightTurns 28 = .ok (.iload_n 2, 1) := by decide +kernel
theorem dX2_rightTurns_29 : decode cX2_rightTurns 29 = .ok (.iaload, 1) := by decide +kernel
theorem dX2_rightTurns_30 : decode cX2_rightTurns 30 = .ok (.if_icmp .ne 9, 3) := by decide +kernel
theorem dX2_rightTurns_33 : decode cX2_rightTurns 33 = .ok (.iinc 2 1, 3) := by decide +kernel
theorem dX2_rightTurns_36 : decode cX2_rightTurns 36 = .ok (.goto (-34), 3) := by decide +kernel
theorem dX2_rightTurns_39 : decode cX2_rightTurns 39 = .ok (.iload_n 2, 1) := by decide +kernel
theorem dX2_rightTurns_40 : decode cX2_rightTurns 40 = .ok (.ireturn, 1) := by decide +kernel
theorem dX2_rightSaid_0 : decode cX2_rightSaid 0 = .ok (.iconst 0, 1) := by decide +kernel
theorem dX2_rightSaid_1 : decode cX2_rightSaid 1 = .ok (.istore_n 2, 1) := by decide +kernel
theorem dX2_rightSaid_2 : decode cX2_rightSaid 2 = .ok (.iload_n 2, 1) := by decide +kernel
theorem dX2_rightSaid_3 : decode cX2_rightSaid 3 = .ok (.aload_n 1, 1) := by decide +kernel
theorem dX2_rightSaid_4 : decode cX2_rightSaid 4 = .ok (.getfield 111, 3) := by decide +kernel
theorem dX2_rightSaid_7 : decode cX2_rightSaid 7 = .ok (.if_icmp .ge 31, 3) := by decide +kernel
theorem dX2_rightSaid_10 : decode cX2_rightSaid 10 = .ok (.iload_n 2, 1) := by decide +kernel
theorem dX2_rightSaid_11 : decode cX2_rightSaid 11 = .ok (.aload_n 0, 1) := by decide +kernel
theorem dX2_rightSaid_12 : decode cX2_rightSaid 12 = .ok (.getfield 28, 3) := by decide +kernel
theorem dX2_rightSaid_15 : decode cX2_rightSaid 15 = .ok (.if_icmp .ge 23, 3) := by decide +kernel
theorem dX2_rightSaid_18 : decode cX2_rightSaid 18 = .ok (.aload_n 1, 1) := by decide +kernel
theorem dX2_rightSaid_19 : decode cX2_rightSaid 19 = .ok (.getfield 116, 3) := by decide +kernel
theorem dX2_rightSaid_22 : decode cX2_rightSaid 22 = .ok (.iload_n 2, 1) := by decide +kernel
theorem dX2_rightSaid_23 : decode cX2_rightSaid 23 = .ok (.iaload, 1) := by decide +kernel
theorem dX2_rightSaid_24 : decode cX2_rightSaid 24 = .ok (.aload_n 0, 1) := by decide +kernel
theorem dX2_rightSaid_25 : decode cX2_rightSaid 25 = .ok (.iload_n 2, 1) := by decide +kernel
theorem dX2_rightSaid_26 : decode cX2_rightSaid 26 = .ok (.invokevirtual 85, 3) := by decide +kernel
theorem dX2_rightSaid_29 : decode cX2_rightSaid 29 = .ok (.if_icmp .ne 9, 3) := by decide +kernel
theorem dX2_rightSaid_32 : decode cX2_rightSaid 32 = .ok (.iinc 2 1, 3) := by decide +kernel
theorem dX2_rightSaid_35 : decode cX2_rightSaid 35 = .ok (.goto (-33), 3) := by decide +kernel
theorem dX2_rightSaid_38 : decode cX2_rightSaid 38 = .ok (.iload_n 2, 1) := by decide +kernel
theorem dX2_rightSaid_39 : decode cX2_rightSaid 39 = .ok (.ireturn, 1) := by decide +kernel
theorem dX2_changePlaces_0 : decode cX2_changePlaces 0 = .ok (.aload_n 0, 1) := by decide +kernel
theorem dX2_changePlaces_1 : decode cX2_changePlaces 1 = .ok (.getfield 9, 3) := by decide +kernel
theorem dX2_changePlaces_4 : decode cX2_changePlaces 4 = .ok (.iload_n 1, 1) := by decide +kernel
theorem dX2_changePlaces_5 : decode cX2_changePlaces 5 = .ok (.iload_n 2, 1) := by decide +kernel
theorem dX2_changePlaces_6 : decode cX2_changePlaces 6 = .ok (.invokestatic 123, 3) := by decide +kernel
theorem dX2_changePlaces_9 : decode cX2_changePlaces 9 = .ok (.aload_n 0, 1) := by decide +kernel
theorem dX2_changePlaces_10 : decode cX2_changePlaces 10 = .ok (.getfield 15, 3) := by decide +kernel
theorem dX2_changePlaces_13 : decode cX2_changePlaces 13 = .ok (.iload_n 1, 1) := by decide +kernel
theorem dX2_changePlaces_14 : decode cX2_changePlaces 14 = .ok (.iload_n 2, 1) := by decide +kernel
theorem dX2_changePlaces_15 : decode cX2_changePlaces 15 = .ok (.invokestatic 123, 3) := by decide +kernel
theorem dX2_changePlaces_18 : decode cX2_changePlaces 18 = .ok (.aload_n 0, 1) := by decide +kernel
theorem dX2_changePlaces_19 : decode cX2_changePlaces 19 = .ok (.getfield 18, 3) := by decide +kernel
theorem dX2_changePlaces_22 : decode cX2_changePlaces 22 = .ok (.iload_n 1, 1) := by decide +kernel
theorem dX2_changePlaces_23 : decode cX2_changePlaces 23 = .ok (.iload_n 2, 1) := by decide +kernel
theorem dX2_changePlaces_24 : decode cX2_changePlaces 24 = .ok (.invokestatic 123, 3) := by decide +kernel
theorem dX2_changePlaces_27 : decode cX2_changePlaces 27 = .ok (.aload_n 0, 1) := by decide +kernel
theorem dX2_changePlaces_28 : decode cX2_changePlaces 28 = .ok (.getfield 21, 3) := by decide +kernel
theorem dX2_changePlaces_31 : decode cX2_changePlaces 31 = .ok (.iload_n 1, 1) := by decide +kernel
theorem dX2_changePlaces_32 : decode cX2_changePlaces 32 = .ok (.iload_n 2, 1) := by decide +kernel
theorem dX2_changePlaces_33 : decode cX2_changePlaces 33 = .ok (.invokestatic 123, 3) := by decide +kernel
theorem dX2_changePlaces_36 : decode cX2_changePlaces 36 = .ok (.aload_n 0, 1) := by decide +kernel
theorem dX2_changePlaces_37 : decode cX2_changePlaces 37 = .ok (.iload_n 1, 1) := by decide +kernel
theorem dX2_changePlaces_38 : decode cX2_changePlaces 38 = .ok (.invokevirtual 107, 3) := by decide +kernel
theorem dX2_changePlaces_41 : decode cX2_changePlaces 41 = .ok (.istore_n 3, 1) := by decide +kernel
theorem dX2_changePlaces_42 : decode cX2_changePlaces 42 = .ok (.aload_n 0, 1) := by decide +kernel
theorem dX2_changePlaces_43 : decode cX2_changePlaces 43 = .ok (.iload_n 1, 1) := by decide +kernel
theorem dX2_changePlaces_44 : decode cX2_changePlaces 44 = .ok (.aload_n 0, 1) := by decide +kernel
theorem dX2_changePlaces_45 : decode cX2_changePlaces 45 = .ok (.iload_n 2, 1) := by decide +kernel
theorem dX2_changePlaces_46 : decode cX2_changePlaces 46 = .ok (.invokevirtual 107, 3) := by decide +kernel
theorem dX2_changePlaces_49 : decode cX2_changePlaces 49 = .ok (.invokevirtual 127, 3) := by decide +kernel
theorem dX2_changePlaces_52 : decode cX2_changePlaces 52 = .ok (.aload_n 0, 1) := by decide +kernel
theorem dX2_changePlaces_53 : decode cX2_changePlaces 53 = .ok (.iload_n 2, 1) := by decide +kernel
theorem dX2_changePlaces_54 : decode cX2_changePlaces 54 = .ok (.iload_n 3, 1) := by decide +kernel
theorem dX2_changePlaces_55 : decode cX2_changePlaces 55 = .ok (.invokevirtual 127, 3) := by decide +kernel
theorem dX2_changePlaces_58 : decode cX2_changePlaces 58 = .ok (.return_, 1) := by decide +kernel
theorem dX2_changeNumbers_0 : decode cX2_changeNumbers 0 = .ok (.aload_n 0, 1) := by decide +kernel
theorem dX2_changeNumbers_1 : decode cX2_changeNumbers 1 = .ok (.iload_n 1, 1) := by decide +kernel
theorem dX2_changeNumbers_2 : decode cX2_changeNumbers 2 = .ok (.iaload, 1) := by decide +kernel
theorem dX2_changeNumbers_3 : decode cX2_changeNumbers 3 = .ok (.istore_n 3, 1) := by decide +kernel
theorem dX2_changeNumbers_4 : decode cX2_changeNumbers 4 = .ok (.aload_n 0, 1) := by decide +kernel
theorem dX2_changeNumbers_5 : decode cX2_changeNumbers 5 = .ok (.iload_n 1, 1) := by decide +kernel
theorem dX2_changeNumbers_6 : decode cX2_changeNumbers 6 = .ok (.aload_n 0, 1) := by decide +kernel
theorem dX2_changeNumbers_7 : decode cX2_changeNumbers 7 = .ok (.iload_n 2, 1) := by decide +kernel
theorem dX2_changeNumbers_8 : decode cX2_changeNumbers 8 = .ok (.iaload, 1) := by decide +kernel
theorem dX2_changeNumbers_9 : decode cX2_changeNumbers 9 = .ok (.iastore, 1) := by decide +kernel
theorem dX2_changeNumbers_10 : decode cX2_changeNumbers 10 = .ok (.aload_n 0, 1) := by decide +kernel
theorem dX2_changeNumbers_11 : decode cX2_changeNumbers 11 = .ok (.iload_n 2, 1) := by decide +kernel
theorem dX2_changeNumbers_12 : decode cX2_changeNumbers 12 = .ok (.iload_n 3, 1) := by decide +kernel
theorem dX2_changeNumbers_13 : decode cX2_changeNumbers 13 = .ok (.iastore, 1) := by decide +kernel
theorem dX2_changeNumbers_14 : decode cX2_changeNumbers 14 = .ok (.return_, 1) := by decide +kernel
theorem dX6_init_0 : decode cX6_init 0 = .ok (.aload_n 0, 1) := by decide +kernel
theorem dX6_init_1 : decode cX6_init 1 = .ok (.invokespecial 3, 3) := by decide +kernel
theorem dX6_init_4 : decode cX6_init 4 = .ok (.aload_n 0, 1) := by decide +kernel
theorem dX6_init_5 : decode cX6_init 5 = .ok (.iconst (-1), 1) := by decide +kernel
theorem dX6_init_6 : decode cX6_init 6 = .ok (.putfield 9, 3) := by decide +kernel
theorem dX6_init_9 : decode cX6_init 9 = .ok (.aload_n 0, 1) := by decide +kernel
theorem dX6_init_10 : decode cX6_init 10 = .ok (.iconst 0, 1) := by decide +kernel
theorem dX6_init_11 : decode cX6_init 11 = .ok (.putfield 15, 3) := by decide +kernel
theorem dX6_init_14 : decode cX6_init 14 = .ok (.aload_n 0, 1) := by decide +kernel
theorem dX6_init_15 : decode cX6_init 15 = .ok (.aload_n 1, 1) := by decide +kernel
theorem dX6_init_16 : decode cX6_init 16 = .ok (.putfield 18, 3) := by decide +kernel
theorem dX6_init_19 : decode cX6_init 19 = .ok (.aload_n 0, 1) := by decide +kernel
theorem dX6_init_20 : decode cX6_init 20 = .ok (.new 22, 3) := by decide +kernel
theorem dX6_init_23 : decode cX6_init 23 = .ok (.dup, 1) := by decide +kernel
theorem dX6_init_24 : decode cX6_init 24 = .ok (.aload_n 1, 1) := by decide +kernel
theorem dX6_init_25 : decode cX6_init 25 = .ok (.getfield 24, 3) := by decide +kernel
theorem dX6_init_28 : decode cX6_init 28 = .ok (.aload_n 1, 1) := by decide +kernel
theorem dX6_init_29 : decode cX6_init 29 = .ok (.getfield 28, 3) := by decide +kernel
theorem dX6_init_32 : decode cX6_init 32 = .ok (.invokespecial 31, 3) := by decide +kernel
theorem dX6_init_35 : decode cX6_init 35 = .ok (.putfield 34, 3) := by decide +kernel
theorem dX6_init_38 : decode cX6_init 38 = .ok (.return_, 1) := by decide +kernel
theorem dX6_daysOn_0 : decode cX6_daysOn 0 = .ok (.aload_n 0, 1) := by decide +kernel
theorem dX6_daysOn_1 : decode cX6_daysOn 1 = .ok (.getfield 34, 3) := by decide +kernel
theorem dX6_daysOn_4 : decode cX6_daysOn 4 = .ok (.aload_n 0, 1) := by decide +kernel
theorem dX6_daysOn_5 : decode cX6_daysOn 5 = .ok (.getfield 18, 3) := by decide +kernel
theorem dX6_daysOn_8 : decode cX6_daysOn 8 = .ok (.invokevirtual 37, 3) := by decide +kernel
theorem dX6_daysOn_11 : decode cX6_daysOn 11 = .ok (.aload_n 0, 1) := by decide +kernel
theorem dX6_daysOn_12 : decode cX6_daysOn 12 = .ok (.getfield 34, 3) := by decide +kernel
theorem dX6_daysOn_15 : decode cX6_daysOn 15 = .ok (.iload_n 1, 1) := by decide +kernel
theorem dX6_daysOn_16 : decode cX6_daysOn 16 = .ok (.invokevirtual 41, 3) := by decide +kernel
theorem dX6_daysOn_19 : decode cX6_daysOn 19 = .ok (.aload_n 0, 1) := by decide +kernel
theorem dX6_daysOn_20 : decode cX6_daysOn 20 = .ok (.getfield 34, 3) := by decide +kernel
theorem dX6_daysOn_23 : decode cX6_daysOn 23 = .ok (.areturn, 1) := by decide +kernel
theorem dX6_daysUntil_0 : decode cX6_daysUntil 0 = .ok (.aload_n 0, 1) := by decide +kernel
theorem dX6_daysUntil_1 : decode cX6_daysUntil 1 = .ok (.getfield 34, 3) := by decide +kernel
theorem dX6_daysUntil_4 : decode cX6_daysUntil 4 = .ok (.aload_n 0, 1) := by decide +kernel
theorem dX6_daysUntil_5 : decode cX6_daysUntil 5 = .ok (.getfield 18, 3) := by decide +kernel
theorem dX6_daysUntil_8 : decode cX6_daysUntil 8 = .ok (.invokevirtual 37, 3) := by decide +kernel
theorem dX6_daysUntil_11 : decode cX6_daysUntil 11 = .ok (.iconst 0, 1) := by decide +kernel
theorem dX6_daysUntil_12 : decode cX6_daysUntil 12 = .ok (.istore_n 3, 1) := by decide +kernel
theorem dX6_daysUntil_13 : decode cX6_daysUntil 13 = .ok (.iload_n 3, 1) := by decide +kernel
theorem dX6_daysUntil_14 : decode cX6_daysUntil 14 = .ok (.bipush 60, 2) := by decide +kernel
theorem dX6_daysUntil_16 : decode cX6_daysUntil 16 = .ok (.if_icmp .gt 33, 3) := by decide +kernel
theorem dX6_daysUntil_19 : decode cX6_daysUntil 19 = .ok (.aload_n 0, 1) := by decide +kernel
theorem dX6_daysUntil_20 : decode cX6_daysUntil 20 = .ok (.getfield 34, 3) := by decide +kernel
theorem dX6_daysUntil_23 : decode cX6_daysUntil 23 = .ok (.getfield 45, 3) := by decide +kernel
theorem dX6_daysUntil_26 : decode cX6_daysUntil 26 = .ok (.iload_n 1, 1) := by decide +kernel
theorem dX6_daysUntil_27 : decode cX6_daysUntil 27 = .ok (.iaload, 1) := by decide +kernel
theorem dX6_daysUntil_28 : decode cX6_daysUntil 28 = .ok (.iload_n 2, 1) := by decide +kernel
theorem dX6_daysUntil_29 : decode cX6_daysUntil 29 = .ok (.if_icmp .lt 5, 3) := by decide +kernel
theorem dX6_daysUntil_32 : decode cX6_daysUntil 32 = .ok (.iload_n 3, 1) := by decide +kernel
theorem dX6_daysUntil_33 : decode cX6_daysUntil 33 = .ok (.ireturn, 1) := by decide +kernel
theorem dX6_daysUntil_34 : decode cX6_daysUntil 34 = .ok (.aload_n 0, 1) := by decide +kernel
theorem dX6_daysUntil_35 : decode cX6_daysUntil 35 = .ok (.getfield 34, 3) := by decide +kernel
theorem dX6_daysUntil_38 : decode cX6_daysUntil 38 = .ok (.iload_n 1, 1) := by decide +kernel
theorem dX6_daysUntil_39 : decode cX6_daysUntil 39 = .ok (.iconst 1, 1) := by decide +kernel
theorem dX6_daysUntil_40 : decode cX6_daysUntil 40 = .ok (.invokevirtual 49, 3) := by decide +kernel
theorem dX6_daysUntil_43 : decode cX6_daysUntil 43 = .ok (.iinc 3 1, 3) := by decide +kernel
theorem dX6_daysUntil_46 : decode cX6_daysUntil 46 = .ok (.goto (-33), 3) := by decide +kernel
theorem dX6_daysUntil_49 : decode cX6_daysUntil 49 = .ok (.iconst (-1), 1) := by decide +kernel
theorem dX6_daysUntil_50 : decode cX6_daysUntil 50 = .ok (.ireturn, 1) := by decide +kernel
theorem dX6_seekStart_0 : decode cX6_seekStart 0 = .ok (.aload_n 0, 1) := by decide +kernel
theorem dX6_seekStart_1 : decode cX6_seekStart 1 = .ok (.iconst (-1), 1) := by decide +kernel
theorem dX6_seekStart_2 : decode cX6_seekStart 2 = .ok (.putfield 9, 3) := by decide +kernel
theorem dX6_seekStart_5 : decode cX6_seekStart 5 = .ok (.aload_n 0, 1) := by decide +kernel
theorem dX6_seekStart_6 : decode cX6_seekStart 6 = .ok (.iconst (-1), 1) := by decide +kernel
theorem dX6_seekStart_7 : decode cX6_seekStart 7 = .ok (.putfield 15, 3) := by decide +kernel
theorem dX6_seekStart_10 : decode cX6_seekStart 10 = .ok (.iconst 0, 1) := by decide +kernel
theorem dX6_seekStart_11 : decode cX6_seekStart 11 = .ok (.istore_n 3, 1) := by decide +kernel
theorem dX6_seekStart_12 : decode cX6_seekStart 12 = .ok (.iload_n 3, 1) := by decide +kernel
theorem dX6_seekStart_13 : decode cX6_seekStart 13 = .ok (.aload_n 0, 1) := by decide +kernel
theorem dX6_seekStart_14 : decode cX6_seekStart 14 = .ok (.getfield 18, 3) := by decide +kernel
theorem dX6_seekStart_17 : decode cX6_seekStart 17 = .ok (.getfield 53, 3) := by decide +kernel
theorem dX6_seekStart_20 : decode cX6_seekStart 20 = .ok (.if_icmp .ge 71, 3) := by decide +kernel
theorem dX6_seekStart_23 : decode cX6_seekStart 23 = .ok (.aload_n 0, 1) := by decide +kernel
theorem dX6_seekStart_24 : decode cX6_seekStart 24 = .ok (.getfield 34, 3) := by decide +kernel
theorem dX6_seekStart_27 : decode cX6_seekStart 27 = .ok (.aload_n 0, 1) := by decide +kernel
theorem dX6_seekStart_28 : decode cX6_seekStart 28 = .ok (.getfield 18, 3) := by decide +kernel
theorem dX6_seekStart_31 : decode cX6_seekStart 31 = .ok (.invokevirtual 37, 3) := by decide +kernel
theorem dX6_seekStart_34 : decode cX6_seekStart 34 = .ok (.aload_n 0, 1) := by decide +kernel
theorem dX6_seekStart_35 : decode cX6_seekStart 35 = .ok (.getfield 34, 3) := by decide +kernel
theorem dX6_seekStart_38 : decode cX6_seekStart 38 = .ok (.iload_n 3, 1) := by decide +kernel
theorem dX6_seekStart_39 : decode cX6_seekStart 39 = .ok (.putfield 56, 3) := by decide +kernel
theorem dX6_seekStart_42 : decode cX6_seekStart 42 = .ok (.aload_n 0, 1) := by decide +kernel
theorem dX6_seekStart_43 : decode cX6_seekStart 43 = .ok (.getfield 34, 3) := by decide +kernel
theorem dX6_seekStart_46 : decode cX6_seekStart 46 = .ok (.iload_n 1, 1) := by decide +kernel
theorem dX6_seekStart_47 : decode cX6_seekStart 47 = .ok (.iload_n 2, 1) := by decide +kernel
theorem dX6_seekStart_48 : decode cX6_seekStart 48 = .ok (.invokevirtual 49, 3) := by decide +kernel
theorem dX6_seekStart_51 : decode cX6_seekStart 51 = .ok (.aload_n 0, 1) := by decide +kernel
theorem dX6_seekStart_52 : decode cX6_seekStart 52 = .ok (.getfield 34, 3) := by decide +kernel
theorem dX6_seekStart_55 : decode cX6_seekStart 55 = .ok (.getfield 45, 3) := by decide +kernel
theorem dX6_seekStart_58 : decode cX6_seekStart 58 = .ok (.iload_n 1, 1) := by decide +kernel
theorem dX6_seekStart_59 : decode cX6_seekStart 59 = .ok (.iaload, 1) := by decide +kernel
theorem dX6_seekStart_60 : decode cX6_seekStart 60 = .ok (.aload_n 0, 1) := by decide +kernel
theorem dX6_seekStart_61 : decode cX6_seekStart 61 = .ok (.getfield 15, 3) := by decide +kernel
theorem dX6_seekStart_64 : decode cX6_seekStart 64 = .ok (.if_icmp .le 21, 3) := by decide +kernel
theorem dX6_seekStart_67 : decode cX6_seekStart 67 = .ok (.aload_n 0, 1) := by decide +kernel
theorem dX6_seekStart_68 : decode cX6_seekStart 68 = .ok (.iload_n 3, 1) := by decide +kernel
theorem dX6_seekStart_69 : decode cX6_seekStart 69 = .ok (.putfield 9, 3) := by decide +kernel
theorem dX6_seekStart_72 : decode cX6_seekStart 72 = .ok (.aload_n 0, 1) := by decide +kernel
theorem dX6_seekStart_73 : decode cX6_seekStart 73 = .ok (.aload_n 0, 1) := by decide +kernel
theorem dX6_seekStart_74 : decode cX6_seekStart 74 = .ok (.getfield 34, 3) := by decide +kernel
theorem dX6_seekStart_77 : decode cX6_seekStart 77 = .ok (.getfield 45, 3) := by decide +kernel
theorem dX6_seekStart_80 : decode cX6_seekStart 80 = .ok (.iload_n 1, 1) := by decide +kernel
theorem dX6_seekStart_81 : decode cX6_seekStart 81 = .ok (.iaload, 1) := by decide +kernel
theorem dX6_seekStart_82 : decode cX6_seekStart 82 = .ok (.putfield 15, 3) := by decide +kernel
theorem dX6_seekStart_85 : decode cX6_seekStart 85 = .ok (.iinc 3 1, 3) := by decide +kernel
theorem dX6_seekStart_88 : decode cX6_seekStart 88 = .ok (.goto (-76), 3) := by decide +kernel
theorem dX6_seekStart_91 : decode cX6_seekStart 91 = .ok (.return_, 1) := by decide +kernel
theorem dX6_seekSwap_0 : decode cX6_seekSwap 0 = .ok (.aload_n 0, 1) := by decide +kernel
theorem dX6_seekSwap_1 : decode cX6_seekSwap 1 = .ok (.iconst (-1), 1) := by decide +kernel
theorem dX6_seekSwap_2 : decode cX6_seekSwap 2 = .ok (.putfield 9, 3) := by decide +kernel
theorem dX6_seekSwap_5 : decode cX6_seekSwap 5 = .ok (.aload_n 0, 1) := by decide +kernel
theorem dX6_seekSwap_6 : decode cX6_seekSwap 6 = .ok (.getfield 34, 3) := by decide +kernel
theorem dX6_seekSwap_9 : decode cX6_seekSwap 9 = .ok (.aload_n 0, 1) := by decide +kernel
theorem dX6_seekSwap_10 : decode cX6_seekSwap 10 = .ok (.getfield 18, 3) := by decide +kernel
theorem dX6_seekSwap_13 : decode cX6_seekSwap 13 = .ok (.invokevirtual 37, 3) := by decide +kernel
theorem dX6_seekSwap_16 : decode cX6_seekSwap 16 = .ok (.aload_n 0, 1) := by decide +kernel
theorem dX6_seekSwap_17 : decode cX6_seekSwap 17 = .ok (.getfield 34, 3) := by decide +kernel
theorem dX6_seekSwap_20 : decode cX6_seekSwap 20 = .ok (.iload_n 1, 1) := by decide +kernel
theorem dX6_seekSwap_21 : decode cX6_seekSwap 21 = .ok (.invokevirtual 41, 3) := by decide +kernel
theorem dX6_seekSwap_24 : decode cX6_seekSwap 24 = .ok (.aload_n 0, 1) := by decide +kernel
theorem dX6_seekSwap_25 : decode cX6_seekSwap 25 = .ok (.aload_n 0, 1) := by decide +kernel
theorem dX6_seekSwap_26 : decode cX6_seekSwap 26 = .ok (.getfield 34, 3) := by decide +kernel
theorem dX6_seekSwap_29 : decode cX6_seekSwap 29 = .ok (.invokevirtual 59, 3) := by decide +kernel
theorem dX6_seekSwap_32 : decode cX6_seekSwap 32 = .ok (.putfield 15, 3) := by decide +kernel
theorem dX6_seekSwap_35 : decode cX6_seekSwap 35 = .ok (.iconst 0, 1) := by decide +kernel
theorem dX6_seekSwap_36 : decode cX6_seekSwap 36 = .ok (.istore_n 2, 1) := by decide +kernel
theorem dX6_seekSwap_37 : decode cX6_seekSwap 37 = .ok (.iload_n 2, 1) := by decide +kernel
theorem dX6_seekSwap_38 : decode cX6_seekSwap 38 = .ok (.aload_n 0, 1) := by decide +kernel
theorem dX6_seekSwap_39 : decode cX6_seekSwap 39 = .ok (.getfield 18, 3) := by decide +kernel
theorem dX6_seekSwap_42 : decode cX6_seekSwap 42 = .ok (.getfield 53, 3) := by decide +kernel
theorem dX6_seekSwap_45 : decode cX6_seekSwap 45 = .ok (.if_icmp .ge 92, 3) := by decide +kernel
theorem dX6_seekSwap_48 : decode cX6_seekSwap 48 = .ok (.iload_n 2, 1) := by decide +kernel
theorem dX6_seekSwap_49 : decode cX6_seekSwap 49 = .ok (.iconst 1, 1) := by decide +kernel
theorem dX6_seekSwap_50 : decode cX6_seekSwap 50 = .ok (.iadd, 1) := by decide +kernel
theorem dX6_seekSwap_51 : decode cX6_seekSwap 51 = .ok (.istore_n 3, 1) := by decide +kernel
theorem dX6_seekSwap_52 : decode cX6_seekSwap 52 = .ok (.iload_n 3, 1) := by decide +kernel
theorem dX6_seekSwap_53 : decode cX6_seekSwap 53 = .ok (.aload_n 0, 1) := by decide +kernel
theorem dX6_seekSwap_54 : decode cX6_seekSwap 54 = .ok (.getfield 18, 3) := by decide +kernel
theorem dX6_seekSwap_57 : decode cX6_seekSwap 57 = .ok (.getfield 53, 3) := by decide +kernel
theorem dX6_seekSwap_60 : decode cX6_seekSwap 60 = .ok (.if_icmp .ge 71, 3) := by decide +kernel
theorem dX6_seekSwap_63 : decode cX6_seekSwap 63 = .ok (.aload_n 0, 1) := by decide +kernel
theorem dX6_seekSwap_64 : decode cX6_seekSwap 64 = .ok (.getfield 34, 3) := by decide +kernel
theorem dX6_seekSwap_67 : decode cX6_seekSwap 67 = .ok (.aload_n 0, 1) := by decide +kernel
theorem dX6_seekSwap_68 : decode cX6_seekSwap 68 = .ok (.getfield 18, 3) := by decide +kernel
theorem dX6_seekSwap_71 : decode cX6_seekSwap 71 = .ok (.invokevirtual 37, 3) := by decide +kernel
theorem dX6_seekSwap_74 : decode cX6_seekSwap 74 = .ok (.aload_n 0, 1) := by decide +kernel
theorem dX6_seekSwap_75 : decode cX6_seekSwap 75 = .ok (.getfield 34, 3) := by decide +kernel
theorem dX6_seekSwap_78 : decode cX6_seekSwap 78 = .ok (.iload_n 2, 1) := by decide +kernel
theorem dX6_seekSwap_79 : decode cX6_seekSwap 79 = .ok (.iload_n 3, 1) := by decide +kernel
theorem dX6_seekSwap_80 : decode cX6_seekSwap 80 = .ok (.invokevirtual 63, 3) := by decide +kernel
theorem dX6_seekSwap_83 : decode cX6_seekSwap 83 = .ok (.aload_n 0, 1) := by decide +kernel
theorem dX6_seekSwap_84 : decode cX6_seekSwap 84 = .ok (.getfield 34, 3) := by decide +kernel
theorem dX6_seekSwap_87 : decode cX6_seekSwap 87 = .ok (.iload_n 1, 1) := by decide +kernel
theorem dX6_seekSwap_88 : decode cX6_seekSwap 88 = .ok (.invokevirtual 41, 3) := by decide +kernel
theorem dX6_seekSwap_91 : decode cX6_seekSwap 91 = .ok (.aload_n 0, 1) := by decide +kernel
theorem dX6_seekSwap_92 : decode cX6_seekSwap 92 = .ok (.getfield 34, 3) := by decide +kernel
theorem dX6_seekSwap_95 : decode cX6_seekSwap 95 = .ok (.invokevirtual 59, 3) := by decide +kernel
theorem dX6_seekSwap_98 : decode cX6_seekSwap 98 = .ok (.istore 4, 2) := by decide +kernel
theorem dX6_seekSwap_100 : decode cX6_seekSwap 100 = .ok (.iload 4, 2) := by decide +kernel
theorem dX6_seekSwap_102 : decode cX6_seekSwap 102 = .ok (.aload_n 0, 1) := by decide +kernel
theorem dX6_seekSwap_103 : decode cX6_seekSwap 103 = .ok (.getfield 15, 3) := by decide +kernel
theorem dX6_seekSwap_106 : decode cX6_seekSwap 106 = .ok (.if_icmp .ge 19, 3) := by decide +kernel
theorem dX6_seekSwap_109 : decode cX6_seekSwap 109 = .ok (.aload_n 0, 1) := by decide +kernel
theorem dX6_seekSwap_110 : decode cX6_seekSwap 110 = .ok (.bipush 10, 2) := by decide +kernel
theorem dX6_seekSwap_112 : decode cX6_seekSwap 112 = .ok (.iload_n 2, 1) := by decide +kernel
theorem dX6_seekSwap_113 : decode cX6_seekSwap 113 = .ok (.imul, 1) := by decide +kernel
theorem dX6_seekSwap_114 : decode cX6_seekSwap 114 = .ok (.iload_n 3, 1) := by decide +kernel
theorem dX6_seekSwap_115 : decode cX6_seekSwap 115 = .ok (.iadd, 1) := by decide +kernel
theorem dX6_seekSwap_116 : decode cX6_seekSwap 116 = .ok (.putfield 9, 3) := by decide +kernel
theorem dX6_seekSwap_119 : decode cX6_seekSwap 119 = .ok (.aload_n 0, 1) := by decide +kernel
theorem dX6_seekSwap_120 : decode cX6_seekSwap 120 = .ok (.iload 4, 2) := by decide +kernel
theorem dX6_seekSwap_122 : decode cX6_seekSwap 122 = .ok (.putfield 15, 3) := by decide +kernel
theorem dX6_seekSwap_125 : decode cX6_seekSwap 125 = .ok (.iinc 3 1, 3) := by decide +kernel
theorem dX6_seekSwap_128 : decode cX6_seekSwap 128 = .ok (.goto (-76), 3) := by decide +kernel
theorem dX6_seekSwap_131 : decode cX6_seekSwap 131 = .ok (.iinc 2 1, 3) := by decide +kernel
theorem dX6_seekSwap_134 : decode cX6_seekSwap 134 = .ok (.goto (-97), 3) := by decide +kernel
theorem dX6_seekSwap_137 : decode cX6_seekSwap 137 = .ok (.return_, 1) := by decide +kernel
theorem dX6_fewestPast_0 : decode cX6_fewestPast 0 = .ok (.iconst 1, 1) := by decide +kernel
theorem dX6_fewestPast_1 : decode cX6_fewestPast 1 = .ok (.aload_n 0, 1) := by decide +kernel
theorem dX6_fewestPast_2 : decode cX6_fewestPast 2 = .ok (.getfield 18, 3) := by decide +kernel
theorem dX6_fewestPast_5 : decode cX6_fewestPast 5 = .ok (.getfield 53, 3) := by decide +kernel
theorem dX6_fewestPast_8 : decode cX6_fewestPast 8 = .ok (.ishl, 1) := by decide +kernel
theorem dX6_fewestPast_9 : decode cX6_fewestPast 9 = .ok (.istore_n 3, 1) := by decide +kernel
theorem dX6_fewestPast_10 : decode cX6_fewestPast 10 = .ok (.iconst 0, 1) := by decide +kernel
theorem dX6_fewestPast_11 : decode cX6_fewestPast 11 = .ok (.istore 4, 2) := by decide +kernel
theorem dX6_fewestPast_13 : decode cX6_fewestPast 13 = .ok (.iload 4, 2) := by decide +kernel
theorem dX6_fewestPast_15 : decode cX6_fewestPast 15 = .ok (.aload_n 0, 1) := by decide +kernel
theorem dX6_fewestPast_16 : decode cX6_fewestPast 16 = .ok (.getfield 18, 3) := by decide +kernel
theorem dX6_fewestPast_19 : decode cX6_fewestPast 19 = .ok (.getfield 53, 3) := by decide +kernel
theorem dX6_fewestPast_22 : decode cX6_fewestPast 22 = .ok (.if_icmp .gt 61, 3) := by decide +kernel
theorem dX6_fewestPast_25 : decode cX6_fewestPast 25 = .ok (.iconst 0, 1) := by decide +kernel
theorem dX6_fewestPast_26 : decode cX6_fewestPast 26 = .ok (.istore 5, 2) := by decide +kernel
theorem dX6_fewestPast_28 : decode cX6_fewestPast 28 = .ok (.iload 5, 2) := by decide +kernel
theorem dX6_fewestPast_30 : decode cX6_fewestPast 30 = .ok (.iload_n 3, 1) := by decide +kernel
theorem dX6_fewestPast_31 : decode cX6_fewestPast 31 = .ok (.if_icmp .ge 46, 3) := by decide +kernel
theorem dX6_fewestPast_34 : decode cX6_fewestPast 34 = .ok (.iload 5, 2) := by decide +kernel
theorem dX6_fewestPast_36 : decode cX6_fewestPast 36 = .ok (.invokestatic 66, 3) := by decide +kernel
theorem dX6_fewestPast_39 : decode cX6_fewestPast 39 = .ok (.iload 4, 2) := by decide +kernel
theorem dX6_fewestPast_41 : decode cX6_fewestPast 41 = .ok (.if_icmp .ne 30, 3) := by decide +kernel
theorem dX6_fewestPast_44 : decode cX6_fewestPast 44 = .ok (.iload 5, 2) := by decide +kernel
theorem dX6_fewestPast_46 : decode cX6_fewestPast 46 = .ok (.aload_n 0, 1) := by decide +kernel
theorem dX6_fewestPast_47 : decode cX6_fewestPast 47 = .ok (.getfield 18, 3) := by decide +kernel
theorem dX6_fewestPast_50 : decode cX6_fewestPast 50 = .ok (.getfield 72, 3) := by decide +kernel
theorem dX6_fewestPast_53 : decode cX6_fewestPast 53 = .ok (.iand, 1) := by decide +kernel
theorem dX6_fewestPast_54 : decode cX6_fewestPast 54 = .ok (.ifCond .ne 17, 3) := by decide +kernel
theorem dX6_fewestPast_57 : decode cX6_fewestPast 57 = .ok (.aload_n 0, 1) := by decide +kernel
theorem dX6_fewestPast_58 : decode cX6_fewestPast 58 = .ok (.iload 5, 2) := by decide +kernel
theorem dX6_fewestPast_60 : decode cX6_fewestPast 60 = .ok (.iload_n 1, 1) := by decide +kernel
theorem dX6_fewestPast_61 : decode cX6_fewestPast 61 = .ok (.invokevirtual 75, 3) := by decide +kernel
theorem dX6_fewestPast_64 : decode cX6_fewestPast 64 = .ok (.iload_n 2, 1) := by decide +kernel
theorem dX6_fewestPast_65 : decode cX6_fewestPast 65 = .ok (.if_icmp .gt 6, 3) := by decide +kernel
theorem dX6_fewestPast_68 : decode cX6_fewestPast 68 = .ok (.iload 5, 2) := by decide +kernel
theorem dX6_fewestPast_70 : decode cX6_fewestPast 70 = .ok (.ireturn, 1) := by decide +kernel
theorem dX6_fewestPast_71 : decode cX6_fewestPast 71 = .ok (.iinc 5 1, 3) := by decide +kernel
theorem dX6_fewestPast_74 : decode cX6_fewestPast 74 = .ok (.goto (-46), 3) := by decide +kernel
theorem dX6_fewestPast_77 : decode cX6_fewestPast 77 = .ok (.iinc 4 1, 3) := by decide +kernel
theorem dX6_fewestPast_80 : decode cX6_fewestPast 80 = .ok (.goto (-67), 3) := by decide +kernel
theorem dX6_fewestPast_83 : decode cX6_fewestPast 83 = .ok (.iconst (-1), 1) := by decide +kernel
theorem dX6_fewestPast_84 : decode cX6_fewestPast 84 = .ok (.ireturn, 1) := by decide +kernel
theorem dX6_viewWithout_0 : decode cX6_viewWithout 0 = .ok (.aload_n 0, 1) := by decide +kernel
theorem dX6_viewWithout_1 : decode cX6_viewWithout 1 = .ok (.getfield 34, 3) := by decide +kernel
theorem dX6_viewWithout_4 : decode cX6_viewWithout 4 = .ok (.aload_n 0, 1) := by decide +kernel
theorem dX6_viewWithout_5 : decode cX6_viewWithout 5 = .ok (.getfield 18, 3) := by decide +kernel
theorem dX6_viewWithout_8 : decode cX6_viewWithout 8 = .ok (.invokevirtual 37, 3) := by decide +kernel
theorem dX6_viewWithout_11 : decode cX6_viewWithout 11 = .ok (.aload_n 0, 1) := by decide +kernel
theorem dX6_viewWithout_12 : decode cX6_viewWithout 12 = .ok (.getfield 34, 3) := by decide +kernel
theorem dX6_viewWithout_15 : decode cX6_viewWithout 15 = .ok (.aload_n 0, 1) := by decide +kernel
theorem dX6_viewWithout_16 : decode cX6_viewWithout 16 = .ok (.getfield 18, 3) := by decide +kernel
theorem dX6_viewWithout_19 : decode cX6_viewWithout 19 = .ok (.getfield 72, 3) := by decide +kernel
theorem dX6_viewWithout_22 : decode cX6_viewWithout 22 = .ok (.iload_n 1, 1) := by decide +kernel
theorem dX6_viewWithout_23 : decode cX6_viewWithout 23 = .ok (.ior, 1) := by decide +kernel
theorem dX6_viewWithout_24 : decode cX6_viewWithout 24 = .ok (.putfield 72, 3) := by decide +kernel
theorem dX6_viewWithout_27 : decode cX6_viewWithout 27 = .ok (.iconst 0, 1) := by decide +kernel
theorem dX6_viewWithout_28 : decode cX6_viewWithout 28 = .ok (.istore_n 3, 1) := by decide +kernel
theorem dX6_viewWithout_29 : decode cX6_viewWithout 29 = .ok (.iload_n 3, 1) := by decide +kernel
theorem dX6_viewWithout_30 : decode cX6_viewWithout 30 = .ok (.iload_n 2, 1) := by decide +kernel
theorem dX6_viewWithout_31 : decode cX6_viewWithout 31 = .ok (.if_icmp .ge 16, 3) := by decide +kernel
theorem dX6_viewWithout_34 : decode cX6_viewWithout 34 = .ok (.aload_n 0, 1) := by decide +kernel
theorem dX6_viewWithout_35 : decode cX6_viewWithout 35 = .ok (.getfield 34, 3) := by decide +kernel
theorem dX6_viewWithout_38 : decode cX6_viewWithout 38 = .ok (.invokevirtual 79, 3) := by decide +kernel
theorem dX6_viewWithout_41 : decode cX6_viewWithout 41 = .ok (.iinc 3 1, 3) := by decide +kernel
theorem dX6_viewWithout_44 : decode cX6_viewWithout 44 = .ok (.goto (-15), 3) := by decide +kernel
theorem dX6_viewWithout_47 : decode cX6_viewWithout 47 = .ok (.aload_n 0, 1) := by decide +kernel
theorem dX6_viewWithout_48 : decode cX6_viewWithout 48 = .ok (.getfield 34, 3) := by decide +kernel
theorem dX6_viewWithout_51 : decode cX6_viewWithout 51 = .ok (.getfield 82, 3) := by decide +kernel
theorem dX6_viewWithout_54 : decode cX6_viewWithout 54 = .ok (.ireturn, 1) := by decide +kernel
theorem dX6_likelyViews_0 : decode cX6_likelyViews 0 = .ok (.iconst 0, 1) := by decide +kernel
theorem dX6_likelyViews_1 : decode cX6_likelyViews 1 = .ok (.istore 4, 2) := by decide +kernel
theorem dX6_likelyViews_3 : decode cX6_likelyViews 3 = .ok (.iconst 0, 1) := by decide +kernel
theorem dX6_likelyViews_4 : decode cX6_likelyViews 4 = .ok (.istore 5, 2) := by decide +kernel
theorem dX6_likelyViews_6 : decode cX6_likelyViews 6 = .ok (.iload 5, 2) := by decide +kernel
theorem dX6_likelyViews_8 : decode cX6_likelyViews 8 = .ok (.bipush 99, 2) := by decide +kernel
theorem dX6_likelyViews_10 : decode cX6_likelyViews 10 = .ok (.if_icmp .gt 54, 3) := by decide +kernel
theorem dX6_likelyViews_13 : decode cX6_likelyViews 13 = .ok (.aload_n 0, 1) := by decide +kernel
theorem dX6_likelyViews_14 : decode cX6_likelyViews 14 = .ok (.getfield 34, 3) := by decide +kernel
theorem dX6_likelyViews_17 : decode cX6_likelyViews 17 = .ok (.aload_n 0, 1) := by decide +kernel
theorem dX6_likelyViews_18 : decode cX6_likelyViews 18 = .ok (.getfield 18, 3) := by decide +kernel
theorem dX6_likelyViews_21 : decode cX6_likelyViews 21 = .ok (.invokevirtual 37, 3) := by decide +kernel
theorem dX6_likelyViews_24 : decode cX6_likelyViews 24 = .ok (.aload_n 0, 1) := by decide +kernel
theorem dX6_likelyViews_25 : decode cX6_likelyViews 25 = .ok (.getfield 34, 3) := by decide +kernel
theorem dX6_likelyViews_28 : decode cX6_likelyViews 28 = .ok (.iload 5, 2) := by decide +kernel
theorem dX6_likelyViews_30 : decode cX6_likelyViews 30 = .ok (.putfield 82, 3) := by decide +kernel
theorem dX6_likelyViews_33 : decode cX6_likelyViews 33 = .ok (.aload_n 0, 1) := by decide +kernel
theorem dX6_likelyViews_34 : decode cX6_likelyViews 34 = .ok (.getfield 34, 3) := by decide +kernel
theorem dX6_likelyViews_37 : decode cX6_likelyViews 37 = .ok (.iload_n 1, 1) := by decide +kernel
theorem dX6_likelyViews_38 : decode cX6_likelyViews 38 = .ok (.iload_n 3, 1) := by decide +kernel
theorem dX6_likelyViews_39 : decode cX6_likelyViews 39 = .ok (.invokevirtual 49, 3) := by decide +kernel
theorem dX6_likelyViews_42 : decode cX6_likelyViews 42 = .ok (.aload_n 0, 1) := by decide +kernel
theorem dX6_likelyViews_43 : decode cX6_likelyViews 43 = .ok (.getfield 34, 3) := by decide +kernel
theorem dX6_likelyViews_46 : decode cX6_likelyViews 46 = .ok (.getfield 45, 3) := by decide +kernel
theorem dX6_likelyViews_49 : decode cX6_likelyViews 49 = .ok (.iload_n 1, 1) := by decide +kernel
theorem dX6_likelyViews_50 : decode cX6_likelyViews 50 = .ok (.iaload, 1) := by decide +kernel
theorem dX6_likelyViews_51 : decode cX6_likelyViews 51 = .ok (.iload_n 2, 1) := by decide +kernel
theorem dX6_likelyViews_52 : decode cX6_likelyViews 52 = .ok (.if_icmp .lt 6, 3) := by decide +kernel
theorem dX6_likelyViews_55 : decode cX6_likelyViews 55 = .ok (.iinc 4 1, 3) := by decide +kernel
theorem dX6_likelyViews_58 : decode cX6_likelyViews 58 = .ok (.iinc 5 1, 3) := by decide +kernel
theorem dX6_likelyViews_61 : decode cX6_likelyViews 61 = .ok (.goto (-55), 3) := by decide +kernel
theorem dX6_likelyViews_64 : decode cX6_likelyViews 64 = .ok (.iload 4, 2) := by decide +kernel
theorem dX6_likelyViews_66 : decode cX6_likelyViews 66 = .ok (.ireturn, 1) := by decide +kernel
theorem dX6_placesThatFit_0 : decode cX6_placesThatFit 0 = .ok (.iconst 0, 1) := by decide +kernel
theorem dX6_placesThatFit_1 : decode cX6_placesThatFit 1 = .ok (.istore_n 2, 1) := by decide +kernel
theorem dX6_placesThatFit_2 : decode cX6_placesThatFit 2 = .ok (.iconst 0, 1) := by decide +kernel
theorem dX6_placesThatFit_3 : decode cX6_placesThatFit 3 = .ok (.istore_n 3, 1) := by decide +kernel
theorem dX6_placesThatFit_4 : decode cX6_placesThatFit 4 = .ok (.iload_n 3, 1) := by decide +kernel
theorem dX6_placesThatFit_5 : decode cX6_placesThatFit 5 = .ok (.aload_n 0, 1) := by decide +kernel
theorem dX6_placesThatFit_6 : decode cX6_placesThatFit 6 = .ok (.getfield 18, 3) := by decide +kernel
theorem dX6_placesThatFit_9 : decode cX6_placesThatFit 9 = .ok (.getfield 53, 3) := by decide +kernel
theorem dX6_placesThatFit_12 : decode cX6_placesThatFit 12 = .ok (.if_icmp .ge 24, 3) := by decide +kernel
theorem dX6_placesThatFit_15 : decode cX6_placesThatFit 15 = .ok (.aload_n 0, 1) := by decide +kernel
theorem dX6_placesThatFit_16 : decode cX6_placesThatFit 16 = .ok (.iload_n 3, 1) := by decide +kernel
theorem dX6_placesThatFit_17 : decode cX6_placesThatFit 17 = .ok (.aload_n 1, 1) := by decide +kernel
theorem dX6_placesThatFit_18 : decode cX6_placesThatFit 18 = .ok (.invokevirtual 85, 3) := by decide +kernel
theorem dX6_placesThatFit_21 : decode cX6_placesThatFit 21 = .ok (.ifCond .eq 9, 3) := by decide +kernel
theorem dX6_placesThatFit_24 : decode cX6_placesThatFit 24 = .ok (.iload_n 2, 1) := by decide +kernel
theorem dX6_placesThatFit_25 : decode cX6_placesThatFit 25 = .ok (.iconst 1, 1) := by decide +kernel
theorem dX6_placesThatFit_26 : decode cX6_placesThatFit 26 = .ok (.iload_n 3, 1) := by decide +kernel
theorem dX6_placesThatFit_27 : decode cX6_placesThatFit 27 = .ok (.ishl, 1) := by decide +kernel
theorem dX6_placesThatFit_28 : decode cX6_placesThatFit 28 = .ok (.ior, 1) := by decide +kernel
theorem dX6_placesThatFit_29 : decode cX6_placesThatFit 29 = .ok (.istore_n 2, 1) := by decide +kernel
theorem dX6_placesThatFit_30 : decode cX6_placesThatFit 30 = .ok (.iinc 3 1, 3) := by decide +kernel
theorem dX6_placesThatFit_33 : decode cX6_placesThatFit 33 = .ok (.goto (-29), 3) := by decide +kernel
theorem dX6_placesThatFit_36 : decode cX6_placesThatFit 36 = .ok (.iload_n 2, 1) := by decide +kernel
theorem dX6_placesThatFit_37 : decode cX6_placesThatFit 37 = .ok (.ireturn, 1) := by decide +kernel
theorem dX6_isFitting_0 : decode cX6_isFitting 0 = .ok (.aload_n 0, 1) := by decide +kernel
theorem dX6_isFitting_1 : decode cX6_isFitting 1 = .ok (.getfield 34, 3) := by decide +kernel
theorem dX6_isFitting_4 : decode cX6_isFitting 4 = .ok (.aload_n 0, 1) := by decide +kernel
theorem dX6_isFitting_5 : decode cX6_isFitting 5 = .ok (.getfield 18, 3) := by decide +kernel
theorem dX6_isFitting_8 : decode cX6_isFitting 8 = .ok (.invokevirtual 37, 3) := by decide +kernel
theorem dX6_isFitting_11 : decode cX6_isFitting 11 = .ok (.aload_n 0, 1) := by decide +kernel
theorem dX6_isFitting_12 : decode cX6_isFitting 12 = .ok (.getfield 34, 3) := by decide +kernel
theorem dX6_isFitting_15 : decode cX6_isFitting 15 = .ok (.iload_n 1, 1) := by decide +kernel
theorem dX6_isFitting_16 : decode cX6_isFitting 16 = .ok (.putfield 56, 3) := by decide +kernel
theorem dX6_isFitting_19 : decode cX6_isFitting 19 = .ok (.iconst 0, 1) := by decide +kernel
theorem dX6_isFitting_20 : decode cX6_isFitting 20 = .ok (.istore_n 3, 1) := by decide +kernel
theorem dX6_isFitting_21 : decode cX6_isFitting 21 = .ok (.iload_n 3, 1) := by decide +kernel
theorem dX6_isFitting_22 : decode cX6_isFitting 22 = .ok (.aload_n 2, 1) := by decide +kernel
theorem dX6_isFitting_23 : decode cX6_isFitting 23 = .ok (.getfield 89, 3) := by decide +kernel
theorem dX6_isFitting_26 : decode cX6_isFitting 26 = .ok (.if_icmp .ge 34, 3) := by decide +kernel
theorem dX6_isFitting_29 : decode cX6_isFitting 29 = .ok (.aload_n 0, 1) := by decide +kernel
theorem dX6_isFitting_30 : decode cX6_isFitting 30 = .ok (.getfield 34, 3) := by decide +kernel
theorem dX6_isFitting_33 : decode cX6_isFitting 33 = .ok (.getfield 82, 3) := by decide +kernel
theorem dX6_isFitting_36 : decode cX6_isFitting 36 = .ok (.aload_n 2, 1) := by decide +kernel
theorem dX6_isFitting_37 : decode cX6_isFitting 37 = .ok (.getfield 94, 3) := by decide +kernel
theorem dX6_isFitting_40 : decode cX6_isFitting 40 = .ok (.iload_n 3, 1) := by decide +kernel
theorem dX6_isFitting_41 : decode cX6_isFitting 41 = .ok (.iaload, 1) := by decide +kernel
theorem dX6_isFitting_42 : decode cX6_isFitting 42 = .ok (.if_icmp .eq 5, 3) := by decide +kernel
theorem dX6_isFitting_45 : decode cX6_isFitting 45 = .ok (.iconst 0, 1) := by decide +kernel
theorem dX6_isFitting_46 : decode cX6_isFitting 46 = .ok (.ireturn, 1) := by decide +kernel
theorem dX6_isFitting_47 : decode cX6_isFitting 47 = .ok (.aload_n 0, 1) := by decide +kernel
theorem dX6_isFitting_48 : decode cX6_isFitting 48 = .ok (.getfield 34, 3) := by decide +kernel
theorem dX6_isFitting_51 : decode cX6_isFitting 51 = .ok (.invokevirtual 79, 3) := by decide +kernel
theorem dX6_isFitting_54 : decode cX6_isFitting 54 = .ok (.iinc 3 1, 3) := by decide +kernel
theorem dX6_isFitting_57 : decode cX6_isFitting 57 = .ok (.goto (-36), 3) := by decide +kernel
theorem dX6_isFitting_60 : decode cX6_isFitting 60 = .ok (.iconst 1, 1) := by decide +kernel
theorem dX6_isFitting_61 : decode cX6_isFitting 61 = .ok (.ireturn, 1) := by decide +kernel
theorem dX7_init_0 : decode cX7_init 0 = .ok (.aload_n 0, 1) := by decide +kernel
theorem dX7_init_1 : decode cX7_init 1 = .ok (.invokespecial 3, 3) := by decide +kernel
theorem dX7_init_4 : decode cX7_init 4 = .ok (.aload_n 0, 1) := by decide +kernel
theorem dX7_init_5 : decode cX7_init 5 = .ok (.new 9, 3) := by decide +kernel
theorem dX7_init_8 : decode cX7_init 8 = .ok (.dup, 1) := by decide +kernel
theorem dX7_init_9 : decode cX7_init 9 = .ok (.bipush 30, 2) := by decide +kernel
theorem dX7_init_11 : decode cX7_init 11 = .ok (.invokespecial 11, 3) := by decide +kernel
theorem dX7_init_14 : decode cX7_init 14 = .ok (.putfield 14, 3) := by decide +kernel
theorem dX7_init_17 : decode cX7_init 17 = .ok (.aload_n 0, 1) := by decide +kernel
theorem dX7_init_18 : decode cX7_init 18 = .ok (.iconst 0, 1) := by decide +kernel
theorem dX7_init_19 : decode cX7_init 19 = .ok (.putfield 20, 3) := by decide +kernel
theorem dX7_init_22 : decode cX7_init 22 = .ok (.aload_n 0, 1) := by decide +kernel
theorem dX7_init_23 : decode cX7_init 23 = .ok (.iconst 0, 1) := by decide +kernel
theorem dX7_init_24 : decode cX7_init 24 = .ok (.putfield 24, 3) := by decide +kernel
theorem dX7_init_27 : decode cX7_init 27 = .ok (.aload_n 0, 1) := by decide +kernel
theorem dX7_init_28 : decode cX7_init 28 = .ok (.iconst 0, 1) := by decide +kernel
theorem dX7_init_29 : decode cX7_init 29 = .ok (.putfield 28, 3) := by decide +kernel
theorem dX7_init_32 : decode cX7_init 32 = .ok (.aload_n 0, 1) := by decide +kernel
theorem dX7_init_33 : decode cX7_init 33 = .ok (.iconst 0, 1) := by decide +kernel
theorem dX7_init_34 : decode cX7_init 34 = .ok (.putfield 31, 3) := by decide +kernel
theorem dX7_init_37 : decode cX7_init 37 = .ok (.return_, 1) := by decide +kernel
theorem dX7_answer_0 : decode cX7_answer 0 = .ok (.aload_n 0, 1) := by decide +kernel
theorem dX7_answer_1 : decode cX7_answer 1 = .ok (.getfield 14, 3) := by decide +kernel
theorem dX7_answer_4 : decode cX7_answer 4 = .ok (.invokevirtual 34, 3) := by decide +kernel
theorem dX7_answer_7 : decode cX7_answer 7 = .ok (.aload_n 0, 1) := by decide +kernel
theorem dX7_answer_8 : decode cX7_answer 8 = .ok (.iconst 0, 1) := by decide +kernel
theorem dX7_answer_9 : decode cX7_answer 9 = .ok (.putfield 20, 3) := by decide +kernel
theorem dX7_answer_12 : decode cX7_answer 12 = .ok (.aload_n 0, 1) := by decide +kernel
theorem dX7_answer_13 : decode cX7_answer 13 = .ok (.aload_n 1, 1) := by decide +kernel
theorem dX7_answer_14 : decode cX7_answer 14 = .ok (.getfield 37, 3) := by decide +kernel
theorem dX7_answer_17 : decode cX7_answer 17 = .ok (.iload_n 2, 1) := by decide +kernel
theorem dX7_answer_18 : decode cX7_answer 18 = .ok (.iaload, 1) := by decide +kernel
theorem dX7_answer_19 : decode cX7_answer 19 = .ok (.putfield 24, 3) := by decide +kernel
theorem dX7_answer_22 : decode cX7_answer 22 = .ok (.aload_n 0, 1) := by decide +kernel
theorem dX7_answer_23 : decode cX7_answer 23 = .ok (.iload_n 2, 1) := by decide +kernel
theorem dX7_answer_24 : decode cX7_answer 24 = .ok (.putfield 28, 3) := by decide +kernel
theorem dX7_answer_27 : decode cX7_answer 27 = .ok (.aload_n 0, 1) := by decide +kernel
theorem dX7_answer_28 : decode cX7_answer 28 = .ok (.aload_n 1, 1) := by decide +kernel
theorem dX7_answer_29 : decode cX7_answer 29 = .ok (.getfield 43, 3) := by decide +kernel
theorem dX7_answer_32 : decode cX7_answer 32 = .ok (.iload_n 2, 1) := by decide +kernel
theorem dX7_answer_33 : decode cX7_answer 33 = .ok (.iaload, 1) := by decide +kernel
theorem dX7_answer_34 : decode cX7_answer 34 = .ok (.putfield 31, 3) := by decide +kernel
theorem dX7_answer_37 : decode cX7_answer 37 = .ok (.aload_n 0, 1) := by decide +kernel
theorem dX7_answer_38 : decode cX7_answer 38 = .ok (.iload_n 3, 1) := by decide +kernel
theorem dX7_answer_39 : decode cX7_answer 39 = .ok (.aload_n 0, 1) := by decide +kernel
theorem dX7_answer_40 : decode cX7_answer 40 = .ok (.getfield 24, 3) := by decide +kernel
theorem dX7_answer_43 : decode cX7_answer 43 = .ok (.iload 4, 2) := by decide +kernel
theorem dX7_answer_45 : decode cX7_answer 45 = .ok (.iconst 0, 1) := by decide +kernel
theorem dX7_answer_46 : decode cX7_answer 46 = .ok (.invokevirtual 46, 3) := by decide +kernel
theorem dX7_answer_49 : decode cX7_answer 49 = .ok (.ireturn, 1) := by decide +kernel
theorem dX7_speak_0 : decode cX7_speak 0 = .ok (.aload_n 0, 1) := by decide +kernel
theorem dX7_speak_1 : decode cX7_speak 1 = .ok (.getfield 20, 3) := by decide +kernel
theorem dX7_speak_4 : decode cX7_speak 4 = .ok (.ifCond .ne 10, 3) := by decide +kernel
theorem dX7_speak_7 : decode cX7_speak 7 = .ok (.iload 4, 2) := by decide +kernel
theorem dX7_speak_9 : decode cX7_speak 9 = .ok (.bipush 10, 2) := by decide +kernel
theorem dX7_speak_11 : decode cX7_speak 11 = .ok (.if_icmp .le 5, 3) := by decide +kernel
theorem dX7_speak_14 : decode cX7_speak 14 = .ok (.iconst 0, 1) := by decide +kernel
theorem dX7_speak_15 : decode cX7_speak 15 = .ok (.ireturn, 1) := by decide +kernel
theorem dX7_speak_16 : decode cX7_speak 16 = .ok (.iload_n 1, 1) := by decide +kernel
theorem dX7_speak_17 : decode cX7_speak 17 = .ok (.iload_n 2, 1) := by decide +kernel
theorem dX7_speak_18 : decode cX7_speak 18 = .ok (.invokestatic 50, 3) := by decide +kernel
theorem dX7_speak_21 : decode cX7_speak 21 = .ok (.istore 5, 2) := by decide +kernel
theorem dX7_speak_23 : decode cX7_speak 23 = .ok (.getstatic 54, 3) := by decide +kernel
theorem dX7_speak_26 : decode cX7_speak 26 = .ok (.iconst 4, 1) := by decide +kernel
theorem dX7_speak_27 : decode cX7_speak 27 = .ok (.iload 5, 2) := by decide +kernel
theorem dX7_speak_29 : decode cX7_speak 29 = .ok (.imul, 1) := by decide +kernel
theorem dX7_speak_30 : decode cX7_speak 30 = .ok (.iload_n 1, 1) := by decide +kernel
theorem dX7_speak_31 : decode cX7_speak 31 = .ok (.iadd, 1) := by decide +kernel
theorem dX7_speak_32 : decode cX7_speak 32 = .ok (.iaload, 1) := by decide +kernel
theorem dX7_speak_33 : decode cX7_speak 33 = .ok (.istore 6, 2) := by decide +kernel
theorem dX7_speak_35 : decode cX7_speak 35 = .ok (.getstatic 57, 3) := by decide +kernel
theorem dX7_speak_38 : decode cX7_speak 38 = .ok (.iload 5, 2) := by decide +kernel
theorem dX7_speak_40 : decode cX7_speak 40 = .ok (.iaload, 1) := by decide +kernel
theorem dX7_speak_41 : decode cX7_speak 41 = .ok (.istore 7, 2) := by decide +kernel
theorem dX7_speak_43 : decode cX7_speak 43 = .ok (.iload 4, 2) := by decide +kernel
theorem dX7_speak_45 : decode cX7_speak 45 = .ok (.iconst 1, 1) := by decide +kernel
theorem dX7_speak_46 : decode cX7_speak 46 = .ok (.iadd, 1) := by decide +kernel
theorem dX7_speak_47 : decode cX7_speak 47 = .ok (.istore 8, 2) := by decide +kernel
theorem dX7_speak_49 : decode cX7_speak 49 = .ok (.aload_n 0, 1) := by decide +kernel
theorem dX7_speak_50 : decode cX7_speak 50 = .ok (.getfield 14, 3) := by decide +kernel
theorem dX7_speak_53 : decode cX7_speak 53 = .ok (.iload 6, 2) := by decide +kernel
theorem dX7_speak_55 : decode cX7_speak 55 = .ok (.invokevirtual 60, 3) := by decide +kernel
theorem dX7_speak_58 : decode cX7_speak 58 = .ok (.iload 6, 2) := by decide +kernel
theorem dX7_speak_60 : decode cX7_speak 60 = .ok (.lookupswitch 286 #[(10, 116), (11, 123), (12, 138), (13, 156), (20, 162), (21, 175), (30, 199), (40, 212), (50, 225), (51, 238), (60, 254), (70, 267), (71, 270)], 116) := by decide +kernel
theorem dX7_speak_176 : decode cX7_speak 176 = .ok (.iload_n 3, 1) := by decide +kernel
theorem dX7_speak_177 : decode cX7_speak 177 = .ok (.aload_n 0, 1) := by decide +kernel
theorem dX7_speak_178 : decode cX7_speak 178 = .ok (.getfield 28, 3) := by decide +kernel
theorem dX7_speak_181 : decode cX7_speak 181 = .ok (.iadd, 1) := by decide +kernel
theorem dX7_speak_182 : decode cX7_speak 182 = .ok (.ireturn, 1) := by decide +kernel
theorem dX7_speak_183 : decode cX7_speak 183 = .ok (.aload_n 0, 1) := by decide +kernel
theorem dX7_speak_184 : decode cX7_speak 184 = .ok (.iconst 0, 1) := by decide +kernel
theorem dX7_speak_185 : decode cX7_speak 185 = .ok (.aload_n 0, 1) := by decide +kernel
theorem dX7_speak_186 : decode cX7_speak 186 = .ok (.getfield 24, 3) := by decide +kernel
theorem dX7_speak_189 : decode cX7_speak 189 = .ok (.iload_n 3, 1) := by decide +kernel
theorem dX7_speak_190 : decode cX7_speak 190 = .ok (.iload 8, 2) := by decide +kernel
theorem dX7_speak_192 : decode cX7_speak 192 = .ok (.invokevirtual 46, 3) := by decide +kernel
theorem dX7_speak_195 : decode cX7_speak 195 = .ok (.iconst 2, 1) := by decide +kernel
theorem dX7_speak_196 : decode cX7_speak 196 = .ok (.imul, 1) := by decide +kernel
theorem dX7_speak_197 : decode cX7_speak 197 = .ok (.ireturn, 1) := by decide +kernel
theorem dX7_speak_198 : decode cX7_speak 198 = .ok (.aload_n 0, 1) := by decide +kernel
theorem dX7_speak_199 : decode cX7_speak 199 = .ok (.iconst 1, 1) := by decide +kernel
theorem dX7_speak_200 : decode cX7_speak 200 = .ok (.aload_n 0, 1) := by decide +kernel
theorem dX7_speak_201 : decode cX7_speak 201 = .ok (.getfield 24, 3) := by decide +kernel
theorem dX7_speak_204 : decode cX7_speak 204 = .ok (.iload_n 3, 1) := by decide +kernel
theorem dX7_speak_205 : decode cX7_speak 205 = .ok (.iload 8, 2) := by decide +kernel
theorem dX7_speak_207 : decode cX7_speak 207 = .ok (.invokevirtual 46, 3) := by decide +kernel
theorem dX7_speak_210 : decode cX7_speak 210 = .ok (.aload_n 0, 1) := by decide +kernel
theorem dX7_speak_211 : decode cX7_speak 211 = .ok (.getfield 31, 3) := by decide +kernel
theorem dX7_speak_214 : decode cX7_speak 214 = .ok (.isub, 1) := by decide +kernel
theorem dX7_speak_215 : decode cX7_speak 215 = .ok (.ireturn, 1) := by decide +kernel
theorem dX7_speak_216 : decode cX7_speak 216 = .ok (.aload_n 0, 1) := by decide +kernel
theorem dX7_speak_217 : decode cX7_speak 217 = .ok (.iload_n 3, 1) := by decide +kernel
theorem dX7_speak_218 : decode cX7_speak 218 = .ok (.invokevirtual 63, 3) := by decide +kernel
theorem dX7_speak_221 : decode cX7_speak 221 = .ok (.ireturn, 1) := by decide +kernel
theorem dX7_speak_222 : decode cX7_speak 222 = .ok (.aload_n 0, 1) := by decide +kernel
theorem dX7_speak_223 : decode cX7_speak 223 = .ok (.iconst 0, 1) := by decide +kernel
theorem dX7_speak_224 : decode cX7_speak 224 = .ok (.iload 7, 2) := by decide +kernel
theorem dX7_speak_226 : decode cX7_speak 226 = .ok (.iload_n 3, 1) := by decide +kernel
theorem dX7_speak_227 : decode cX7_speak 227 = .ok (.iload 8, 2) := by decide +kernel
theorem dX7_speak_229 : decode cX7_speak 229 = .ok (.invokevirtual 46, 3) := by decide +kernel
theorem dX7_speak_232 : decode cX7_speak 232 = .ok (.iconst 4, 1) := by decide +kernel
theorem dX7_speak_233 : decode cX7_speak 233 = .ok (.isub, 1) := by decide +kernel
theorem dX7_speak_234 : decode cX7_speak 234 = .ok (.ireturn, 1) := by decide +kernel
theorem dX7_speak_235 : decode cX7_speak 235 = .ok (.aload_n 0, 1) := by decide +kernel
theorem dX7_speak_236 : decode cX7_speak 236 = .ok (.iconst 3, 1) := by decide +kernel
theorem dX7_speak_237 : decode cX7_speak 237 = .ok (.iload 7, 2) := by decide +kernel
theorem dX7_speak_239 : decode cX7_speak 239 = .ok (.iload_n 3, 1) := by decide +kernel
theorem dX7_speak_240 : decode cX7_speak 240 = .ok (.iload 8, 2) := by decide +kernel
theorem dX7_speak_242 : decode cX7_speak 242 = .ok (.invokevirtual 46, 3) := by decide +kernel
theorem dX7_speak_245 : decode cX7_speak 245 = .ok (.aload_n 0, 1) := by decide +kernel
theorem dX7_speak_246 : decode cX7_speak 246 = .ok (.iconst 1, 1) := by decide +kernel
theorem dX7_speak_247 : decode cX7_speak 247 = .ok (.aload_n 0, 1) := by decide +kernel
theorem dX7_speak_248 : decode cX7_speak 248 = .ok (.getfield 24, 3) := by decide +kernel
theorem dX7_speak_251 : decode cX7_speak 251 = .ok (.iconst 1, 1) := by decide +kernel
theorem dX7_speak_252 : decode cX7_speak 252 = .ok (.iload 8, 2) := by decide +kernel
theorem dX7_speak_254 : decode cX7_speak 254 = .ok (.invokevirtual 46, 3) := by decide +kernel
theorem dX7_speak_257 : decode cX7_speak 257 = .ok (.iadd, 1) := by decide +kernel
theorem dX7_speak_258 : decode cX7_speak 258 = .ok (.ireturn, 1) := by decide +kernel
theorem dX7_speak_259 : decode cX7_speak 259 = .ok (.iconst 0, 1) := by decide +kernel
theorem dX7_speak_260 : decode cX7_speak 260 = .ok (.aload_n 0, 1) := by decide +kernel
theorem dX7_speak_261 : decode cX7_speak 261 = .ok (.iconst 1, 1) := by decide +kernel
theorem dX7_speak_262 : decode cX7_speak 262 = .ok (.iload 7, 2) := by decide +kernel
theorem dX7_speak_264 : decode cX7_speak 264 = .ok (.iload_n 3, 1) := by decide +kernel
theorem dX7_speak_265 : decode cX7_speak 265 = .ok (.iload 8, 2) := by decide +kernel
theorem dX7_speak_267 : decode cX7_speak 267 = .ok (.invokevirtual 46, 3) := by decide +kernel
theorem dX7_speak_270 : decode cX7_speak 270 = .ok (.isub, 1) := by decide +kernel
theorem dX7_speak_271 : decode cX7_speak 271 = .ok (.ireturn, 1) := by decide +kernel
theorem dX7_speak_272 : decode cX7_speak 272 = .ok (.aload_n 0, 1) := by decide +kernel
theorem dX7_speak_273 : decode cX7_speak 273 = .ok (.iconst 2, 1) := by decide +kernel
theorem dX7_speak_274 : decode cX7_speak 274 = .ok (.iload 7, 2) := by decide +kernel
theorem dX7_speak_276 : decode cX7_speak 276 = .ok (.iload_n 3, 1) := by decide +kernel
theorem dX7_speak_277 : decode cX7_speak 277 = .ok (.iconst 2, 1) := by decide +kernel
theorem dX7_speak_278 : decode cX7_speak 278 = .ok (.idiv, 1) := by decide +kernel
theorem dX7_speak_279 : decode cX7_speak 279 = .ok (.iload 8, 2) := by decide +kernel
theorem dX7_speak_281 : decode cX7_speak 281 = .ok (.invokevirtual 46, 3) := by decide +kernel
theorem dX7_speak_284 : decode cX7_speak 284 = .ok (.ireturn, 1) := by decide +kernel
theorem dX7_speak_285 : decode cX7_speak 285 = .ok (.aload_n 0, 1) := by decide +kernel
theorem dX7_speak_286 : decode cX7_speak 286 = .ok (.iconst 0, 1) := by decide +kernel
theorem dX7_speak_287 : decode cX7_speak 287 = .ok (.iload 7, 2) := by decide +kernel
theorem dX7_speak_289 : decode cX7_speak 289 = .ok (.iload_n 3, 1) := by decide +kernel
theorem dX7_speak_290 : decode cX7_speak 290 = .ok (.iload 8, 2) := by decide +kernel
theorem dX7_speak_292 : decode cX7_speak 292 = .ok (.invokevirtual 46, 3) := by decide +kernel
theorem dX7_speak_295 : decode cX7_speak 295 = .ok (.iconst 3, 1) := by decide +kernel
theorem dX7_speak_296 : decode cX7_speak 296 = .ok (.imul, 1) := by decide +kernel
theorem dX7_speak_297 : decode cX7_speak 297 = .ok (.ireturn, 1) := by decide +kernel
theorem dX7_speak_298 : decode cX7_speak 298 = .ok (.aload_n 0, 1) := by decide +kernel
theorem dX7_speak_299 : decode cX7_speak 299 = .ok (.iconst 2, 1) := by decide +kernel
theorem dX7_speak_300 : decode cX7_speak 300 = .ok (.iload 7, 2) := by decide +kernel
theorem dX7_speak_302 : decode cX7_speak 302 = .ok (.iload_n 3, 1) := by decide +kernel
theorem dX7_speak_303 : decode cX7_speak 303 = .ok (.iload 8, 2) := by decide +kernel
theorem dX7_speak_305 : decode cX7_speak 305 = .ok (.invokevirtual 46, 3) := by decide +kernel
theorem dX7_speak_308 : decode cX7_speak 308 = .ok (.aload_n 0, 1) := by decide +kernel
theorem dX7_speak_309 : decode cX7_speak 309 = .ok (.getfield 28, 3) := by decide +kernel
theorem dX7_speak_312 : decode cX7_speak 312 = .ok (.ixor, 1) := by decide +kernel
theorem dX7_speak_313 : decode cX7_speak 313 = .ok (.ireturn, 1) := by decide +kernel
theorem dX7_speak_314 : decode cX7_speak 314 = .ok (.aload_n 0, 1) := by decide +kernel
theorem dX7_speak_315 : decode cX7_speak 315 = .ok (.iconst 1, 1) := by decide +kernel
theorem dX7_speak_316 : decode cX7_speak 316 = .ok (.iload 7, 2) := by decide +kernel
theorem dX7_speak_318 : decode cX7_speak 318 = .ok (.iload_n 3, 1) := by decide +kernel
theorem dX7_speak_319 : decode cX7_speak 319 = .ok (.iconst 1, 1) := by decide +kernel
theorem dX7_speak_320 : decode cX7_speak 320 = .ok (.iadd, 1) := by decide +kernel
theorem dX7_speak_321 : decode cX7_speak 321 = .ok (.iload 8, 2) := by decide +kernel
theorem dX7_speak_323 : decode cX7_speak 323 = .ok (.invokevirtual 46, 3) := by decide +kernel
theorem dX7_speak_326 : decode cX7_speak 326 = .ok (.ireturn, 1) := by decide +kernel
theorem dX7_speak_327 : decode cX7_speak 327 = .ok (.bipush 9, 2) := by decide +kernel
theorem dX7_speak_329 : decode cX7_speak 329 = .ok (.ireturn, 1) := by decide +kernel
theorem dX7_speak_330 : decode cX7_speak 330 = .ok (.aload_n 0, 1) := by decide +kernel
theorem dX7_speak_331 : decode cX7_speak 331 = .ok (.iconst 1, 1) := by decide +kernel
theorem dX7_speak_332 : decode cX7_speak 332 = .ok (.iload 7, 2) := by decide +kernel
theorem dX7_speak_334 : decode cX7_speak 334 = .ok (.iload_n 3, 1) := by decide +kernel
theorem dX7_speak_335 : decode cX7_speak 335 = .ok (.iload 8, 2) := by decide +kernel
theorem dX7_speak_337 : decode cX7_speak 337 = .ok (.invokevirtual 46, 3) := by decide +kernel
theorem dX7_speak_340 : decode cX7_speak 340 = .ok (.aload_n 0, 1) := by decide +kernel
theorem dX7_speak_341 : decode cX7_speak 341 = .ok (.getfield 31, 3) := by decide +kernel
theorem dX7_speak_344 : decode cX7_speak 344 = .ok (.iadd, 1) := by decide +kernel
theorem dX7_speak_345 : decode cX7_speak 345 = .ok (.ireturn, 1) := by decide +kernel
theorem dX7_speak_346 : decode cX7_speak 346 = .ok (.iconst 0, 1) := by decide +kernel
theorem dX7_speak_347 : decode cX7_speak 347 = .ok (.ireturn, 1) := by decide +kernel
theorem dX7_ownerOf_0 : decode cX7_ownerOf 0 = .ok (.iload_n 1, 1) := by decide +kernel
theorem dX7_ownerOf_1 : decode cX7_ownerOf 1 = .ok (.istore_n 2, 1) := by decide +kernel
theorem dX7_ownerOf_2 : decode cX7_ownerOf 2 = .ok (.iconst 0, 1) := by decide +kernel
theorem dX7_ownerOf_3 : decode cX7_ownerOf 3 = .ok (.istore_n 3, 1) := by decide +kernel
theorem dX7_ownerOf_4 : decode cX7_ownerOf 4 = .ok (.iload_n 3, 1) := by decide +kernel
theorem dX7_ownerOf_5 : decode cX7_ownerOf 5 = .ok (.iconst 2, 1) := by decide +kernel
theorem dX7_ownerOf_6 : decode cX7_ownerOf 6 = .ok (.if_icmp .ge 27, 3) := by decide +kernel
theorem dX7_ownerOf_9 : decode cX7_ownerOf 9 = .ok (.getstatic 54, 3) := by decide +kernel
theorem dX7_ownerOf_12 : decode cX7_ownerOf 12 = .ok (.iconst 4, 1) := by decide +kernel
theorem dX7_ownerOf_13 : decode cX7_ownerOf 13 = .ok (.iload_n 2, 1) := by decide +kernel
theorem dX7_ownerOf_14 : decode cX7_ownerOf 14 = .ok (.imul, 1) := by decide +kernel
theorem dX7_ownerOf_15 : decode cX7_ownerOf 15 = .ok (.iload_n 0, 1) := by decide +kernel
theorem dX7_ownerOf_16 : decode cX7_ownerOf 16 = .ok (.iadd, 1) := by decide +kernel
theorem dX7_ownerOf_17 : decode cX7_ownerOf 17 = .ok (.iaload, 1) := by decide +kernel
theorem dX7_ownerOf_18 : decode cX7_ownerOf 18 = .ok (.ifCond .ne 15, 3) := by decide +kernel
theorem dX7_ownerOf_21 : decode cX7_ownerOf 21 = .ok (.getstatic 57, 3) := by decide +kernel
theorem dX7_ownerOf_24 : decode cX7_ownerOf 24 = .ok (.iload_n 2, 1) := by decide +kernel
theorem dX7_ownerOf_25 : decode cX7_ownerOf 25 = .ok (.iaload, 1) := by decide +kernel
theorem dX7_ownerOf_26 : decode cX7_ownerOf 26 = .ok (.istore_n 2, 1) := by decide +kernel
theorem dX7_ownerOf_27 : decode cX7_ownerOf 27 = .ok (.iinc 3 1, 3) := by decide +kernel
theorem dX7_ownerOf_30 : decode cX7_ownerOf 30 = .ok (.goto (-26), 3) := by decide +kernel
theorem dX7_ownerOf_33 : decode cX7_ownerOf 33 = .ok (.iload_n 2, 1) := by decide +kernel
theorem dX7_ownerOf_34 : decode cX7_ownerOf 34 = .ok (.ireturn, 1) := by decide +kernel
theorem dX7_part_0 : decode cX7_part 0 = .ok (.aload_n 0, 1) := by decide +kernel
theorem dX7_part_1 : decode cX7_part 1 = .ok (.getfield 31, 3) := by decide +kernel
theorem dX7_part_4 : decode cX7_part 4 = .ok (.aload_n 0, 1) := by decide +kernel
theorem dX7_part_5 : decode cX7_part 5 = .ok (.getfield 28, 3) := by decide +kernel
theorem dX7_part_8 : decode cX7_part 8 = .ok (.if_icmp .ne 10, 3) := by decide +kernel
theorem dX7_part_11 : decode cX7_part 11 = .ok (.aload_n 0, 1) := by decide +kernel
theorem dX7_part_12 : decode cX7_part 12 = .ok (.iconst 1, 1) := by decide +kernel
theorem dX7_part_13 : decode cX7_part 13 = .ok (.putfield 20, 3) := by decide +kernel
theorem dX7_part_16 : decode cX7_part 16 = .ok (.iconst 0, 1) := by decide +kernel
theorem dX7_part_17 : decode cX7_part 17 = .ok (.ireturn, 1) := by decide +kernel
theorem dX7_part_18 : decode cX7_part 18 = .ok (.iload_n 1, 1) := by decide +kernel
theorem dX7_part_19 : decode cX7_part 19 = .ok (.aload_n 0, 1) := by decide +kernel
theorem dX7_part_20 : decode cX7_part 20 = .ok (.getfield 31, 3) := by decide +kernel
theorem dX7_part_23 : decode cX7_part 23 = .ok (.aload_n 0, 1) := by decide +kernel
theorem dX7_part_24 : decode cX7_part 24 = .ok (.getfield 28, 3) := by decide +kernel
theorem dX7_part_27 : decode cX7_part 27 = .ok (.isub, 1) := by decide +kernel
theorem dX7_part_28 : decode cX7_part 28 = .ok (.idiv, 1) := by decide +kernel
theorem dX7_part_29 : decode cX7_part 29 = .ok (.ireturn, 1) := by decide +kernel
