theorem dJ11_isValidCodePoint_9a6ad_0 : decode cJ11_isValidCodePoint_9a6ad 0 = .ok (.iload_n 0, 1) := by decide +kernel
theorem dJ11_isValidCodePoint_9a6ad_1 : decode cJ11_isValidCodePoint_9a6ad 1 = .ok (.bipush 16, 2) := by decide +kernel
theorem dJ11_isValidCodePoint_9a6ad_3 : decode cJ11_isValidCodePoint_9a6ad 3 = .ok (.iushr, 1) := by decide +kernel
theorem dJ11_isValidCodePoint_9a6ad_4 : decode cJ11_isValidCodePoint_9a6ad 4 = .ok (.istore_n 1, 1) := by decide +kernel
theorem dJ11_isValidCodePoint_9a6ad_5 : decode cJ11_isValidCodePoint_9a6ad 5 = .ok (.iload_n 1, 1) := by decide +kernel
theorem dJ11_isValidCodePoint_9a6ad_6 : decode cJ11_isValidCodePoint_9a6ad 6 = .ok (.bipush 17, 2) := by decide +kernel
theorem dJ11_isValidCodePoint_9a6ad_8 : decode cJ11_isValidCodePoint_9a6ad 8 = .ok (.if_icmp .ge 7, 3) := by decide +kernel
theorem dJ11_isValidCodePoint_9a6ad_11 : decode cJ11_isValidCodePoint_9a6ad 11 = .ok (.iconst 1, 1) := by decide +kernel
theorem dJ11_isValidCodePoint_9a6ad_12 : decode cJ11_isValidCodePoint_9a6ad 12 = .ok (.goto 4, 3) := by decide +kernel
theorem dJ11_isValidCodePoint_9a6ad_15 : decode cJ11_isValidCodePoint_9a6ad 15 = .ok (.iconst 0, 1) := by decide +kernel
theorem dJ11_isValidCodePoint_9a6ad_16 : decode cJ11_isValidCodePoint_9a6ad 16 = .ok (.ireturn, 1) := by decide +kernel
theorem dJ11_highSurrogate_5068e_0 : decode cJ11_highSurrogate_5068e 0 = .ok (.iload_n 0, 1) := by decide +kernel
theorem dJ11_highSurrogate_5068e_1 : decode cJ11_highSurrogate_5068e 1 = .ok (.bipush 10, 2) := by decide +kernel
theorem dJ11_highSurrogate_5068e_3 : decode cJ11_highSurrogate_5068e 3 = .ok (.iushr, 1) := by decide +kernel
theorem dJ11_highSurrogate_5068e_4 : decode cJ11_highSurrogate_5068e 4 = .ok (.ldc 110, 2) := by decide +kernel
theorem dJ11_highSurrogate_5068e_6 : decode cJ11_highSurrogate_5068e 6 = .ok (.iadd, 1) := by decide +kernel
theorem dJ11_highSurrogate_5068e_7 : decode cJ11_highSurrogate_5068e 7 = .ok (.i2c, 1) := by decide +kernel
theorem dJ11_highSurrogate_5068e_8 : decode cJ11_highSurrogate_5068e 8 = .ok (.ireturn, 1) := by decide +kernel
theorem dJ11_lowSurrogate_5068e_0 : decode cJ11_lowSurrogate_5068e 0 = .ok (.iload_n 0, 1) := by decide +kernel
theorem dJ11_lowSurrogate_5068e_1 : decode cJ11_lowSurrogate_5068e 1 = .ok (.sipush 1023, 3) := by decide +kernel
theorem dJ11_lowSurrogate_5068e_4 : decode cJ11_lowSurrogate_5068e 4 = .ok (.iand, 1) := by decide +kernel
theorem dJ11_lowSurrogate_5068e_5 : decode cJ11_lowSurrogate_5068e 5 = .ok (.ldc 76, 2) := by decide +kernel
theorem dJ11_lowSurrogate_5068e_7 : decode cJ11_lowSurrogate_5068e 7 = .ok (.iadd, 1) := by decide +kernel
theorem dJ11_lowSurrogate_5068e_8 : decode cJ11_lowSurrogate_5068e 8 = .ok (.i2c, 1) := by decide +kernel
theorem dJ11_lowSurrogate_5068e_9 : decode cJ11_lowSurrogate_5068e 9 = .ok (.ireturn, 1) := by decide +kernel
theorem dJ6_bitCount_0f7a4_0 : decode cJ6_bitCount_0f7a4 0 = .ok (.iload_n 0, 1) := by decide +kernel
theorem dJ6_bitCount_0f7a4_1 : decode cJ6_bitCount_0f7a4 1 = .ok (.iload_n 0, 1) := by decide +kernel
theorem dJ6_bitCount_0f7a4_2 : decode cJ6_bitCount_0f7a4 2 = .ok (.iconst 1, 1) := by decide +kernel
theorem dJ6_bitCount_0f7a4_3 : decode cJ6_bitCount_0f7a4 3 = .ok (.iushr, 1) := by decide +kernel
theorem dJ6_bitCount_0f7a4_4 : decode cJ6_bitCount_0f7a4 4 = .ok (.ldc_w 265, 3) := by decide +kernel
theorem dJ6_bitCount_0f7a4_7 : decode cJ6_bitCount_0f7a4 7 = .ok (.iand, 1) := by decide +kernel
theorem dJ6_bitCount_0f7a4_8 : decode cJ6_bitCount_0f7a4 8 = .ok (.isub, 1) := by decide +kernel
theorem dJ6_bitCount_0f7a4_9 : decode cJ6_bitCount_0f7a4 9 = .ok (.istore_n 0, 1) := by decide +kernel
theorem dJ6_bitCount_0f7a4_10 : decode cJ6_bitCount_0f7a4 10 = .ok (.iload_n 0, 1) := by decide +kernel
theorem dJ6_bitCount_0f7a4_11 : decode cJ6_bitCount_0f7a4 11 = .ok (.ldc_w 266, 3) := by decide +kernel
theorem dJ6_bitCount_0f7a4_14 : decode cJ6_bitCount_0f7a4 14 = .ok (.iand, 1) := by decide +kernel
theorem dJ6_bitCount_0f7a4_15 : decode cJ6_bitCount_0f7a4 15 = .ok (.iload_n 0, 1) := by decide +kernel
theorem dJ6_bitCount_0f7a4_16 : decode cJ6_bitCount_0f7a4 16 = .ok (.iconst 2, 1) := by decide +kernel
theorem dJ6_bitCount_0f7a4_17 : decode cJ6_bitCount_0f7a4 17 = .ok (.iushr, 1) := by decide +kernel
theorem dJ6_bitCount_0f7a4_18 : decode cJ6_bitCount_0f7a4 18 = .ok (.ldc_w 266, 3) := by decide +kernel
theorem dJ6_bitCount_0f7a4_21 : decode cJ6_bitCount_0f7a4 21 = .ok (.iand, 1) := by decide +kernel
theorem dJ6_bitCount_0f7a4_22 : decode cJ6_bitCount_0f7a4 22 = .ok (.iadd, 1) := by decide +kernel
theorem dJ6_bitCount_0f7a4_23 : decode cJ6_bitCount_0f7a4 23 = .ok (.istore_n 0, 1) := by decide +kernel
theorem dJ6_bitCount_0f7a4_24 : decode cJ6_bitCount_0f7a4 24 = .ok (.iload_n 0, 1) := by decide +kernel
theorem dJ6_bitCount_0f7a4_25 : decode cJ6_bitCount_0f7a4 25 = .ok (.iload_n 0, 1) := by decide +kernel
theorem dJ6_bitCount_0f7a4_26 : decode cJ6_bitCount_0f7a4 26 = .ok (.iconst 4, 1) := by decide +kernel
theorem dJ6_bitCount_0f7a4_27 : decode cJ6_bitCount_0f7a4 27 = .ok (.iushr, 1) := by decide +kernel
theorem dJ6_bitCount_0f7a4_28 : decode cJ6_bitCount_0f7a4 28 = .ok (.iadd, 1) := by decide +kernel
theorem dJ6_bitCount_0f7a4_29 : decode cJ6_bitCount_0f7a4 29 = .ok (.ldc_w 267, 3) := by decide +kernel
theorem dJ6_bitCount_0f7a4_32 : decode cJ6_bitCount_0f7a4 32 = .ok (.iand, 1) := by decide +kernel
theorem dJ6_bitCount_0f7a4_33 : decode cJ6_bitCount_0f7a4 33 = .ok (.istore_n 0, 1) := by decide +kernel
theorem dJ6_bitCount_0f7a4_34 : decode cJ6_bitCount_0f7a4 34 = .ok (.iload_n 0, 1) := by decide +kernel
theorem dJ6_bitCount_0f7a4_35 : decode cJ6_bitCount_0f7a4 35 = .ok (.iload_n 0, 1) := by decide +kernel
theorem dJ6_bitCount_0f7a4_36 : decode cJ6_bitCount_0f7a4 36 = .ok (.bipush 8, 2) := by decide +kernel
theorem dJ6_bitCount_0f7a4_38 : decode cJ6_bitCount_0f7a4 38 = .ok (.iushr, 1) := by decide +kernel
theorem dJ6_bitCount_0f7a4_39 : decode cJ6_bitCount_0f7a4 39 = .ok (.iadd, 1) := by decide +kernel
theorem dJ6_bitCount_0f7a4_40 : decode cJ6_bitCount_0f7a4 40 = .ok (.istore_n 0, 1) := by decide +kernel
theorem dJ6_bitCount_0f7a4_41 : decode cJ6_bitCount_0f7a4 41 = .ok (.iload_n 0, 1) := by decide +kernel
theorem dJ6_bitCount_0f7a4_42 : decode cJ6_bitCount_0f7a4 42 = .ok (.iload_n 0, 1) := by decide +kernel
theorem dJ6_bitCount_0f7a4_43 : decode cJ6_bitCount_0f7a4 43 = .ok (.bipush 16, 2) := by decide +kernel
theorem dJ6_bitCount_0f7a4_45 : decode cJ6_bitCount_0f7a4 45 = .ok (.iushr, 1) := by decide +kernel
theorem dJ6_bitCount_0f7a4_46 : decode cJ6_bitCount_0f7a4 46 = .ok (.iadd, 1) := by decide +kernel
theorem dJ6_bitCount_0f7a4_47 : decode cJ6_bitCount_0f7a4 47 = .ok (.istore_n 0, 1) := by decide +kernel
theorem dJ6_bitCount_0f7a4_48 : decode cJ6_bitCount_0f7a4 48 = .ok (.iload_n 0, 1) := by decide +kernel
theorem dJ6_bitCount_0f7a4_49 : decode cJ6_bitCount_0f7a4 49 = .ok (.bipush 63, 2) := by decide +kernel
theorem dJ6_bitCount_0f7a4_51 : decode cJ6_bitCount_0f7a4 51 = .ok (.iand, 1) := by decide +kernel
theorem dJ6_bitCount_0f7a4_52 : decode cJ6_bitCount_0f7a4 52 = .ok (.ireturn, 1) := by decide +kernel
theorem dJ9_floorMod_7cf53_0 : decode cJ9_floorMod_7cf53 0 = .ok (.iload_n 0, 1) := by decide +kernel
theorem dJ9_floorMod_7cf53_1 : decode cJ9_floorMod_7cf53 1 = .ok (.iload_n 1, 1) := by decide +kernel
theorem dJ9_floorMod_7cf53_2 : decode cJ9_floorMod_7cf53 2 = .ok (.irem, 1) := by decide +kernel
theorem dJ9_floorMod_7cf53_3 : decode cJ9_floorMod_7cf53 3 = .ok (.istore_n 2, 1) := by decide +kernel
theorem dJ9_floorMod_7cf53_4 : decode cJ9_floorMod_7cf53 4 = .ok (.iload_n 0, 1) := by decide +kernel
theorem dJ9_floorMod_7cf53_5 : decode cJ9_floorMod_7cf53 5 = .ok (.iload_n 1, 1) := by decide +kernel
theorem dJ9_floorMod_7cf53_6 : decode cJ9_floorMod_7cf53 6 = .ok (.ixor, 1) := by decide +kernel
theorem dJ9_floorMod_7cf53_7 : decode cJ9_floorMod_7cf53 7 = .ok (.ifCond .ge 11, 3) := by decide +kernel
theorem dJ9_floorMod_7cf53_10 : decode cJ9_floorMod_7cf53 10 = .ok (.iload_n 2, 1) := by decide +kernel
theorem dJ9_floorMod_7cf53_11 : decode cJ9_floorMod_7cf53 11 = .ok (.ifCond .eq 7, 3) := by decide +kernel
theorem dJ9_floorMod_7cf53_14 : decode cJ9_floorMod_7cf53 14 = .ok (.iload_n 2, 1) := by decide +kernel
theorem dJ9_floorMod_7cf53_15 : decode cJ9_floorMod_7cf53 15 = .ok (.iload_n 1, 1) := by decide +kernel
theorem dJ9_floorMod_7cf53_16 : decode cJ9_floorMod_7cf53 16 = .ok (.iadd, 1) := by decide +kernel
theorem dJ9_floorMod_7cf53_17 : decode cJ9_floorMod_7cf53 17 = .ok (.ireturn, 1) := by decide +kernel
theorem dJ9_floorMod_7cf53_18 : decode cJ9_floorMod_7cf53 18 = .ok (.iload_n 2, 1) := by decide +kernel
theorem dJ9_floorMod_7cf53_19 : decode cJ9_floorMod_7cf53 19 = .ok (.ireturn, 1) := by decide +kernel
theorem dJ9_max_7cf53_0 : decode cJ9_max_7cf53 0 = .ok (.iload_n 0, 1) := by decide +kernel
theorem dJ9_max_7cf53_1 : decode cJ9_max_7cf53 1 = .ok (.iload_n 1, 1) := by decide +kernel
theorem dJ9_max_7cf53_2 : decode cJ9_max_7cf53 2 = .ok (.if_icmp .lt 7, 3) := by decide +kernel
theorem dJ9_max_7cf53_5 : decode cJ9_max_7cf53 5 = .ok (.iload_n 0, 1) := by decide +kernel
theorem dJ9_max_7cf53_6 : decode cJ9_max_7cf53 6 = .ok (.goto 4, 3) := by decide +kernel
theorem dJ9_max_7cf53_9 : decode cJ9_max_7cf53 9 = .ok (.iload_n 1, 1) := by decide +kernel
theorem dJ9_max_7cf53_10 : decode cJ9_max_7cf53 10 = .ok (.ireturn, 1) := by decide +kernel
theorem dJ9_min_7cf53_0 : decode cJ9_min_7cf53 0 = .ok (.iload_n 0, 1) := by decide +kernel
theorem dJ9_min_7cf53_1 : decode cJ9_min_7cf53 1 = .ok (.iload_n 1, 1) := by decide +kernel
theorem dJ9_min_7cf53_2 : decode cJ9_min_7cf53 2 = .ok (.if_icmp .gt 7, 3) := by decide +kernel
theorem dJ9_min_7cf53_5 : decode cJ9_min_7cf53 5 = .ok (.iload_n 0, 1) := by decide +kernel
theorem dJ9_min_7cf53_6 : decode cJ9_min_7cf53 6 = .ok (.goto 4, 3) := by decide +kernel
theorem dJ9_min_7cf53_9 : decode cJ9_min_7cf53 9 = .ok (.iload_n 1, 1) := by decide +kernel
theorem dJ9_min_7cf53_10 : decode cJ9_min_7cf53 10 = .ok (.ireturn, 1) := by decide +kernel
theorem dJ0_length_8abf5_0 : decode cJ0_length_8abf5 0 = .ok (.aload_n 0, 1) := by decide +kernel
theorem dJ0_length_8abf5_1 : decode cJ0_length_8abf5 1 = .ok (.getfield 9, 3) := by decide +kernel
theorem dJ0_length_8abf5_4 : decode cJ0_length_8abf5 4 = .ok (.arraylength, 1) := by decide +kernel
theorem dJ0_length_8abf5_5 : decode cJ0_length_8abf5 5 = .ok (.aload_n 0, 1) := by decide +kernel
theorem dJ0_length_8abf5_6 : decode cJ0_length_8abf5 6 = .ok (.invokevirtual 335, 3) := by decide +kernel
theorem dJ0_length_8abf5_9 : decode cJ0_length_8abf5 9 = .ok (.ishr, 1) := by decide +kernel
theorem dJ0_length_8abf5_10 : decode cJ0_length_8abf5 10 = .ok (.ireturn, 1) := by decide +kernel
theorem dJ0_indexOf_0f7a4_0 : decode cJ0_indexOf_0f7a4 0 = .ok (.aload_n 0, 1) := by decide +kernel
theorem dJ0_indexOf_0f7a4_1 : decode cJ0_indexOf_0f7a4 1 = .ok (.iload_n 1, 1) := by decide +kernel
theorem dJ0_indexOf_0f7a4_2 : decode cJ0_indexOf_0f7a4 2 = .ok (.iconst 0, 1) := by decide +kernel
theorem dJ0_indexOf_0f7a4_3 : decode cJ0_indexOf_0f7a4 3 = .ok (.invokevirtual 633, 3) := by decide +kernel
theorem dJ0_indexOf_0f7a4_6 : decode cJ0_indexOf_0f7a4 6 = .ok (.ireturn, 1) := by decide +kernel
theorem dJ0_indexOf_7cf53_0 : decode cJ0_indexOf_7cf53 0 = .ok (.aload_n 0, 1) := by decide +kernel
theorem dJ0_indexOf_7cf53_1 : decode cJ0_indexOf_7cf53 1 = .ok (.invokevirtual 492, 3) := by decide +kernel
theorem dJ0_indexOf_7cf53_4 : decode cJ0_indexOf_7cf53 4 = .ok (.ifCond .eq 19, 3) := by decide +kernel
theorem dJ0_indexOf_7cf53_7 : decode cJ0_indexOf_7cf53 7 = .ok (.aload_n 0, 1) := by decide +kernel
theorem dJ0_indexOf_7cf53_8 : decode cJ0_indexOf_7cf53 8 = .ok (.getfield 9, 3) := by decide +kernel
theorem dJ0_indexOf_7cf53_11 : decode cJ0_indexOf_7cf53 11 = .ok (.iload_n 1, 1) := by decide +kernel
theorem dJ0_indexOf_7cf53_12 : decode cJ0_indexOf_7cf53 12 = .ok (.iload_n 2, 1) := by decide +kernel
theorem dJ0_indexOf_7cf53_13 : decode cJ0_indexOf_7cf53 13 = .ok (.aload_n 0, 1) := by decide +kernel
theorem dJ0_indexOf_7cf53_14 : decode cJ0_indexOf_7cf53 14 = .ok (.invokevirtual 505, 3) := by decide +kernel
theorem dJ0_indexOf_7cf53_17 : decode cJ0_indexOf_7cf53 17 = .ok (.invokestatic 637, 3) := by decide +kernel
theorem dJ0_indexOf_7cf53_20 : decode cJ0_indexOf_7cf53 20 = .ok (.goto 16, 3) := by decide +kernel
theorem dJ0_indexOf_7cf53_23 : decode cJ0_indexOf_7cf53 23 = .ok (.aload_n 0, 1) := by decide +kernel
theorem dJ0_indexOf_7cf53_24 : decode cJ0_indexOf_7cf53 24 = .ok (.getfield 9, 3) := by decide +kernel
theorem dJ0_indexOf_7cf53_27 : decode cJ0_indexOf_7cf53 27 = .ok (.iload_n 1, 1) := by decide +kernel
theorem dJ0_indexOf_7cf53_28 : decode cJ0_indexOf_7cf53 28 = .ok (.iload_n 2, 1) := by decide +kernel
theorem dJ0_indexOf_7cf53_29 : decode cJ0_indexOf_7cf53 29 = .ok (.aload_n 0, 1) := by decide +kernel
theorem dJ0_indexOf_7cf53_30 : decode cJ0_indexOf_7cf53 30 = .ok (.invokevirtual 505, 3) := by decide +kernel
theorem dJ0_indexOf_7cf53_33 : decode cJ0_indexOf_7cf53 33 = .ok (.invokestatic 640, 3) := by decide +kernel
theorem dJ0_indexOf_7cf53_36 : decode cJ0_indexOf_7cf53 36 = .ok (.ireturn, 1) := by decide +kernel
theorem dJ0_coder_7d493_0 : decode cJ0_coder_7d493 0 = .ok (.getstatic 38, 3) := by decide +kernel
theorem dJ0_coder_7d493_3 : decode cJ0_coder_7d493 3 = .ok (.ifCond .eq 10, 3) := by decide +kernel
theorem dJ0_coder_7d493_6 : decode cJ0_coder_7d493 6 = .ok (.aload_n 0, 1) := by decide +kernel
theorem dJ0_coder_7d493_7 : decode cJ0_coder_7d493 7 = .ok (.getfield 15, 3) := by decide +kernel
theorem dJ0_coder_7d493_10 : decode cJ0_coder_7d493 10 = .ok (.goto 4, 3) := by decide +kernel
theorem dJ0_coder_7d493_13 : decode cJ0_coder_7d493 13 = .ok (.iconst 1, 1) := by decide +kernel
theorem dJ0_coder_7d493_14 : decode cJ0_coder_7d493 14 = .ok (.ireturn, 1) := by decide +kernel
theorem dJ0_isLatin1_aae02_0 : decode cJ0_isLatin1_aae02 0 = .ok (.getstatic 38, 3) := by decide +kernel
theorem dJ0_isLatin1_aae02_3 : decode cJ0_isLatin1_aae02 3 = .ok (.ifCond .eq 14, 3) := by decide +kernel
theorem dJ0_isLatin1_aae02_6 : decode cJ0_isLatin1_aae02 6 = .ok (.aload_n 0, 1) := by decide +kernel
theorem dJ0_isLatin1_aae02_7 : decode cJ0_isLatin1_aae02 7 = .ok (.getfield 15, 3) := by decide +kernel
theorem dJ0_isLatin1_aae02_10 : decode cJ0_isLatin1_aae02 10 = .ok (.ifCond .ne 7, 3) := by decide +kernel
theorem dJ0_isLatin1_aae02_13 : decode cJ0_isLatin1_aae02 13 = .ok (.iconst 1, 1) := by decide +kernel
theorem dJ0_isLatin1_aae02_14 : decode cJ0_isLatin1_aae02 14 = .ok (.goto 4, 3) := by decide +kernel
theorem dJ0_isLatin1_aae02_17 : decode cJ0_isLatin1_aae02 17 = .ok (.iconst 0, 1) := by decide +kernel
theorem dJ0_isLatin1_aae02_18 : decode cJ0_isLatin1_aae02 18 = .ok (.ireturn, 1) := by decide +kernel
theorem dJ0_checkBoundsBeginEnd_23922_0 : decode cJ0_checkBoundsBeginEnd_23922 0 = .ok (.iload_n 0, 1) := by decide +kernel
theorem dJ0_checkBoundsBeginEnd_23922_1 : decode cJ0_checkBoundsBeginEnd_23922 1 = .ok (.iload_n 1, 1) := by decide +kernel
theorem dJ0_checkBoundsBeginEnd_23922_2 : decode cJ0_checkBoundsBeginEnd_23922 2 = .ok (.iload_n 2, 1) := by decide +kernel
theorem dJ0_checkBoundsBeginEnd_23922_3 : decode cJ0_checkBoundsBeginEnd_23922 3 = .ok (.getstatic 1053, 3) := by decide +kernel
theorem dJ0_checkBoundsBeginEnd_23922_6 : decode cJ0_checkBoundsBeginEnd_23922 6 = .ok (.invokestatic 1062, 3) := by decide +kernel
theorem dJ0_checkBoundsBeginEnd_23922_9 : decode cJ0_checkBoundsBeginEnd_23922 9 = .ok (.pop, 1) := by decide +kernel
theorem dJ0_checkBoundsBeginEnd_23922_10 : decode cJ0_checkBoundsBeginEnd_23922 10 = .ok (.return_, 1) := by decide +kernel
theorem dJ1_canEncode_9a6ad_0 : decode cJ1_canEncode_9a6ad 0 = .ok (.iload_n 0, 1) := by decide +kernel
theorem dJ1_canEncode_9a6ad_1 : decode cJ1_canEncode_9a6ad 1 = .ok (.ifCond .lt 14, 3) := by decide +kernel
theorem dJ1_canEncode_9a6ad_4 : decode cJ1_canEncode_9a6ad 4 = .ok (.iload_n 0, 1) := by decide +kernel
theorem dJ1_canEncode_9a6ad_5 : decode cJ1_canEncode_9a6ad 5 = .ok (.sipush 255, 3) := by decide +kernel
theorem dJ1_canEncode_9a6ad_8 : decode cJ1_canEncode_9a6ad 8 = .ok (.if_icmp .gt 7, 3) := by decide +kernel
theorem dJ1_canEncode_9a6ad_11 : decode cJ1_canEncode_9a6ad 11 = .ok (.iconst 1, 1) := by decide +kernel
theorem dJ1_canEncode_9a6ad_12 : decode cJ1_canEncode_9a6ad 12 = .ok (.goto 4, 3) := by decide +kernel
theorem dJ1_canEncode_9a6ad_15 : decode cJ1_canEncode_9a6ad 15 = .ok (.iconst 0, 1) := by decide +kernel
theorem dJ1_canEncode_9a6ad_16 : decode cJ1_canEncode_9a6ad 16 = .ok (.ireturn, 1) := by decide +kernel
theorem dJ1_indexOf_4cfef_0 : decode cJ1_indexOf_4cfef 0 = .ok (.iload_n 1, 1) := by decide +kernel
theorem dJ1_indexOf_4cfef_1 : decode cJ1_indexOf_4cfef 1 = .ok (.invokestatic 88, 3) := by decide +kernel
theorem dJ1_indexOf_4cfef_4 : decode cJ1_indexOf_4cfef 4 = .ok (.ifCond .ne 5, 3) := by decide +kernel
theorem dJ1_indexOf_4cfef_7 : decode cJ1_indexOf_4cfef 7 = .ok (.iconst (-1), 1) := by decide +kernel
theorem dJ1_indexOf_4cfef_8 : decode cJ1_indexOf_4cfef 8 = .ok (.ireturn, 1) := by decide +kernel
theorem dJ1_indexOf_4cfef_9 : decode cJ1_indexOf_4cfef 9 = .ok (.iload_n 2, 1) := by decide +kernel
theorem dJ1_indexOf_4cfef_10 : decode cJ1_indexOf_4cfef 10 = .ok (.iconst 0, 1) := by decide +kernel
theorem dJ1_indexOf_4cfef_11 : decode cJ1_indexOf_4cfef 11 = .ok (.invokestatic 92, 3) := by decide +kernel
theorem dJ1_indexOf_4cfef_14 : decode cJ1_indexOf_4cfef 14 = .ok (.istore_n 2, 1) := by decide +kernel
theorem dJ1_indexOf_4cfef_15 : decode cJ1_indexOf_4cfef 15 = .ok (.iload_n 3, 1) := by decide +kernel
theorem dJ1_indexOf_4cfef_16 : decode cJ1_indexOf_4cfef 16 = .ok (.aload_n 0, 1) := by decide +kernel
theorem dJ1_indexOf_4cfef_17 : decode cJ1_indexOf_4cfef 17 = .ok (.arraylength, 1) := by decide +kernel
theorem dJ1_indexOf_4cfef_18 : decode cJ1_indexOf_4cfef 18 = .ok (.invokestatic 38, 3) := by decide +kernel
theorem dJ1_indexOf_4cfef_21 : decode cJ1_indexOf_4cfef 21 = .ok (.istore_n 3, 1) := by decide +kernel
theorem dJ1_indexOf_4cfef_22 : decode cJ1_indexOf_4cfef 22 = .ok (.iload_n 2, 1) := by decide +kernel
theorem dJ1_indexOf_4cfef_23 : decode cJ1_indexOf_4cfef 23 = .ok (.iload_n 3, 1) := by decide +kernel
theorem dJ1_indexOf_4cfef_24 : decode cJ1_indexOf_4cfef 24 = .ok (.if_icmp .lt 5, 3) := by decide +kernel
theorem dJ1_indexOf_4cfef_27 : decode cJ1_indexOf_4cfef 27 = .ok (.iconst (-1), 1) := by decide +kernel
theorem dJ1_indexOf_4cfef_28 : decode cJ1_indexOf_4cfef 28 = .ok (.ireturn, 1) := by decide +kernel
theorem dJ1_indexOf_4cfef_29 : decode cJ1_indexOf_4cfef 29 = .ok (.aload_n 0, 1) := by decide +kernel
theorem dJ1_indexOf_4cfef_30 : decode cJ1_indexOf_4cfef 30 = .ok (.iload_n 1, 1) := by decide +kernel
theorem dJ1_indexOf_4cfef_31 : decode cJ1_indexOf_4cfef 31 = .ok (.iload_n 2, 1) := by decide +kernel
theorem dJ1_indexOf_4cfef_32 : decode cJ1_indexOf_4cfef 32 = .ok (.iload_n 3, 1) := by decide +kernel
theorem dJ1_indexOf_4cfef_33 : decode cJ1_indexOf_4cfef 33 = .ok (.invokestatic 95, 3) := by decide +kernel
theorem dJ1_indexOf_4cfef_36 : decode cJ1_indexOf_4cfef 36 = .ok (.ireturn, 1) := by decide +kernel
theorem dJ1_indexOfChar_4cfef_0 : decode cJ1_indexOfChar_4cfef 0 = .ok (.iload_n 1, 1) := by decide +kernel
theorem dJ1_indexOfChar_4cfef_1 : decode cJ1_indexOfChar_4cfef 1 = .ok (.i2b, 1) := by decide +kernel
theorem dJ1_indexOfChar_4cfef_2 : decode cJ1_indexOfChar_4cfef 2 = .ok (.istore 4, 2) := by decide +kernel
theorem dJ1_indexOfChar_4cfef_4 : decode cJ1_indexOfChar_4cfef 4 = .ok (.iload_n 2, 1) := by decide +kernel
theorem dJ1_indexOfChar_4cfef_5 : decode cJ1_indexOfChar_4cfef 5 = .ok (.istore 5, 2) := by decide +kernel
theorem dJ1_indexOfChar_4cfef_7 : decode cJ1_indexOfChar_4cfef 7 = .ok (.iload 5, 2) := by decide +kernel
theorem dJ1_indexOfChar_4cfef_9 : decode cJ1_indexOfChar_4cfef 9 = .ok (.iload_n 3, 1) := by decide +kernel
theorem dJ1_indexOfChar_4cfef_10 : decode cJ1_indexOfChar_4cfef 10 = .ok (.if_icmp .ge 21, 3) := by decide +kernel
theorem dJ1_indexOfChar_4cfef_13 : decode cJ1_indexOfChar_4cfef 13 = .ok (.aload_n 0, 1) := by decide +kernel
theorem dJ1_indexOfChar_4cfef_14 : decode cJ1_indexOfChar_4cfef 14 = .ok (.iload 5, 2) := by decide +kernel
theorem dJ1_indexOfChar_4cfef_16 : decode cJ1_indexOfChar_4cfef 16 = .ok (.baload, 1) := by decide +kernel
theorem dJ1_indexOfChar_4cfef_17 : decode cJ1_indexOfChar_4cfef 17 = .ok (.iload 4, 2) := by decide +kernel
theorem dJ1_indexOfChar_4cfef_19 : decode cJ1_indexOfChar_4cfef 19 = .ok (.if_icmp .ne 6, 3) := by decide +kernel
theorem dJ1_indexOfChar_4cfef_22 : decode cJ1_indexOfChar_4cfef 22 = .ok (.iload 5, 2) := by decide +kernel
theorem dJ1_indexOfChar_4cfef_24 : decode cJ1_indexOfChar_4cfef 24 = .ok (.ireturn, 1) := by decide +kernel
theorem dJ1_indexOfChar_4cfef_25 : decode cJ1_indexOfChar_4cfef 25 = .ok (.iinc 5 1, 3) := by decide +kernel
theorem dJ1_indexOfChar_4cfef_28 : decode cJ1_indexOfChar_4cfef 28 = .ok (.goto (-21), 3) := by decide +kernel
theorem dJ1_indexOfChar_4cfef_31 : decode cJ1_indexOfChar_4cfef 31 = .ok (.iconst (-1), 1) := by decide +kernel
theorem dJ1_indexOfChar_4cfef_32 : decode cJ1_indexOfChar_4cfef 32 = .ok (.ireturn, 1) := by decide +kernel
theorem dJ2_getChar_3b067_0 : decode cJ2_getChar_3b067 0 = .ok (.getstatic 44, 3) := by decide +kernel
theorem dJ2_getChar_3b067_3 : decode cJ2_getChar_3b067 3 = .ok (.ifCond .ne 25, 3) := by decide +kernel
theorem dJ2_getChar_3b067_6 : decode cJ2_getChar_3b067 6 = .ok (.iload_n 1, 1) := by decide +kernel
theorem dJ2_getChar_3b067_7 : decode cJ2_getChar_3b067 7 = .ok (.ifCond .lt 11, 3) := by decide +kernel
theorem dJ2_getChar_3b067_10 : decode cJ2_getChar_3b067 10 = .ok (.iload_n 1, 1) := by decide +kernel
theorem dJ2_getChar_3b067_11 : decode cJ2_getChar_3b067 11 = .ok (.aload_n 0, 1) := by decide +kernel
theorem dJ2_getChar_3b067_12 : decode cJ2_getChar_3b067 12 = .ok (.invokestatic 48, 3) := by decide +kernel
theorem dJ2_getChar_3b067_15 : decode cJ2_getChar_3b067 15 = .ok (.if_icmp .lt 13, 3) := by decide +kernel
theorem dJ2_getChar_3b067_18 : decode cJ2_getChar_3b067 18 = .ok (.new 52, 3) := by decide +kernel
theorem dJ2_getChar_3b067_21 : decode cJ2_getChar_3b067 21 = .ok (.dup, 1) := by decide +kernel
theorem dJ2_getChar_3b067_22 : decode cJ2_getChar_3b067 22 = .ok (.ldc 54, 2) := by decide +kernel
theorem dJ2_getChar_3b067_24 : decode cJ2_getChar_3b067 24 = .ok (.invokespecial 56, 3) := by decide +kernel
theorem dJ2_getChar_3b067_27 : decode cJ2_getChar_3b067 27 = .ok (.athrow, 1) := by decide +kernel
theorem dJ2_getChar_3b067_28 : decode cJ2_getChar_3b067 28 = .ok (.iload_n 1, 1) := by decide +kernel
theorem dJ2_getChar_3b067_29 : decode cJ2_getChar_3b067 29 = .ok (.iconst 1, 1) := by decide +kernel
theorem dJ2_getChar_3b067_30 : decode cJ2_getChar_3b067 30 = .ok (.ishl, 1) := by decide +kernel
theorem dJ2_getChar_3b067_31 : decode cJ2_getChar_3b067 31 = .ok (.istore_n 1, 1) := by decide +kernel
theorem dJ2_getChar_3b067_32 : decode cJ2_getChar_3b067 32 = .ok (.aload_n 0, 1) := by decide +kernel
theorem dJ2_getChar_3b067_33 : decode cJ2_getChar_3b067 33 = .ok (.iload_n 1, 1) := by decide +kernel
theorem dJ2_getChar_3b067_34 : decode cJ2_getChar_3b067 34 = .ok (.iinc 1 1, 3) := by decide +kernel
theorem dJ2_getChar_3b067_37 : decode cJ2_getChar_3b067 37 = .ok (.baload, 1) := by decide +kernel
theorem dJ2_getChar_3b067_38 : decode cJ2_getChar_3b067 38 = .ok (.sipush 255, 3) := by decide +kernel
theorem dJ2_getChar_3b067_41 : decode cJ2_getChar_3b067 41 = .ok (.iand, 1) := by decide +kernel
theorem dJ2_getChar_3b067_42 : decode cJ2_getChar_3b067 42 = .ok (.getstatic 59, 3) := by decide +kernel
theorem dJ2_getChar_3b067_45 : decode cJ2_getChar_3b067 45 = .ok (.ishl, 1) := by decide +kernel
theorem dJ2_getChar_3b067_46 : decode cJ2_getChar_3b067 46 = .ok (.aload_n 0, 1) := by decide +kernel
theorem dJ2_getChar_3b067_47 : decode cJ2_getChar_3b067 47 = .ok (.iload_n 1, 1) := by decide +kernel
theorem dJ2_getChar_3b067_48 : decode cJ2_getChar_3b067 48 = .ok (.baload, 1) := by decide +kernel
theorem dJ2_getChar_3b067_49 : decode cJ2_getChar_3b067 49 = .ok (.sipush 255, 3) := by decide +kernel
theorem dJ2_getChar_3b067_52 : decode cJ2_getChar_3b067 52 = .ok (.iand, 1) := by decide +kernel
theorem dJ2_getChar_3b067_53 : decode cJ2_getChar_3b067 53 = .ok (.getstatic 63, 3) := by decide +kernel
theorem dJ2_getChar_3b067_56 : decode cJ2_getChar_3b067 56 = .ok (.ishl, 1) := by decide +kernel
theorem dJ2_getChar_3b067_57 : decode cJ2_getChar_3b067 57 = .ok (.ior, 1) := by decide +kernel
theorem dJ2_getChar_3b067_58 : decode cJ2_getChar_3b067 58 = .ok (.i2c, 1) := by decide +kernel
theorem dJ2_getChar_3b067_59 : decode cJ2_getChar_3b067 59 = .ok (.ireturn, 1) := by decide +kernel
theorem dJ2_length_9d52b_0 : decode cJ2_length_9d52b 0 = .ok (.aload_n 0, 1) := by decide +kernel
theorem dJ2_length_9d52b_1 : decode cJ2_length_9d52b 1 = .ok (.arraylength, 1) := by decide +kernel
theorem dJ2_length_9d52b_2 : decode cJ2_length_9d52b 2 = .ok (.iconst 1, 1) := by decide +kernel
theorem dJ2_length_9d52b_3 : decode cJ2_length_9d52b 3 = .ok (.ishr, 1) := by decide +kernel
theorem dJ2_length_9d52b_4 : decode cJ2_length_9d52b 4 = .ok (.ireturn, 1) := by decide +kernel
theorem dJ2_indexOf_4cfef_0 : decode cJ2_indexOf_4cfef 0 = .ok (.iload_n 2, 1) := by decide +kernel
theorem dJ2_indexOf_4cfef_1 : decode cJ2_indexOf_4cfef 1 = .ok (.iconst 0, 1) := by decide +kernel
theorem dJ2_indexOf_4cfef_2 : decode cJ2_indexOf_4cfef 2 = .ok (.invokestatic 224, 3) := by decide +kernel
theorem dJ2_indexOf_4cfef_5 : decode cJ2_indexOf_4cfef 5 = .ok (.istore_n 2, 1) := by decide +kernel
theorem dJ2_indexOf_4cfef_6 : decode cJ2_indexOf_4cfef 6 = .ok (.iload_n 3, 1) := by decide +kernel
theorem dJ2_indexOf_4cfef_7 : decode cJ2_indexOf_4cfef 7 = .ok (.aload_n 0, 1) := by decide +kernel
theorem dJ2_indexOf_4cfef_8 : decode cJ2_indexOf_4cfef 8 = .ok (.arraylength, 1) := by decide +kernel
theorem dJ2_indexOf_4cfef_9 : decode cJ2_indexOf_4cfef 9 = .ok (.iconst 1, 1) := by decide +kernel
theorem dJ2_indexOf_4cfef_10 : decode cJ2_indexOf_4cfef 10 = .ok (.ishr, 1) := by decide +kernel
theorem dJ2_indexOf_4cfef_11 : decode cJ2_indexOf_4cfef 11 = .ok (.invokestatic 183, 3) := by decide +kernel
theorem dJ2_indexOf_4cfef_14 : decode cJ2_indexOf_4cfef 14 = .ok (.istore_n 3, 1) := by decide +kernel
theorem dJ2_indexOf_4cfef_15 : decode cJ2_indexOf_4cfef 15 = .ok (.iload_n 2, 1) := by decide +kernel
theorem dJ2_indexOf_4cfef_16 : decode cJ2_indexOf_4cfef 16 = .ok (.iload_n 3, 1) := by decide +kernel
theorem dJ2_indexOf_4cfef_17 : decode cJ2_indexOf_4cfef 17 = .ok (.if_icmp .lt 5, 3) := by decide +kernel
theorem dJ2_indexOf_4cfef_20 : decode cJ2_indexOf_4cfef 20 = .ok (.iconst (-1), 1) := by decide +kernel
theorem dJ2_indexOf_4cfef_21 : decode cJ2_indexOf_4cfef 21 = .ok (.ireturn, 1) := by decide +kernel
theorem dJ2_indexOf_4cfef_22 : decode cJ2_indexOf_4cfef 22 = .ok (.iload_n 1, 1) := by decide +kernel
theorem dJ2_indexOf_4cfef_23 : decode cJ2_indexOf_4cfef 23 = .ok (.ldc 227, 2) := by decide +kernel
theorem dJ2_indexOf_4cfef_25 : decode cJ2_indexOf_4cfef 25 = .ok (.if_icmp .ge 11, 3) := by decide +kernel
theorem dJ2_indexOf_4cfef_28 : decode cJ2_indexOf_4cfef 28 = .ok (.aload_n 0, 1) := by decide +kernel
theorem dJ2_indexOf_4cfef_29 : decode cJ2_indexOf_4cfef 29 = .ok (.iload_n 1, 1) := by decide +kernel
theorem dJ2_indexOf_4cfef_30 : decode cJ2_indexOf_4cfef 30 = .ok (.iload_n 2, 1) := by decide +kernel
theorem dJ2_indexOf_4cfef_31 : decode cJ2_indexOf_4cfef 31 = .ok (.iload_n 3, 1) := by decide +kernel
theorem dJ2_indexOf_4cfef_32 : decode cJ2_indexOf_4cfef 32 = .ok (.invokestatic 228, 3) := by decide +kernel
theorem dJ2_indexOf_4cfef_35 : decode cJ2_indexOf_4cfef 35 = .ok (.ireturn, 1) := by decide +kernel
theorem dJ2_indexOf_4cfef_36 : decode cJ2_indexOf_4cfef 36 = .ok (.aload_n 0, 1) := by decide +kernel
theorem dJ2_indexOf_4cfef_37 : decode cJ2_indexOf_4cfef 37 = .ok (.iload_n 1, 1) := by decide +kernel
theorem dJ2_indexOf_4cfef_38 : decode cJ2_indexOf_4cfef 38 = .ok (.iload_n 2, 1) := by decide +kernel
theorem dJ2_indexOf_4cfef_39 : decode cJ2_indexOf_4cfef 39 = .ok (.iload_n 3, 1) := by decide +kernel
theorem dJ2_indexOf_4cfef_40 : decode cJ2_indexOf_4cfef 40 = .ok (.invokestatic 232, 3) := by decide +kernel
theorem dJ2_indexOf_4cfef_43 : decode cJ2_indexOf_4cfef 43 = .ok (.ireturn, 1) := by decide +kernel
theorem dJ2_indexOfChar_4cfef_0 : decode cJ2_indexOfChar_4cfef 0 = .ok (.iload_n 2, 1) := by decide +kernel
theorem dJ2_indexOfChar_4cfef_1 : decode cJ2_indexOfChar_4cfef 1 = .ok (.iload_n 3, 1) := by decide +kernel
theorem dJ2_indexOfChar_4cfef_2 : decode cJ2_indexOfChar_4cfef 2 = .ok (.aload_n 0, 1) := by decide +kernel
theorem dJ2_indexOfChar_4cfef_3 : decode cJ2_indexOfChar_4cfef 3 = .ok (.invokestatic 96, 3) := by decide +kernel
theorem dJ2_indexOfChar_4cfef_6 : decode cJ2_indexOfChar_4cfef 6 = .ok (.aload_n 0, 1) := by decide +kernel
theorem dJ2_indexOfChar_4cfef_7 : decode cJ2_indexOfChar_4cfef 7 = .ok (.iload_n 1, 1) := by decide +kernel
theorem dJ2_indexOfChar_4cfef_8 : decode cJ2_indexOfChar_4cfef 8 = .ok (.iload_n 2, 1) := by decide +kernel
theorem dJ2_indexOfChar_4cfef_9 : decode cJ2_indexOfChar_4cfef 9 = .ok (.iload_n 3, 1) := by decide +kernel
theorem dJ2_indexOfChar_4cfef_10 : decode cJ2_indexOfChar_4cfef 10 = .ok (.invokestatic 244, 3) := by decide +kernel
theorem dJ2_indexOfChar_4cfef_13 : decode cJ2_indexOfChar_4cfef 13 = .ok (.ireturn, 1) := by decide +kernel
theorem dJ2_indexOfCharUnsafe_4cfef_0 : decode cJ2_indexOfCharUnsafe_4cfef 0 = .ok (.iload_n 2, 1) := by decide +kernel
theorem dJ2_indexOfCharUnsafe_4cfef_1 : decode cJ2_indexOfCharUnsafe_4cfef 1 = .ok (.istore 4, 2) := by decide +kernel
theorem dJ2_indexOfCharUnsafe_4cfef_3 : decode cJ2_indexOfCharUnsafe_4cfef 3 = .ok (.iload 4, 2) := by decide +kernel
theorem dJ2_indexOfCharUnsafe_4cfef_5 : decode cJ2_indexOfCharUnsafe_4cfef 5 = .ok (.iload_n 3, 1) := by decide +kernel
theorem dJ2_indexOfCharUnsafe_4cfef_6 : decode cJ2_indexOfCharUnsafe_4cfef 6 = .ok (.if_icmp .ge 22, 3) := by decide +kernel
theorem dJ2_indexOfCharUnsafe_4cfef_9 : decode cJ2_indexOfCharUnsafe_4cfef 9 = .ok (.aload_n 0, 1) := by decide +kernel
theorem dJ2_indexOfCharUnsafe_4cfef_10 : decode cJ2_indexOfCharUnsafe_4cfef 10 = .ok (.iload 4, 2) := by decide +kernel
theorem dJ2_indexOfCharUnsafe_4cfef_12 : decode cJ2_indexOfCharUnsafe_4cfef 12 = .ok (.invokestatic 71, 3) := by decide +kernel
theorem dJ2_indexOfCharUnsafe_4cfef_15 : decode cJ2_indexOfCharUnsafe_4cfef 15 = .ok (.iload_n 1, 1) := by decide +kernel
theorem dJ2_indexOfCharUnsafe_4cfef_16 : decode cJ2_indexOfCharUnsafe_4cfef 16 = .ok (.if_icmp .ne 6, 3) := by decide +kernel
theorem dJ2_indexOfCharUnsafe_4cfef_19 : decode cJ2_indexOfCharUnsafe_4cfef 19 = .ok (.iload 4, 2) := by decide +kernel
theorem dJ2_indexOfCharUnsafe_4cfef_21 : decode cJ2_indexOfCharUnsafe_4cfef 21 = .ok (.ireturn, 1) := by decide +kernel
theorem dJ2_indexOfCharUnsafe_4cfef_22 : decode cJ2_indexOfCharUnsafe_4cfef 22 = .ok (.iinc 4 1, 3) := by decide +kernel
theorem dJ2_indexOfCharUnsafe_4cfef_25 : decode cJ2_indexOfCharUnsafe_4cfef 25 = .ok (.goto (-22), 3) := by decide +kernel
theorem dJ2_indexOfCharUnsafe_4cfef_28 : decode cJ2_indexOfCharUnsafe_4cfef 28 = .ok (.iconst (-1), 1) := by decide +kernel
theorem dJ2_indexOfCharUnsafe_4cfef_29 : decode cJ2_indexOfCharUnsafe_4cfef 29 = .ok (.ireturn, 1) := by decide +kernel
theorem dJ2_indexOfSupplementary_4cfef_0 : decode cJ2_indexOfSupplementary_4cfef 0 = .ok (.iload_n 1, 1) := by decide +kernel
theorem dJ2_indexOfSupplementary_4cfef_1 : decode cJ2_indexOfSupplementary_4cfef 1 = .ok (.invokestatic 164, 3) := by decide +kernel
theorem dJ2_indexOfSupplementary_4cfef_4 : decode cJ2_indexOfSupplementary_4cfef 4 = .ok (.ifCond .eq 65, 3) := by decide +kernel
theorem dJ2_indexOfSupplementary_4cfef_7 : decode cJ2_indexOfSupplementary_4cfef 7 = .ok (.iload_n 1, 1) := by decide +kernel
theorem dJ2_indexOfSupplementary_4cfef_8 : decode cJ2_indexOfSupplementary_4cfef 8 = .ok (.invokestatic 157, 3) := by decide +kernel
theorem dJ2_indexOfSupplementary_4cfef_11 : decode cJ2_indexOfSupplementary_4cfef 11 = .ok (.istore 4, 2) := by decide +kernel
theorem dJ2_indexOfSupplementary_4cfef_13 : decode cJ2_indexOfSupplementary_4cfef 13 = .ok (.iload_n 1, 1) := by decide +kernel
theorem dJ2_indexOfSupplementary_4cfef_14 : decode cJ2_indexOfSupplementary_4cfef 14 = .ok (.invokestatic 161, 3) := by decide +kernel
theorem dJ2_indexOfSupplementary_4cfef_17 : decode cJ2_indexOfSupplementary_4cfef 17 = .ok (.istore 5, 2) := by decide +kernel
theorem dJ2_indexOfSupplementary_4cfef_19 : decode cJ2_indexOfSupplementary_4cfef 19 = .ok (.iload_n 2, 1) := by decide +kernel
theorem dJ2_indexOfSupplementary_4cfef_20 : decode cJ2_indexOfSupplementary_4cfef 20 = .ok (.iload_n 3, 1) := by decide +kernel
theorem dJ2_indexOfSupplementary_4cfef_21 : decode cJ2_indexOfSupplementary_4cfef 21 = .ok (.aload_n 0, 1) := by decide +kernel
theorem dJ2_indexOfSupplementary_4cfef_22 : decode cJ2_indexOfSupplementary_4cfef 22 = .ok (.invokestatic 96, 3) := by decide +kernel
theorem dJ2_indexOfSupplementary_4cfef_25 : decode cJ2_indexOfSupplementary_4cfef 25 = .ok (.iload_n 2, 1) := by decide +kernel
theorem dJ2_indexOfSupplementary_4cfef_26 : decode cJ2_indexOfSupplementary_4cfef 26 = .ok (.istore 6, 2) := by decide +kernel
theorem dJ2_indexOfSupplementary_4cfef_28 : decode cJ2_indexOfSupplementary_4cfef 28 = .ok (.iload 6, 2) := by decide +kernel
theorem dJ2_indexOfSupplementary_4cfef_30 : decode cJ2_indexOfSupplementary_4cfef 30 = .ok (.iload_n 3, 1) := by decide +kernel
theorem dJ2_indexOfSupplementary_4cfef_31 : decode cJ2_indexOfSupplementary_4cfef 31 = .ok (.iconst 1, 1) := by decide +kernel
theorem dJ2_indexOfSupplementary_4cfef_32 : decode cJ2_indexOfSupplementary_4cfef 32 = .ok (.isub, 1) := by decide +kernel
theorem dJ2_indexOfSupplementary_4cfef_33 : decode cJ2_indexOfSupplementary_4cfef 33 = .ok (.if_icmp .ge 36, 3) := by decide +kernel
theorem dJ2_indexOfSupplementary_4cfef_36 : decode cJ2_indexOfSupplementary_4cfef 36 = .ok (.aload_n 0, 1) := by decide +kernel
theorem dJ2_indexOfSupplementary_4cfef_37 : decode cJ2_indexOfSupplementary_4cfef 37 = .ok (.iload 6, 2) := by decide +kernel
theorem dJ2_indexOfSupplementary_4cfef_39 : decode cJ2_indexOfSupplementary_4cfef 39 = .ok (.invokestatic 71, 3) := by decide +kernel
theorem dJ2_indexOfSupplementary_4cfef_42 : decode cJ2_indexOfSupplementary_4cfef 42 = .ok (.iload 4, 2) := by decide +kernel
theorem dJ2_indexOfSupplementary_4cfef_44 : decode cJ2_indexOfSupplementary_4cfef 44 = .ok (.if_icmp .ne 19, 3) := by decide +kernel
theorem dJ2_indexOfSupplementary_4cfef_47 : decode cJ2_indexOfSupplementary_4cfef 47 = .ok (.aload_n 0, 1) := by decide +kernel
theorem dJ2_indexOfSupplementary_4cfef_48 : decode cJ2_indexOfSupplementary_4cfef 48 = .ok (.iload 6, 2) := by decide +kernel
theorem dJ2_indexOfSupplementary_4cfef_50 : decode cJ2_indexOfSupplementary_4cfef 50 = .ok (.iconst 1, 1) := by decide +kernel
theorem dJ2_indexOfSupplementary_4cfef_51 : decode cJ2_indexOfSupplementary_4cfef 51 = .ok (.iadd, 1) := by decide +kernel
theorem dJ2_indexOfSupplementary_4cfef_52 : decode cJ2_indexOfSupplementary_4cfef 52 = .ok (.invokestatic 71, 3) := by decide +kernel
theorem dJ2_indexOfSupplementary_4cfef_55 : decode cJ2_indexOfSupplementary_4cfef 55 = .ok (.iload 5, 2) := by decide +kernel
theorem dJ2_indexOfSupplementary_4cfef_57 : decode cJ2_indexOfSupplementary_4cfef 57 = .ok (.if_icmp .ne 6, 3) := by decide +kernel
theorem dJ2_indexOfSupplementary_4cfef_60 : decode cJ2_indexOfSupplementary_4cfef 60 = .ok (.iload 6, 2) := by decide +kernel
theorem dJ2_indexOfSupplementary_4cfef_62 : decode cJ2_indexOfSupplementary_4cfef 62 = .ok (.ireturn, 1) := by decide +kernel
theorem dJ2_indexOfSupplementary_4cfef_63 : decode cJ2_indexOfSupplementary_4cfef 63 = .ok (.iinc 6 1, 3) := by decide +kernel
theorem dJ2_indexOfSupplementary_4cfef_66 : decode cJ2_indexOfSupplementary_4cfef 66 = .ok (.goto (-38), 3) := by decide +kernel
theorem dJ2_indexOfSupplementary_4cfef_69 : decode cJ2_indexOfSupplementary_4cfef 69 = .ok (.iconst (-1), 1) := by decide +kernel
theorem dJ2_indexOfSupplementary_4cfef_70 : decode cJ2_indexOfSupplementary_4cfef 70 = .ok (.ireturn, 1) := by decide +kernel
theorem dJ2_checkBoundsBeginEnd_d044e_0 : decode cJ2_checkBoundsBeginEnd_d044e 0 = .ok (.iload_n 0, 1) := by decide +kernel
theorem dJ2_checkBoundsBeginEnd_d044e_1 : decode cJ2_checkBoundsBeginEnd_d044e 1 = .ok (.iload_n 1, 1) := by decide +kernel
theorem dJ2_checkBoundsBeginEnd_d044e_2 : decode cJ2_checkBoundsBeginEnd_d044e 2 = .ok (.aload_n 2, 1) := by decide +kernel
theorem dJ2_checkBoundsBeginEnd_d044e_3 : decode cJ2_checkBoundsBeginEnd_d044e 3 = .ok (.invokestatic 48, 3) := by decide +kernel
theorem dJ2_checkBoundsBeginEnd_d044e_6 : decode cJ2_checkBoundsBeginEnd_d044e 6 = .ok (.invokestatic 241, 3) := by decide +kernel
theorem dJ2_checkBoundsBeginEnd_d044e_9 : decode cJ2_checkBoundsBeginEnd_d044e 9 = .ok (.return_, 1) := by decide +kernel
theorem dJ3_checkFromToIndex_8c36e_0 : decode cJ3_checkFromToIndex_8c36e 0 = .ok (.iload_n 0, 1) := by decide +kernel
theorem dJ3_checkFromToIndex_8c36e_1 : decode cJ3_checkFromToIndex_8c36e 1 = .ok (.ifCond .lt 13, 3) := by decide +kernel
theorem dJ3_checkFromToIndex_8c36e_4 : decode cJ3_checkFromToIndex_8c36e 4 = .ok (.iload_n 0, 1) := by decide +kernel
theorem dJ3_checkFromToIndex_8c36e_5 : decode cJ3_checkFromToIndex_8c36e 5 = .ok (.iload_n 1, 1) := by decide +kernel
theorem dJ3_checkFromToIndex_8c36e_6 : decode cJ3_checkFromToIndex_8c36e 6 = .ok (.if_icmp .gt 8, 3) := by decide +kernel
theorem dJ3_checkFromToIndex_8c36e_9 : decode cJ3_checkFromToIndex_8c36e 9 = .ok (.iload_n 1, 1) := by decide +kernel
theorem dJ3_checkFromToIndex_8c36e_10 : decode cJ3_checkFromToIndex_8c36e 10 = .ok (.iload_n 2, 1) := by decide +kernel
theorem dJ3_checkFromToIndex_8c36e_11 : decode cJ3_checkFromToIndex_8c36e 11 = .ok (.if_icmp .le 11, 3) := by decide +kernel
theorem dJ3_checkFromToIndex_8c36e_14 : decode cJ3_checkFromToIndex_8c36e 14 = .ok (.aload_n 3, 1) := by decide +kernel
theorem dJ3_checkFromToIndex_8c36e_15 : decode cJ3_checkFromToIndex_8c36e 15 = .ok (.iload_n 0, 1) := by decide +kernel
theorem dJ3_checkFromToIndex_8c36e_16 : decode cJ3_checkFromToIndex_8c36e 16 = .ok (.iload_n 1, 1) := by decide +kernel
theorem dJ3_checkFromToIndex_8c36e_17 : decode cJ3_checkFromToIndex_8c36e 17 = .ok (.iload_n 2, 1) := by decide +kernel
theorem dJ3_checkFromToIndex_8c36e_18 : decode cJ3_checkFromToIndex_8c36e 18 = .ok (.invokestatic 99, 3) := by decide +kernel
theorem dJ3_checkFromToIndex_8c36e_21 : decode cJ3_checkFromToIndex_8c36e 21 = .ok (.athrow, 1) := by decide +kernel
theorem dJ3_checkFromToIndex_8c36e_22 : decode cJ3_checkFromToIndex_8c36e 22 = .ok (.iload_n 0, 1) := by decide +kernel
theorem dJ3_checkFromToIndex_8c36e_23 : decode cJ3_checkFromToIndex_8c36e 23 = .ok (.ireturn, 1) := by decide +kernel
theorem dX0_init_0 : decode cX0_init 0 = .ok (.aload_n 0, 1) := by decide +kernel
theorem dX0_init_1 : decode cX0_init 1 = .ok (.invokespecial 3, 3) := by decide +kernel
theorem dX0_init_4 : decode cX0_init 4 = .ok (.aload_n 0, 1) := by decide +kernel
theorem dX0_init_5 : decode cX0_init 5 = .ok (.new 9, 3) := by decide +kernel
theorem dX0_init_8 : decode cX0_init 8 = .ok (.dup, 1) := by decide +kernel
theorem dX0_init_9 : decode cX0_init 9 = .ok (.bipush 60, 2) := by decide +kernel
theorem dX0_init_11 : decode cX0_init 11 = .ok (.invokespecial 11, 3) := by decide +kernel
theorem dX0_init_14 : decode cX0_init 14 = .ok (.putfield 14, 3) := by decide +kernel
theorem dX0_init_17 : decode cX0_init 17 = .ok (.aload_n 0, 1) := by decide +kernel
theorem dX0_init_18 : decode cX0_init 18 = .ok (.bipush 60, 2) := by decide +kernel
theorem dX0_init_20 : decode cX0_init 20 = .ok (.newarray .int, 2) := by decide +kernel
theorem dX0_init_22 : decode cX0_init 22 = .ok (.putfield 20, 3) := by decide +kernel
theorem dX0_init_25 : decode cX0_init 25 = .ok (.aload_n 0, 1) := by decide +kernel
theorem dX0_init_26 : decode cX0_init 26 = .ok (.iload_n 1, 1) := by decide +kernel
theorem dX0_init_27 : decode cX0_init 27 = .ok (.putfield 24, 3) := by decide +kernel
theorem dX0_init_30 : decode cX0_init 30 = .ok (.return_, 1) := by decide +kernel
theorem dX0_takeSteps_0 : decode cX0_takeSteps 0 = .ok (.aload_n 0, 1) := by decide +kernel
theorem dX0_takeSteps_1 : decode cX0_takeSteps 1 = .ok (.getfield 14, 3) := by decide +kernel
theorem dX0_takeSteps_4 : decode cX0_takeSteps 4 = .ok (.aload_n 1, 1) := by decide +kernel
theorem dX0_takeSteps_5 : decode cX0_takeSteps 5 = .ok (.invokevirtual 28, 3) := by decide +kernel
theorem dX0_takeSteps_8 : decode cX0_takeSteps 8 = .ok (.return_, 1) := by decide +kernel
theorem dX0_gives_0 : decode cX0_gives 0 = .ok (.aload_n 0, 1) := by decide +kernel
theorem dX0_gives_1 : decode cX0_gives 1 = .ok (.getfield 20, 3) := by decide +kernel
theorem dX0_gives_4 : decode cX0_gives 4 = .ok (.iconst 0, 1) := by decide +kernel
theorem dX0_gives_5 : decode cX0_gives 5 = .ok (.iload_n 1, 1) := by decide +kernel
theorem dX0_gives_6 : decode cX0_gives 6 = .ok (.iastore, 1) := by decide +kernel
theorem dX0_gives_7 : decode cX0_gives 7 = .ok (.iconst 0, 1) := by decide +kernel
theorem dX0_gives_8 : decode cX0_gives 8 = .ok (.istore 4, 2) := by decide +kernel
theorem dX0_gives_10 : decode cX0_gives 10 = .ok (.iconst 0, 1) := by decide +kernel
theorem dX0_gives_11 : decode cX0_gives 11 = .ok (.istore 5, 2) := by decide +kernel
theorem dX0_gives_13 : decode cX0_gives 13 = .ok (.iload 5, 2) := by decide +kernel
theorem dX0_gives_15 : decode cX0_gives 15 = .ok (.aload_n 0, 1) := by decide +kernel
theorem dX0_gives_16 : decode cX0_gives 16 = .ok (.getfield 14, 3) := by decide +kernel
theorem dX0_gives_19 : decode cX0_gives 19 = .ok (.getfield 32, 3) := by decide +kernel
theorem dX0_gives_22 : decode cX0_gives 22 = .ok (.if_icmp .ge 139, 3) := by decide +kernel
theorem dX0_gives_25 : decode cX0_gives 25 = .ok (.aload_n 0, 1) := by decide +kernel
theorem dX0_gives_26 : decode cX0_gives 26 = .ok (.getfield 14, 3) := by decide +kernel
theorem dX0_gives_29 : decode cX0_gives 29 = .ok (.getfield 35, 3) := by decide +kernel
theorem dX0_gives_32 : decode cX0_gives 32 = .ok (.iload 5, 2) := by decide +kernel
theorem dX0_gives_34 : decode cX0_gives 34 = .ok (.iaload, 1) := by decide +kernel
theorem dX0_gives_35 : decode cX0_gives 35 = .ok (.istore 6, 2) := by decide +kernel
theorem dX0_gives_37 : decode cX0_gives 37 = .ok (.iload 6, 2) := by decide +kernel
theorem dX0_gives_39 : decode cX0_gives 39 = .ok (.ifCond .lt 34, 3) := by decide +kernel
theorem dX0_gives_42 : decode cX0_gives 42 = .ok (.iload 4, 2) := by decide +kernel
theorem dX0_gives_44 : decode cX0_gives 44 = .ok (.aload_n 0, 1) := by decide +kernel
theorem dX0_gives_45 : decode cX0_gives 45 = .ok (.getfield 20, 3) := by decide +kernel
theorem dX0_gives_48 : decode cX0_gives 48 = .ok (.arraylength, 1) := by decide +kernel
theorem dX0_gives_49 : decode cX0_gives 49 = .ok (.if_icmp .ge 24, 3) := by decide +kernel
theorem dX0_gives_52 : decode cX0_gives 52 = .ok (.aload_n 0, 1) := by decide +kernel
theorem dX0_gives_53 : decode cX0_gives 53 = .ok (.getfield 20, 3) := by decide +kernel
theorem dX0_gives_56 : decode cX0_gives 56 = .ok (.iload 4, 2) := by decide +kernel
theorem dX0_gives_58 : decode cX0_gives 58 = .ok (.iload 6, 2) := by decide +kernel
theorem dX0_gives_60 : decode cX0_gives 60 = .ok (.iload_n 1, 1) := by decide +kernel
theorem dX0_gives_61 : decode cX0_gives 61 = .ok (.iload_n 2, 1) := by decide +kernel
theorem dX0_gives_62 : decode cX0_gives 62 = .ok (.iload_n 3, 1) := by decide +kernel
theorem dX0_gives_63 : decode cX0_gives 63 = .ok (.invokestatic 38, 3) := by decide +kernel
theorem dX0_gives_66 : decode cX0_gives 66 = .ok (.iastore, 1) := by decide +kernel
theorem dX0_gives_67 : decode cX0_gives 67 = .ok (.iinc 4 1, 3) := by decide +kernel
theorem dX0_gives_70 : decode cX0_gives 70 = .ok (.goto 85, 3) := by decide +kernel
theorem dX0_gives_73 : decode cX0_gives 73 = .ok (.iload 6, 2) := by decide +kernel
theorem dX0_gives_75 : decode cX0_gives 75 = .ok (.bipush (-33), 2) := by decide +kernel
theorem dX0_gives_77 : decode cX0_gives 77 = .ok (.if_icmp .ne 38, 3) := by decide +kernel
theorem dX0_gives_80 : decode cX0_gives 80 = .ok (.iload 4, 2) := by decide +kernel
theorem dX0_gives_82 : decode cX0_gives 82 = .ok (.iconst 1, 1) := by decide +kernel
theorem dX0_gives_83 : decode cX0_gives 83 = .ok (.if_icmp .lt 32, 3) := by decide +kernel
theorem dX0_gives_86 : decode cX0_gives 86 = .ok (.aload_n 0, 1) := by decide +kernel
theorem dX0_gives_87 : decode cX0_gives 87 = .ok (.getfield 20, 3) := by decide +kernel
theorem dX0_gives_90 : decode cX0_gives 90 = .ok (.iload 4, 2) := by decide +kernel
theorem dX0_gives_92 : decode cX0_gives 92 = .ok (.iconst 1, 1) := by decide +kernel
theorem dX0_gives_93 : decode cX0_gives 93 = .ok (.isub, 1) := by decide +kernel
theorem dX0_gives_94 : decode cX0_gives 94 = .ok (.aload_n 0, 1) := by decide +kernel
theorem dX0_gives_95 : decode cX0_gives 95 = .ok (.getfield 20, 3) := by decide +kernel
theorem dX0_gives_98 : decode cX0_gives 98 = .ok (.iload 4, 2) := by decide +kernel
theorem dX0_gives_100 : decode cX0_gives 100 = .ok (.iconst 1, 1) := by decide +kernel
theorem dX0_gives_101 : decode cX0_gives 101 = .ok (.isub, 1) := by decide +kernel
theorem dX0_gives_102 : decode cX0_gives 102 = .ok (.iaload, 1) := by decide +kernel
theorem dX0_gives_103 : decode cX0_gives 103 = .ok (.ifCond .ne 7, 3) := by decide +kernel
theorem dX0_gives_106 : decode cX0_gives 106 = .ok (.iconst 1, 1) := by decide +kernel
theorem dX0_gives_107 : decode cX0_gives 107 = .ok (.goto 4, 3) := by decide +kernel
theorem dX0_gives_110 : decode cX0_gives 110 = .ok (.iconst 0, 1) := by decide +kernel
theorem dX0_gives_111 : decode cX0_gives 111 = .ok (.iastore, 1) := by decide +kernel
theorem dX0_gives_112 : decode cX0_gives 112 = .ok (.goto 43, 3) := by decide +kernel
theorem dX0_gives_115 : decode cX0_gives 115 = .ok (.iload 4, 2) := by decide +kernel
theorem dX0_gives_117 : decode cX0_gives 117 = .ok (.iconst 2, 1) := by decide +kernel
theorem dX0_gives_118 : decode cX0_gives 118 = .ok (.if_icmp .lt 37, 3) := by decide +kernel
theorem dX0_gives_121 : decode cX0_gives 121 = .ok (.iinc 4 (-1), 3) := by decide +kernel
theorem dX0_gives_124 : decode cX0_gives 124 = .ok (.aload_n 0, 1) := by decide +kernel
theorem dX0_gives_125 : decode cX0_gives 125 = .ok (.getfield 20, 3) := by decide +kernel
theorem dX0_gives_128 : decode cX0_gives 128 = .ok (.iload 4, 2) := by decide +kernel
theorem dX0_gives_130 : decode cX0_gives 130 = .ok (.iconst 1, 1) := by decide +kernel
theorem dX0_gives_131 : decode cX0_gives 131 = .ok (.isub, 1) := by decide +kernel
theorem dX0_gives_132 : decode cX0_gives 132 = .ok (.iload 6, 2) := by decide +kernel
theorem dX0_gives_134 : decode cX0_gives 134 = .ok (.ineg, 1) := by decide +kernel
theorem dX0_gives_135 : decode cX0_gives 135 = .ok (.aload_n 0, 1) := by decide +kernel
theorem dX0_gives_136 : decode cX0_gives 136 = .ok (.getfield 20, 3) := by decide +kernel
theorem dX0_gives_139 : decode cX0_gives 139 = .ok (.iload 4, 2) := by decide +kernel
theorem dX0_gives_141 : decode cX0_gives 141 = .ok (.iconst 1, 1) := by decide +kernel
theorem dX0_gives_142 : decode cX0_gives 142 = .ok (.isub, 1) := by decide +kernel
theorem dX0_gives_143 : decode cX0_gives 143 = .ok (.iaload, 1) := by decide +kernel
theorem dX0_gives_144 : decode cX0_gives 144 = .ok (.aload_n 0, 1) := by decide +kernel
theorem dX0_gives_145 : decode cX0_gives 145 = .ok (.getfield 20, 3) := by decide +kernel
theorem dX0_gives_148 : decode cX0_gives 148 = .ok (.iload 4, 2) := by decide +kernel
theorem dX0_gives_150 : decode cX0_gives 150 = .ok (.iaload, 1) := by decide +kernel
theorem dX0_gives_151 : decode cX0_gives 151 = .ok (.invokestatic 42, 3) := by decide +kernel
theorem dX0_gives_154 : decode cX0_gives 154 = .ok (.iastore, 1) := by decide +kernel
theorem dX0_gives_155 : decode cX0_gives 155 = .ok (.iinc 5 1, 3) := by decide +kernel
theorem dX0_gives_158 : decode cX0_gives 158 = .ok (.goto (-145), 3) := by decide +kernel
theorem dX0_gives_161 : decode cX0_gives 161 = .ok (.aload_n 0, 1) := by decide +kernel
theorem dX0_gives_162 : decode cX0_gives 162 = .ok (.getfield 24, 3) := by decide +kernel
theorem dX0_gives_165 : decode cX0_gives 165 = .ok (.ifCond .ne 21, 3) := by decide +kernel
theorem dX0_gives_168 : decode cX0_gives 168 = .ok (.iconst 0, 1) := by decide +kernel
theorem dX0_gives_169 : decode cX0_gives 169 = .ok (.bipush 99, 2) := by decide +kernel
theorem dX0_gives_171 : decode cX0_gives 171 = .ok (.aload_n 0, 1) := by decide +kernel
theorem dX0_gives_172 : decode cX0_gives 172 = .ok (.getfield 20, 3) := by decide +kernel
theorem dX0_gives_175 : decode cX0_gives 175 = .ok (.iconst 0, 1) := by decide +kernel
theorem dX0_gives_176 : decode cX0_gives 176 = .ok (.iaload, 1) := by decide +kernel
theorem dX0_gives_177 : decode cX0_gives 177 = .ok (.invokestatic 46, 3) := by decide +kernel
theorem dX0_gives_180 : decode cX0_gives 180 = .ok (.invokestatic 52, 3) := by decide +kernel
theorem dX0_gives_183 : decode cX0_gives 183 = .ok (.goto 14, 3) := by decide +kernel
theorem dX0_gives_186 : decode cX0_gives 186 = .ok (.aload_n 0, 1) := by decide +kernel
theorem dX0_gives_187 : decode cX0_gives 187 = .ok (.getfield 20, 3) := by decide +kernel
theorem dX0_gives_190 : decode cX0_gives 190 = .ok (.iconst 0, 1) := by decide +kernel
theorem dX0_gives_191 : decode cX0_gives 191 = .ok (.iaload, 1) := by decide +kernel
theorem dX0_gives_192 : decode cX0_gives 192 = .ok (.bipush 100, 2) := by decide +kernel
theorem dX0_gives_194 : decode cX0_gives 194 = .ok (.invokestatic 55, 3) := by decide +kernel
theorem dX0_gives_197 : decode cX0_gives 197 = .ok (.ireturn, 1) := by decide +kernel
theorem dX0_worth_0 : decode cX0_worth 0 = .ok (.iload_n 0, 1) := by decide +kernel
theorem dX0_worth_1 : decode cX0_worth 1 = .ok (.tableswitch 33 10000 10002 #[27, 29, 31], 27) := by decide +kernel
theorem dX0_worth_28 : decode cX0_worth 28 = .ok (.iload_n 1, 1) := by decide +kernel
theorem dX0_worth_29 : decode cX0_worth 29 = .ok (.ireturn, 1) := by decide +kernel
theorem dX0_worth_30 : decode cX0_worth 30 = .ok (.iload_n 2, 1) := by decide +kernel
theorem dX0_worth_31 : decode cX0_worth 31 = .ok (.ireturn, 1) := by decide +kernel
theorem dX0_worth_32 : decode cX0_worth 32 = .ok (.iload_n 3, 1) := by decide +kernel
theorem dX0_worth_33 : decode cX0_worth 33 = .ok (.ireturn, 1) := by decide +kernel
theorem dX0_worth_34 : decode cX0_worth 34 = .ok (.iload_n 0, 1) := by decide +kernel
theorem dX0_worth_35 : decode cX0_worth 35 = .ok (.ireturn, 1) := by decide +kernel
theorem dX0_combine_0 : decode cX0_combine 0 = .ok (.iload_n 0, 1) := by decide +kernel
theorem dX0_combine_1 : decode cX0_combine 1 = .ok (.lookupswitch 188 #[(37, 176), (38, 105), (42, 160), (43, 152), (45, 156), (47, 164), (60, 119), (61, 130), (62, 141), (124, 91)], 91) := by decide +kernel
theorem dX0_combine_92 : decode cX0_combine 92 = .ok (.iload_n 1, 1) := by decide +kernel
theorem dX0_combine_93 : decode cX0_combine 93 = .ok (.ifCond .ne 7, 3) := by decide +kernel
theorem dX0_combine_96 : decode cX0_combine 96 = .ok (.iload_n 2, 1) := by decide +kernel
theorem dX0_combine_97 : decode cX0_combine 97 = .ok (.ifCond .eq 7, 3) := by decide +kernel
theorem dX0_combine_100 : decode cX0_combine 100 = .ok (.iconst 1, 1) := by decide +kernel
theorem dX0_combine_101 : decode cX0_combine 101 = .ok (.goto 4, 3) := by decide +kernel
theorem dX0_combine_104 : decode cX0_combine 104 = .ok (.iconst 0, 1) := by decide +kernel
theorem dX0_combine_105 : decode cX0_combine 105 = .ok (.ireturn, 1) := by decide +kernel
theorem dX0_combine_106 : decode cX0_combine 106 = .ok (.iload_n 1, 1) := by decide +kernel
theorem dX0_combine_107 : decode cX0_combine 107 = .ok (.ifCond .eq 11, 3) := by decide +kernel
theorem dX0_combine_110 : decode cX0_combine 110 = .ok (.iload_n 2, 1) := by decide +kernel
theorem dX0_combine_111 : decode cX0_combine 111 = .ok (.ifCond .eq 7, 3) := by decide +kernel
theorem dX0_combine_114 : decode cX0_combine 114 = .ok (.iconst 1, 1) := by decide +kernel
theorem dX0_combine_115 : decode cX0_combine 115 = .ok (.goto 4, 3) := by decide +kernel
theorem dX0_combine_118 : decode cX0_combine 118 = .ok (.iconst 0, 1) := by decide +kernel
theorem dX0_combine_119 : decode cX0_combine 119 = .ok (.ireturn, 1) := by decide +kernel
theorem dX0_combine_120 : decode cX0_combine 120 = .ok (.iload_n 1, 1) := by decide +kernel
theorem dX0_combine_121 : decode cX0_combine 121 = .ok (.iload_n 2, 1) := by decide +kernel
theorem dX0_combine_122 : decode cX0_combine 122 = .ok (.if_icmp .ge 7, 3) := by decide +kernel
theorem dX0_combine_125 : decode cX0_combine 125 = .ok (.iconst 1, 1) := by decide +kernel
theorem dX0_combine_126 : decode cX0_combine 126 = .ok (.goto 4, 3) := by decide +kernel
theorem dX0_combine_129 : decode cX0_combine 129 = .ok (.iconst 0, 1) := by decide +kernel
theorem dX0_combine_130 : decode cX0_combine 130 = .ok (.ireturn, 1) := by decide +kernel
theorem dX0_combine_131 : decode cX0_combine 131 = .ok (.iload_n 1, 1) := by decide +kernel
theorem dX0_combine_132 : decode cX0_combine 132 = .ok (.iload_n 2, 1) := by decide +kernel
theorem dX0_combine_133 : decode cX0_combine 133 = .ok (.if_icmp .ne 7, 3) := by decide +kernel
theorem dX0_combine_136 : decode cX0_combine 136 = .ok (.iconst 1, 1) := by decide +kernel
theorem dX0_combine_137 : decode cX0_combine 137 = .ok (.goto 4, 3) := by decide +kernel
theorem dX0_combine_140 : decode cX0_combine 140 = .ok (.iconst 0, 1) := by decide +kernel
theorem dX0_combine_141 : decode cX0_combine 141 = .ok (.ireturn, 1) := by decide +kernel
theorem dX0_combine_142 : decode cX0_combine 142 = .ok (.iload_n 1, 1) := by decide +kernel
theorem dX0_combine_143 : decode cX0_combine 143 = .ok (.iload_n 2, 1) := by decide +kernel
theorem dX0_combine_144 : decode cX0_combine 144 = .ok (.if_icmp .le 7, 3) := by decide +kernel
theorem dX0_combine_147 : decode cX0_combine 147 = .ok (.iconst 1, 1) := by decide +kernel
theorem dX0_combine_148 : decode cX0_combine 148 = .ok (.goto 4, 3) := by decide +kernel
theorem dX0_combine_151 : decode cX0_combine 151 = .ok (.iconst 0, 1) := by decide +kernel
theorem dX0_combine_152 : decode cX0_combine 152 = .ok (.ireturn, 1) := by decide +kernel
theorem dX0_combine_153 : decode cX0_combine 153 = .ok (.iload_n 1, 1) := by decide +kernel
theorem dX0_combine_154 : decode cX0_combine 154 = .ok (.iload_n 2, 1) := by decide +kernel
theorem dX0_combine_155 : decode cX0_combine 155 = .ok (.iadd, 1) := by decide +kernel
theorem dX0_combine_156 : decode cX0_combine 156 = .ok (.ireturn, 1) := by decide +kernel
theorem dX0_combine_157 : decode cX0_combine 157 = .ok (.iload_n 1, 1) := by decide +kernel
theorem dX0_combine_158 : decode cX0_combine 158 = .ok (.iload_n 2, 1) := by decide +kernel
theorem dX0_combine_159 : decode cX0_combine 159 = .ok (.isub, 1) := by decide +kernel
theorem dX0_combine_160 : decode cX0_combine 160 = .ok (.ireturn, 1) := by decide +kernel
theorem dX0_combine_161 : decode cX0_combine 161 = .ok (.iload_n 1, 1) := by decide +kernel
theorem dX0_combine_162 : decode cX0_combine 162 = .ok (.iload_n 2, 1) := by decide +kernel
theorem dX0_combine_163 : decode cX0_combine 163 = .ok (.imul, 1) := by decide +kernel
theorem dX0_combine_164 : decode cX0_combine 164 = .ok (.ireturn, 1) := by decide +kernel
theorem dX0_combine_165 : decode cX0_combine 165 = .ok (.iload_n 2, 1) := by decide +kernel
theorem dX0_combine_166 : decode cX0_combine 166 = .ok (.ifCond .ne 7, 3) := by decide +kernel
theorem dX0_combine_169 : decode cX0_combine 169 = .ok (.iconst 0, 1) := by decide +kernel
theorem dX0_combine_170 : decode cX0_combine 170 = .ok (.goto 6, 3) := by decide +kernel
theorem dX0_combine_173 : decode cX0_combine 173 = .ok (.iload_n 1, 1) := by decide +kernel
theorem dX0_combine_174 : decode cX0_combine 174 = .ok (.iload_n 2, 1) := by decide +kernel
theorem dX0_combine_175 : decode cX0_combine 175 = .ok (.idiv, 1) := by decide +kernel
theorem dX0_combine_176 : decode cX0_combine 176 = .ok (.ireturn, 1) := by decide +kernel
theorem dX0_combine_177 : decode cX0_combine 177 = .ok (.iload_n 2, 1) := by decide +kernel
theorem dX0_combine_178 : decode cX0_combine 178 = .ok (.ifCond .ne 7, 3) := by decide +kernel
theorem dX0_combine_181 : decode cX0_combine 181 = .ok (.iconst 0, 1) := by decide +kernel
theorem dX0_combine_182 : decode cX0_combine 182 = .ok (.goto 6, 3) := by decide +kernel
theorem dX0_combine_185 : decode cX0_combine 185 = .ok (.iload_n 1, 1) := by decide +kernel
theorem dX0_combine_186 : decode cX0_combine 186 = .ok (.iload_n 2, 1) := by decide +kernel
theorem dX0_combine_187 : decode cX0_combine 187 = .ok (.irem, 1) := by decide +kernel
theorem dX0_combine_188 : decode cX0_combine 188 = .ok (.ireturn, 1) := by decide +kernel
theorem dX0_combine_189 : decode cX0_combine 189 = .ok (.iconst 0, 1) := by decide +kernel
theorem dX0_combine_190 : decode cX0_combine 190 = .ok (.ireturn, 1) := by decide +kernel
theorem dX1_init_0 : decode cX1_init 0 = .ok (.aload_n 0, 1) := by decide +kernel
theorem dX1_init_1 : decode cX1_init 1 = .ok (.invokespecial 3, 3) := by decide +kernel
theorem dX1_init_4 : decode cX1_init 4 = .ok (.aload_n 0, 1) := by decide +kernel
theorem dX1_init_5 : decode cX1_init 5 = .ok (.new 9, 3) := by decide +kernel
theorem dX1_init_8 : decode cX1_init 8 = .ok (.dup, 1) := by decide +kernel
theorem dX1_init_9 : decode cX1_init 9 = .ok (.bipush 60, 2) := by decide +kernel
theorem dX1_init_11 : decode cX1_init 11 = .ok (.invokespecial 11, 3) := by decide +kernel
theorem dX1_init_14 : decode cX1_init 14 = .ok (.putfield 14, 3) := by decide +kernel
theorem dX1_init_17 : decode cX1_init 17 = .ok (.aload_n 0, 1) := by decide +kernel
theorem dX1_init_18 : decode cX1_init 18 = .ok (.aload_n 0, 1) := by decide +kernel
theorem dX1_init_19 : decode cX1_init 19 = .ok (.getfield 14, 3) := by decide +kernel
theorem dX1_init_22 : decode cX1_init 22 = .ok (.putfield 20, 3) := by decide +kernel
theorem dX1_init_25 : decode cX1_init 25 = .ok (.aload_n 0, 1) := by decide +kernel
theorem dX1_init_26 : decode cX1_init 26 = .ok (.ldc 23, 2) := by decide +kernel
theorem dX1_init_28 : decode cX1_init 28 = .ok (.putfield 25, 3) := by decide +kernel
theorem dX1_init_31 : decode cX1_init 31 = .ok (.aload_n 0, 1) := by decide +kernel
theorem dX1_init_32 : decode cX1_init 32 = .ok (.iconst 0, 1) := by decide +kernel
theorem dX1_init_33 : decode cX1_init 33 = .ok (.putfield 29, 3) := by decide +kernel
theorem dX1_init_36 : decode cX1_init 36 = .ok (.aload_n 0, 1) := by decide +kernel
theorem dX1_init_37 : decode cX1_init 37 = .ok (.iconst (-1), 1) := by decide +kernel
theorem dX1_init_38 : decode cX1_init 38 = .ok (.putfield 33, 3) := by decide +kernel
theorem dX1_init_41 : decode cX1_init 41 = .ok (.return_, 1) := by decide +kernel
theorem dX1_read_0 : decode cX1_read 0 = .ok (.aload_n 0, 1) := by decide +kernel
theorem dX1_read_1 : decode cX1_read 1 = .ok (.aload_n 1, 1) := by decide +kernel
theorem dX1_read_2 : decode cX1_read 2 = .ok (.putfield 20, 3) := by decide +kernel
theorem dX1_read_5 : decode cX1_read 5 = .ok (.aload_n 0, 1) := by decide +kernel
theorem dX1_read_6 : decode cX1_read 6 = .ok (.iload_n 2, 1) := by decide +kernel
theorem dX1_read_7 : decode cX1_read 7 = .ok (.ifCond .ne 8, 3) := by decide +kernel
theorem dX1_read_10 : decode cX1_read 10 = .ok (.ldc 36, 2) := by decide +kernel
theorem dX1_read_12 : decode cX1_read 12 = .ok (.goto 5, 3) := by decide +kernel
theorem dX1_read_15 : decode cX1_read 15 = .ok (.ldc 38, 2) := by decide +kernel
theorem dX1_read_17 : decode cX1_read 17 = .ok (.putfield 25, 3) := by decide +kernel
theorem dX1_read_20 : decode cX1_read 20 = .ok (.aload_n 0, 1) := by decide +kernel
theorem dX1_read_21 : decode cX1_read 21 = .ok (.iconst 0, 1) := by decide +kernel
theorem dX1_read_22 : decode cX1_read 22 = .ok (.putfield 29, 3) := by decide +kernel
theorem dX1_read_25 : decode cX1_read 25 = .ok (.aload_n 0, 1) := by decide +kernel
theorem dX1_read_26 : decode cX1_read 26 = .ok (.iconst (-1), 1) := by decide +kernel
theorem dX1_read_27 : decode cX1_read 27 = .ok (.putfield 33, 3) := by decide +kernel
theorem dX1_read_30 : decode cX1_read 30 = .ok (.aload_n 0, 1) := by decide +kernel
theorem dX1_read_31 : decode cX1_read 31 = .ok (.getfield 14, 3) := by decide +kernel
theorem dX1_read_34 : decode cX1_read 34 = .ok (.invokevirtual 40, 3) := by decide +kernel
theorem dX1_read_37 : decode cX1_read 37 = .ok (.aload_n 0, 1) := by decide +kernel
theorem dX1_read_38 : decode cX1_read 38 = .ok (.iconst 0, 1) := by decide +kernel
theorem dX1_read_39 : decode cX1_read 39 = .ok (.invokevirtual 43, 3) := by decide +kernel
theorem dX1_read_42 : decode cX1_read 42 = .ok (.aload_n 0, 1) := by decide +kernel
theorem dX1_read_43 : decode cX1_read 43 = .ok (.invokevirtual 46, 3) := by decide +kernel
theorem dX1_read_46 : decode cX1_read 46 = .ok (.iconst (-1), 1) := by decide +kernel
theorem dX1_read_47 : decode cX1_read 47 = .ok (.if_icmp .eq 7, 3) := by decide +kernel
theorem dX1_read_50 : decode cX1_read 50 = .ok (.aload_n 0, 1) := by decide +kernel
theorem dX1_read_51 : decode cX1_read 51 = .ok (.invokevirtual 50, 3) := by decide +kernel
theorem dX1_read_54 : decode cX1_read 54 = .ok (.aload_n 0, 1) := by decide +kernel
theorem dX1_read_55 : decode cX1_read 55 = .ok (.getfield 33, 3) := by decide +kernel
theorem dX1_read_58 : decode cX1_read 58 = .ok (.ireturn, 1) := by decide +kernel
theorem dX1_next_0 : decode cX1_next 0 = .ok (.aload_n 0, 1) := by decide +kernel
theorem dX1_next_1 : decode cX1_next 1 = .ok (.getfield 33, 3) := by decide +kernel
theorem dX1_next_4 : decode cX1_next 4 = .ok (.ifCond .ge 32, 3) := by decide +kernel
theorem dX1_next_7 : decode cX1_next 7 = .ok (.aload_n 0, 1) := by decide +kernel
theorem dX1_next_8 : decode cX1_next 8 = .ok (.getfield 20, 3) := by decide +kernel
theorem dX1_next_11 : decode cX1_next 11 = .ok (.aload_n 0, 1) := by decide +kernel
theorem dX1_next_12 : decode cX1_next 12 = .ok (.getfield 29, 3) := by decide +kernel
theorem dX1_next_15 : decode cX1_next 15 = .ok (.invokevirtual 53, 3) := by decide +kernel
theorem dX1_next_18 : decode cX1_next 18 = .ok (.ifCond .eq 18, 3) := by decide +kernel
theorem dX1_next_21 : decode cX1_next 21 = .ok (.aload_n 0, 1) := by decide +kernel
theorem dX1_next_22 : decode cX1_next 22 = .ok (.getfield 20, 3) := by decide +kernel
theorem dX1_next_25 : decode cX1_next 25 = .ok (.getfield 57, 3) := by decide +kernel
theorem dX1_next_28 : decode cX1_next 28 = .ok (.aload_n 0, 1) := by decide +kernel
theorem dX1_next_29 : decode cX1_next 29 = .ok (.getfield 29, 3) := by decide +kernel
theorem dX1_next_32 : decode cX1_next 32 = .ok (.iaload, 1) := by decide +kernel
theorem dX1_next_33 : decode cX1_next 33 = .ok (.goto 4, 3) := by decide +kernel
theorem dX1_next_36 : decode cX1_next 36 = .ok (.iconst (-1), 1) := by decide +kernel
theorem dX1_next_37 : decode cX1_next 37 = .ok (.ireturn, 1) := by decide +kernel
theorem dX1_fail_0 : decode cX1_fail 0 = .ok (.aload_n 0, 1) := by decide +kernel
theorem dX1_fail_1 : decode cX1_fail 1 = .ok (.getfield 33, 3) := by decide +kernel
theorem dX1_fail_4 : decode cX1_fail 4 = .ok (.ifCond .ge 11, 3) := by decide +kernel
theorem dX1_fail_7 : decode cX1_fail 7 = .ok (.aload_n 0, 1) := by decide +kernel
theorem dX1_fail_8 : decode cX1_fail 8 = .ok (.aload_n 0, 1) := by decide +kernel
theorem dX1_fail_9 : decode cX1_fail 9 = .ok (.getfield 29, 3) := by decide +kernel
theorem dX1_fail_12 : decode cX1_fail 12 = .ok (.putfield 33, 3) := by decide +kernel
theorem dX1_fail_15 : decode cX1_fail 15 = .ok (.return_, 1) := by decide +kernel
theorem dX1_isNext_0 : decode cX1_isNext 0 = .ok (.aload_n 0, 1) := by decide +kernel
theorem dX1_isNext_1 : decode cX1_isNext 1 = .ok (.invokevirtual 46, 3) := by decide +kernel
theorem dX1_isNext_4 : decode cX1_isNext 4 = .ok (.iload_n 1, 1) := by decide +kernel
theorem dX1_isNext_5 : decode cX1_isNext 5 = .ok (.if_icmp .ne 7, 3) := by decide +kernel
theorem dX1_isNext_8 : decode cX1_isNext 8 = .ok (.iconst 1, 1) := by decide +kernel
theorem dX1_isNext_9 : decode cX1_isNext 9 = .ok (.goto 4, 3) := by decide +kernel
theorem dX1_isNext_12 : decode cX1_isNext 12 = .ok (.iconst 0, 1) := by decide +kernel
theorem dX1_isNext_13 : decode cX1_isNext 13 = .ok (.ireturn, 1) := by decide +kernel
theorem dX1_readT_0 : decode cX1_readT 0 = .ok (.aload_n 0, 1) := by decide +kernel
theorem dX1_readT_1 : decode cX1_readT 1 = .ok (.iload_n 1, 1) := by decide +kernel
theorem dX1_readT_2 : decode cX1_readT 2 = .ok (.invokevirtual 61, 3) := by decide +kernel
theorem dX1_readT_5 : decode cX1_readT 5 = .ok (.iconst 0, 1) := by decide +kernel
theorem dX1_readT_6 : decode cX1_readT 6 = .ok (.istore_n 2, 1) := by decide +kernel
theorem dX1_readT_7 : decode cX1_readT 7 = .ok (.iload_n 2, 1) := by decide +kernel
theorem dX1_readT_8 : decode cX1_readT 8 = .ok (.bipush 60, 2) := by decide +kernel
theorem dX1_readT_10 : decode cX1_readT 10 = .ok (.if_icmp .ge 42, 3) := by decide +kernel
theorem dX1_readT_13 : decode cX1_readT 13 = .ok (.aload_n 0, 1) := by decide +kernel
theorem dX1_readT_14 : decode cX1_readT 14 = .ok (.bipush 124, 2) := by decide +kernel
theorem dX1_readT_16 : decode cX1_readT 16 = .ok (.invokevirtual 64, 3) := by decide +kernel
theorem dX1_readT_19 : decode cX1_readT 19 = .ok (.ifCond .eq 33, 3) := by decide +kernel
theorem dX1_readT_22 : decode cX1_readT 22 = .ok (.aload_n 0, 1) := by decide +kernel
theorem dX1_readT_23 : decode cX1_readT 23 = .ok (.dup, 1) := by decide +kernel
theorem dX1_readT_24 : decode cX1_readT 24 = .ok (.getfield 29, 3) := by decide +kernel
theorem dX1_readT_27 : decode cX1_readT 27 = .ok (.iconst 1, 1) := by decide +kernel
theorem dX1_readT_28 : decode cX1_readT 28 = .ok (.iadd, 1) := by decide +kernel
theorem dX1_readT_29 : decode cX1_readT 29 = .ok (.putfield 29, 3) := by decide +kernel
theorem dX1_readT_32 : decode cX1_readT 32 = .ok (.aload_n 0, 1) := by decide +kernel
theorem dX1_readT_33 : decode cX1_readT 33 = .ok (.iload_n 1, 1) := by decide +kernel
theorem dX1_readT_34 : decode cX1_readT 34 = .ok (.invokevirtual 61, 3) := by decide +kernel
theorem dX1_readT_37 : decode cX1_readT 37 = .ok (.aload_n 0, 1) := by decide +kernel
theorem dX1_readT_38 : decode cX1_readT 38 = .ok (.getfield 14, 3) := by decide +kernel
theorem dX1_readT_41 : decode cX1_readT 41 = .ok (.bipush (-124), 2) := by decide +kernel
theorem dX1_readT_43 : decode cX1_readT 43 = .ok (.invokevirtual 68, 3) := by decide +kernel
theorem dX1_readT_46 : decode cX1_readT 46 = .ok (.iinc 2 1, 3) := by decide +kernel
theorem dX1_readT_49 : decode cX1_readT 49 = .ok (.goto (-42), 3) := by decide +kernel
theorem dX1_readT_52 : decode cX1_readT 52 = .ok (.return_, 1) := by decide +kernel
theorem dX1_readA_0 : decode cX1_readA 0 = .ok (.aload_n 0, 1) := by decide +kernel
theorem dX1_readA_1 : decode cX1_readA 1 = .ok (.iload_n 1, 1) := by decide +kernel
theorem dX1_readA_2 : decode cX1_readA 2 = .ok (.invokevirtual 71, 3) := by decide +kernel
theorem dX1_readA_5 : decode cX1_readA 5 = .ok (.iconst 0, 1) := by decide +kernel
theorem dX1_readA_6 : decode cX1_readA 6 = .ok (.istore_n 2, 1) := by decide +kernel
theorem dX1_readA_7 : decode cX1_readA 7 = .ok (.iload_n 2, 1) := by decide +kernel
theorem dX1_readA_8 : decode cX1_readA 8 = .ok (.bipush 60, 2) := by decide +kernel
theorem dX1_readA_10 : decode cX1_readA 10 = .ok (.if_icmp .ge 42, 3) := by decide +kernel
theorem dX1_readA_13 : decode cX1_readA 13 = .ok (.aload_n 0, 1) := by decide +kernel
theorem dX1_readA_14 : decode cX1_readA 14 = .ok (.bipush 38, 2) := by decide +kernel
theorem dX1_readA_16 : decode cX1_readA 16 = .ok (.invokevirtual 64, 3) := by decide +kernel
theorem dX1_readA_19 : decode cX1_readA 19 = .ok (.ifCond .eq 33, 3) := by decide +kernel
theorem dX1_readA_22 : decode cX1_readA 22 = .ok (.aload_n 0, 1) := by decide +kernel
theorem dX1_readA_23 : decode cX1_readA 23 = .ok (.dup, 1) := by decide +kernel
theorem dX1_readA_24 : decode cX1_readA 24 = .ok (.getfield 29, 3) := by decide +kernel
theorem dX1_readA_27 : decode cX1_readA 27 = .ok (.iconst 1, 1) := by decide +kernel
theorem dX1_readA_28 : decode cX1_readA 28 = .ok (.iadd, 1) := by decide +kernel
theorem dX1_readA_29 : decode cX1_readA 29 = .ok (.putfield 29, 3) := by decide +kernel
theorem dX1_readA_32 : decode cX1_readA 32 = .ok (.aload_n 0, 1) := by decide +kernel
theorem dX1_readA_33 : decode cX1_readA 33 = .ok (.iload_n 1, 1) := by decide +kernel
theorem dX1_readA_34 : decode cX1_readA 34 = .ok (.invokevirtual 71, 3) := by decide +kernel
theorem dX1_readA_37 : decode cX1_readA 37 = .ok (.aload_n 0, 1) := by decide +kernel
theorem dX1_readA_38 : decode cX1_readA 38 = .ok (.getfield 14, 3) := by decide +kernel
theorem dX1_readA_41 : decode cX1_readA 41 = .ok (.bipush (-38), 2) := by decide +kernel
theorem dX1_readA_43 : decode cX1_readA 43 = .ok (.invokevirtual 68, 3) := by decide +kernel
theorem dX1_readA_46 : decode cX1_readA 46 = .ok (.iinc 2 1, 3) := by decide +kernel
theorem dX1_readA_49 : decode cX1_readA 49 = .ok (.goto (-42), 3) := by decide +kernel
theorem dX1_readA_52 : decode cX1_readA 52 = .ok (.return_, 1) := by decide +kernel
theorem dX1_readB_0 : decode cX1_readB 0 = .ok (.aload_n 0, 1) := by decide +kernel
theorem dX1_readB_1 : decode cX1_readB 1 = .ok (.iload_n 1, 1) := by decide +kernel
theorem dX1_readB_2 : decode cX1_readB 2 = .ok (.invokevirtual 74, 3) := by decide +kernel
theorem dX1_readB_5 : decode cX1_readB 5 = .ok (.aload_n 0, 1) := by decide +kernel
theorem dX1_readB_6 : decode cX1_readB 6 = .ok (.bipush 60, 2) := by decide +kernel
theorem dX1_readB_8 : decode cX1_readB 8 = .ok (.invokevirtual 64, 3) := by decide +kernel
theorem dX1_readB_11 : decode cX1_readB 11 = .ok (.ifCond .ne 21, 3) := by decide +kernel
theorem dX1_readB_14 : decode cX1_readB 14 = .ok (.aload_n 0, 1) := by decide +kernel
theorem dX1_readB_15 : decode cX1_readB 15 = .ok (.bipush 61, 2) := by decide +kernel
theorem dX1_readB_17 : decode cX1_readB 17 = .ok (.invokevirtual 64, 3) := by decide +kernel
theorem dX1_readB_20 : decode cX1_readB 20 = .ok (.ifCond .ne 12, 3) := by decide +kernel
theorem dX1_readB_23 : decode cX1_readB 23 = .ok (.aload_n 0, 1) := by decide +kernel
theorem dX1_readB_24 : decode cX1_readB 24 = .ok (.bipush 62, 2) := by decide +kernel
theorem dX1_readB_26 : decode cX1_readB 26 = .ok (.invokevirtual 64, 3) := by decide +kernel
theorem dX1_readB_29 : decode cX1_readB 29 = .ok (.ifCond .eq 32, 3) := by decide +kernel
theorem dX1_readB_32 : decode cX1_readB 32 = .ok (.aload_n 0, 1) := by decide +kernel
theorem dX1_readB_33 : decode cX1_readB 33 = .ok (.invokevirtual 46, 3) := by decide +kernel
theorem dX1_readB_36 : decode cX1_readB 36 = .ok (.istore_n 2, 1) := by decide +kernel
theorem dX1_readB_37 : decode cX1_readB 37 = .ok (.aload_n 0, 1) := by decide +kernel
theorem dX1_readB_38 : decode cX1_readB 38 = .ok (.dup, 1) := by decide +kernel
theorem dX1_readB_39 : decode cX1_readB 39 = .ok (.getfield 29, 3) := by decide +kernel
theorem dX1_readB_42 : decode cX1_readB 42 = .ok (.iconst 1, 1) := by decide +kernel
theorem dX1_readB_43 : decode cX1_readB 43 = .ok (.iadd, 1) := by decide +kernel
theorem dX1_readB_44 : decode cX1_readB 44 = .ok (.putfield 29, 3) := by decide +kernel
theorem dX1_readB_47 : decode cX1_readB 47 = .ok (.aload_n 0, 1) := by decide +kernel
theorem dX1_readB_48 : decode cX1_readB 48 = .ok (.iload_n 1, 1) := by decide +kernel
theorem dX1_readB_49 : decode cX1_readB 49 = .ok (.invokevirtual 74, 3) := by decide +kernel
theorem dX1_readB_52 : decode cX1_readB 52 = .ok (.aload_n 0, 1) := by decide +kernel
theorem dX1_readB_53 : decode cX1_readB 53 = .ok (.getfield 14, 3) := by decide +kernel
theorem dX1_readB_56 : decode cX1_readB 56 = .ok (.iload_n 2, 1) := by decide +kernel
theorem dX1_readB_57 : decode cX1_readB 57 = .ok (.ineg, 1) := by decide +kernel
theorem dX1_readB_58 : decode cX1_readB 58 = .ok (.invokevirtual 68, 3) := by decide +kernel
theorem dX1_readB_61 : decode cX1_readB 61 = .ok (.return_, 1) := by decide +kernel
theorem dX1_readS_0 : decode cX1_readS 0 = .ok (.aload_n 0, 1) := by decide +kernel
theorem dX1_readS_1 : decode cX1_readS 1 = .ok (.iload_n 1, 1) := by decide +kernel
theorem dX1_readS_2 : decode cX1_readS 2 = .ok (.invokevirtual 77, 3) := by decide +kernel
theorem dX1_readS_5 : decode cX1_readS 5 = .ok (.iconst 0, 1) := by decide +kernel
theorem dX1_readS_6 : decode cX1_readS 6 = .ok (.istore_n 2, 1) := by decide +kernel
theorem dX1_readS_7 : decode cX1_readS 7 = .ok (.iload_n 2, 1) := by decide +kernel
theorem dX1_readS_8 : decode cX1_readS 8 = .ok (.bipush 60, 2) := by decide +kernel
theorem dX1_readS_10 : decode cX1_readS 10 = .ok (.if_icmp .ge 56, 3) := by decide +kernel
theorem dX1_readS_13 : decode cX1_readS 13 = .ok (.aload_n 0, 1) := by decide +kernel
theorem dX1_readS_14 : decode cX1_readS 14 = .ok (.bipush 43, 2) := by decide +kernel
theorem dX1_readS_16 : decode cX1_readS 16 = .ok (.invokevirtual 64, 3) := by decide +kernel
theorem dX1_readS_19 : decode cX1_readS 19 = .ok (.ifCond .ne 12, 3) := by decide +kernel
theorem dX1_readS_22 : decode cX1_readS 22 = .ok (.aload_n 0, 1) := by decide +kernel
theorem dX1_readS_23 : decode cX1_readS 23 = .ok (.bipush 45, 2) := by decide +kernel
theorem dX1_readS_25 : decode cX1_readS 25 = .ok (.invokevirtual 64, 3) := by decide +kernel
theorem dX1_readS_28 : decode cX1_readS 28 = .ok (.ifCond .eq 38, 3) := by decide +kernel
theorem dX1_readS_31 : decode cX1_readS 31 = .ok (.aload_n 0, 1) := by decide +kernel
theorem dX1_readS_32 : decode cX1_readS 32 = .ok (.invokevirtual 46, 3) := by decide +kernel
theorem dX1_readS_35 : decode cX1_readS 35 = .ok (.istore_n 3, 1) := by decide +kernel
theorem dX1_readS_36 : decode cX1_readS 36 = .ok (.aload_n 0, 1) := by decide +kernel
theorem dX1_readS_37 : decode cX1_readS 37 = .ok (.dup, 1) := by decide +kernel
theorem dX1_readS_38 : decode cX1_readS 38 = .ok (.getfield 29, 3) := by decide +kernel
theorem dX1_readS_41 : decode cX1_readS 41 = .ok (.iconst 1, 1) := by decide +kernel
theorem dX1_readS_42 : decode cX1_readS 42 = .ok (.iadd, 1) := by decide +kernel
theorem dX1_readS_43 : decode cX1_readS 43 = .ok (.putfield 29, 3) := by decide +kernel
theorem dX1_readS_46 : decode cX1_readS 46 = .ok (.aload_n 0, 1) := by decide +kernel
theorem dX1_readS_47 : decode cX1_readS 47 = .ok (.iload_n 1, 1) := by decide +kernel
theorem dX1_readS_48 : decode cX1_readS 48 = .ok (.invokevirtual 77, 3) := by decide +kernel
theorem dX1_readS_51 : decode cX1_readS 51 = .ok (.aload_n 0, 1) := by decide +kernel
theorem dX1_readS_52 : decode cX1_readS 52 = .ok (.getfield 14, 3) := by decide +kernel
theorem dX1_readS_55 : decode cX1_readS 55 = .ok (.iload_n 3, 1) := by decide +kernel
theorem dX1_readS_56 : decode cX1_readS 56 = .ok (.ineg, 1) := by decide +kernel
theorem dX1_readS_57 : decode cX1_readS 57 = .ok (.invokevirtual 68, 3) := by decide +kernel
theorem dX1_readS_60 : decode cX1_readS 60 = .ok (.iinc 2 1, 3) := by decide +kernel
theorem dX1_readS_63 : decode cX1_readS 63 = .ok (.goto (-56), 3) := by decide +kernel
theorem dX1_readS_66 : decode cX1_readS 66 = .ok (.return_, 1) := by decide +kernel
theorem dX1_readP_0 : decode cX1_readP 0 = .ok (.aload_n 0, 1) := by decide +kernel
theorem dX1_readP_1 : decode cX1_readP 1 = .ok (.iload_n 1, 1) := by decide +kernel
theorem dX1_readP_2 : decode cX1_readP 2 = .ok (.invokevirtual 80, 3) := by decide +kernel
theorem dX1_readP_5 : decode cX1_readP 5 = .ok (.iconst 0, 1) := by decide +kernel
theorem dX1_readP_6 : decode cX1_readP 6 = .ok (.istore_n 2, 1) := by decide +kernel
theorem dX1_readP_7 : decode cX1_readP 7 = .ok (.iload_n 2, 1) := by decide +kernel
theorem dX1_readP_8 : decode cX1_readP 8 = .ok (.bipush 60, 2) := by decide +kernel
theorem dX1_readP_10 : decode cX1_readP 10 = .ok (.if_icmp .ge 65, 3) := by decide +kernel
theorem dX1_readP_13 : decode cX1_readP 13 = .ok (.aload_n 0, 1) := by decide +kernel
theorem dX1_readP_14 : decode cX1_readP 14 = .ok (.bipush 42, 2) := by decide +kernel
theorem dX1_readP_16 : decode cX1_readP 16 = .ok (.invokevirtual 64, 3) := by decide +kernel
theorem dX1_readP_19 : decode cX1_readP 19 = .ok (.ifCond .ne 21, 3) := by decide +kernel
theorem dX1_readP_22 : decode cX1_readP 22 = .ok (.aload_n 0, 1) := by decide +kernel
theorem dX1_readP_23 : decode cX1_readP 23 = .ok (.bipush 47, 2) := by decide +kernel
theorem dX1_readP_25 : decode cX1_readP 25 = .ok (.invokevirtual 64, 3) := by decide +kernel
theorem dX1_readP_28 : decode cX1_readP 28 = .ok (.ifCond .ne 12, 3) := by decide +kernel
theorem dX1_readP_31 : decode cX1_readP 31 = .ok (.aload_n 0, 1) := by decide +kernel
theorem dX1_readP_32 : decode cX1_readP 32 = .ok (.bipush 37, 2) := by decide +kernel
theorem dX1_readP_34 : decode cX1_readP 34 = .ok (.invokevirtual 64, 3) := by decide +kernel
theorem dX1_readP_37 : decode cX1_readP 37 = .ok (.ifCond .eq 38, 3) := by decide +kernel
theorem dX1_readP_40 : decode cX1_readP 40 = .ok (.aload_n 0, 1) := by decide +kernel
theorem dX1_readP_41 : decode cX1_readP 41 = .ok (.invokevirtual 46, 3) := by decide +kernel
theorem dX1_readP_44 : decode cX1_readP 44 = .ok (.istore_n 3, 1) := by decide +kernel
theorem dX1_readP_45 : decode cX1_readP 45 = .ok (.aload_n 0, 1) := by decide +kernel
theorem dX1_readP_46 : decode cX1_readP 46 = .ok (.dup, 1) := by decide +kernel
theorem dX1_readP_47 : decode cX1_readP 47 = .ok (.getfield 29, 3) := by decide +kernel
theorem dX1_readP_50 : decode cX1_readP 50 = .ok (.iconst 1, 1) := by decide +kernel
theorem dX1_readP_51 : decode cX1_readP 51 = .ok (.iadd, 1) := by decide +kernel
theorem dX1_readP_52 : decode cX1_readP 52 = .ok (.putfield 29, 3) := by decide +kernel
theorem dX1_readP_55 : decode cX1_readP 55 = .ok (.aload_n 0, 1) := by decide +kernel
theorem dX1_readP_56 : decode cX1_readP 56 = .ok (.iload_n 1, 1) := by decide +kernel
theorem dX1_readP_57 : decode cX1_readP 57 = .ok (.invokevirtual 80, 3) := by decide +kernel
theorem dX1_readP_60 : decode cX1_readP 60 = .ok (.aload_n 0, 1) := by decide +kernel
theorem dX1_readP_61 : decode cX1_readP 61 = .ok (.getfield 14, 3) := by decide +kernel
theorem dX1_readP_64 : decode cX1_readP 64 = .ok (.iload_n 3, 1) := by decide +kernel
theorem dX1_readP_65 : decode cX1_readP 65 = .ok (.ineg, 1) := by decide +kernel
theorem dX1_readP_66 : decode cX1_readP 66 = .ok (.invokevirtual 68, 3) := by decide +kernel
theorem dX1_readP_69 : decode cX1_readP 69 = .ok (.iinc 2 1, 3) := by decide +kernel
theorem dX1_readP_72 : decode cX1_readP 72 = .ok (.goto (-65), 3) := by decide +kernel
theorem dX1_readP_75 : decode cX1_readP 75 = .ok (.return_, 1) := by decide +kernel
theorem dX1_readQ_0 : decode cX1_readQ 0 = .ok (.aload_n 0, 1) := by decide +kernel
theorem dX1_readQ_1 : decode cX1_readQ 1 = .ok (.invokevirtual 83, 3) := by decide +kernel
theorem dX1_readQ_4 : decode cX1_readQ 4 = .ok (.ifCond .eq 10, 3) := by decide +kernel
theorem dX1_readQ_7 : decode cX1_readQ 7 = .ok (.aload_n 0, 1) := by decide +kernel
theorem dX1_readQ_8 : decode cX1_readQ 8 = .ok (.invokevirtual 87, 3) := by decide +kernel
theorem dX1_readQ_11 : decode cX1_readQ 11 = .ok (.goto 90, 3) := by decide +kernel
theorem dX1_readQ_14 : decode cX1_readQ 14 = .ok (.aload_n 0, 1) := by decide +kernel
theorem dX1_readQ_15 : decode cX1_readQ 15 = .ok (.invokevirtual 90, 3) := by decide +kernel
theorem dX1_readQ_18 : decode cX1_readQ 18 = .ok (.ifCond .lt 31, 3) := by decide +kernel
theorem dX1_readQ_21 : decode cX1_readQ 21 = .ok (.aload_n 0, 1) := by decide +kernel
theorem dX1_readQ_22 : decode cX1_readQ 22 = .ok (.getfield 14, 3) := by decide +kernel
theorem dX1_readQ_25 : decode cX1_readQ 25 = .ok (.sipush 10000, 3) := by decide +kernel
theorem dX1_readQ_28 : decode cX1_readQ 28 = .ok (.aload_n 0, 1) := by decide +kernel
theorem dX1_readQ_29 : decode cX1_readQ 29 = .ok (.invokevirtual 90, 3) := by decide +kernel
theorem dX1_readQ_32 : decode cX1_readQ 32 = .ok (.iadd, 1) := by decide +kernel
theorem dX1_readQ_33 : decode cX1_readQ 33 = .ok (.invokevirtual 68, 3) := by decide +kernel
theorem dX1_readQ_36 : decode cX1_readQ 36 = .ok (.aload_n 0, 1) := by decide +kernel
theorem dX1_readQ_37 : decode cX1_readQ 37 = .ok (.dup, 1) := by decide +kernel
theorem dX1_readQ_38 : decode cX1_readQ 38 = .ok (.getfield 29, 3) := by decide +kernel
theorem dX1_readQ_41 : decode cX1_readQ 41 = .ok (.iconst 1, 1) := by decide +kernel
theorem dX1_readQ_42 : decode cX1_readQ 42 = .ok (.iadd, 1) := by decide +kernel
theorem dX1_readQ_43 : decode cX1_readQ 43 = .ok (.putfield 29, 3) := by decide +kernel
theorem dX1_readQ_46 : decode cX1_readQ 46 = .ok (.goto 55, 3) := by decide +kernel
theorem dX1_readQ_49 : decode cX1_readQ 49 = .ok (.aload_n 0, 1) := by decide +kernel
theorem dX1_readQ_50 : decode cX1_readQ 50 = .ok (.bipush 33, 2) := by decide +kernel
theorem dX1_readQ_52 : decode cX1_readQ 52 = .ok (.invokevirtual 64, 3) := by decide +kernel
theorem dX1_readQ_55 : decode cX1_readQ 55 = .ok (.ifCond .eq 18, 3) := by decide +kernel
theorem dX1_readQ_58 : decode cX1_readQ 58 = .ok (.iload_n 1, 1) := by decide +kernel
theorem dX1_readQ_59 : decode cX1_readQ 59 = .ok (.iconst 5, 1) := by decide +kernel
theorem dX1_readQ_60 : decode cX1_readQ 60 = .ok (.if_icmp .ge 13, 3) := by decide +kernel
theorem dX1_readQ_63 : decode cX1_readQ 63 = .ok (.aload_n 0, 1) := by decide +kernel
theorem dX1_readQ_64 : decode cX1_readQ 64 = .ok (.iload_n 1, 1) := by decide +kernel
theorem dX1_readQ_65 : decode cX1_readQ 65 = .ok (.iconst 1, 1) := by decide +kernel
theorem dX1_readQ_66 : decode cX1_readQ 66 = .ok (.iadd, 1) := by decide +kernel
theorem dX1_readQ_67 : decode cX1_readQ 67 = .ok (.invokevirtual 95, 3) := by decide +kernel
theorem dX1_readQ_70 : decode cX1_readQ 70 = .ok (.goto 31, 3) := by decide +kernel
theorem dX1_readQ_73 : decode cX1_readQ 73 = .ok (.aload_n 0, 1) := by decide +kernel
theorem dX1_readQ_74 : decode cX1_readQ 74 = .ok (.bipush 40, 2) := by decide +kernel
theorem dX1_readQ_76 : decode cX1_readQ 76 = .ok (.invokevirtual 64, 3) := by decide +kernel
theorem dX1_readQ_79 : decode cX1_readQ 79 = .ok (.ifCond .eq 18, 3) := by decide +kernel
theorem dX1_readQ_82 : decode cX1_readQ 82 = .ok (.iload_n 1, 1) := by decide +kernel
theorem dX1_readQ_83 : decode cX1_readQ 83 = .ok (.iconst 5, 1) := by decide +kernel
theorem dX1_readQ_84 : decode cX1_readQ 84 = .ok (.if_icmp .ge 13, 3) := by decide +kernel
theorem dX1_readQ_87 : decode cX1_readQ 87 = .ok (.aload_n 0, 1) := by decide +kernel
theorem dX1_readQ_88 : decode cX1_readQ 88 = .ok (.iload_n 1, 1) := by decide +kernel
theorem dX1_readQ_89 : decode cX1_readQ 89 = .ok (.iconst 1, 1) := by decide +kernel
theorem dX1_readQ_90 : decode cX1_readQ 90 = .ok (.iadd, 1) := by decide +kernel
theorem dX1_readQ_91 : decode cX1_readQ 91 = .ok (.invokevirtual 98, 3) := by decide +kernel
theorem dX1_readQ_94 : decode cX1_readQ 94 = .ok (.goto 7, 3) := by decide +kernel
theorem dX1_readQ_97 : decode cX1_readQ 97 = .ok (.aload_n 0, 1) := by decide +kernel
theorem dX1_readQ_98 : decode cX1_readQ 98 = .ok (.invokevirtual 50, 3) := by decide +kernel
theorem dX1_readQ_101 : decode cX1_readQ 101 = .ok (.return_, 1) := by decide +kernel
theorem dX1_readNot_0 : decode cX1_readNot 0 = .ok (.aload_n 0, 1) := by decide +kernel
theorem dX1_readNot_1 : decode cX1_readNot 1 = .ok (.dup, 1) := by decide +kernel
theorem dX1_readNot_2 : decode cX1_readNot 2 = .ok (.getfield 29, 3) := by decide +kernel
theorem dX1_readNot_5 : decode cX1_readNot 5 = .ok (.iconst 1, 1) := by decide +kernel
theorem dX1_readNot_6 : decode cX1_readNot 6 = .ok (.iadd, 1) := by decide +kernel
theorem dX1_readNot_7 : decode cX1_readNot 7 = .ok (.putfield 29, 3) := by decide +kernel
theorem dX1_readNot_10 : decode cX1_readNot 10 = .ok (.aload_n 0, 1) := by decide +kernel
theorem dX1_readNot_11 : decode cX1_readNot 11 = .ok (.iload_n 1, 1) := by decide +kernel
theorem dX1_readNot_12 : decode cX1_readNot 12 = .ok (.invokevirtual 80, 3) := by decide +kernel
theorem dX1_readNot_15 : decode cX1_readNot 15 = .ok (.aload_n 0, 1) := by decide +kernel
theorem dX1_readNot_16 : decode cX1_readNot 16 = .ok (.getfield 14, 3) := by decide +kernel
theorem dX1_readNot_19 : decode cX1_readNot 19 = .ok (.bipush (-33), 2) := by decide +kernel
theorem dX1_readNot_21 : decode cX1_readNot 21 = .ok (.invokevirtual 68, 3) := by decide +kernel
theorem dX1_readNot_24 : decode cX1_readNot 24 = .ok (.return_, 1) := by decide +kernel
theorem dX1_readInner_0 : decode cX1_readInner 0 = .ok (.aload_n 0, 1) := by decide +kernel
theorem dX1_readInner_1 : decode cX1_readInner 1 = .ok (.dup, 1) := by decide +kernel
theorem dX1_readInner_2 : decode cX1_readInner 2 = .ok (.getfield 29, 3) := by decide +kernel
theorem dX1_readInner_5 : decode cX1_readInner 5 = .ok (.iconst 1, 1) := by decide +kernel
theorem dX1_readInner_6 : decode cX1_readInner 6 = .ok (.iadd, 1) := by decide +kernel
theorem dX1_readInner_7 : decode cX1_readInner 7 = .ok (.putfield 29, 3) := by decide +kernel
theorem dX1_readInner_10 : decode cX1_readInner 10 = .ok (.aload_n 0, 1) := by decide +kernel
theorem dX1_readInner_11 : decode cX1_readInner 11 = .ok (.iload_n 1, 1) := by decide +kernel
theorem dX1_readInner_12 : decode cX1_readInner 12 = .ok (.invokevirtual 43, 3) := by decide +kernel
theorem dX1_readInner_15 : decode cX1_readInner 15 = .ok (.aload_n 0, 1) := by decide +kernel
theorem dX1_readInner_16 : decode cX1_readInner 16 = .ok (.bipush 41, 2) := by decide +kernel
theorem dX1_readInner_18 : decode cX1_readInner 18 = .ok (.invokevirtual 64, 3) := by decide +kernel
theorem dX1_readInner_21 : decode cX1_readInner 21 = .ok (.ifCond .eq 16, 3) := by decide +kernel
theorem dX1_readInner_24 : decode cX1_readInner 24 = .ok (.aload_n 0, 1) := by decide +kernel
theorem dX1_readInner_25 : decode cX1_readInner 25 = .ok (.dup, 1) := by decide +kernel
theorem dX1_readInner_26 : decode cX1_readInner 26 = .ok (.getfield 29, 3) := by decide +kernel
theorem dX1_readInner_29 : decode cX1_readInner 29 = .ok (.iconst 1, 1) := by decide +kernel
theorem dX1_readInner_30 : decode cX1_readInner 30 = .ok (.iadd, 1) := by decide +kernel
theorem dX1_readInner_31 : decode cX1_readInner 31 = .ok (.putfield 29, 3) := by decide +kernel
theorem dX1_readInner_34 : decode cX1_readInner 34 = .ok (.goto 7, 3) := by decide +kernel
theorem dX1_readInner_37 : decode cX1_readInner 37 = .ok (.aload_n 0, 1) := by decide +kernel
theorem dX1_readInner_38 : decode cX1_readInner 38 = .ok (.invokevirtual 50, 3) := by decide +kernel
theorem dX1_readInner_41 : decode cX1_readInner 41 = .ok (.return_, 1) := by decide +kernel
theorem dX1_readNumber_0 : decode cX1_readNumber 0 = .ok (.iconst 0, 1) := by decide +kernel
theorem dX1_readNumber_1 : decode cX1_readNumber 1 = .ok (.istore_n 1, 1) := by decide +kernel
theorem dX1_readNumber_2 : decode cX1_readNumber 2 = .ok (.iconst 0, 1) := by decide +kernel
theorem dX1_readNumber_3 : decode cX1_readNumber 3 = .ok (.istore_n 2, 1) := by decide +kernel
theorem dX1_readNumber_4 : decode cX1_readNumber 4 = .ok (.iload_n 2, 1) := by decide +kernel
theorem dX1_readNumber_5 : decode cX1_readNumber 5 = .ok (.iconst 4, 1) := by decide +kernel
theorem dX1_readNumber_6 : decode cX1_readNumber 6 = .ok (.if_icmp .ge 39, 3) := by decide +kernel
theorem dX1_readNumber_9 : decode cX1_readNumber 9 = .ok (.aload_n 0, 1) := by decide +kernel
theorem dX1_readNumber_10 : decode cX1_readNumber 10 = .ok (.invokevirtual 83, 3) := by decide +kernel
theorem dX1_readNumber_13 : decode cX1_readNumber 13 = .ok (.ifCond .eq 32, 3) := by decide +kernel
theorem dX1_readNumber_16 : decode cX1_readNumber 16 = .ok (.iload_n 1, 1) := by decide +kernel
theorem dX1_readNumber_17 : decode cX1_readNumber 17 = .ok (.bipush 10, 2) := by decide +kernel
theorem dX1_readNumber_19 : decode cX1_readNumber 19 = .ok (.imul, 1) := by decide +kernel
theorem dX1_readNumber_20 : decode cX1_readNumber 20 = .ok (.aload_n 0, 1) := by decide +kernel
theorem dX1_readNumber_21 : decode cX1_readNumber 21 = .ok (.invokevirtual 46, 3) := by decide +kernel
theorem dX1_readNumber_24 : decode cX1_readNumber 24 = .ok (.iadd, 1) := by decide +kernel
theorem dX1_readNumber_25 : decode cX1_readNumber 25 = .ok (.bipush 48, 2) := by decide +kernel
theorem dX1_readNumber_27 : decode cX1_readNumber 27 = .ok (.isub, 1) := by decide +kernel
theorem dX1_readNumber_28 : decode cX1_readNumber 28 = .ok (.istore_n 1, 1) := by decide +kernel
theorem dX1_readNumber_29 : decode cX1_readNumber 29 = .ok (.aload_n 0, 1) := by decide +kernel
theorem dX1_readNumber_30 : decode cX1_readNumber 30 = .ok (.dup, 1) := by decide +kernel
theorem dX1_readNumber_31 : decode cX1_readNumber 31 = .ok (.getfield 29, 3) := by decide +kernel
theorem dX1_readNumber_34 : decode cX1_readNumber 34 = .ok (.iconst 1, 1) := by decide +kernel
theorem dX1_readNumber_35 : decode cX1_readNumber 35 = .ok (.iadd, 1) := by decide +kernel
theorem dX1_readNumber_36 : decode cX1_readNumber 36 = .ok (.putfield 29, 3) := by decide +kernel
theorem dX1_readNumber_39 : decode cX1_readNumber 39 = .ok (.iinc 2 1, 3) := by decide +kernel
theorem dX1_readNumber_42 : decode cX1_readNumber 42 = .ok (.goto (-38), 3) := by decide +kernel
theorem dX1_readNumber_45 : decode cX1_readNumber 45 = .ok (.aload_n 0, 1) := by decide +kernel
theorem dX1_readNumber_46 : decode cX1_readNumber 46 = .ok (.getfield 14, 3) := by decide +kernel
theorem dX1_readNumber_49 : decode cX1_readNumber 49 = .ok (.iload_n 1, 1) := by decide +kernel
theorem dX1_readNumber_50 : decode cX1_readNumber 50 = .ok (.invokevirtual 68, 3) := by decide +kernel
theorem dX1_readNumber_53 : decode cX1_readNumber 53 = .ok (.return_, 1) := by decide +kernel
theorem dX1_isDigit_0 : decode cX1_isDigit 0 = .ok (.aload_n 0, 1) := by decide +kernel
theorem dX1_isDigit_1 : decode cX1_isDigit 1 = .ok (.invokevirtual 46, 3) := by decide +kernel
theorem dX1_isDigit_4 : decode cX1_isDigit 4 = .ok (.bipush 48, 2) := by decide +kernel
theorem dX1_isDigit_6 : decode cX1_isDigit 6 = .ok (.if_icmp .lt 16, 3) := by decide +kernel
theorem dX1_isDigit_9 : decode cX1_isDigit 9 = .ok (.aload_n 0, 1) := by decide +kernel
theorem dX1_isDigit_10 : decode cX1_isDigit 10 = .ok (.invokevirtual 46, 3) := by decide +kernel
theorem dX1_isDigit_13 : decode cX1_isDigit 13 = .ok (.bipush 57, 2) := by decide +kernel
theorem dX1_isDigit_15 : decode cX1_isDigit 15 = .ok (.if_icmp .gt 7, 3) := by decide +kernel
theorem dX1_isDigit_18 : decode cX1_isDigit 18 = .ok (.iconst 1, 1) := by decide +kernel
theorem dX1_isDigit_19 : decode cX1_isDigit 19 = .ok (.goto 4, 3) := by decide +kernel
theorem dX1_isDigit_22 : decode cX1_isDigit 22 = .ok (.iconst 0, 1) := by decide +kernel
theorem dX1_isDigit_23 : decode cX1_isDigit 23 = .ok (.ireturn, 1) := by decide +kernel
theorem dX1_nameNext_0 : decode cX1_nameNext 0 = .ok (.aload_n 0, 1) := by decide +kernel
theorem dX1_nameNext_1 : decode cX1_nameNext 1 = .ok (.invokevirtual 46, 3) := by decide +kernel
theorem dX1_nameNext_4 : decode cX1_nameNext 4 = .ok (.iconst (-1), 1) := by decide +kernel
theorem dX1_nameNext_5 : decode cX1_nameNext 5 = .ok (.if_icmp .ne 7, 3) := by decide +kernel
theorem dX1_nameNext_8 : decode cX1_nameNext 8 = .ok (.iconst (-1), 1) := by decide +kernel
theorem dX1_nameNext_9 : decode cX1_nameNext 9 = .ok (.goto 15, 3) := by decide +kernel
theorem dX1_nameNext_12 : decode cX1_nameNext 12 = .ok (.aload_n 0, 1) := by decide +kernel
theorem dX1_nameNext_13 : decode cX1_nameNext 13 = .ok (.getfield 25, 3) := by decide +kernel
theorem dX1_nameNext_16 : decode cX1_nameNext 16 = .ok (.aload_n 0, 1) := by decide +kernel
theorem dX1_nameNext_17 : decode cX1_nameNext 17 = .ok (.invokevirtual 46, 3) := by decide +kernel
theorem dX1_nameNext_20 : decode cX1_nameNext 20 = .ok (.i2c, 1) := by decide +kernel
theorem dX1_nameNext_21 : decode cX1_nameNext 21 = .ok (.invokevirtual 101, 3) := by decide +kernel
theorem dX1_nameNext_24 : decode cX1_nameNext 24 = .ok (.ireturn, 1) := by decide +kernel
theorem dX3_init_0 : decode cX3_init 0 = .ok (.aload_n 0, 1) := by decide +kernel
theorem dX3_init_1 : decode cX3_init 1 = .ok (.invokespecial 1, 3) := by decide +kernel
theorem dX3_init_4 : decode cX3_init 4 = .ok (.aload_n 0, 1) := by decide +kernel
theorem dX3_init_5 : decode cX3_init 5 = .ok (.iconst 0, 1) := by decide +kernel
theorem dX3_init_6 : decode cX3_init 6 = .ok (.putfield 7, 3) := by decide +kernel
theorem dX3_init_9 : decode cX3_init 9 = .ok (.aload_n 0, 1) := by decide +kernel
theorem dX3_init_10 : decode cX3_init 10 = .ok (.iconst 0, 1) := by decide +kernel
theorem dX3_init_11 : decode cX3_init 11 = .ok (.iload_n 1, 1) := by decide +kernel
theorem dX3_init_12 : decode cX3_init 12 = .ok (.invokestatic 13, 3) := by decide +kernel
theorem dX3_init_15 : decode cX3_init 15 = .ok (.newarray .int, 2) := by decide +kernel
theorem dX3_init_17 : decode cX3_init 17 = .ok (.putfield 19, 3) := by decide +kernel
theorem dX3_init_20 : decode cX3_init 20 = .ok (.return_, 1) := by decide +kernel
theorem dX3_has_0 : decode cX3_has 0 = .ok (.iload_n 1, 1) := by decide +kernel
theorem dX3_has_1 : decode cX3_has 1 = .ok (.ifCond .lt 15, 3) := by decide +kernel
theorem dX3_has_4 : decode cX3_has 4 = .ok (.iload_n 1, 1) := by decide +kernel
theorem dX3_has_5 : decode cX3_has 5 = .ok (.aload_n 0, 1) := by decide +kernel
theorem dX3_has_6 : decode cX3_has 6 = .ok (.getfield 7, 3) := by decide +kernel
theorem dX3_has_9 : decode cX3_has 9 = .ok (.if_icmp .ge 7, 3) := by decide +kernel
theorem dX3_has_12 : decode cX3_has 12 = .ok (.iconst 1, 1) := by decide +kernel
theorem dX3_has_13 : decode cX3_has 13 = .ok (.goto 4, 3) := by decide +kernel
theorem dX3_has_16 : decode cX3_has 16 = .ok (.iconst 0, 1) := by decide +kernel
theorem dX3_has_17 : decode cX3_has 17 = .ok (.ireturn, 1) := by decide +kernel
theorem dX3_hasRun_0 : decode cX3_hasRun 0 = .ok (.iload_n 2, 1) := by decide +kernel
theorem dX3_hasRun_1 : decode cX3_hasRun 1 = .ok (.ifCond .lt 29, 3) := by decide +kernel
theorem dX3_hasRun_4 : decode cX3_hasRun 4 = .ok (.iload_n 2, 1) := by decide +kernel
theorem dX3_hasRun_5 : decode cX3_hasRun 5 = .ok (.aload_n 0, 1) := by decide +kernel
theorem dX3_hasRun_6 : decode cX3_hasRun 6 = .ok (.getfield 7, 3) := by decide +kernel
theorem dX3_hasRun_9 : decode cX3_hasRun 9 = .ok (.if_icmp .gt 21, 3) := by decide +kernel
theorem dX3_hasRun_12 : decode cX3_hasRun 12 = .ok (.iload_n 1, 1) := by decide +kernel
theorem dX3_hasRun_13 : decode cX3_hasRun 13 = .ok (.ifCond .lt 17, 3) := by decide +kernel
theorem dX3_hasRun_16 : decode cX3_hasRun 16 = .ok (.iload_n 1, 1) := by decide +kernel
theorem dX3_hasRun_17 : decode cX3_hasRun 17 = .ok (.aload_n 0, 1) := by decide +kernel
theorem dX3_hasRun_18 : decode cX3_hasRun 18 = .ok (.getfield 7, 3) := by decide +kernel
theorem dX3_hasRun_21 : decode cX3_hasRun 21 = .ok (.iload_n 2, 1) := by decide +kernel
theorem dX3_hasRun_22 : decode cX3_hasRun 22 = .ok (.isub, 1) := by decide +kernel
theorem dX3_hasRun_23 : decode cX3_hasRun 23 = .ok (.if_icmp .gt 7, 3) := by decide +kernel
theorem dX3_hasRun_26 : decode cX3_hasRun 26 = .ok (.iconst 1, 1) := by decide +kernel
theorem dX3_hasRun_27 : decode cX3_hasRun 27 = .ok (.goto 4, 3) := by decide +kernel
theorem dX3_hasRun_30 : decode cX3_hasRun 30 = .ok (.iconst 0, 1) := by decide +kernel
theorem dX3_hasRun_31 : decode cX3_hasRun 31 = .ok (.ireturn, 1) := by decide +kernel
theorem dX3_add_0 : decode cX3_add 0 = .ok (.aload_n 0, 1) := by decide +kernel
theorem dX3_add_1 : decode cX3_add 1 = .ok (.getfield 7, 3) := by decide +kernel
theorem dX3_add_4 : decode cX3_add 4 = .ok (.aload_n 0, 1) := by decide +kernel
theorem dX3_add_5 : decode cX3_add 5 = .ok (.getfield 19, 3) := by decide +kernel
theorem dX3_add_8 : decode cX3_add 8 = .ok (.arraylength, 1) := by decide +kernel
theorem dX3_add_9 : decode cX3_add 9 = .ok (.if_icmp .ge 23, 3) := by decide +kernel
theorem dX3_add_12 : decode cX3_add 12 = .ok (.aload_n 0, 1) := by decide +kernel
theorem dX3_add_13 : decode cX3_add 13 = .ok (.getfield 19, 3) := by decide +kernel
theorem dX3_add_16 : decode cX3_add 16 = .ok (.aload_n 0, 1) := by decide +kernel
theorem dX3_add_17 : decode cX3_add 17 = .ok (.getfield 7, 3) := by decide +kernel
theorem dX3_add_20 : decode cX3_add 20 = .ok (.iload_n 1, 1) := by decide +kernel
theorem dX3_add_21 : decode cX3_add 21 = .ok (.iastore, 1) := by decide +kernel
theorem dX3_add_22 : decode cX3_add 22 = .ok (.aload_n 0, 1) := by decide +kernel
theorem dX3_add_23 : decode cX3_add 23 = .ok (.dup, 1) := by decide +kernel
theorem dX3_add_24 : decode cX3_add 24 = .ok (.getfield 7, 3) := by decide +kernel
theorem dX3_add_27 : decode cX3_add 27 = .ok (.iconst 1, 1) := by decide +kernel
theorem dX3_add_28 : decode cX3_add 28 = .ok (.iadd, 1) := by decide +kernel
theorem dX3_add_29 : decode cX3_add 29 = .ok (.putfield 7, 3) := by decide +kernel
theorem dX3_add_32 : decode cX3_add 32 = .ok (.return_, 1) := by decide +kernel
theorem dX3_empty_0 : decode cX3_empty 0 = .ok (.aload_n 0, 1) := by decide +kernel
theorem dX3_empty_1 : decode cX3_empty 1 = .ok (.iconst 0, 1) := by decide +kernel
theorem dX3_empty_2 : decode cX3_empty 2 = .ok (.putfield 7, 3) := by decide +kernel
theorem dX3_empty_5 : decode cX3_empty 5 = .ok (.return_, 1) := by decide +kernel
theorem dX3_takeOver_0 : decode cX3_takeOver 0 = .ok (.aload_n 0, 1) := by decide +kernel
theorem dX3_takeOver_1 : decode cX3_takeOver 1 = .ok (.aload_n 1, 1) := by decide +kernel
theorem dX3_takeOver_2 : decode cX3_takeOver 2 = .ok (.getfield 7, 3) := by decide +kernel
theorem dX3_takeOver_5 : decode cX3_takeOver 5 = .ok (.aload_n 0, 1) := by decide +kernel
theorem dX3_takeOver_6 : decode cX3_takeOver 6 = .ok (.getfield 19, 3) := by decide +kernel
theorem dX3_takeOver_9 : decode cX3_takeOver 9 = .ok (.arraylength, 1) := by decide +kernel
theorem dX3_takeOver_10 : decode cX3_takeOver 10 = .ok (.invokestatic 23, 3) := by decide +kernel
theorem dX3_takeOver_13 : decode cX3_takeOver 13 = .ok (.putfield 7, 3) := by decide +kernel
theorem dX3_takeOver_16 : decode cX3_takeOver 16 = .ok (.aload_n 1, 1) := by decide +kernel
theorem dX3_takeOver_17 : decode cX3_takeOver 17 = .ok (.getfield 19, 3) := by decide +kernel
theorem dX3_takeOver_20 : decode cX3_takeOver 20 = .ok (.iconst 0, 1) := by decide +kernel
theorem dX3_takeOver_21 : decode cX3_takeOver 21 = .ok (.aload_n 0, 1) := by decide +kernel
theorem dX3_takeOver_22 : decode cX3_takeOver 22 = .ok (.getfield 19, 3) := by decide +kernel
theorem dX3_takeOver_25 : decode cX3_takeOver 25 = .ok (.iconst 0, 1) := by decide +kernel
theorem dX3_takeOver_26 : decode cX3_takeOver 26 = .ok (.aload_n 0, 1) := by decide +kernel
theorem dX3_takeOver_27 : decode cX3_takeOver 27 = .ok (.getfield 7, 3) := by decide +kernel
theorem dX3_takeOver_30 : decode cX3_takeOver 30 = .ok (.invokestatic 26, 3) := by decide +kernel
theorem dX3_takeOver_33 : decode cX3_takeOver 33 = .ok (.return_, 1) := by decide +kernel
theorem dX4_init_0 : decode cX4_init 0 = .ok (.aload_n 0, 1) := by decide +kernel
theorem dX4_init_1 : decode cX4_init 1 = .ok (.invokespecial 3, 3) := by decide +kernel
theorem dX4_init_4 : decode cX4_init 4 = .ok (.aload_n 0, 1) := by decide +kernel
theorem dX4_init_5 : decode cX4_init 5 = .ok (.new 9, 3) := by decide +kernel
theorem dX4_init_8 : decode cX4_init 8 = .ok (.dup, 1) := by decide +kernel
theorem dX4_init_9 : decode cX4_init 9 = .ok (.bipush 24, 2) := by decide +kernel
theorem dX4_init_11 : decode cX4_init 11 = .ok (.invokespecial 11, 3) := by decide +kernel
theorem dX4_init_14 : decode cX4_init 14 = .ok (.putfield 14, 3) := by decide +kernel
theorem dX4_init_17 : decode cX4_init 17 = .ok (.aload_n 0, 1) := by decide +kernel
theorem dX4_init_18 : decode cX4_init 18 = .ok (.iconst 0, 1) := by decide +kernel
theorem dX4_init_19 : decode cX4_init 19 = .ok (.putfield 20, 3) := by decide +kernel
theorem dX4_init_22 : decode cX4_init 22 = .ok (.return_, 1) := by decide +kernel
theorem dX4_isWidth_0 : decode cX4_isWidth 0 = .ok (.iload_n 0, 1) := by decide +kernel
theorem dX4_isWidth_1 : decode cX4_isWidth 1 = .ok (.ifCond .eq 21, 3) := by decide +kernel
theorem dX4_isWidth_4 : decode cX4_isWidth 4 = .ok (.iload_n 0, 1) := by decide +kernel
theorem dX4_isWidth_5 : decode cX4_isWidth 5 = .ok (.bipush 8, 2) := by decide +kernel
theorem dX4_isWidth_7 : decode cX4_isWidth 7 = .ok (.if_icmp .eq 15, 3) := by decide +kernel
theorem dX4_isWidth_10 : decode cX4_isWidth 10 = .ok (.iload_n 0, 1) := by decide +kernel
theorem dX4_isWidth_11 : decode cX4_isWidth 11 = .ok (.bipush 16, 2) := by decide +kernel
theorem dX4_isWidth_13 : decode cX4_isWidth 13 = .ok (.if_icmp .eq 9, 3) := by decide +kernel
theorem dX4_isWidth_16 : decode cX4_isWidth 16 = .ok (.iload_n 0, 1) := by decide +kernel
theorem dX4_isWidth_17 : decode cX4_isWidth 17 = .ok (.bipush 32, 2) := by decide +kernel
theorem dX4_isWidth_19 : decode cX4_isWidth 19 = .ok (.if_icmp .ne 7, 3) := by decide +kernel
theorem dX4_isWidth_22 : decode cX4_isWidth 22 = .ok (.iconst 1, 1) := by decide +kernel
theorem dX4_isWidth_23 : decode cX4_isWidth 23 = .ok (.goto 4, 3) := by decide +kernel
theorem dX4_isWidth_26 : decode cX4_isWidth 26 = .ok (.iconst 0, 1) := by decide +kernel
theorem dX4_isWidth_27 : decode cX4_isWidth 27 = .ok (.ireturn, 1) := by decide +kernel
theorem dX4_isMissing_0 : decode cX4_isMissing 0 = .ok (.aload_n 0, 1) := by decide +kernel
theorem dX4_isMissing_1 : decode cX4_isMissing 1 = .ok (.getfield 20, 3) := by decide +kernel
theorem dX4_isMissing_4 : decode cX4_isMissing 4 = .ok (.ifCond .ne 7, 3) := by decide +kernel
theorem dX4_isMissing_7 : decode cX4_isMissing 7 = .ok (.iconst 1, 1) := by decide +kernel
theorem dX4_isMissing_8 : decode cX4_isMissing 8 = .ok (.goto 4, 3) := by decide +kernel
theorem dX4_isMissing_11 : decode cX4_isMissing 11 = .ok (.iconst 0, 1) := by decide +kernel
theorem dX4_isMissing_12 : decode cX4_isMissing 12 = .ok (.ireturn, 1) := by decide +kernel
theorem dX4_layOut_0 : decode cX4_layOut 0 = .ok (.aload_n 0, 1) := by decide +kernel
theorem dX4_layOut_1 : decode cX4_layOut 1 = .ok (.iload_n 1, 1) := by decide +kernel
theorem dX4_layOut_2 : decode cX4_layOut 2 = .ok (.putfield 20, 3) := by decide +kernel
theorem dX4_layOut_5 : decode cX4_layOut 5 = .ok (.aload_n 0, 1) := by decide +kernel
theorem dX4_layOut_6 : decode cX4_layOut 6 = .ok (.getfield 14, 3) := by decide +kernel
theorem dX4_layOut_9 : decode cX4_layOut 9 = .ok (.invokevirtual 24, 3) := by decide +kernel
theorem dX4_layOut_12 : decode cX4_layOut 12 = .ok (.iconst 0, 1) := by decide +kernel
theorem dX4_layOut_13 : decode cX4_layOut 13 = .ok (.istore_n 3, 1) := by decide +kernel
theorem dX4_layOut_14 : decode cX4_layOut 14 = .ok (.iload_n 3, 1) := by decide +kernel
theorem dX4_layOut_15 : decode cX4_layOut 15 = .ok (.iload_n 2, 1) := by decide +kernel
theorem dX4_layOut_16 : decode cX4_layOut 16 = .ok (.if_icmp .ge 23, 3) := by decide +kernel
theorem dX4_layOut_19 : decode cX4_layOut 19 = .ok (.iload_n 3, 1) := by decide +kernel
theorem dX4_layOut_20 : decode cX4_layOut 20 = .ok (.bipush 24, 2) := by decide +kernel
theorem dX4_layOut_22 : decode cX4_layOut 22 = .ok (.if_icmp .ge 17, 3) := by decide +kernel
theorem dX4_layOut_25 : decode cX4_layOut 25 = .ok (.aload_n 0, 1) := by decide +kernel
theorem dX4_layOut_26 : decode cX4_layOut 26 = .ok (.getfield 14, 3) := by decide +kernel
theorem dX4_layOut_29 : decode cX4_layOut 29 = .ok (.iconst 0, 1) := by decide +kernel
theorem dX4_layOut_30 : decode cX4_layOut 30 = .ok (.invokevirtual 27, 3) := by decide +kernel
theorem dX4_layOut_33 : decode cX4_layOut 33 = .ok (.iinc 3 1, 3) := by decide +kernel
theorem dX4_layOut_36 : decode cX4_layOut 36 = .ok (.goto (-22), 3) := by decide +kernel
theorem dX4_layOut_39 : decode cX4_layOut 39 = .ok (.return_, 1) := by decide +kernel
theorem dX4_lowestBits_0 : decode cX4_lowestBits 0 = .ok (.aload_n 0, 1) := by decide +kernel
theorem dX4_lowestBits_1 : decode cX4_lowestBits 1 = .ok (.getfield 20, 3) := by decide +kernel
theorem dX4_lowestBits_4 : decode cX4_lowestBits 4 = .ok (.lookupswitch 34 #[(8, 28), (16, 31)], 28) := by decide +kernel
theorem dX4_lowestBits_32 : decode cX4_lowestBits 32 = .ok (.iload_n 1, 1) := by decide +kernel
theorem dX4_lowestBits_33 : decode cX4_lowestBits 33 = .ok (.i2b, 1) := by decide +kernel
theorem dX4_lowestBits_34 : decode cX4_lowestBits 34 = .ok (.ireturn, 1) := by decide +kernel
theorem dX4_lowestBits_35 : decode cX4_lowestBits 35 = .ok (.iload_n 1, 1) := by decide +kernel
theorem dX4_lowestBits_36 : decode cX4_lowestBits 36 = .ok (.i2s, 1) := by decide +kernel
theorem dX4_lowestBits_37 : decode cX4_lowestBits 37 = .ok (.ireturn, 1) := by decide +kernel
theorem dX4_lowestBits_38 : decode cX4_lowestBits 38 = .ok (.iload_n 1, 1) := by decide +kernel
theorem dX4_lowestBits_39 : decode cX4_lowestBits 39 = .ok (.ireturn, 1) := by decide +kernel
theorem dX5_init_0 : decode cX5_init 0 = .ok (.aload_n 0, 1) := by decide +kernel
theorem dX5_init_1 : decode cX5_init 1 = .ok (.invokespecial 3, 3) := by decide +kernel
theorem dX5_init_4 : decode cX5_init 4 = .ok (.aload_n 0, 1) := by decide +kernel
theorem dX5_init_5 : decode cX5_init 5 = .ok (.new 9, 3) := by decide +kernel
theorem dX5_init_8 : decode cX5_init 8 = .ok (.dup, 1) := by decide +kernel
theorem dX5_init_9 : decode cX5_init 9 = .ok (.invokespecial 11, 3) := by decide +kernel
theorem dX5_init_12 : decode cX5_init 12 = .ok (.putfield 12, 3) := by decide +kernel
theorem dX5_init_15 : decode cX5_init 15 = .ok (.aload_n 0, 1) := by decide +kernel
theorem dX5_init_16 : decode cX5_init 16 = .ok (.new 18, 3) := by decide +kernel
theorem dX5_init_19 : decode cX5_init 19 = .ok (.dup, 1) := by decide +kernel
theorem dX5_init_20 : decode cX5_init 20 = .ok (.bipush 60, 2) := by decide +kernel
theorem dX5_init_22 : decode cX5_init 22 = .ok (.invokespecial 20, 3) := by decide +kernel
theorem dX5_init_25 : decode cX5_init 25 = .ok (.putfield 23, 3) := by decide +kernel
theorem dX5_init_28 : decode cX5_init 28 = .ok (.aload_n 0, 1) := by decide +kernel
theorem dX5_init_29 : decode cX5_init 29 = .ok (.new 18, 3) := by decide +kernel
theorem dX5_init_32 : decode cX5_init 32 = .ok (.dup, 1) := by decide +kernel
theorem dX5_init_33 : decode cX5_init 33 = .ok (.bipush 24, 2) := by decide +kernel
theorem dX5_init_35 : decode cX5_init 35 = .ok (.invokespecial 20, 3) := by decide +kernel
theorem dX5_init_38 : decode cX5_init 38 = .ok (.putfield 27, 3) := by decide +kernel
theorem dX5_init_41 : decode cX5_init 41 = .ok (.return_, 1) := by decide +kernel
theorem dX5_takeOver_0 : decode cX5_takeOver 0 = .ok (.aload_n 0, 1) := by decide +kernel
theorem dX5_takeOver_1 : decode cX5_takeOver 1 = .ok (.getfield 12, 3) := by decide +kernel
theorem dX5_takeOver_4 : decode cX5_takeOver 4 = .ok (.aload_n 1, 1) := by decide +kernel
theorem dX5_takeOver_5 : decode cX5_takeOver 5 = .ok (.getfield 12, 3) := by decide +kernel
theorem dX5_takeOver_8 : decode cX5_takeOver 8 = .ok (.invokevirtual 30, 3) := by decide +kernel
theorem dX5_takeOver_11 : decode cX5_takeOver 11 = .ok (.aload_n 0, 1) := by decide +kernel
theorem dX5_takeOver_12 : decode cX5_takeOver 12 = .ok (.getfield 23, 3) := by decide +kernel
theorem dX5_takeOver_15 : decode cX5_takeOver 15 = .ok (.aload_n 1, 1) := by decide +kernel
theorem dX5_takeOver_16 : decode cX5_takeOver 16 = .ok (.getfield 23, 3) := by decide +kernel
theorem dX5_takeOver_19 : decode cX5_takeOver 19 = .ok (.invokevirtual 34, 3) := by decide +kernel
theorem dX5_takeOver_22 : decode cX5_takeOver 22 = .ok (.aload_n 0, 1) := by decide +kernel
theorem dX5_takeOver_23 : decode cX5_takeOver 23 = .ok (.getfield 27, 3) := by decide +kernel
theorem dX5_takeOver_26 : decode cX5_takeOver 26 = .ok (.aload_n 1, 1) := by decide +kernel
theorem dX5_takeOver_27 : decode cX5_takeOver 27 = .ok (.getfield 27, 3) := by decide +kernel
theorem dX5_takeOver_30 : decode cX5_takeOver 30 = .ok (.invokevirtual 34, 3) := by decide +kernel
theorem dX5_takeOver_33 : decode cX5_takeOver 33 = .ok (.return_, 1) := by decide +kernel
