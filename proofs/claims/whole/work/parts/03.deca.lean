theorem dJ0_length_8abf5_0 : decode cJ0_length_8abf5 0 = .ok (.aload_n 0, 1) := by decide +kernel
theorem dJ0_length_8abf5_1 : decode cJ0_length_8abf5 1 = .ok (.getfield 9, 3) := by decide +kernel
theorem dJ0_length_8abf5_4 : decode cJ0_length_8abf5 4 = .ok (.arraylength, 1) := by decide +kernel
theorem dJ0_length_8abf5_5 : decode cJ0_length_8abf5 5 = .ok (.aload_n 0, 1) := by decide +kernel
theorem dJ0_length_8abf5_6 : decode cJ0_length_8abf5 6 = .ok (.invokevirtual 335, 3) := by decide +kernel
theorem dJ0_length_8abf5_9 : decode cJ0_length_8abf5 9 = .ok (.ishr, 1) := by decide +kernel
theorem dJ0_length_8abf5_10 : decode cJ0_length_8abf5 10 = .ok (.ireturn, 1) := by decide +kernel
theorem dJ0_charAt_5068e_0 : decode cJ0_charAt_5068e 0 = .ok (.aload_n 0, 1) := by decide +kernel
theorem dJ0_charAt_5068e_1 : decode cJ0_charAt_5068e 1 = .ok (.invokevirtual 492, 3) := by decide +kernel
theorem dJ0_charAt_5068e_4 : decode cJ0_charAt_5068e 4 = .ok (.ifCond .eq 12, 3) := by decide +kernel
theorem dJ0_charAt_5068e_7 : decode cJ0_charAt_5068e 7 = .ok (.aload_n 0, 1) := by decide +kernel
theorem dJ0_charAt_5068e_8 : decode cJ0_charAt_5068e 8 = .ok (.getfield 9, 3) := by decide +kernel
theorem dJ0_charAt_5068e_11 : decode cJ0_charAt_5068e 11 = .ok (.iload_n 1, 1) := by decide +kernel
theorem dJ0_charAt_5068e_12 : decode cJ0_charAt_5068e 12 = .ok (.invokestatic 495, 3) := by decide +kernel
theorem dJ0_charAt_5068e_15 : decode cJ0_charAt_5068e 15 = .ok (.ireturn, 1) := by decide +kernel
theorem dJ0_charAt_5068e_16 : decode cJ0_charAt_5068e 16 = .ok (.aload_n 0, 1) := by decide +kernel
theorem dJ0_charAt_5068e_17 : decode cJ0_charAt_5068e 17 = .ok (.getfield 9, 3) := by decide +kernel
theorem dJ0_charAt_5068e_20 : decode cJ0_charAt_5068e 20 = .ok (.iload_n 1, 1) := by decide +kernel
theorem dJ0_charAt_5068e_21 : decode cJ0_charAt_5068e 21 = .ok (.invokestatic 498, 3) := by decide +kernel
theorem dJ0_charAt_5068e_24 : decode cJ0_charAt_5068e 24 = .ok (.ireturn, 1) := by decide +kernel
theorem dJ0_indexOf_0f7a4_0 : decode cJ0_indexOf_0f7a4 0 = .ok (.aload_n 0, 1) := by decide +kernel
theorem dJ0_indexOf_0f7a4_1 : decode cJ0_indexOf_0f7a4 1 = .ok (.iload_n 1, 1) := by decide +kernel
theorem dJ0_indexOf_0f7a4_2 : decode cJ0_indexOf_0f7a4 2 = .ok (.iconst 0, 1) := by decide +kernel
theorem dJ0_indexOf_0f7a4_3 : decode cJ0_indexOf_0f7a4 3 = .ok (.invokevirtual 633, 3) := by decide +kernel
theorem dJ0_indexOf_0f7a4_6 : decode cJ0_indexOf_0f7a4 6 = .ok (.ireturn, 1) := by decide +kernel
theorem dJ0_indexOf_7cf53_0 : decode cJ0_indexOf_7cf53 0 = .ok (.aload_n 0, 1) := by decide +kernel
theorem dJ0_indexOf_7cf53_1 : decode cJ0_indexOf_7cf53 1 = .ok (.invokevirtual 492, 3) := by decide +kernel
theorem dJ0_indexOf_7cf53_4 : decode cJ0_indexOf_7cf53 4 = .ok (.ifCond .eq 19, 3) := by decide +kernel
theorem dJ0_indexOf_7cf53_7 : decode cJ0_indexOf_7cf53 7 = .ok (.aload_n 0, 1) := by decide +kernel
theorem dJ0_indexOf_7cf53_8 : decode cJ0_indexOf_7cf53 8 = .ok (.getfield 9, 3) := by decide +kernel
theorem dJ0_indexOf_7cf53_11 : decode cJ0_indexOf_7cf53 11 = .ok (.iload_n 1, 1) := by decide +kernel
theorem dJ0_indexOf_7cf53_12 : decode cJ0_indexOf_7cf53 12 = .ok (.iload_n 2, 1) := by decide +kernel
theorem dJ0_indexOf_7cf53_13 : decode cJ0_indexOf_7cf53 13 = .ok (.aload_n 0, 1) := by decide +kernel
theorem dJ0_indexOf_7cf53_14 : decode cJ0_indexOf_7cf53 14 = .ok (.invokevirtual 505, 3) := by decide +kernel
theorem dJ0_indexOf_7cf53_17 : decode cJ0_indexOf_7cf53 17 = .ok (.invokestatic 637, 3) := by decide +kernel
theorem dJ0_indexOf_7cf53_20 : decode cJ0_indexOf_7cf53 20 = .ok (.goto 16, 3) := by decide +kernel
theorem dJ0_indexOf_7cf53_23 : decode cJ0_indexOf_7cf53 23 = .ok (.aload_n 0, 1) := by decide +kernel
theorem dJ0_indexOf_7cf53_24 : decode cJ0_indexOf_7cf53 24 = .ok (.getfield 9, 3) := by decide +kernel
theorem dJ0_indexOf_7cf53_27 : decode cJ0_indexOf_7cf53 27 = .ok (.iload_n 1, 1) := by decide +kernel
theorem dJ0_indexOf_7cf53_28 : decode cJ0_indexOf_7cf53 28 = .ok (.iload_n 2, 1) := by decide +kernel
theorem dJ0_indexOf_7cf53_29 : decode cJ0_indexOf_7cf53 29 = .ok (.aload_n 0, 1) := by decide +kernel
theorem dJ0_indexOf_7cf53_30 : decode cJ0_indexOf_7cf53 30 = .ok (.invokevirtual 505, 3) := by decide +kernel
theorem dJ0_indexOf_7cf53_33 : decode cJ0_indexOf_7cf53 33 = .ok (.invokestatic 640, 3) := by decide +kernel
theorem dJ0_indexOf_7cf53_36 : decode cJ0_indexOf_7cf53 36 = .ok (.ireturn, 1) := by decide +kernel
theorem dJ0_coder_7d493_0 : decode cJ0_coder_7d493 0 = .ok (.getstatic 38, 3) := by decide +kernel
theorem dJ0_coder_7d493_3 : decode cJ0_coder_7d493 3 = .ok (.ifCond .eq 10, 3) := by decide +kernel
theorem dJ0_coder_7d493_6 : decode cJ0_coder_7d493 6 = .ok (.aload_n 0, 1) := by decide +kernel
theorem dJ0_coder_7d493_7 : decode cJ0_coder_7d493 7 = .ok (.getfield 15, 3) := by decide +kernel
theorem dJ0_coder_7d493_10 : decode cJ0_coder_7d493 10 = .ok (.goto 4, 3) := by decide +kernel
theorem dJ0_coder_7d493_13 : decode cJ0_coder_7d493 13 = .ok (.iconst 1, 1) := by decide +kernel
theorem dJ0_coder_7d493_14 : decode cJ0_coder_7d493 14 = .ok (.ireturn, 1) := by decide +kernel
theorem dJ0_isLatin1_aae02_0 : decode cJ0_isLatin1_aae02 0 = .ok (.getstatic 38, 3) := by decide +kernel
theorem dJ0_isLatin1_aae02_3 : decode cJ0_isLatin1_aae02 3 = .ok (.ifCond .eq 14, 3) := by decide +kernel
theorem dJ0_isLatin1_aae02_6 : decode cJ0_isLatin1_aae02 6 = .ok (.aload_n 0, 1) := by decide +kernel
theorem dJ0_isLatin1_aae02_7 : decode cJ0_isLatin1_aae02 7 = .ok (.getfield 15, 3) := by decide +kernel
theorem dJ0_isLatin1_aae02_10 : decode cJ0_isLatin1_aae02 10 = .ok (.ifCond .ne 7, 3) := by decide +kernel
theorem dJ0_isLatin1_aae02_13 : decode cJ0_isLatin1_aae02 13 = .ok (.iconst 1, 1) := by decide +kernel
theorem dJ0_isLatin1_aae02_14 : decode cJ0_isLatin1_aae02 14 = .ok (.goto 4, 3) := by decide +kernel
theorem dJ0_isLatin1_aae02_17 : decode cJ0_isLatin1_aae02 17 = .ok (.iconst 0, 1) := by decide +kernel
theorem dJ0_isLatin1_aae02_18 : decode cJ0_isLatin1_aae02 18 = .ok (.ireturn, 1) := by decide +kernel
theorem dJ0_checkIndex_df160_0 : decode cJ0_checkIndex_df160 0 = .ok (.iload_n 0, 1) := by decide +kernel
theorem dJ0_checkIndex_df160_1 : decode cJ0_checkIndex_df160 1 = .ok (.iload_n 1, 1) := by decide +kernel
theorem dJ0_checkIndex_df160_2 : decode cJ0_checkIndex_df160 2 = .ok (.getstatic 1053, 3) := by decide +kernel
theorem dJ0_checkIndex_df160_5 : decode cJ0_checkIndex_df160 5 = .ok (.invokestatic 1059, 3) := by decide +kernel
theorem dJ0_checkIndex_df160_8 : decode cJ0_checkIndex_df160 8 = .ok (.pop, 1) := by decide +kernel
theorem dJ0_checkIndex_df160_9 : decode cJ0_checkIndex_df160 9 = .ok (.return_, 1) := by decide +kernel
theorem dJ0_checkBoundsBeginEnd_23922_0 : decode cJ0_checkBoundsBeginEnd_23922 0 = .ok (.iload_n 0, 1) := by decide +kernel
theorem dJ0_checkBoundsBeginEnd_23922_1 : decode cJ0_checkBoundsBeginEnd_23922 1 = .ok (.iload_n 1, 1) := by decide +kernel
theorem dJ0_checkBoundsBeginEnd_23922_2 : decode cJ0_checkBoundsBeginEnd_23922 2 = .ok (.iload_n 2, 1) := by decide +kernel
theorem dJ0_checkBoundsBeginEnd_23922_3 : decode cJ0_checkBoundsBeginEnd_23922 3 = .ok (.getstatic 1053, 3) := by decide +kernel
theorem dJ0_checkBoundsBeginEnd_23922_6 : decode cJ0_checkBoundsBeginEnd_23922 6 = .ok (.invokestatic 1062, 3) := by decide +kernel
theorem dJ0_checkBoundsBeginEnd_23922_9 : decode cJ0_checkBoundsBeginEnd_23922 9 = .ok (.pop, 1) := by decide +kernel
theorem dJ0_checkBoundsBeginEnd_23922_10 : decode cJ0_checkBoundsBeginEnd_23922 10 = .ok (.return_, 1) := by decide +kernel
theorem dJ1_charAt_3b067_0 : decode cJ1_charAt_3b067 0 = .ok (.iload_n 1, 1) := by decide +kernel
theorem dJ1_charAt_3b067_1 : decode cJ1_charAt_3b067 1 = .ok (.aload_n 0, 1) := by decide +kernel
theorem dJ1_charAt_3b067_2 : decode cJ1_charAt_3b067 2 = .ok (.arraylength, 1) := by decide +kernel
theorem dJ1_charAt_3b067_3 : decode cJ1_charAt_3b067 3 = .ok (.invokestatic 9, 3) := by decide +kernel
theorem dJ1_charAt_3b067_6 : decode cJ1_charAt_3b067 6 = .ok (.aload_n 0, 1) := by decide +kernel
theorem dJ1_charAt_3b067_7 : decode cJ1_charAt_3b067 7 = .ok (.iload_n 1, 1) := by decide +kernel
theorem dJ1_charAt_3b067_8 : decode cJ1_charAt_3b067 8 = .ok (.baload, 1) := by decide +kernel
theorem dJ1_charAt_3b067_9 : decode cJ1_charAt_3b067 9 = .ok (.sipush 255, 3) := by decide +kernel
theorem dJ1_charAt_3b067_12 : decode cJ1_charAt_3b067 12 = .ok (.iand, 1) := by decide +kernel
theorem dJ1_charAt_3b067_13 : decode cJ1_charAt_3b067 13 = .ok (.i2c, 1) := by decide +kernel
theorem dJ1_charAt_3b067_14 : decode cJ1_charAt_3b067 14 = .ok (.ireturn, 1) := by decide +kernel
theorem dJ1_canEncode_9a6ad_0 : decode cJ1_canEncode_9a6ad 0 = .ok (.iload_n 0, 1) := by decide +kernel
theorem dJ1_canEncode_9a6ad_1 : decode cJ1_canEncode_9a6ad 1 = .ok (.ifCond .lt 14, 3) := by decide +kernel
theorem dJ1_canEncode_9a6ad_4 : decode cJ1_canEncode_9a6ad 4 = .ok (.iload_n 0, 1) := by decide +kernel
theorem dJ1_canEncode_9a6ad_5 : decode cJ1_canEncode_9a6ad 5 = .ok (.sipush 255, 3) := by decide +kernel
theorem dJ1_canEncode_9a6ad_8 : decode cJ1_canEncode_9a6ad 8 = .ok (.if_icmp .gt 7, 3) := by decide +kernel
theorem dJ1_canEncode_9a6ad_11 : decode cJ1_canEncode_9a6ad 11 = .ok (.iconst 1, 1) := by decide +kernel
theorem dJ1_canEncode_9a6ad_12 : decode cJ1_canEncode_9a6ad 12 = .ok (.goto 4, 3) := by decide +kernel
theorem dJ1_canEncode_9a6ad_15 : decode cJ1_canEncode_9a6ad 15 = .ok (.iconst 0, 1) := by decide +kernel
theorem dJ1_canEncode_9a6ad_16 : decode cJ1_canEncode_9a6ad 16 = .ok (.ireturn, 1) := by decide +kernel
theorem dJ1_indexOf_4cfef_0 : decode cJ1_indexOf_4cfef 0 = .ok (.iload_n 1, 1) := by decide +kernel
theorem dJ1_indexOf_4cfef_1 : decode cJ1_indexOf_4cfef 1 = .ok (.invokestatic 88, 3) := by decide +kernel
theorem dJ1_indexOf_4cfef_4 : decode cJ1_indexOf_4cfef 4 = .ok (.ifCond .ne 5, 3) := by decide +kernel
theorem dJ1_indexOf_4cfef_7 : decode cJ1_indexOf_4cfef 7 = .ok (.iconst (-1), 1) := by decide +kernel
theorem dJ1_indexOf_4cfef_8 : decode cJ1_indexOf_4cfef 8 = .ok (.ireturn, 1) := by decide +kernel
theorem dJ1_indexOf_4cfef_9 : decode cJ1_indexOf_4cfef 9 = .ok (.iload_n 2, 1) := by decide +kernel
theorem dJ1_indexOf_4cfef_10 : decode cJ1_indexOf_4cfef 10 = .ok (.iconst 0, 1) := by decide +kernel
theorem dJ1_indexOf_4cfef_11 : decode cJ1_indexOf_4cfef 11 = .ok (.invokestatic 92, 3) := by decide +kernel
theorem dJ1_indexOf_4cfef_14 : decode cJ1_indexOf_4cfef 14 = .ok (.istore_n 2, 1) := by decide +kernel
theorem dJ1_indexOf_4cfef_15 : decode cJ1_indexOf_4cfef 15 = .ok (.iload_n 3, 1) := by decide +kernel
theorem dJ1_indexOf_4cfef_16 : decode cJ1_indexOf_4cfef 16 = .ok (.aload_n 0, 1) := by decide +kernel
theorem dJ1_indexOf_4cfef_17 : decode cJ1_indexOf_4cfef 17 = .ok (.arraylength, 1) := by decide +kernel
theorem dJ1_indexOf_4cfef_18 : decode cJ1_indexOf_4cfef 18 = .ok (.invokestatic 38, 3) := by decide +kernel
theorem dJ1_indexOf_4cfef_21 : decode cJ1_indexOf_4cfef 21 = .ok (.istore_n 3, 1) := by decide +kernel
theorem dJ1_indexOf_4cfef_22 : decode cJ1_indexOf_4cfef 22 = .ok (.iload_n 2, 1) := by decide +kernel
theorem dJ1_indexOf_4cfef_23 : decode cJ1_indexOf_4cfef 23 = .ok (.iload_n 3, 1) := by decide +kernel
theorem dJ1_indexOf_4cfef_24 : decode cJ1_indexOf_4cfef 24 = .ok (.if_icmp .lt 5, 3) := by decide +kernel
theorem dJ1_indexOf_4cfef_27 : decode cJ1_indexOf_4cfef 27 = .ok (.iconst (-1), 1) := by decide +kernel
theorem dJ1_indexOf_4cfef_28 : decode cJ1_indexOf_4cfef 28 = .ok (.ireturn, 1) := by decide +kernel
theorem dJ1_indexOf_4cfef_29 : decode cJ1_indexOf_4cfef 29 = .ok (.aload_n 0, 1) := by decide +kernel
theorem dJ1_indexOf_4cfef_30 : decode cJ1_indexOf_4cfef 30 = .ok (.iload_n 1, 1) := by decide +kernel
theorem dJ1_indexOf_4cfef_31 : decode cJ1_indexOf_4cfef 31 = .ok (.iload_n 2, 1) := by decide +kernel
theorem dJ1_indexOf_4cfef_32 : decode cJ1_indexOf_4cfef 32 = .ok (.iload_n 3, 1) := by decide +kernel
theorem dJ1_indexOf_4cfef_33 : decode cJ1_indexOf_4cfef 33 = .ok (.invokestatic 95, 3) := by decide +kernel
theorem dJ1_indexOf_4cfef_36 : decode cJ1_indexOf_4cfef 36 = .ok (.ireturn, 1) := by decide +kernel
theorem dJ1_indexOfChar_4cfef_0 : decode cJ1_indexOfChar_4cfef 0 = .ok (.iload_n 1, 1) := by decide +kernel
theorem dJ1_indexOfChar_4cfef_1 : decode cJ1_indexOfChar_4cfef 1 = .ok (.i2b, 1) := by decide +kernel
theorem dJ1_indexOfChar_4cfef_2 : decode cJ1_indexOfChar_4cfef 2 = .ok (.istore 4, 2) := by decide +kernel
theorem dJ1_indexOfChar_4cfef_4 : decode cJ1_indexOfChar_4cfef 4 = .ok (.iload_n 2, 1) := by decide +kernel
theorem dJ1_indexOfChar_4cfef_5 : decode cJ1_indexOfChar_4cfef 5 = .ok (.istore 5, 2) := by decide +kernel
theorem dJ1_indexOfChar_4cfef_7 : decode cJ1_indexOfChar_4cfef 7 = .ok (.iload 5, 2) := by decide +kernel
theorem dJ1_indexOfChar_4cfef_9 : decode cJ1_indexOfChar_4cfef 9 = .ok (.iload_n 3, 1) := by decide +kernel
theorem dJ1_indexOfChar_4cfef_10 : decode cJ1_indexOfChar_4cfef 10 = .ok (.if_icmp .ge 21, 3) := by decide +kernel
theorem dJ1_indexOfChar_4cfef_13 : decode cJ1_indexOfChar_4cfef 13 = .ok (.aload_n 0, 1) := by decide +kernel
theorem dJ1_indexOfChar_4cfef_14 : decode cJ1_indexOfChar_4cfef 14 = .ok (.iload 5, 2) := by decide +kernel
theorem dJ1_indexOfChar_4cfef_16 : decode cJ1_indexOfChar_4cfef 16 = .ok (.baload, 1) := by decide +kernel
theorem dJ1_indexOfChar_4cfef_17 : decode cJ1_indexOfChar_4cfef 17 = .ok (.iload 4, 2) := by decide +kernel
theorem dJ1_indexOfChar_4cfef_19 : decode cJ1_indexOfChar_4cfef 19 = .ok (.if_icmp .ne 6, 3) := by decide +kernel
theorem dJ1_indexOfChar_4cfef_22 : decode cJ1_indexOfChar_4cfef 22 = .ok (.iload 5, 2) := by decide +kernel
theorem dJ1_indexOfChar_4cfef_24 : decode cJ1_indexOfChar_4cfef 24 = .ok (.ireturn, 1) := by decide +kernel
theorem dJ1_indexOfChar_4cfef_25 : decode cJ1_indexOfChar_4cfef 25 = .ok (.iinc 5 1, 3) := by decide +kernel
theorem dJ1_indexOfChar_4cfef_28 : decode cJ1_indexOfChar_4cfef 28 = .ok (.goto (-21), 3) := by decide +kernel
theorem dJ1_indexOfChar_4cfef_31 : decode cJ1_indexOfChar_4cfef 31 = .ok (.iconst (-1), 1) := by decide +kernel
theorem dJ1_indexOfChar_4cfef_32 : decode cJ1_indexOfChar_4cfef 32 = .ok (.ireturn, 1) := by decide +kernel
theorem dJ11_isValidCodePoint_9a6ad_0 : decode cJ11_isValidCodePoint_9a6ad 0 = .ok (.iload_n 0, 1) := by decide +kernel
theorem dJ11_isValidCodePoint_9a6ad_1 : decode cJ11_isValidCodePoint_9a6ad 1 = .ok (.bipush 16, 2) := by decide +kernel
theorem dJ11_isValidCodePoint_9a6ad_3 : decode cJ11_isValidCodePoint_9a6ad 3 = .ok (.iushr, 1) := by decide +kernel
theorem dJ11_isValidCodePoint_9a6ad_4 : decode cJ11_isValidCodePoint_9a6ad 4 = .ok (.istore_n 1, 1) := by decide +kernel
theorem dJ11_isValidCodePoint_9a6ad_5 : decode cJ11_isValidCodePoint_9a6ad 5 = .ok (.iload_n 1, 1) := by decide +kernel
theorem dJ11_isValidCodePoint_9a6ad_6 : decode cJ11_isValidCodePoint_9a6ad 6 = .ok (.bipush 17, 2) := by decide +kernel
theorem dJ11_isValidCodePoint_9a6ad_8 : decode cJ11_isValidCodePoint_9a6ad 8 = .ok (.if_icmp .ge 7, 3) := by decide +kernel
theorem dJ11_isValidCodePoint_9a6ad_11 : decode cJ11_isValidCodePoint_9a6ad 11 = .ok (.iconst 1, 1) := by decide +kernel
theorem dJ11_isValidCodePoint_9a6ad_12 : decode cJ11_isValidCodePoint_9a6ad 12 = .ok (.goto 4, 3) := by decide +kernel
theorem dJ11_isValidCodePoint_9a6ad_15 : decode cJ11_isValidCodePoint_9a6ad 15 = .ok (.iconst 0, 1) := by decide +kernel
theorem dJ11_isValidCodePoint_9a6ad_16 : decode cJ11_isValidCodePoint_9a6ad 16 = .ok (.ireturn, 1) := by decide +kernel
theorem dJ11_highSurrogate_5068e_0 : decode cJ11_highSurrogate_5068e 0 = .ok (.iload_n 0, 1) := by decide +kernel
theorem dJ11_highSurrogate_5068e_1 : decode cJ11_highSurrogate_5068e 1 = .ok (.bipush 10, 2) := by decide +kernel
theorem dJ11_highSurrogate_5068e_3 : decode cJ11_highSurrogate_5068e 3 = .ok (.iushr, 1) := by decide +kernel
theorem dJ11_highSurrogate_5068e_4 : decode cJ11_highSurrogate_5068e 4 = .ok (.ldc 110, 2) := by decide +kernel
theorem dJ11_highSurrogate_5068e_6 : decode cJ11_highSurrogate_5068e 6 = .ok (.iadd, 1) := by decide +kernel
theorem dJ11_highSurrogate_5068e_7 : decode cJ11_highSurrogate_5068e 7 = .ok (.i2c, 1) := by decide +kernel
theorem dJ11_highSurrogate_5068e_8 : decode cJ11_highSurrogate_5068e 8 = .ok (.ireturn, 1) := by decide +kernel
theorem dJ11_lowSurrogate_5068e_0 : decode cJ11_lowSurrogate_5068e 0 = .ok (.iload_n 0, 1) := by decide +kernel
theorem dJ11_lowSurrogate_5068e_1 : decode cJ11_lowSurrogate_5068e 1 = .ok (.sipush 1023, 3) := by decide +kernel
theorem dJ11_lowSurrogate_5068e_4 : decode cJ11_lowSurrogate_5068e 4 = .ok (.iand, 1) := by decide +kernel
theorem dJ11_lowSurrogate_5068e_5 : decode cJ11_lowSurrogate_5068e 5 = .ok (.ldc 76, 2) := by decide +kernel
theorem dJ11_lowSurrogate_5068e_7 : decode cJ11_lowSurrogate_5068e 7 = .ok (.iadd, 1) := by decide +kernel
theorem dJ11_lowSurrogate_5068e_8 : decode cJ11_lowSurrogate_5068e 8 = .ok (.i2c, 1) := by decide +kernel
theorem dJ11_lowSurrogate_5068e_9 : decode cJ11_lowSurrogate_5068e 9 = .ok (.ireturn, 1) := by decide +kernel
theorem dJ2_getChar_3b067_0 : decode cJ2_getChar_3b067 0 = .ok (.getstatic 44, 3) := by decide +kernel
theorem dJ2_getChar_3b067_3 : decode cJ2_getChar_3b067 3 = .ok (.ifCond .ne 25, 3) := by decide +kernel
theorem dJ2_getChar_3b067_6 : decode cJ2_getChar_3b067 6 = .ok (.iload_n 1, 1) := by decide +kernel
theorem dJ2_getChar_3b067_7 : decode cJ2_getChar_3b067 7 = .ok (.ifCond .lt 11, 3) := by decide +kernel
theorem dJ2_getChar_3b067_10 : decode cJ2_getChar_3b067 10 = .ok (.iload_n 1, 1) := by decide +kernel
theorem dJ2_getChar_3b067_11 : decode cJ2_getChar_3b067 11 = .ok (.aload_n 0, 1) := by decide +kernel
theorem dJ2_getChar_3b067_12 : decode cJ2_getChar_3b067 12 = .ok (.invokestatic 48, 3) := by decide +kernel
theorem dJ2_getChar_3b067_15 : decode cJ2_getChar_3b067 15 = .ok (.if_icmp .lt 13, 3) := by decide +kernel
theorem dJ2_getChar_3b067_18 : decode cJ2_getChar_3b067 18 = .ok (.new 52, 3) := by decide +kernel
theorem dJ2_getChar_3b067_21 : decode cJ2_getChar_3b067 21 = .ok (.dup, 1) := by decide +kernel
theorem dJ2_getChar_3b067_22 : decode cJ2_getChar_3b067 22 = .ok (.ldc 54, 2) := by decide +kernel
theorem dJ2_getChar_3b067_24 : decode cJ2_getChar_3b067 24 = .ok (.invokespecial 56, 3) := by decide +kernel
theorem dJ2_getChar_3b067_27 : decode cJ2_getChar_3b067 27 = .ok (.athrow, 1) := by decide +kernel
theorem dJ2_getChar_3b067_28 : decode cJ2_getChar_3b067 28 = .ok (.iload_n 1, 1) := by decide +kernel
theorem dJ2_getChar_3b067_29 : decode cJ2_getChar_3b067 29 = .ok (.iconst 1, 1) := by decide +kernel
theorem dJ2_getChar_3b067_30 : decode cJ2_getChar_3b067 30 = .ok (.ishl, 1) := by decide +kernel
theorem dJ2_getChar_3b067_31 : decode cJ2_getChar_3b067 31 = .ok (.istore_n 1, 1) := by decide +kernel
theorem dJ2_getChar_3b067_32 : decode cJ2_getChar_3b067 32 = .ok (.aload_n 0, 1) := by decide +kernel
theorem dJ2_getChar_3b067_33 : decode cJ2_getChar_3b067 33 = .ok (.iload_n 1, 1) := by decide +kernel
theorem dJ2_getChar_3b067_34 : decode cJ2_getChar_3b067 34 = .ok (.iinc 1 1, 3) := by decide +kernel
theorem dJ2_getChar_3b067_37 : decode cJ2_getChar_3b067 37 = .ok (.baload, 1) := by decide +kernel
theorem dJ2_getChar_3b067_38 : decode cJ2_getChar_3b067 38 = .ok (.sipush 255, 3) := by decide +kernel
theorem dJ2_getChar_3b067_41 : decode cJ2_getChar_3b067 41 = .ok (.iand, 1) := by decide +kernel
theorem dJ2_getChar_3b067_42 : decode cJ2_getChar_3b067 42 = .ok (.getstatic 59, 3) := by decide +kernel
theorem dJ2_getChar_3b067_45 : decode cJ2_getChar_3b067 45 = .ok (.ishl, 1) := by decide +kernel
theorem dJ2_getChar_3b067_46 : decode cJ2_getChar_3b067 46 = .ok (.aload_n 0, 1) := by decide +kernel
theorem dJ2_getChar_3b067_47 : decode cJ2_getChar_3b067 47 = .ok (.iload_n 1, 1) := by decide +kernel
theorem dJ2_getChar_3b067_48 : decode cJ2_getChar_3b067 48 = .ok (.baload, 1) := by decide +kernel
theorem dJ2_getChar_3b067_49 : decode cJ2_getChar_3b067 49 = .ok (.sipush 255, 3) := by decide +kernel
theorem dJ2_getChar_3b067_52 : decode cJ2_getChar_3b067 52 = .ok (.iand, 1) := by decide +kernel
theorem dJ2_getChar_3b067_53 : decode cJ2_getChar_3b067 53 = .ok (.getstatic 63, 3) := by decide +kernel
theorem dJ2_getChar_3b067_56 : decode cJ2_getChar_3b067 56 = .ok (.ishl, 1) := by decide +kernel
theorem dJ2_getChar_3b067_57 : decode cJ2_getChar_3b067 57 = .ok (.ior, 1) := by decide +kernel
theorem dJ2_getChar_3b067_58 : decode cJ2_getChar_3b067 58 = .ok (.i2c, 1) := by decide +kernel
theorem dJ2_getChar_3b067_59 : decode cJ2_getChar_3b067 59 = .ok (.ireturn, 1) := by decide +kernel
theorem dJ2_length_9d52b_0 : decode cJ2_length_9d52b 0 = .ok (.aload_n 0, 1) := by decide +kernel
theorem dJ2_length_9d52b_1 : decode cJ2_length_9d52b 1 = .ok (.arraylength, 1) := by decide +kernel
theorem dJ2_length_9d52b_2 : decode cJ2_length_9d52b 2 = .ok (.iconst 1, 1) := by decide +kernel
theorem dJ2_length_9d52b_3 : decode cJ2_length_9d52b 3 = .ok (.ishr, 1) := by decide +kernel
theorem dJ2_length_9d52b_4 : decode cJ2_length_9d52b 4 = .ok (.ireturn, 1) := by decide +kernel
theorem dJ2_indexOf_4cfef_0 : decode cJ2_indexOf_4cfef 0 = .ok (.iload_n 2, 1) := by decide +kernel
theorem dJ2_indexOf_4cfef_1 : decode cJ2_indexOf_4cfef 1 = .ok (.iconst 0, 1) := by decide +kernel
theorem dJ2_indexOf_4cfef_2 : decode cJ2_indexOf_4cfef 2 = .ok (.invokestatic 224, 3) := by decide +kernel
theorem dJ2_indexOf_4cfef_5 : decode cJ2_indexOf_4cfef 5 = .ok (.istore_n 2, 1) := by decide +kernel
theorem dJ2_indexOf_4cfef_6 : decode cJ2_indexOf_4cfef 6 = .ok (.iload_n 3, 1) := by decide +kernel
theorem dJ2_indexOf_4cfef_7 : decode cJ2_indexOf_4cfef 7 = .ok (.aload_n 0, 1) := by decide +kernel
theorem dJ2_indexOf_4cfef_8 : decode cJ2_indexOf_4cfef 8 = .ok (.arraylength, 1) := by decide +kernel
theorem dJ2_indexOf_4cfef_9 : decode cJ2_indexOf_4cfef 9 = .ok (.iconst 1, 1) := by decide +kernel
theorem dJ2_indexOf_4cfef_10 : decode cJ2_indexOf_4cfef 10 = .ok (.ishr, 1) := by decide +kernel
theorem dJ2_indexOf_4cfef_11 : decode cJ2_indexOf_4cfef 11 = .ok (.invokestatic 183, 3) := by decide +kernel
theorem dJ2_indexOf_4cfef_14 : decode cJ2_indexOf_4cfef 14 = .ok (.istore_n 3, 1) := by decide +kernel
theorem dJ2_indexOf_4cfef_15 : decode cJ2_indexOf_4cfef 15 = .ok (.iload_n 2, 1) := by decide +kernel
theorem dJ2_indexOf_4cfef_16 : decode cJ2_indexOf_4cfef 16 = .ok (.iload_n 3, 1) := by decide +kernel
theorem dJ2_indexOf_4cfef_17 : decode cJ2_indexOf_4cfef 17 = .ok (.if_icmp .lt 5, 3) := by decide +kernel
theorem dJ2_indexOf_4cfef_20 : decode cJ2_indexOf_4cfef 20 = .ok (.iconst (-1), 1) := by decide +kernel
theorem dJ2_indexOf_4cfef_21 : decode cJ2_indexOf_4cfef 21 = .ok (.ireturn, 1) := by decide +kernel
theorem dJ2_indexOf_4cfef_22 : decode cJ2_indexOf_4cfef 22 = .ok (.iload_n 1, 1) := by decide +kernel
theorem dJ2_indexOf_4cfef_23 : decode cJ2_indexOf_4cfef 23 = .ok (.ldc 227, 2) := by decide +kernel
theorem dJ2_indexOf_4cfef_25 : decode cJ2_indexOf_4cfef 25 = .ok (.if_icmp .ge 11, 3) := by decide +kernel
theorem dJ2_indexOf_4cfef_28 : decode cJ2_indexOf_4cfef 28 = .ok (.aload_n 0, 1) := by decide +kernel
theorem dJ2_indexOf_4cfef_29 : decode cJ2_indexOf_4cfef 29 = .ok (.iload_n 1, 1) := by decide +kernel
theorem dJ2_indexOf_4cfef_30 : decode cJ2_indexOf_4cfef 30 = .ok (.iload_n 2, 1) := by decide +kernel
theorem dJ2_indexOf_4cfef_31 : decode cJ2_indexOf_4cfef 31 = .ok (.iload_n 3, 1) := by decide +kernel
theorem dJ2_indexOf_4cfef_32 : decode cJ2_indexOf_4cfef 32 = .ok (.invokestatic 228, 3) := by decide +kernel
theorem dJ2_indexOf_4cfef_35 : decode cJ2_indexOf_4cfef 35 = .ok (.ireturn, 1) := by decide +kernel
theorem dJ2_indexOf_4cfef_36 : decode cJ2_indexOf_4cfef 36 = .ok (.aload_n 0, 1) := by decide +kernel
theorem dJ2_indexOf_4cfef_37 : decode cJ2_indexOf_4cfef 37 = .ok (.iload_n 1, 1) := by decide +kernel
theorem dJ2_indexOf_4cfef_38 : decode cJ2_indexOf_4cfef 38 = .ok (.iload_n 2, 1) := by decide +kernel
theorem dJ2_indexOf_4cfef_39 : decode cJ2_indexOf_4cfef 39 = .ok (.iload_n 3, 1) := by decide +kernel
theorem dJ2_indexOf_4cfef_40 : decode cJ2_indexOf_4cfef 40 = .ok (.invokestatic 232, 3) := by decide +kernel
theorem dJ2_indexOf_4cfef_43 : decode cJ2_indexOf_4cfef 43 = .ok (.ireturn, 1) := by decide +kernel
theorem dJ2_indexOfChar_4cfef_0 : decode cJ2_indexOfChar_4cfef 0 = .ok (.iload_n 2, 1) := by decide +kernel
theorem dJ2_indexOfChar_4cfef_1 : decode cJ2_indexOfChar_4cfef 1 = .ok (.iload_n 3, 1) := by decide +kernel
theorem dJ2_indexOfChar_4cfef_2 : decode cJ2_indexOfChar_4cfef 2 = .ok (.aload_n 0, 1) := by decide +kernel
theorem dJ2_indexOfChar_4cfef_3 : decode cJ2_indexOfChar_4cfef 3 = .ok (.invokestatic 96, 3) := by decide +kernel
theorem dJ2_indexOfChar_4cfef_6 : decode cJ2_indexOfChar_4cfef 6 = .ok (.aload_n 0, 1) := by decide +kernel
theorem dJ2_indexOfChar_4cfef_7 : decode cJ2_indexOfChar_4cfef 7 = .ok (.iload_n 1, 1) := by decide +kernel
theorem dJ2_indexOfChar_4cfef_8 : decode cJ2_indexOfChar_4cfef 8 = .ok (.iload_n 2, 1) := by decide +kernel
theorem dJ2_indexOfChar_4cfef_9 : decode cJ2_indexOfChar_4cfef 9 = .ok (.iload_n 3, 1) := by decide +kernel
theorem dJ2_indexOfChar_4cfef_10 : decode cJ2_indexOfChar_4cfef 10 = .ok (.invokestatic 244, 3) := by decide +kernel
theorem dJ2_indexOfChar_4cfef_13 : decode cJ2_indexOfChar_4cfef 13 = .ok (.ireturn, 1) := by decide +kernel
theorem dJ2_indexOfCharUnsafe_4cfef_0 : decode cJ2_indexOfCharUnsafe_4cfef 0 = .ok (.iload_n 2, 1) := by decide +kernel
theorem dJ2_indexOfCharUnsafe_4cfef_1 : decode cJ2_indexOfCharUnsafe_4cfef 1 = .ok (.istore 4, 2) := by decide +kernel
theorem dJ2_indexOfCharUnsafe_4cfef_3 : decode cJ2_indexOfCharUnsafe_4cfef 3 = .ok (.iload 4, 2) := by decide +kernel
theorem dJ2_indexOfCharUnsafe_4cfef_5 : decode cJ2_indexOfCharUnsafe_4cfef 5 = .ok (.iload_n 3, 1) := by decide +kernel
theorem dJ2_indexOfCharUnsafe_4cfef_6 : decode cJ2_indexOfCharUnsafe_4cfef 6 = .ok (.if_icmp .ge 22, 3) := by decide +kernel
theorem dJ2_indexOfCharUnsafe_4cfef_9 : decode cJ2_indexOfCharUnsafe_4cfef 9 = .ok (.aload_n 0, 1) := by decide +kernel
theorem dJ2_indexOfCharUnsafe_4cfef_10 : decode cJ2_indexOfCharUnsafe_4cfef 10 = .ok (.iload 4, 2) := by decide +kernel
theorem dJ2_indexOfCharUnsafe_4cfef_12 : decode cJ2_indexOfCharUnsafe_4cfef 12 = .ok (.invokestatic 71, 3) := by decide +kernel
theorem dJ2_indexOfCharUnsafe_4cfef_15 : decode cJ2_indexOfCharUnsafe_4cfef 15 = .ok (.iload_n 1, 1) := by decide +kernel
theorem dJ2_indexOfCharUnsafe_4cfef_16 : decode cJ2_indexOfCharUnsafe_4cfef 16 = .ok (.if_icmp .ne 6, 3) := by decide +kernel
theorem dJ2_indexOfCharUnsafe_4cfef_19 : decode cJ2_indexOfCharUnsafe_4cfef 19 = .ok (.iload 4, 2) := by decide +kernel
theorem dJ2_indexOfCharUnsafe_4cfef_21 : decode cJ2_indexOfCharUnsafe_4cfef 21 = .ok (.ireturn, 1) := by decide +kernel
theorem dJ2_indexOfCharUnsafe_4cfef_22 : decode cJ2_indexOfCharUnsafe_4cfef 22 = .ok (.iinc 4 1, 3) := by decide +kernel
theorem dJ2_indexOfCharUnsafe_4cfef_25 : decode cJ2_indexOfCharUnsafe_4cfef 25 = .ok (.goto (-22), 3) := by decide +kernel
theorem dJ2_indexOfCharUnsafe_4cfef_28 : decode cJ2_indexOfCharUnsafe_4cfef 28 = .ok (.iconst (-1), 1) := by decide +kernel
theorem dJ2_indexOfCharUnsafe_4cfef_29 : decode cJ2_indexOfCharUnsafe_4cfef 29 = .ok (.ireturn, 1) := by decide +kernel
theorem dJ2_indexOfSupplementary_4cfef_0 : decode cJ2_indexOfSupplementary_4cfef 0 = .ok (.iload_n 1, 1) := by decide +kernel
theorem dJ2_indexOfSupplementary_4cfef_1 : decode cJ2_indexOfSupplementary_4cfef 1 = .ok (.invokestatic 164, 3) := by decide +kernel
theorem dJ2_indexOfSupplementary_4cfef_4 : decode cJ2_indexOfSupplementary_4cfef 4 = .ok (.ifCond .eq 65, 3) := by decide +kernel
theorem dJ2_indexOfSupplementary_4cfef_7 : decode cJ2_indexOfSupplementary_4cfef 7 = .ok (.iload_n 1, 1) := by decide +kernel
theorem dJ2_indexOfSupplementary_4cfef_8 : decode cJ2_indexOfSupplementary_4cfef 8 = .ok (.invokestatic 157, 3) := by decide +kernel
theorem dJ2_indexOfSupplementary_4cfef_11 : decode cJ2_indexOfSupplementary_4cfef 11 = .ok (.istore 4, 2) := by decide +kernel
theorem dJ2_indexOfSupplementary_4cfef_13 : decode cJ2_indexOfSupplementary_4cfef 13 = .ok (.iload_n 1, 1) := by decide +kernel
theorem dJ2_indexOfSupplementary_4cfef_14 : decode cJ2_indexOfSupplementary_4cfef 14 = .ok (.invokestatic 161, 3) := by decide +kernel
theorem dJ2_indexOfSupplementary_4cfef_17 : decode cJ2_indexOfSupplementary_4cfef 17 = .ok (.istore 5, 2) := by decide +kernel
theorem dJ2_indexOfSupplementary_4cfef_19 : decode cJ2_indexOfSupplementary_4cfef 19 = .ok (.iload_n 2, 1) := by decide +kernel
theorem dJ2_indexOfSupplementary_4cfef_20 : decode cJ2_indexOfSupplementary_4cfef 20 = .ok (.iload_n 3, 1) := by decide +kernel
theorem dJ2_indexOfSupplementary_4cfef_21 : decode cJ2_indexOfSupplementary_4cfef 21 = .ok (.aload_n 0, 1) := by decide +kernel
theorem dJ2_indexOfSupplementary_4cfef_22 : decode cJ2_indexOfSupplementary_4cfef 22 = .ok (.invokestatic 96, 3) := by decide +kernel
theorem dJ2_indexOfSupplementary_4cfef_25 : decode cJ2_indexOfSupplementary_4cfef 25 = .ok (.iload_n 2, 1) := by decide +kernel
theorem dJ2_indexOfSupplementary_4cfef_26 : decode cJ2_indexOfSupplementary_4cfef 26 = .ok (.istore 6, 2) := by decide +kernel
theorem dJ2_indexOfSupplementary_4cfef_28 : decode cJ2_indexOfSupplementary_4cfef 28 = .ok (.iload 6, 2) := by decide +kernel
theorem dJ2_indexOfSupplementary_4cfef_30 : decode cJ2_indexOfSupplementary_4cfef 30 = .ok (.iload_n 3, 1) := by decide +kernel
theorem dJ2_indexOfSupplementary_4cfef_31 : decode cJ2_indexOfSupplementary_4cfef 31 = .ok (.iconst 1, 1) := by decide +kernel
theorem dJ2_indexOfSupplementary_4cfef_32 : decode cJ2_indexOfSupplementary_4cfef 32 = .ok (.isub, 1) := by decide +kernel
theorem dJ2_indexOfSupplementary_4cfef_33 : decode cJ2_indexOfSupplementary_4cfef 33 = .ok (.if_icmp .ge 36, 3) := by decide +kernel
theorem dJ2_indexOfSupplementary_4cfef_36 : decode cJ2_indexOfSupplementary_4cfef 36 = .ok (.aload_n 0, 1) := by decide +kernel
theorem dJ2_indexOfSupplementary_4cfef_37 : decode cJ2_indexOfSupplementary_4cfef 37 = .ok (.iload 6, 2) := by decide +kernel
theorem dJ2_indexOfSupplementary_4cfef_39 : decode cJ2_indexOfSupplementary_4cfef 39 = .ok (.invokestatic 71, 3) := by decide +kernel
theorem dJ2_indexOfSupplementary_4cfef_42 : decode cJ2_indexOfSupplementary_4cfef 42 = .ok (.iload 4, 2) := by decide +kernel
theorem dJ2_indexOfSupplementary_4cfef_44 : decode cJ2_indexOfSupplementary_4cfef 44 = .ok (.if_icmp .ne 19, 3) := by decide +kernel
theorem dJ2_indexOfSupplementary_4cfef_47 : decode cJ2_indexOfSupplementary_4cfef 47 = .ok (.aload_n 0, 1) := by decide +kernel
theorem dJ2_indexOfSupplementary_4cfef_48 : decode cJ2_indexOfSupplementary_4cfef 48 = .ok (.iload 6, 2) := by decide +kernel
theorem dJ2_indexOfSupplementary_4cfef_50 : decode cJ2_indexOfSupplementary_4cfef 50 = .ok (.iconst 1, 1) := by decide +kernel
theorem dJ2_indexOfSupplementary_4cfef_51 : decode cJ2_indexOfSupplementary_4cfef 51 = .ok (.iadd, 1) := by decide +kernel
theorem dJ2_indexOfSupplementary_4cfef_52 : decode cJ2_indexOfSupplementary_4cfef 52 = .ok (.invokestatic 71, 3) := by decide +kernel
theorem dJ2_indexOfSupplementary_4cfef_55 : decode cJ2_indexOfSupplementary_4cfef 55 = .ok (.iload 5, 2) := by decide +kernel
theorem dJ2_indexOfSupplementary_4cfef_57 : decode cJ2_indexOfSupplementary_4cfef 57 = .ok (.if_icmp .ne 6, 3) := by decide +kernel
theorem dJ2_indexOfSupplementary_4cfef_60 : decode cJ2_indexOfSupplementary_4cfef 60 = .ok (.iload 6, 2) := by decide +kernel
theorem dJ2_indexOfSupplementary_4cfef_62 : decode cJ2_indexOfSupplementary_4cfef 62 = .ok (.ireturn, 1) := by decide +kernel
theorem dJ2_indexOfSupplementary_4cfef_63 : decode cJ2_indexOfSupplementary_4cfef 63 = .ok (.iinc 6 1, 3) := by decide +kernel
theorem dJ2_indexOfSupplementary_4cfef_66 : decode cJ2_indexOfSupplementary_4cfef 66 = .ok (.goto (-38), 3) := by decide +kernel
theorem dJ2_indexOfSupplementary_4cfef_69 : decode cJ2_indexOfSupplementary_4cfef 69 = .ok (.iconst (-1), 1) := by decide +kernel
theorem dJ2_indexOfSupplementary_4cfef_70 : decode cJ2_indexOfSupplementary_4cfef 70 = .ok (.ireturn, 1) := by decide +kernel
theorem dJ2_charAt_3b067_0 : decode cJ2_charAt_3b067 0 = .ok (.iload_n 1, 1) := by decide +kernel
theorem dJ2_charAt_3b067_1 : decode cJ2_charAt_3b067 1 = .ok (.aload_n 0, 1) := by decide +kernel
theorem dJ2_charAt_3b067_2 : decode cJ2_charAt_3b067 2 = .ok (.invokestatic 67, 3) := by decide +kernel
theorem dJ2_charAt_3b067_5 : decode cJ2_charAt_3b067 5 = .ok (.aload_n 0, 1) := by decide +kernel
theorem dJ2_charAt_3b067_6 : decode cJ2_charAt_3b067 6 = .ok (.iload_n 1, 1) := by decide +kernel
theorem dJ2_charAt_3b067_7 : decode cJ2_charAt_3b067 7 = .ok (.invokestatic 71, 3) := by decide +kernel
theorem dJ2_charAt_3b067_10 : decode cJ2_charAt_3b067 10 = .ok (.ireturn, 1) := by decide +kernel
theorem dJ2_checkIndex_2214a_0 : decode cJ2_checkIndex_2214a 0 = .ok (.iload_n 0, 1) := by decide +kernel
theorem dJ2_checkIndex_2214a_1 : decode cJ2_checkIndex_2214a 1 = .ok (.aload_n 1, 1) := by decide +kernel
theorem dJ2_checkIndex_2214a_2 : decode cJ2_checkIndex_2214a 2 = .ok (.invokestatic 48, 3) := by decide +kernel
theorem dJ2_checkIndex_2214a_5 : decode cJ2_checkIndex_2214a 5 = .ok (.invokestatic 414, 3) := by decide +kernel
theorem dJ2_checkIndex_2214a_8 : decode cJ2_checkIndex_2214a 8 = .ok (.return_, 1) := by decide +kernel
theorem dJ2_checkBoundsBeginEnd_d044e_0 : decode cJ2_checkBoundsBeginEnd_d044e 0 = .ok (.iload_n 0, 1) := by decide +kernel
theorem dJ2_checkBoundsBeginEnd_d044e_1 : decode cJ2_checkBoundsBeginEnd_d044e 1 = .ok (.iload_n 1, 1) := by decide +kernel
theorem dJ2_checkBoundsBeginEnd_d044e_2 : decode cJ2_checkBoundsBeginEnd_d044e 2 = .ok (.aload_n 2, 1) := by decide +kernel
theorem dJ2_checkBoundsBeginEnd_d044e_3 : decode cJ2_checkBoundsBeginEnd_d044e 3 = .ok (.invokestatic 48, 3) := by decide +kernel
theorem dJ2_checkBoundsBeginEnd_d044e_6 : decode cJ2_checkBoundsBeginEnd_d044e 6 = .ok (.invokestatic 241, 3) := by decide +kernel
theorem dJ2_checkBoundsBeginEnd_d044e_9 : decode cJ2_checkBoundsBeginEnd_d044e 9 = .ok (.return_, 1) := by decide +kernel
theorem dJ3_checkIndex_8e157_0 : decode cJ3_checkIndex_8e157 0 = .ok (.iload_n 0, 1) := by decide +kernel
theorem dJ3_checkIndex_8e157_1 : decode cJ3_checkIndex_8e157 1 = .ok (.ifCond .lt 8, 3) := by decide +kernel
theorem dJ3_checkIndex_8e157_4 : decode cJ3_checkIndex_8e157 4 = .ok (.iload_n 0, 1) := by decide +kernel
theorem dJ3_checkIndex_8e157_5 : decode cJ3_checkIndex_8e157 5 = .ok (.iload_n 1, 1) := by decide +kernel
theorem dJ3_checkIndex_8e157_6 : decode cJ3_checkIndex_8e157 6 = .ok (.if_icmp .lt 10, 3) := by decide +kernel
theorem dJ3_checkIndex_8e157_9 : decode cJ3_checkIndex_8e157 9 = .ok (.aload_n 2, 1) := by decide +kernel
theorem dJ3_checkIndex_8e157_10 : decode cJ3_checkIndex_8e157 10 = .ok (.iload_n 0, 1) := by decide +kernel
theorem dJ3_checkIndex_8e157_11 : decode cJ3_checkIndex_8e157 11 = .ok (.iload_n 1, 1) := by decide +kernel
theorem dJ3_checkIndex_8e157_12 : decode cJ3_checkIndex_8e157 12 = .ok (.invokestatic 95, 3) := by decide +kernel
theorem dJ3_checkIndex_8e157_15 : decode cJ3_checkIndex_8e157 15 = .ok (.athrow, 1) := by decide +kernel
theorem dJ3_checkIndex_8e157_16 : decode cJ3_checkIndex_8e157 16 = .ok (.iload_n 0, 1) := by decide +kernel
theorem dJ3_checkIndex_8e157_17 : decode cJ3_checkIndex_8e157 17 = .ok (.ireturn, 1) := by decide +kernel
theorem dJ3_checkFromToIndex_8c36e_0 : decode cJ3_checkFromToIndex_8c36e 0 = .ok (.iload_n 0, 1) := by decide +kernel
theorem dJ3_checkFromToIndex_8c36e_1 : decode cJ3_checkFromToIndex_8c36e 1 = .ok (.ifCond .lt 13, 3) := by decide +kernel
theorem dJ3_checkFromToIndex_8c36e_4 : decode cJ3_checkFromToIndex_8c36e 4 = .ok (.iload_n 0, 1) := by decide +kernel
theorem dJ3_checkFromToIndex_8c36e_5 : decode cJ3_checkFromToIndex_8c36e 5 = .ok (.iload_n 1, 1) := by decide +kernel
theorem dJ3_checkFromToIndex_8c36e_6 : decode cJ3_checkFromToIndex_8c36e 6 = .ok (.if_icmp .gt 8, 3) := by decide +kernel
theorem dJ3_checkFromToIndex_8c36e_9 : decode cJ3_checkFromToIndex_8c36e 9 = .ok (.iload_n 1, 1) := by decide +kernel
theorem dJ3_checkFromToIndex_8c36e_10 : decode cJ3_checkFromToIndex_8c36e 10 = .ok (.iload_n 2, 1) := by decide +kernel
theorem dJ3_checkFromToIndex_8c36e_11 : decode cJ3_checkFromToIndex_8c36e 11 = .ok (.if_icmp .le 11, 3) := by decide +kernel
theorem dJ3_checkFromToIndex_8c36e_14 : decode cJ3_checkFromToIndex_8c36e 14 = .ok (.aload_n 3, 1) := by decide +kernel
theorem dJ3_checkFromToIndex_8c36e_15 : decode cJ3_checkFromToIndex_8c36e 15 = .ok (.iload_n 0, 1) := by decide +kernel
theorem dJ3_checkFromToIndex_8c36e_16 : decode cJ3_checkFromToIndex_8c36e 16 = .ok (.iload_n 1, 1) := by decide +kernel
theorem dJ3_checkFromToIndex_8c36e_17 : decode cJ3_checkFromToIndex_8c36e 17 = .ok (.iload_n 2, 1) := by decide +kernel
theorem dJ3_checkFromToIndex_8c36e_18 : decode cJ3_checkFromToIndex_8c36e 18 = .ok (.invokestatic 99, 3) := by decide +kernel
theorem dJ3_checkFromToIndex_8c36e_21 : decode cJ3_checkFromToIndex_8c36e 21 = .ok (.athrow, 1) := by decide +kernel
theorem dJ3_checkFromToIndex_8c36e_22 : decode cJ3_checkFromToIndex_8c36e 22 = .ok (.iload_n 0, 1) := by decide +kernel
theorem dJ3_checkFromToIndex_8c36e_23 : decode cJ3_checkFromToIndex_8c36e 23 = .ok (.ireturn, 1) := by decide +kernel
theorem dJ7_rangeCheck_23922_0 : decode cJ7_rangeCheck_23922 0 = .ok (.iload_n 1, 1) := by decide +kernel
theorem dJ7_rangeCheck_23922_1 : decode cJ7_rangeCheck_23922 1 = .ok (.iload_n 2, 1) := by decide +kernel
theorem dJ7_rangeCheck_23922_2 : decode cJ7_rangeCheck_23922 2 = .ok (.if_icmp .le 44, 3) := by decide +kernel
theorem dJ7_rangeCheck_23922_5 : decode cJ7_rangeCheck_23922 5 = .ok (.new 43, 3) := by decide +kernel
theorem dJ7_rangeCheck_23922_8 : decode cJ7_rangeCheck_23922 8 = .ok (.dup, 1) := by decide +kernel
theorem dJ7_rangeCheck_23922_9 : decode cJ7_rangeCheck_23922 9 = .ok (.new 45, 3) := by decide +kernel
theorem dJ7_rangeCheck_23922_12 : decode cJ7_rangeCheck_23922 12 = .ok (.dup, 1) := by decide +kernel
theorem dJ7_rangeCheck_23922_13 : decode cJ7_rangeCheck_23922 13 = .ok (.invokespecial 47, 3) := by decide +kernel
theorem dJ7_rangeCheck_23922_16 : decode cJ7_rangeCheck_23922 16 = .ok (.ldc 48, 2) := by decide +kernel
theorem dJ7_rangeCheck_23922_18 : decode cJ7_rangeCheck_23922 18 = .ok (.invokevirtual 50, 3) := by decide +kernel
theorem dJ7_rangeCheck_23922_21 : decode cJ7_rangeCheck_23922 21 = .ok (.iload_n 1, 1) := by decide +kernel
theorem dJ7_rangeCheck_23922_22 : decode cJ7_rangeCheck_23922 22 = .ok (.invokevirtual 54, 3) := by decide +kernel
theorem dJ7_rangeCheck_23922_25 : decode cJ7_rangeCheck_23922 25 = .ok (.ldc 57, 2) := by decide +kernel
theorem dJ7_rangeCheck_23922_27 : decode cJ7_rangeCheck_23922 27 = .ok (.invokevirtual 50, 3) := by decide +kernel
theorem dJ7_rangeCheck_23922_30 : decode cJ7_rangeCheck_23922 30 = .ok (.iload_n 2, 1) := by decide +kernel
theorem dJ7_rangeCheck_23922_31 : decode cJ7_rangeCheck_23922 31 = .ok (.invokevirtual 54, 3) := by decide +kernel
theorem dJ7_rangeCheck_23922_34 : decode cJ7_rangeCheck_23922 34 = .ok (.ldc 59, 2) := by decide +kernel
theorem dJ7_rangeCheck_23922_36 : decode cJ7_rangeCheck_23922 36 = .ok (.invokevirtual 50, 3) := by decide +kernel
theorem dJ7_rangeCheck_23922_39 : decode cJ7_rangeCheck_23922 39 = .ok (.invokevirtual 61, 3) := by decide +kernel
theorem dJ7_rangeCheck_23922_42 : decode cJ7_rangeCheck_23922 42 = .ok (.invokespecial 65, 3) := by decide +kernel
theorem dJ7_rangeCheck_23922_45 : decode cJ7_rangeCheck_23922 45 = .ok (.athrow, 1) := by decide +kernel
theorem dJ7_rangeCheck_23922_46 : decode cJ7_rangeCheck_23922 46 = .ok (.iload_n 1, 1) := by decide +kernel
theorem dJ7_rangeCheck_23922_47 : decode cJ7_rangeCheck_23922 47 = .ok (.ifCond .ge 12, 3) := by decide +kernel
theorem dJ7_rangeCheck_23922_50 : decode cJ7_rangeCheck_23922 50 = .ok (.new 68, 3) := by decide +kernel
theorem dJ7_rangeCheck_23922_53 : decode cJ7_rangeCheck_23922 53 = .ok (.dup, 1) := by decide +kernel
theorem dJ7_rangeCheck_23922_54 : decode cJ7_rangeCheck_23922 54 = .ok (.iload_n 1, 1) := by decide +kernel
theorem dJ7_rangeCheck_23922_55 : decode cJ7_rangeCheck_23922 55 = .ok (.invokespecial 70, 3) := by decide +kernel
theorem dJ7_rangeCheck_23922_58 : decode cJ7_rangeCheck_23922 58 = .ok (.athrow, 1) := by decide +kernel
theorem dJ7_rangeCheck_23922_59 : decode cJ7_rangeCheck_23922 59 = .ok (.iload_n 2, 1) := by decide +kernel
theorem dJ7_rangeCheck_23922_60 : decode cJ7_rangeCheck_23922 60 = .ok (.iload_n 0, 1) := by decide +kernel
theorem dJ7_rangeCheck_23922_61 : decode cJ7_rangeCheck_23922 61 = .ok (.if_icmp .le 12, 3) := by decide +kernel
theorem dJ7_rangeCheck_23922_64 : decode cJ7_rangeCheck_23922 64 = .ok (.new 68, 3) := by decide +kernel
theorem dJ7_rangeCheck_23922_67 : decode cJ7_rangeCheck_23922 67 = .ok (.dup, 1) := by decide +kernel
theorem dJ7_rangeCheck_23922_68 : decode cJ7_rangeCheck_23922 68 = .ok (.iload_n 2, 1) := by decide +kernel
theorem dJ7_rangeCheck_23922_69 : decode cJ7_rangeCheck_23922 69 = .ok (.invokespecial 70, 3) := by decide +kernel
theorem dJ7_rangeCheck_23922_72 : decode cJ7_rangeCheck_23922 72 = .ok (.athrow, 1) := by decide +kernel
theorem dJ7_rangeCheck_23922_73 : decode cJ7_rangeCheck_23922 73 = .ok (.return_, 1) := by decide +kernel
theorem dJ7_fill_bad5a_0 : decode cJ7_fill_bad5a 0 = .ok (.aload_n 0, 1) := by decide +kernel
theorem dJ7_fill_bad5a_1 : decode cJ7_fill_bad5a 1 = .ok (.arraylength, 1) := by decide +kernel
theorem dJ7_fill_bad5a_2 : decode cJ7_fill_bad5a 2 = .ok (.iload_n 1, 1) := by decide +kernel
theorem dJ7_fill_bad5a_3 : decode cJ7_fill_bad5a 3 = .ok (.iload_n 2, 1) := by decide +kernel
theorem dJ7_fill_bad5a_4 : decode cJ7_fill_bad5a 4 = .ok (.invokestatic 13, 3) := by decide +kernel
theorem dJ7_fill_bad5a_7 : decode cJ7_fill_bad5a 7 = .ok (.iload_n 1, 1) := by decide +kernel
theorem dJ7_fill_bad5a_8 : decode cJ7_fill_bad5a 8 = .ok (.istore 5, 2) := by decide +kernel
theorem dJ7_fill_bad5a_10 : decode cJ7_fill_bad5a 10 = .ok (.iload 5, 2) := by decide +kernel
theorem dJ7_fill_bad5a_12 : decode cJ7_fill_bad5a 12 = .ok (.iload_n 2, 1) := by decide +kernel
theorem dJ7_fill_bad5a_13 : decode cJ7_fill_bad5a 13 = .ok (.if_icmp .ge 14, 3) := by decide +kernel
theorem dJ7_fill_bad5a_16 : decode cJ7_fill_bad5a 16 = .ok (.aload_n 0, 1) := by decide +kernel
theorem dJ7_fill_bad5a_17 : decode cJ7_fill_bad5a 17 = .ok (.iload 5, 2) := by decide +kernel
theorem dJ7_fill_bad5a_19 : decode cJ7_fill_bad5a 19 = .ok (.lload_n 3, 1) := by decide +kernel
theorem dJ7_fill_bad5a_20 : decode cJ7_fill_bad5a 20 = .ok (.lastore, 1) := by decide +kernel
theorem dJ7_fill_bad5a_21 : decode cJ7_fill_bad5a 21 = .ok (.iinc 5 1, 3) := by decide +kernel
theorem dJ7_fill_bad5a_24 : decode cJ7_fill_bad5a 24 = .ok (.goto (-14), 3) := by decide +kernel
theorem dJ7_fill_bad5a_27 : decode cJ7_fill_bad5a 27 = .ok (.return_, 1) := by decide +kernel
theorem dJ7_fill_53178_0 : decode cJ7_fill_53178 0 = .ok (.iconst 0, 1) := by decide +kernel
theorem dJ7_fill_53178_1 : decode cJ7_fill_53178 1 = .ok (.istore_n 2, 1) := by decide +kernel
theorem dJ7_fill_53178_2 : decode cJ7_fill_53178 2 = .ok (.aload_n 0, 1) := by decide +kernel
theorem dJ7_fill_53178_3 : decode cJ7_fill_53178 3 = .ok (.arraylength, 1) := by decide +kernel
theorem dJ7_fill_53178_4 : decode cJ7_fill_53178 4 = .ok (.istore_n 3, 1) := by decide +kernel
theorem dJ7_fill_53178_5 : decode cJ7_fill_53178 5 = .ok (.iload_n 2, 1) := by decide +kernel
theorem dJ7_fill_53178_6 : decode cJ7_fill_53178 6 = .ok (.iload_n 3, 1) := by decide +kernel
theorem dJ7_fill_53178_7 : decode cJ7_fill_53178 7 = .ok (.if_icmp .ge 13, 3) := by decide +kernel
theorem dJ7_fill_53178_10 : decode cJ7_fill_53178 10 = .ok (.aload_n 0, 1) := by decide +kernel
theorem dJ7_fill_53178_11 : decode cJ7_fill_53178 11 = .ok (.iload_n 2, 1) := by decide +kernel
theorem dJ7_fill_53178_12 : decode cJ7_fill_53178 12 = .ok (.iload_n 1, 1) := by decide +kernel
theorem dJ7_fill_53178_13 : decode cJ7_fill_53178 13 = .ok (.iastore, 1) := by decide +kernel
theorem dJ7_fill_53178_14 : decode cJ7_fill_53178 14 = .ok (.iinc 2 1, 3) := by decide +kernel
theorem dJ7_fill_53178_17 : decode cJ7_fill_53178 17 = .ok (.goto (-12), 3) := by decide +kernel
theorem dJ7_fill_53178_20 : decode cJ7_fill_53178 20 = .ok (.return_, 1) := by decide +kernel
theorem dJ9_max_7cf53_0 : decode cJ9_max_7cf53 0 = .ok (.iload_n 0, 1) := by decide +kernel
theorem dJ9_max_7cf53_1 : decode cJ9_max_7cf53 1 = .ok (.iload_n 1, 1) := by decide +kernel
theorem dJ9_max_7cf53_2 : decode cJ9_max_7cf53 2 = .ok (.if_icmp .lt 7, 3) := by decide +kernel
theorem dJ9_max_7cf53_5 : decode cJ9_max_7cf53 5 = .ok (.iload_n 0, 1) := by decide +kernel
theorem dJ9_max_7cf53_6 : decode cJ9_max_7cf53 6 = .ok (.goto 4, 3) := by decide +kernel
theorem dJ9_max_7cf53_9 : decode cJ9_max_7cf53 9 = .ok (.iload_n 1, 1) := by decide +kernel
theorem dJ9_max_7cf53_10 : decode cJ9_max_7cf53 10 = .ok (.ireturn, 1) := by decide +kernel
theorem dJ9_min_7cf53_0 : decode cJ9_min_7cf53 0 = .ok (.iload_n 0, 1) := by decide +kernel
theorem dJ9_min_7cf53_1 : decode cJ9_min_7cf53 1 = .ok (.iload_n 1, 1) := by decide +kernel
theorem dJ9_min_7cf53_2 : decode cJ9_min_7cf53 2 = .ok (.if_icmp .gt 7, 3) := by decide +kernel
theorem dJ9_min_7cf53_5 : decode cJ9_min_7cf53 5 = .ok (.iload_n 0, 1) := by decide +kernel
theorem dJ9_min_7cf53_6 : decode cJ9_min_7cf53 6 = .ok (.goto 4, 3) := by decide +kernel
theorem dJ9_min_7cf53_9 : decode cJ9_min_7cf53 9 = .ok (.iload_n 1, 1) := by decide +kernel
theorem dJ9_min_7cf53_10 : decode cJ9_min_7cf53 10 = .ok (.ireturn, 1) := by decide +kernel
theorem dX0_init_0 : decode cX0_init 0 = .ok (.aload_n 0, 1) := by decide +kernel
theorem dX0_init_1 : decode cX0_init 1 = .ok (.invokespecial 3, 3) := by decide +kernel
theorem dX0_init_4 : decode cX0_init 4 = .ok (.aload_n 0, 1) := by decide +kernel
theorem dX0_init_5 : decode cX0_init 5 = .ok (.iload_n 1, 1) := by decide +kernel
theorem dX0_init_6 : decode cX0_init 6 = .ok (.putfield 9, 3) := by decide +kernel
theorem dX0_init_9 : decode cX0_init 9 = .ok (.aload_n 0, 1) := by decide +kernel
theorem dX0_init_10 : decode cX0_init 10 = .ok (.aload_n 2, 1) := by decide +kernel
theorem dX0_init_11 : decode cX0_init 11 = .ok (.putfield 15, 3) := by decide +kernel
theorem dX0_init_14 : decode cX0_init 14 = .ok (.aload_n 0, 1) := by decide +kernel
theorem dX0_init_15 : decode cX0_init 15 = .ok (.iconst (-1), 1) := by decide +kernel
theorem dX0_init_16 : decode cX0_init 16 = .ok (.putfield 19, 3) := by decide +kernel
theorem dX0_init_19 : decode cX0_init 19 = .ok (.return_, 1) := by decide +kernel
theorem dX0_renew_0 : decode cX0_renew 0 = .ok (.aload_n 0, 1) := by decide +kernel
theorem dX0_renew_1 : decode cX0_renew 1 = .ok (.iconst 0, 1) := by decide +kernel
theorem dX0_renew_2 : decode cX0_renew 2 = .ok (.putfield 22, 3) := by decide +kernel
theorem dX0_renew_5 : decode cX0_renew 5 = .ok (.aload_n 0, 1) := by decide +kernel
theorem dX0_renew_6 : decode cX0_renew 6 = .ok (.iconst 0, 1) := by decide +kernel
theorem dX0_renew_7 : decode cX0_renew 7 = .ok (.putfield 25, 3) := by decide +kernel
theorem dX0_renew_10 : decode cX0_renew 10 = .ok (.aload_n 0, 1) := by decide +kernel
theorem dX0_renew_11 : decode cX0_renew 11 = .ok (.iconst 0, 1) := by decide +kernel
theorem dX0_renew_12 : decode cX0_renew 12 = .ok (.putfield 28, 3) := by decide +kernel
theorem dX0_renew_15 : decode cX0_renew 15 = .ok (.aload_n 0, 1) := by decide +kernel
theorem dX0_renew_16 : decode cX0_renew 16 = .ok (.iconst (-1), 1) := by decide +kernel
theorem dX0_renew_17 : decode cX0_renew 17 = .ok (.putfield 19, 3) := by decide +kernel
theorem dX0_renew_20 : decode cX0_renew 20 = .ok (.aload_n 0, 1) := by decide +kernel
theorem dX0_renew_21 : decode cX0_renew 21 = .ok (.iconst 0, 1) := by decide +kernel
theorem dX0_renew_22 : decode cX0_renew 22 = .ok (.putfield 31, 3) := by decide +kernel
theorem dX0_renew_25 : decode cX0_renew 25 = .ok (.aload_n 0, 1) := by decide +kernel
theorem dX0_renew_26 : decode cX0_renew 26 = .ok (.iconst 0, 1) := by decide +kernel
theorem dX0_renew_27 : decode cX0_renew 27 = .ok (.putfield 34, 3) := by decide +kernel
theorem dX0_renew_30 : decode cX0_renew 30 = .ok (.aload_n 0, 1) := by decide +kernel
theorem dX0_renew_31 : decode cX0_renew 31 = .ok (.iconst 0, 1) := by decide +kernel
theorem dX0_renew_32 : decode cX0_renew 32 = .ok (.putfield 37, 3) := by decide +kernel
theorem dX0_renew_35 : decode cX0_renew 35 = .ok (.return_, 1) := by decide +kernel
theorem dX0_copy_0 : decode cX0_copy 0 = .ok (.aload_n 0, 1) := by decide +kernel
theorem dX0_copy_1 : decode cX0_copy 1 = .ok (.aload_n 1, 1) := by decide +kernel
theorem dX0_copy_2 : decode cX0_copy 2 = .ok (.getfield 15, 3) := by decide +kernel
theorem dX0_copy_5 : decode cX0_copy 5 = .ok (.putfield 15, 3) := by decide +kernel
theorem dX0_copy_8 : decode cX0_copy 8 = .ok (.aload_n 0, 1) := by decide +kernel
theorem dX0_copy_9 : decode cX0_copy 9 = .ok (.aload_n 1, 1) := by decide +kernel
theorem dX0_copy_10 : decode cX0_copy 10 = .ok (.getfield 41, 3) := by decide +kernel
theorem dX0_copy_13 : decode cX0_copy 13 = .ok (.putfield 41, 3) := by decide +kernel
theorem dX0_copy_16 : decode cX0_copy 16 = .ok (.aload_n 0, 1) := by decide +kernel
theorem dX0_copy_17 : decode cX0_copy 17 = .ok (.aload_n 1, 1) := by decide +kernel
theorem dX0_copy_18 : decode cX0_copy 18 = .ok (.getfield 22, 3) := by decide +kernel
theorem dX0_copy_21 : decode cX0_copy 21 = .ok (.putfield 22, 3) := by decide +kernel
theorem dX0_copy_24 : decode cX0_copy 24 = .ok (.aload_n 0, 1) := by decide +kernel
theorem dX0_copy_25 : decode cX0_copy 25 = .ok (.aload_n 1, 1) := by decide +kernel
theorem dX0_copy_26 : decode cX0_copy 26 = .ok (.getfield 25, 3) := by decide +kernel
theorem dX0_copy_29 : decode cX0_copy 29 = .ok (.putfield 25, 3) := by decide +kernel
theorem dX0_copy_32 : decode cX0_copy 32 = .ok (.aload_n 0, 1) := by decide +kernel
theorem dX0_copy_33 : decode cX0_copy 33 = .ok (.aload_n 1, 1) := by decide +kernel
theorem dX0_copy_34 : decode cX0_copy 34 = .ok (.getfield 28, 3) := by decide +kernel
theorem dX0_copy_37 : decode cX0_copy 37 = .ok (.putfield 28, 3) := by decide +kernel
theorem dX0_copy_40 : decode cX0_copy 40 = .ok (.aload_n 0, 1) := by decide +kernel
theorem dX0_copy_41 : decode cX0_copy 41 = .ok (.aload_n 1, 1) := by decide +kernel
theorem dX0_copy_42 : decode cX0_copy 42 = .ok (.getfield 19, 3) := by decide +kernel
theorem dX0_copy_45 : decode cX0_copy 45 = .ok (.putfield 19, 3) := by decide +kernel
theorem dX0_copy_48 : decode cX0_copy 48 = .ok (.aload_n 0, 1) := by decide +kernel
theorem dX0_copy_49 : decode cX0_copy 49 = .ok (.aload_n 1, 1) := by decide +kernel
theorem dX0_copy_50 : decode cX0_copy 50 = .ok (.getfield 31, 3) := by decide +kernel
theorem dX0_copy_53 : decode cX0_copy 53 = .ok (.putfield 31, 3) := by decide +kernel
theorem dX0_copy_56 : decode cX0_copy 56 = .ok (.aload_n 0, 1) := by decide +kernel
theorem dX0_copy_57 : decode cX0_copy 57 = .ok (.aload_n 1, 1) := by decide +kernel
theorem dX0_copy_58 : decode cX0_copy 58 = .ok (.getfield 34, 3) := by decide +kernel
theorem dX0_copy_61 : decode cX0_copy 61 = .ok (.putfield 34, 3) := by decide +kernel
theorem dX0_copy_64 : decode cX0_copy 64 = .ok (.aload_n 0, 1) := by decide +kernel
theorem dX0_copy_65 : decode cX0_copy 65 = .ok (.aload_n 1, 1) := by decide +kernel
theorem dX0_copy_66 : decode cX0_copy 66 = .ok (.getfield 37, 3) := by decide +kernel
theorem dX0_copy_69 : decode cX0_copy 69 = .ok (.putfield 37, 3) := by decide +kernel
theorem dX0_copy_72 : decode cX0_copy 72 = .ok (.return_, 1) := by decide +kernel
theorem dX0_state_0 : decode cX0_state 0 = .ok (.aload_n 0, 1) := by decide +kernel
theorem dX0_state_1 : decode cX0_state 1 = .ok (.getfield 37, 3) := by decide +kernel
theorem dX0_state_4 : decode cX0_state 4 = .ok (.ifCond .eq 5, 3) := by decide +kernel
theorem dX0_state_7 : decode cX0_state 7 = .ok (.iconst 3, 1) := by decide +kernel
theorem dX0_state_8 : decode cX0_state 8 = .ok (.ireturn, 1) := by decide +kernel
theorem dX0_state_9 : decode cX0_state 9 = .ok (.aload_n 0, 1) := by decide +kernel
theorem dX0_state_10 : decode cX0_state 10 = .ok (.getfield 31, 3) := by decide +kernel
theorem dX0_state_13 : decode cX0_state 13 = .ok (.aload_n 0, 1) := by decide +kernel
theorem dX0_state_14 : decode cX0_state 14 = .ok (.getfield 15, 3) := by decide +kernel
theorem dX0_state_17 : decode cX0_state 17 = .ok (.aload_n 0, 1) := by decide +kernel
theorem dX0_state_18 : decode cX0_state 18 = .ok (.getfield 41, 3) := by decide +kernel
theorem dX0_state_21 : decode cX0_state 21 = .ok (.invokevirtual 44, 3) := by decide +kernel
theorem dX0_state_24 : decode cX0_state 24 = .ok (.if_icmp .lt 5, 3) := by decide +kernel
theorem dX0_state_27 : decode cX0_state 27 = .ok (.iconst 2, 1) := by decide +kernel
theorem dX0_state_28 : decode cX0_state 28 = .ok (.ireturn, 1) := by decide +kernel
theorem dX0_state_29 : decode cX0_state 29 = .ok (.aload_n 0, 1) := by decide +kernel
theorem dX0_state_30 : decode cX0_state 30 = .ok (.getfield 34, 3) := by decide +kernel
theorem dX0_state_33 : decode cX0_state 33 = .ok (.bipush 60, 2) := by decide +kernel
theorem dX0_state_35 : decode cX0_state 35 = .ok (.if_icmp .lt 7, 3) := by decide +kernel
theorem dX0_state_38 : decode cX0_state 38 = .ok (.iconst 1, 1) := by decide +kernel
theorem dX0_state_39 : decode cX0_state 39 = .ok (.goto 4, 3) := by decide +kernel
theorem dX0_state_42 : decode cX0_state 42 = .ok (.iconst 0, 1) := by decide +kernel
theorem dX0_state_43 : decode cX0_state 43 = .ok (.ireturn, 1) := by decide +kernel
theorem dX0_stands_0 : decode cX0_stands 0 = .ok (.aload_n 0, 1) := by decide +kernel
theorem dX0_stands_1 : decode cX0_stands 1 = .ok (.getfield 37, 3) := by decide +kernel
theorem dX0_stands_4 : decode cX0_stands 4 = .ok (.ifCond .ne 22, 3) := by decide +kernel
theorem dX0_stands_7 : decode cX0_stands 7 = .ok (.aload_n 0, 1) := by decide +kernel
theorem dX0_stands_8 : decode cX0_stands 8 = .ok (.getfield 25, 3) := by decide +kernel
theorem dX0_stands_11 : decode cX0_stands 11 = .ok (.ifCond .eq 11, 3) := by decide +kernel
theorem dX0_stands_14 : decode cX0_stands 14 = .ok (.aload_n 0, 1) := by decide +kernel
theorem dX0_stands_15 : decode cX0_stands 15 = .ok (.getfield 25, 3) := by decide +kernel
theorem dX0_stands_18 : decode cX0_stands 18 = .ok (.iconst 1, 1) := by decide +kernel
theorem dX0_stands_19 : decode cX0_stands 19 = .ok (.if_icmp .ne 7, 3) := by decide +kernel
theorem dX0_stands_22 : decode cX0_stands 22 = .ok (.iconst 1, 1) := by decide +kernel
theorem dX0_stands_23 : decode cX0_stands 23 = .ok (.goto 4, 3) := by decide +kernel
theorem dX0_stands_26 : decode cX0_stands 26 = .ok (.iconst 0, 1) := by decide +kernel
theorem dX0_stands_27 : decode cX0_stands 27 = .ok (.ireturn, 1) := by decide +kernel
theorem dX0_standsSweet_0 : decode cX0_standsSweet 0 = .ok (.aload_n 0, 1) := by decide +kernel
theorem dX0_standsSweet_1 : decode cX0_standsSweet 1 = .ok (.invokevirtual 50, 3) := by decide +kernel
theorem dX0_standsSweet_4 : decode cX0_standsSweet 4 = .ok (.ifCond .eq 14, 3) := by decide +kernel
theorem dX0_standsSweet_7 : decode cX0_standsSweet 7 = .ok (.aload_n 0, 1) := by decide +kernel
theorem dX0_standsSweet_8 : decode cX0_standsSweet 8 = .ok (.invokevirtual 54, 3) := by decide +kernel
theorem dX0_standsSweet_11 : decode cX0_standsSweet 11 = .ok (.ifCond .ne 7, 3) := by decide +kernel
theorem dX0_standsSweet_14 : decode cX0_standsSweet 14 = .ok (.iconst 1, 1) := by decide +kernel
theorem dX0_standsSweet_15 : decode cX0_standsSweet 15 = .ok (.goto 4, 3) := by decide +kernel
theorem dX0_standsSweet_18 : decode cX0_standsSweet 18 = .ok (.iconst 0, 1) := by decide +kernel
theorem dX0_standsSweet_19 : decode cX0_standsSweet 19 = .ok (.ireturn, 1) := by decide +kernel
theorem dX0_sourBy_0 : decode cX0_sourBy 0 = .ok (.aload_n 0, 1) := by decide +kernel
theorem dX0_sourBy_1 : decode cX0_sourBy 1 = .ok (.iconst 0, 1) := by decide +kernel
theorem dX0_sourBy_2 : decode cX0_sourBy 2 = .ok (.sipush 9999, 3) := by decide +kernel
theorem dX0_sourBy_5 : decode cX0_sourBy 5 = .ok (.aload_n 0, 1) := by decide +kernel
theorem dX0_sourBy_6 : decode cX0_sourBy 6 = .ok (.getfield 31, 3) := by decide +kernel
theorem dX0_sourBy_9 : decode cX0_sourBy 9 = .ok (.iload_n 1, 1) := by decide +kernel
theorem dX0_sourBy_10 : decode cX0_sourBy 10 = .ok (.iadd, 1) := by decide +kernel
theorem dX0_sourBy_11 : decode cX0_sourBy 11 = .ok (.invokestatic 58, 3) := by decide +kernel
theorem dX0_sourBy_14 : decode cX0_sourBy 14 = .ok (.invokestatic 64, 3) := by decide +kernel
theorem dX0_sourBy_17 : decode cX0_sourBy 17 = .ok (.putfield 31, 3) := by decide +kernel
theorem dX0_sourBy_20 : decode cX0_sourBy 20 = .ok (.return_, 1) := by decide +kernel
theorem dX0_shakeBy_0 : decode cX0_shakeBy 0 = .ok (.aload_n 0, 1) := by decide +kernel
theorem dX0_shakeBy_1 : decode cX0_shakeBy 1 = .ok (.iconst 0, 1) := by decide +kernel
theorem dX0_shakeBy_2 : decode cX0_shakeBy 2 = .ok (.sipush 9999, 3) := by decide +kernel
theorem dX0_shakeBy_5 : decode cX0_shakeBy 5 = .ok (.aload_n 0, 1) := by decide +kernel
theorem dX0_shakeBy_6 : decode cX0_shakeBy 6 = .ok (.getfield 34, 3) := by decide +kernel
theorem dX0_shakeBy_9 : decode cX0_shakeBy 9 = .ok (.iload_n 1, 1) := by decide +kernel
theorem dX0_shakeBy_10 : decode cX0_shakeBy 10 = .ok (.iadd, 1) := by decide +kernel
theorem dX0_shakeBy_11 : decode cX0_shakeBy 11 = .ok (.invokestatic 58, 3) := by decide +kernel
theorem dX0_shakeBy_14 : decode cX0_shakeBy 14 = .ok (.invokestatic 64, 3) := by decide +kernel
theorem dX0_shakeBy_17 : decode cX0_shakeBy 17 = .ok (.putfield 34, 3) := by decide +kernel
theorem dX0_shakeBy_20 : decode cX0_shakeBy 20 = .ok (.return_, 1) := by decide +kernel
theorem dX0_answer_0 : decode cX0_answer 0 = .ok (.iload_n 1, 1) := by decide +kernel
theorem dX0_answer_1 : decode cX0_answer 1 = .ok (.tableswitch 106 0 8 #[51, 59, 64, 69, 74, 79, 84, 89, 94], 51) := by decide +kernel
theorem dX0_answer_52 : decode cX0_answer 52 = .ok (.aload_n 0, 1) := by decide +kernel
theorem dX0_answer_53 : decode cX0_answer 53 = .ok (.getfield 15, 3) := by decide +kernel
theorem dX0_answer_56 : decode cX0_answer 56 = .ok (.getfield 67, 3) := by decide +kernel
theorem dX0_answer_59 : decode cX0_answer 59 = .ok (.ireturn, 1) := by decide +kernel
theorem dX0_answer_60 : decode cX0_answer 60 = .ok (.aload_n 0, 1) := by decide +kernel
theorem dX0_answer_61 : decode cX0_answer 61 = .ok (.getfield 41, 3) := by decide +kernel
theorem dX0_answer_64 : decode cX0_answer 64 = .ok (.ireturn, 1) := by decide +kernel
theorem dX0_answer_65 : decode cX0_answer 65 = .ok (.aload_n 0, 1) := by decide +kernel
theorem dX0_answer_66 : decode cX0_answer 66 = .ok (.getfield 22, 3) := by decide +kernel
theorem dX0_answer_69 : decode cX0_answer 69 = .ok (.ireturn, 1) := by decide +kernel
theorem dX0_answer_70 : decode cX0_answer 70 = .ok (.aload_n 0, 1) := by decide +kernel
theorem dX0_answer_71 : decode cX0_answer 71 = .ok (.getfield 25, 3) := by decide +kernel
theorem dX0_answer_74 : decode cX0_answer 74 = .ok (.ireturn, 1) := by decide +kernel
theorem dX0_answer_75 : decode cX0_answer 75 = .ok (.aload_n 0, 1) := by decide +kernel
theorem dX0_answer_76 : decode cX0_answer 76 = .ok (.getfield 28, 3) := by decide +kernel
theorem dX0_answer_79 : decode cX0_answer 79 = .ok (.ireturn, 1) := by decide +kernel
theorem dX0_answer_80 : decode cX0_answer 80 = .ok (.aload_n 0, 1) := by decide +kernel
theorem dX0_answer_81 : decode cX0_answer 81 = .ok (.getfield 31, 3) := by decide +kernel
theorem dX0_answer_84 : decode cX0_answer 84 = .ok (.ireturn, 1) := by decide +kernel
theorem dX0_answer_85 : decode cX0_answer 85 = .ok (.aload_n 0, 1) := by decide +kernel
theorem dX0_answer_86 : decode cX0_answer 86 = .ok (.getfield 34, 3) := by decide +kernel
theorem dX0_answer_89 : decode cX0_answer 89 = .ok (.ireturn, 1) := by decide +kernel
theorem dX0_answer_90 : decode cX0_answer 90 = .ok (.aload_n 0, 1) := by decide +kernel
theorem dX0_answer_91 : decode cX0_answer 91 = .ok (.invokevirtual 54, 3) := by decide +kernel
theorem dX0_answer_94 : decode cX0_answer 94 = .ok (.ireturn, 1) := by decide +kernel
theorem dX0_answer_95 : decode cX0_answer 95 = .ok (.aload_n 0, 1) := by decide +kernel
theorem dX0_answer_96 : decode cX0_answer 96 = .ok (.getfield 15, 3) := by decide +kernel
theorem dX0_answer_99 : decode cX0_answer 99 = .ok (.aload_n 0, 1) := by decide +kernel
theorem dX0_answer_100 : decode cX0_answer 100 = .ok (.getfield 41, 3) := by decide +kernel
theorem dX0_answer_103 : decode cX0_answer 103 = .ok (.invokevirtual 44, 3) := by decide +kernel
theorem dX0_answer_106 : decode cX0_answer 106 = .ok (.ireturn, 1) := by decide +kernel
theorem dX0_answer_107 : decode cX0_answer 107 = .ok (.aload_n 0, 1) := by decide +kernel
theorem dX0_answer_108 : decode cX0_answer 108 = .ok (.getfield 19, 3) := by decide +kernel
theorem dX0_answer_111 : decode cX0_answer 111 = .ok (.ireturn, 1) := by decide +kernel
theorem dX1_init_0 : decode cX1_init 0 = .ok (.aload_n 0, 1) := by decide +kernel
theorem dX1_init_1 : decode cX1_init 1 = .ok (.iload_n 1, 1) := by decide +kernel
theorem dX1_init_2 : decode cX1_init 2 = .ok (.invokespecial 1, 3) := by decide +kernel
theorem dX1_init_5 : decode cX1_init 5 = .ok (.return_, 1) := by decide +kernel
theorem dX1_jolts_0 : decode cX1_jolts 0 = .ok (.iconst 2, 1) := by decide +kernel
theorem dX1_jolts_1 : decode cX1_jolts 1 = .ok (.iload_n 1, 1) := by decide +kernel
theorem dX1_jolts_2 : decode cX1_jolts 2 = .ok (.imul, 1) := by decide +kernel
theorem dX1_jolts_3 : decode cX1_jolts 3 = .ok (.ireturn, 1) := by decide +kernel
theorem dX1_cools_0 : decode cX1_cools 0 = .ok (.aload_n 2, 1) := by decide +kernel
theorem dX1_cools_1 : decode cX1_cools 1 = .ok (.bipush 40, 2) := by decide +kernel
theorem dX1_cools_3 : decode cX1_cools 3 = .ok (.invokestatic 7, 3) := by decide +kernel
theorem dX1_cools_6 : decode cX1_cools 6 = .ok (.aload_n 0, 1) := by decide +kernel
theorem dX1_cools_7 : decode cX1_cools 7 = .ok (.aload_n 1, 1) := by decide +kernel
theorem dX1_cools_8 : decode cX1_cools 8 = .ok (.aload_n 2, 1) := by decide +kernel
theorem dX1_cools_9 : decode cX1_cools 9 = .ok (.iload_n 3, 1) := by decide +kernel
theorem dX1_cools_10 : decode cX1_cools 10 = .ok (.invokespecial 13, 3) := by decide +kernel
theorem dX1_cools_13 : decode cX1_cools 13 = .ok (.ineg, 1) := by decide +kernel
theorem dX1_cools_14 : decode cX1_cools 14 = .ok (.ireturn, 1) := by decide +kernel
theorem dX10_init_0 : decode cX10_init 0 = .ok (.aload_n 0, 1) := by decide +kernel
theorem dX10_init_1 : decode cX10_init 1 = .ok (.invokespecial 3, 3) := by decide +kernel
theorem dX10_init_4 : decode cX10_init 4 = .ok (.aload_n 0, 1) := by decide +kernel
theorem dX10_init_5 : decode cX10_init 5 = .ok (.bipush 9, 2) := by decide +kernel
theorem dX10_init_7 : decode cX10_init 7 = .ok (.newarray .int, 2) := by decide +kernel
theorem dX10_init_9 : decode cX10_init 9 = .ok (.putfield 9, 3) := by decide +kernel
theorem dX10_init_12 : decode cX10_init 12 = .ok (.aload_n 0, 1) := by decide +kernel
theorem dX10_init_13 : decode cX10_init 13 = .ok (.bipush 9, 2) := by decide +kernel
theorem dX10_init_15 : decode cX10_init 15 = .ok (.newarray .int, 2) := by decide +kernel
theorem dX10_init_17 : decode cX10_init 17 = .ok (.putfield 15, 3) := by decide +kernel
theorem dX10_init_20 : decode cX10_init 20 = .ok (.aload_n 0, 1) := by decide +kernel
theorem dX10_init_21 : decode cX10_init 21 = .ok (.bipush 9, 2) := by decide +kernel
theorem dX10_init_23 : decode cX10_init 23 = .ok (.newarray .int, 2) := by decide +kernel
theorem dX10_init_25 : decode cX10_init 25 = .ok (.putfield 18, 3) := by decide +kernel
theorem dX10_init_28 : decode cX10_init 28 = .ok (.aload_n 0, 1) := by decide +kernel
theorem dX10_init_29 : decode cX10_init 29 = .ok (.iconst 4, 1) := by decide +kernel
theorem dX10_init_30 : decode cX10_init 30 = .ok (.newarray .int, 2) := by decide +kernel
theorem dX10_init_32 : decode cX10_init 32 = .ok (.putfield 21, 3) := by decide +kernel
theorem dX10_init_35 : decode cX10_init 35 = .ok (.aload_n 0, 1) := by decide +kernel
theorem dX10_init_36 : decode cX10_init 36 = .ok (.iconst 4, 1) := by decide +kernel
theorem dX10_init_37 : decode cX10_init 37 = .ok (.newarray .int, 2) := by decide +kernel
theorem dX10_init_39 : decode cX10_init 39 = .ok (.putfield 24, 3) := by decide +kernel
theorem dX10_init_42 : decode cX10_init 42 = .ok (.aload_n 0, 1) := by decide +kernel
theorem dX10_init_43 : decode cX10_init 43 = .ok (.bipush 6, 2) := by decide +kernel
theorem dX10_init_45 : decode cX10_init 45 = .ok (.anewarray 27, 3) := by decide +kernel
theorem dX10_init_48 : decode cX10_init 48 = .ok (.putfield 29, 3) := by decide +kernel
theorem dX10_init_51 : decode cX10_init 51 = .ok (.aload_n 0, 1) := by decide +kernel
theorem dX10_init_52 : decode cX10_init 52 = .ok (.bipush 50, 2) := by decide +kernel
theorem dX10_init_54 : decode cX10_init 54 = .ok (.newarray .byte, 2) := by decide +kernel
theorem dX10_init_56 : decode cX10_init 56 = .ok (.putfield 33, 3) := by decide +kernel
theorem dX10_init_59 : decode cX10_init 59 = .ok (.aload_n 0, 1) := by decide +kernel
theorem dX10_init_60 : decode cX10_init 60 = .ok (.new 37, 3) := by decide +kernel
theorem dX10_init_63 : decode cX10_init 63 = .ok (.dup, 1) := by decide +kernel
theorem dX10_init_64 : decode cX10_init 64 = .ok (.ldc 39, 2) := by decide +kernel
theorem dX10_init_66 : decode cX10_init 66 = .ok (.ldc 41, 2) := by decide +kernel
theorem dX10_init_68 : decode cX10_init 68 = .ok (.bipush 40, 2) := by decide +kernel
theorem dX10_init_70 : decode cX10_init 70 = .ok (.invokespecial 43, 3) := by decide +kernel
theorem dX10_init_73 : decode cX10_init 73 = .ok (.putfield 46, 3) := by decide +kernel
theorem dX10_init_76 : decode cX10_init 76 = .ok (.aload_n 0, 1) := by decide +kernel
theorem dX10_init_77 : decode cX10_init 77 = .ok (.new 37, 3) := by decide +kernel
theorem dX10_init_80 : decode cX10_init 80 = .ok (.dup, 1) := by decide +kernel
theorem dX10_init_81 : decode cX10_init 81 = .ok (.ldc 50, 2) := by decide +kernel
theorem dX10_init_83 : decode cX10_init 83 = .ok (.ldc 52, 2) := by decide +kernel
theorem dX10_init_85 : decode cX10_init 85 = .ok (.sipush 999, 3) := by decide +kernel
theorem dX10_init_88 : decode cX10_init 88 = .ok (.invokespecial 43, 3) := by decide +kernel
theorem dX10_init_91 : decode cX10_init 91 = .ok (.putfield 54, 3) := by decide +kernel
theorem dX10_init_94 : decode cX10_init 94 = .ok (.aload_n 0, 1) := by decide +kernel
theorem dX10_init_95 : decode cX10_init 95 = .ok (.bipush 20, 2) := by decide +kernel
theorem dX10_init_97 : decode cX10_init 97 = .ok (.newarray .int, 2) := by decide +kernel
theorem dX10_init_99 : decode cX10_init 99 = .ok (.putfield 57, 3) := by decide +kernel
theorem dX10_init_102 : decode cX10_init 102 = .ok (.aload_n 0, 1) := by decide +kernel
theorem dX10_init_103 : decode cX10_init 103 = .ok (.iconst 1, 1) := by decide +kernel
theorem dX10_init_104 : decode cX10_init 104 = .ok (.putfield 60, 3) := by decide +kernel
theorem dX10_init_107 : decode cX10_init 107 = .ok (.aload_n 0, 1) := by decide +kernel
theorem dX10_init_108 : decode cX10_init 108 = .ok (.getfield 9, 3) := by decide +kernel
theorem dX10_init_111 : decode cX10_init 111 = .ok (.bipush 8, 2) := by decide +kernel
theorem dX10_init_113 : decode cX10_init 113 = .ok (.invokestatic 64, 3) := by decide +kernel
theorem dX10_init_116 : decode cX10_init 116 = .ok (.aload_n 0, 1) := by decide +kernel
theorem dX10_init_117 : decode cX10_init 117 = .ok (.getfield 18, 3) := by decide +kernel
theorem dX10_init_120 : decode cX10_init 120 = .ok (.bipush 10, 2) := by decide +kernel
theorem dX10_init_122 : decode cX10_init 122 = .ok (.invokestatic 64, 3) := by decide +kernel
theorem dX10_init_125 : decode cX10_init 125 = .ok (.iconst 0, 1) := by decide +kernel
theorem dX10_init_126 : decode cX10_init 126 = .ok (.istore_n 2, 1) := by decide +kernel
theorem dX10_init_127 : decode cX10_init 127 = .ok (.iload_n 2, 1) := by decide +kernel
theorem dX10_init_128 : decode cX10_init 128 = .ok (.iconst 4, 1) := by decide +kernel
theorem dX10_init_129 : decode cX10_init 129 = .ok (.if_icmp .ge 30, 3) := by decide +kernel
theorem dX10_init_132 : decode cX10_init 132 = .ok (.aload_n 0, 1) := by decide +kernel
theorem dX10_init_133 : decode cX10_init 133 = .ok (.getfield 21, 3) := by decide +kernel
theorem dX10_init_136 : decode cX10_init 136 = .ok (.iload_n 2, 1) := by decide +kernel
theorem dX10_init_137 : decode cX10_init 137 = .ok (.iload_n 2, 1) := by decide +kernel
theorem dX10_init_138 : decode cX10_init 138 = .ok (.iconst 1, 1) := by decide +kernel
theorem dX10_init_139 : decode cX10_init 139 = .ok (.iadd, 1) := by decide +kernel
theorem dX10_init_140 : decode cX10_init 140 = .ok (.iastore, 1) := by decide +kernel
theorem dX10_init_141 : decode cX10_init 141 = .ok (.aload_n 0, 1) := by decide +kernel
theorem dX10_init_142 : decode cX10_init 142 = .ok (.getfield 24, 3) := by decide +kernel
theorem dX10_init_145 : decode cX10_init 145 = .ok (.iload_n 2, 1) := by decide +kernel
theorem dX10_init_146 : decode cX10_init 146 = .ok (.bipush 9, 2) := by decide +kernel
theorem dX10_init_148 : decode cX10_init 148 = .ok (.iconst 2, 1) := by decide +kernel
theorem dX10_init_149 : decode cX10_init 149 = .ok (.iload_n 2, 1) := by decide +kernel
theorem dX10_init_150 : decode cX10_init 150 = .ok (.imul, 1) := by decide +kernel
theorem dX10_init_151 : decode cX10_init 151 = .ok (.isub, 1) := by decide +kernel
theorem dX10_init_152 : decode cX10_init 152 = .ok (.iastore, 1) := by decide +kernel
theorem dX10_init_153 : decode cX10_init 153 = .ok (.iinc 2 1, 3) := by decide +kernel
theorem dX10_init_156 : decode cX10_init 156 = .ok (.goto (-29), 3) := by decide +kernel
theorem dX10_init_159 : decode cX10_init 159 = .ok (.iconst 0, 1) := by decide +kernel
theorem dX10_init_160 : decode cX10_init 160 = .ok (.istore_n 2, 1) := by decide +kernel
theorem dX10_init_161 : decode cX10_init 161 = .ok (.iload_n 2, 1) := by decide +kernel
theorem dX10_init_162 : decode cX10_init 162 = .ok (.bipush 6, 2) := by decide +kernel
theorem dX10_init_164 : decode cX10_init 164 = .ok (.if_icmp .ge 24, 3) := by decide +kernel
theorem dX10_init_167 : decode cX10_init 167 = .ok (.aload_n 0, 1) := by decide +kernel
theorem dX10_init_168 : decode cX10_init 168 = .ok (.getfield 29, 3) := by decide +kernel
theorem dX10_init_171 : decode cX10_init 171 = .ok (.iload_n 2, 1) := by decide +kernel
theorem dX10_init_172 : decode cX10_init 172 = .ok (.new 27, 3) := by decide +kernel
theorem dX10_init_175 : decode cX10_init 175 = .ok (.dup, 1) := by decide +kernel
theorem dX10_init_176 : decode cX10_init 176 = .ok (.iload_n 2, 1) := by decide +kernel
theorem dX10_init_177 : decode cX10_init 177 = .ok (.aload_n 1, 1) := by decide +kernel
theorem dX10_init_178 : decode cX10_init 178 = .ok (.invokespecial 70, 3) := by decide +kernel
theorem dX10_init_181 : decode cX10_init 181 = .ok (.aastore, 1) := by decide +kernel
theorem dX10_init_182 : decode cX10_init 182 = .ok (.iinc 2 1, 3) := by decide +kernel
theorem dX10_init_185 : decode cX10_init 185 = .ok (.goto (-24), 3) := by decide +kernel
theorem dX10_init_188 : decode cX10_init 188 = .ok (.return_, 1) := by decide +kernel
theorem dX10_copy_0 : decode cX10_copy 0 = .ok (.aload_n 1, 1) := by decide +kernel
theorem dX10_copy_1 : decode cX10_copy 1 = .ok (.getfield 9, 3) := by decide +kernel
theorem dX10_copy_4 : decode cX10_copy 4 = .ok (.iconst 0, 1) := by decide +kernel
theorem dX10_copy_5 : decode cX10_copy 5 = .ok (.aload_n 0, 1) := by decide +kernel
theorem dX10_copy_6 : decode cX10_copy 6 = .ok (.getfield 9, 3) := by decide +kernel
theorem dX10_copy_9 : decode cX10_copy 9 = .ok (.iconst 0, 1) := by decide +kernel
theorem dX10_copy_10 : decode cX10_copy 10 = .ok (.bipush 9, 2) := by decide +kernel
theorem dX10_copy_12 : decode cX10_copy 12 = .ok (.invokestatic 73, 3) := by decide +kernel
theorem dX10_copy_15 : decode cX10_copy 15 = .ok (.aload_n 1, 1) := by decide +kernel
theorem dX10_copy_16 : decode cX10_copy 16 = .ok (.getfield 15, 3) := by decide +kernel
theorem dX10_copy_19 : decode cX10_copy 19 = .ok (.iconst 0, 1) := by decide +kernel
theorem dX10_copy_20 : decode cX10_copy 20 = .ok (.aload_n 0, 1) := by decide +kernel
theorem dX10_copy_21 : decode cX10_copy 21 = .ok (.getfield 15, 3) := by decide +kernel
theorem dX10_copy_24 : decode cX10_copy 24 = .ok (.iconst 0, 1) := by decide +kernel
theorem dX10_copy_25 : decode cX10_copy 25 = .ok (.bipush 9, 2) := by decide +kernel
theorem dX10_copy_27 : decode cX10_copy 27 = .ok (.invokestatic 73, 3) := by decide +kernel
theorem dX10_copy_30 : decode cX10_copy 30 = .ok (.aload_n 1, 1) := by decide +kernel
theorem dX10_copy_31 : decode cX10_copy 31 = .ok (.getfield 18, 3) := by decide +kernel
theorem dX10_copy_34 : decode cX10_copy 34 = .ok (.iconst 0, 1) := by decide +kernel
theorem dX10_copy_35 : decode cX10_copy 35 = .ok (.aload_n 0, 1) := by decide +kernel
theorem dX10_copy_36 : decode cX10_copy 36 = .ok (.getfield 18, 3) := by decide +kernel
theorem dX10_copy_39 : decode cX10_copy 39 = .ok (.iconst 0, 1) := by decide +kernel
theorem dX10_copy_40 : decode cX10_copy 40 = .ok (.bipush 9, 2) := by decide +kernel
theorem dX10_copy_42 : decode cX10_copy 42 = .ok (.invokestatic 73, 3) := by decide +kernel
theorem dX10_copy_45 : decode cX10_copy 45 = .ok (.aload_n 1, 1) := by decide +kernel
theorem dX10_copy_46 : decode cX10_copy 46 = .ok (.getfield 21, 3) := by decide +kernel
theorem dX10_copy_49 : decode cX10_copy 49 = .ok (.iconst 0, 1) := by decide +kernel
theorem dX10_copy_50 : decode cX10_copy 50 = .ok (.aload_n 0, 1) := by decide +kernel
theorem dX10_copy_51 : decode cX10_copy 51 = .ok (.getfield 21, 3) := by decide +kernel
theorem dX10_copy_54 : decode cX10_copy 54 = .ok (.iconst 0, 1) := by decide +kernel
theorem dX10_copy_55 : decode cX10_copy 55 = .ok (.iconst 4, 1) := by decide +kernel
theorem dX10_copy_56 : decode cX10_copy 56 = .ok (.invokestatic 73, 3) := by decide +kernel
theorem dX10_copy_59 : decode cX10_copy 59 = .ok (.aload_n 1, 1) := by decide +kernel
theorem dX10_copy_60 : decode cX10_copy 60 = .ok (.getfield 24, 3) := by decide +kernel
theorem dX10_copy_63 : decode cX10_copy 63 = .ok (.iconst 0, 1) := by decide +kernel
theorem dX10_copy_64 : decode cX10_copy 64 = .ok (.aload_n 0, 1) := by decide +kernel
theorem dX10_copy_65 : decode cX10_copy 65 = .ok (.getfield 24, 3) := by decide +kernel
theorem dX10_copy_68 : decode cX10_copy 68 = .ok (.iconst 0, 1) := by decide +kernel
theorem dX10_copy_69 : decode cX10_copy 69 = .ok (.iconst 4, 1) := by decide +kernel
theorem dX10_copy_70 : decode cX10_copy 70 = .ok (.invokestatic 73, 3) := by decide +kernel
theorem dX10_copy_73 : decode cX10_copy 73 = .ok (.iconst 0, 1) := by decide +kernel
theorem dX10_copy_74 : decode cX10_copy 74 = .ok (.istore_n 2, 1) := by decide +kernel
theorem dX10_copy_75 : decode cX10_copy 75 = .ok (.iload_n 2, 1) := by decide +kernel
theorem dX10_copy_76 : decode cX10_copy 76 = .ok (.bipush 6, 2) := by decide +kernel
theorem dX10_copy_78 : decode cX10_copy 78 = .ok (.if_icmp .ge 24, 3) := by decide +kernel
theorem dX10_copy_81 : decode cX10_copy 81 = .ok (.aload_n 0, 1) := by decide +kernel
theorem dX10_copy_82 : decode cX10_copy 82 = .ok (.getfield 29, 3) := by decide +kernel
theorem dX10_copy_85 : decode cX10_copy 85 = .ok (.iload_n 2, 1) := by decide +kernel
theorem dX10_copy_86 : decode cX10_copy 86 = .ok (.aaload, 1) := by decide +kernel
theorem dX10_copy_87 : decode cX10_copy 87 = .ok (.aload_n 1, 1) := by decide +kernel
theorem dX10_copy_88 : decode cX10_copy 88 = .ok (.getfield 29, 3) := by decide +kernel
theorem dX10_copy_91 : decode cX10_copy 91 = .ok (.iload_n 2, 1) := by decide +kernel
theorem dX10_copy_92 : decode cX10_copy 92 = .ok (.aaload, 1) := by decide +kernel
theorem dX10_copy_93 : decode cX10_copy 93 = .ok (.invokevirtual 79, 3) := by decide +kernel
theorem dX10_copy_96 : decode cX10_copy 96 = .ok (.iinc 2 1, 3) := by decide +kernel
theorem dX10_copy_99 : decode cX10_copy 99 = .ok (.goto (-24), 3) := by decide +kernel
theorem dX10_copy_102 : decode cX10_copy 102 = .ok (.aload_n 0, 1) := by decide +kernel
theorem dX10_copy_103 : decode cX10_copy 103 = .ok (.aload_n 1, 1) := by decide +kernel
theorem dX10_copy_104 : decode cX10_copy 104 = .ok (.getfield 83, 3) := by decide +kernel
theorem dX10_copy_107 : decode cX10_copy 107 = .ok (.putfield 83, 3) := by decide +kernel
theorem dX10_copy_110 : decode cX10_copy 110 = .ok (.aload_n 0, 1) := by decide +kernel
theorem dX10_copy_111 : decode cX10_copy 111 = .ok (.aload_n 1, 1) := by decide +kernel
theorem dX10_copy_112 : decode cX10_copy 112 = .ok (.getfield 86, 3) := by decide +kernel
theorem dX10_copy_115 : decode cX10_copy 115 = .ok (.putfield 86, 3) := by decide +kernel
theorem dX10_copy_118 : decode cX10_copy 118 = .ok (.aload_n 0, 1) := by decide +kernel
theorem dX10_copy_119 : decode cX10_copy 119 = .ok (.aload_n 1, 1) := by decide +kernel
theorem dX10_copy_120 : decode cX10_copy 120 = .ok (.getfield 89, 3) := by decide +kernel
theorem dX10_copy_123 : decode cX10_copy 123 = .ok (.putfield 89, 3) := by decide +kernel
theorem dX10_copy_126 : decode cX10_copy 126 = .ok (.aload_n 1, 1) := by decide +kernel
theorem dX10_copy_127 : decode cX10_copy 127 = .ok (.getfield 33, 3) := by decide +kernel
theorem dX10_copy_130 : decode cX10_copy 130 = .ok (.iconst 0, 1) := by decide +kernel
theorem dX10_copy_131 : decode cX10_copy 131 = .ok (.aload_n 0, 1) := by decide +kernel
theorem dX10_copy_132 : decode cX10_copy 132 = .ok (.getfield 33, 3) := by decide +kernel
theorem dX10_copy_135 : decode cX10_copy 135 = .ok (.iconst 0, 1) := by decide +kernel
theorem dX10_copy_136 : decode cX10_copy 136 = .ok (.bipush 50, 2) := by decide +kernel
theorem dX10_copy_138 : decode cX10_copy 138 = .ok (.invokestatic 73, 3) := by decide +kernel
theorem dX10_copy_141 : decode cX10_copy 141 = .ok (.aload_n 0, 1) := by decide +kernel
theorem dX10_copy_142 : decode cX10_copy 142 = .ok (.aload_n 1, 1) := by decide +kernel
theorem dX10_copy_143 : decode cX10_copy 143 = .ok (.getfield 92, 3) := by decide +kernel
theorem dX10_copy_146 : decode cX10_copy 146 = .ok (.putfield 92, 3) := by decide +kernel
theorem dX10_copy_149 : decode cX10_copy 149 = .ok (.aload_n 0, 1) := by decide +kernel
theorem dX10_copy_150 : decode cX10_copy 150 = .ok (.getfield 46, 3) := by decide +kernel
theorem dX10_copy_153 : decode cX10_copy 153 = .ok (.aload_n 1, 1) := by decide +kernel
theorem dX10_copy_154 : decode cX10_copy 154 = .ok (.getfield 46, 3) := by decide +kernel
theorem dX10_copy_157 : decode cX10_copy 157 = .ok (.invokevirtual 95, 3) := by decide +kernel
theorem dX10_copy_160 : decode cX10_copy 160 = .ok (.aload_n 0, 1) := by decide +kernel
theorem dX10_copy_161 : decode cX10_copy 161 = .ok (.getfield 54, 3) := by decide +kernel
theorem dX10_copy_164 : decode cX10_copy 164 = .ok (.aload_n 1, 1) := by decide +kernel
theorem dX10_copy_165 : decode cX10_copy 165 = .ok (.getfield 54, 3) := by decide +kernel
theorem dX10_copy_168 : decode cX10_copy 168 = .ok (.invokevirtual 95, 3) := by decide +kernel
theorem dX10_copy_171 : decode cX10_copy 171 = .ok (.aload_n 1, 1) := by decide +kernel
theorem dX10_copy_172 : decode cX10_copy 172 = .ok (.getfield 57, 3) := by decide +kernel
theorem dX10_copy_175 : decode cX10_copy 175 = .ok (.iconst 0, 1) := by decide +kernel
theorem dX10_copy_176 : decode cX10_copy 176 = .ok (.aload_n 0, 1) := by decide +kernel
theorem dX10_copy_177 : decode cX10_copy 177 = .ok (.getfield 57, 3) := by decide +kernel
theorem dX10_copy_180 : decode cX10_copy 180 = .ok (.iconst 0, 1) := by decide +kernel
theorem dX10_copy_181 : decode cX10_copy 181 = .ok (.bipush 20, 2) := by decide +kernel
theorem dX10_copy_183 : decode cX10_copy 183 = .ok (.invokestatic 73, 3) := by decide +kernel
theorem dX10_copy_186 : decode cX10_copy 186 = .ok (.aload_n 0, 1) := by decide +kernel
theorem dX10_copy_187 : decode cX10_copy 187 = .ok (.aload_n 1, 1) := by decide +kernel
theorem dX10_copy_188 : decode cX10_copy 188 = .ok (.getfield 98, 3) := by decide +kernel
theorem dX10_copy_191 : decode cX10_copy 191 = .ok (.putfield 98, 3) := by decide +kernel
theorem dX10_copy_194 : decode cX10_copy 194 = .ok (.aload_n 0, 1) := by decide +kernel
theorem dX10_copy_195 : decode cX10_copy 195 = .ok (.aload_n 1, 1) := by decide +kernel
theorem dX10_copy_196 : decode cX10_copy 196 = .ok (.getfield 60, 3) := by decide +kernel
theorem dX10_copy_199 : decode cX10_copy 199 = .ok (.putfield 60, 3) := by decide +kernel
theorem dX10_copy_202 : decode cX10_copy 202 = .ok (.return_, 1) := by decide +kernel
theorem dX10_lawOf_0 : decode cX10_lawOf 0 = .ok (.iload_n 1, 1) := by decide +kernel
theorem dX10_lawOf_1 : decode cX10_lawOf 1 = .ok (.ifCond .ne 10, 3) := by decide +kernel
theorem dX10_lawOf_4 : decode cX10_lawOf 4 = .ok (.aload_n 0, 1) := by decide +kernel
theorem dX10_lawOf_5 : decode cX10_lawOf 5 = .ok (.getfield 46, 3) := by decide +kernel
theorem dX10_lawOf_8 : decode cX10_lawOf 8 = .ok (.goto 7, 3) := by decide +kernel
theorem dX10_lawOf_11 : decode cX10_lawOf 11 = .ok (.aload_n 0, 1) := by decide +kernel
theorem dX10_lawOf_12 : decode cX10_lawOf 12 = .ok (.getfield 54, 3) := by decide +kernel
theorem dX10_lawOf_15 : decode cX10_lawOf 15 = .ok (.areturn, 1) := by decide +kernel
theorem dX10_room_0 : decode cX10_room 0 = .ok (.iload_n 1, 1) := by decide +kernel
theorem dX10_room_1 : decode cX10_room 1 = .ok (.iconst 0, 1) := by decide +kernel
theorem dX10_room_2 : decode cX10_room 2 = .ok (.bipush 8, 2) := by decide +kernel
theorem dX10_room_4 : decode cX10_room 4 = .ok (.invokestatic 101, 3) := by decide +kernel
theorem dX10_room_7 : decode cX10_room 7 = .ok (.ifCond .eq 12, 3) := by decide +kernel
theorem dX10_room_10 : decode cX10_room 10 = .ok (.aload_n 0, 1) := by decide +kernel
theorem dX10_room_11 : decode cX10_room 11 = .ok (.getfield 15, 3) := by decide +kernel
theorem dX10_room_14 : decode cX10_room 14 = .ok (.iload_n 1, 1) := by decide +kernel
theorem dX10_room_15 : decode cX10_room 15 = .ok (.iaload, 1) := by decide +kernel
theorem dX10_room_16 : decode cX10_room 16 = .ok (.goto 4, 3) := by decide +kernel
theorem dX10_room_19 : decode cX10_room 19 = .ok (.iconst 0, 1) := by decide +kernel
theorem dX10_room_20 : decode cX10_room 20 = .ok (.ireturn, 1) := by decide +kernel
theorem dX10_warm_0 : decode cX10_warm 0 = .ok (.iload_n 1, 1) := by decide +kernel
theorem dX10_warm_1 : decode cX10_warm 1 = .ok (.iconst 0, 1) := by decide +kernel
theorem dX10_warm_2 : decode cX10_warm 2 = .ok (.bipush 8, 2) := by decide +kernel
theorem dX10_warm_4 : decode cX10_warm 4 = .ok (.invokestatic 101, 3) := by decide +kernel
theorem dX10_warm_7 : decode cX10_warm 7 = .ok (.ifCond .eq 24, 3) := by decide +kernel
theorem dX10_warm_10 : decode cX10_warm 10 = .ok (.aload_n 0, 1) := by decide +kernel
theorem dX10_warm_11 : decode cX10_warm 11 = .ok (.getfield 46, 3) := by decide +kernel
theorem dX10_warm_14 : decode cX10_warm 14 = .ok (.aload_n 0, 1) := by decide +kernel
theorem dX10_warm_15 : decode cX10_warm 15 = .ok (.getfield 9, 3) := by decide +kernel
theorem dX10_warm_18 : decode cX10_warm 18 = .ok (.iload_n 1, 1) := by decide +kernel
theorem dX10_warm_19 : decode cX10_warm 19 = .ok (.iaload, 1) := by decide +kernel
theorem dX10_warm_20 : decode cX10_warm 20 = .ok (.iload_n 2, 1) := by decide +kernel
theorem dX10_warm_21 : decode cX10_warm 21 = .ok (.bipush 96, 2) := by decide +kernel
theorem dX10_warm_23 : decode cX10_warm 23 = .ok (.irem, 1) := by decide +kernel
theorem dX10_warm_24 : decode cX10_warm 24 = .ok (.iconst 0, 1) := by decide +kernel
theorem dX10_warm_25 : decode cX10_warm 25 = .ok (.invokevirtual 105, 3) := by decide +kernel
theorem dX10_warm_28 : decode cX10_warm 28 = .ok (.goto 4, 3) := by decide +kernel
theorem dX10_warm_31 : decode cX10_warm 31 = .ok (.iconst 0, 1) := by decide +kernel
theorem dX10_warm_32 : decode cX10_warm 32 = .ok (.ireturn, 1) := by decide +kernel
theorem dX10_worth_0 : decode cX10_worth 0 = .ok (.aload_n 0, 1) := by decide +kernel
theorem dX10_worth_1 : decode cX10_worth 1 = .ok (.getfield 54, 3) := by decide +kernel
theorem dX10_worth_4 : decode cX10_worth 4 = .ok (.aload_n 1, 1) := by decide +kernel
theorem dX10_worth_5 : decode cX10_worth 5 = .ok (.invokevirtual 109, 3) := by decide +kernel
theorem dX10_worth_8 : decode cX10_worth 8 = .ok (.aload_n 1, 1) := by decide +kernel
theorem dX10_worth_9 : decode cX10_worth 9 = .ok (.getfield 113, 3) := by decide +kernel
theorem dX10_worth_12 : decode cX10_worth 12 = .ok (.aload_n 1, 1) := by decide +kernel
theorem dX10_worth_13 : decode cX10_worth 13 = .ok (.getfield 116, 3) := by decide +kernel
theorem dX10_worth_16 : decode cX10_worth 16 = .ok (.invokevirtual 105, 3) := by decide +kernel
theorem dX10_worth_19 : decode cX10_worth 19 = .ok (.ireturn, 1) := by decide +kernel
theorem dX10_cheesePrice_0 : decode cX10_cheesePrice 0 = .ok (.aload_n 1, 1) := by decide +kernel
theorem dX10_cheesePrice_1 : decode cX10_cheesePrice 1 = .ok (.getfield 119, 3) := by decide +kernel
theorem dX10_cheesePrice_4 : decode cX10_cheesePrice 4 = .ok (.iconst 0, 1) := by decide +kernel
theorem dX10_cheesePrice_5 : decode cX10_cheesePrice 5 = .ok (.bipush 8, 2) := by decide +kernel
theorem dX10_cheesePrice_7 : decode cX10_cheesePrice 7 = .ok (.invokestatic 101, 3) := by decide +kernel
theorem dX10_cheesePrice_10 : decode cX10_cheesePrice 10 = .ok (.ifCond .eq 30, 3) := by decide +kernel
theorem dX10_cheesePrice_13 : decode cX10_cheesePrice 13 = .ok (.aload_n 0, 1) := by decide +kernel
theorem dX10_cheesePrice_14 : decode cX10_cheesePrice 14 = .ok (.getfield 18, 3) := by decide +kernel
theorem dX10_cheesePrice_17 : decode cX10_cheesePrice 17 = .ok (.aload_n 1, 1) := by decide +kernel
theorem dX10_cheesePrice_18 : decode cX10_cheesePrice 18 = .ok (.getfield 119, 3) := by decide +kernel
theorem dX10_cheesePrice_21 : decode cX10_cheesePrice 21 = .ok (.iaload, 1) := by decide +kernel
theorem dX10_cheesePrice_22 : decode cX10_cheesePrice 22 = .ok (.iconst 0, 1) := by decide +kernel
theorem dX10_cheesePrice_23 : decode cX10_cheesePrice 23 = .ok (.bipush 100, 2) := by decide +kernel
theorem dX10_cheesePrice_25 : decode cX10_cheesePrice 25 = .ok (.aload_n 1, 1) := by decide +kernel
theorem dX10_cheesePrice_26 : decode cX10_cheesePrice 26 = .ok (.getfield 113, 3) := by decide +kernel
theorem dX10_cheesePrice_29 : decode cX10_cheesePrice 29 = .ok (.isub, 1) := by decide +kernel
theorem dX10_cheesePrice_30 : decode cX10_cheesePrice 30 = .ok (.invokestatic 122, 3) := by decide +kernel
theorem dX10_cheesePrice_33 : decode cX10_cheesePrice 33 = .ok (.imul, 1) := by decide +kernel
theorem dX10_cheesePrice_34 : decode cX10_cheesePrice 34 = .ok (.bipush 10, 2) := by decide +kernel
theorem dX10_cheesePrice_36 : decode cX10_cheesePrice 36 = .ok (.idiv, 1) := by decide +kernel
theorem dX10_cheesePrice_37 : decode cX10_cheesePrice 37 = .ok (.goto 4, 3) := by decide +kernel
theorem dX10_cheesePrice_40 : decode cX10_cheesePrice 40 = .ok (.iconst 0, 1) := by decide +kernel
theorem dX10_cheesePrice_41 : decode cX10_cheesePrice 41 = .ok (.ireturn, 1) := by decide +kernel
theorem dX10_takeIn_0 : decode cX10_takeIn 0 = .ok (.aload_n 0, 1) := by decide +kernel
theorem dX10_takeIn_1 : decode cX10_takeIn 1 = .ok (.ldc 128, 2) := by decide +kernel
theorem dX10_takeIn_3 : decode cX10_takeIn 3 = .ok (.ldc 129, 2) := by decide +kernel
theorem dX10_takeIn_5 : decode cX10_takeIn 5 = .ok (.aload_n 0, 1) := by decide +kernel
theorem dX10_takeIn_6 : decode cX10_takeIn 6 = .ok (.getfield 89, 3) := by decide +kernel
theorem dX10_takeIn_9 : decode cX10_takeIn 9 = .ok (.iload_n 1, 1) := by decide +kernel
theorem dX10_takeIn_10 : decode cX10_takeIn 10 = .ok (.iadd, 1) := by decide +kernel
theorem dX10_takeIn_11 : decode cX10_takeIn 11 = .ok (.invokestatic 130, 3) := by decide +kernel
theorem dX10_takeIn_14 : decode cX10_takeIn 14 = .ok (.invokestatic 122, 3) := by decide +kernel
theorem dX10_takeIn_17 : decode cX10_takeIn 17 = .ok (.putfield 89, 3) := by decide +kernel
theorem dX10_takeIn_20 : decode cX10_takeIn 20 = .ok (.return_, 1) := by decide +kernel
theorem dX10_inBrook_0 : decode cX10_inBrook 0 = .ok (.iconst 0, 1) := by decide +kernel
theorem dX10_inBrook_1 : decode cX10_inBrook 1 = .ok (.istore_n 2, 1) := by decide +kernel
theorem dX10_inBrook_2 : decode cX10_inBrook 2 = .ok (.iconst 0, 1) := by decide +kernel
theorem dX10_inBrook_3 : decode cX10_inBrook 3 = .ok (.istore_n 3, 1) := by decide +kernel
theorem dX10_inBrook_4 : decode cX10_inBrook 4 = .ok (.iload_n 3, 1) := by decide +kernel
theorem dX10_inBrook_5 : decode cX10_inBrook 5 = .ok (.aload_n 0, 1) := by decide +kernel
theorem dX10_inBrook_6 : decode cX10_inBrook 6 = .ok (.getfield 83, 3) := by decide +kernel
theorem dX10_inBrook_9 : decode cX10_inBrook 9 = .ok (.if_icmp .ge 38, 3) := by decide +kernel
theorem dX10_inBrook_12 : decode cX10_inBrook 12 = .ok (.aload_n 0, 1) := by decide +kernel
theorem dX10_inBrook_13 : decode cX10_inBrook 13 = .ok (.getfield 29, 3) := by decide +kernel
theorem dX10_inBrook_16 : decode cX10_inBrook 16 = .ok (.iload_n 3, 1) := by decide +kernel
theorem dX10_inBrook_17 : decode cX10_inBrook 17 = .ok (.aaload, 1) := by decide +kernel
theorem dX10_inBrook_18 : decode cX10_inBrook 18 = .ok (.getfield 133, 3) := by decide +kernel
theorem dX10_inBrook_21 : decode cX10_inBrook 21 = .ok (.iconst 1, 1) := by decide +kernel
theorem dX10_inBrook_22 : decode cX10_inBrook 22 = .ok (.if_icmp .ne 19, 3) := by decide +kernel
theorem dX10_inBrook_25 : decode cX10_inBrook 25 = .ok (.aload_n 0, 1) := by decide +kernel
theorem dX10_inBrook_26 : decode cX10_inBrook 26 = .ok (.getfield 29, 3) := by decide +kernel
theorem dX10_inBrook_29 : decode cX10_inBrook 29 = .ok (.iload_n 3, 1) := by decide +kernel
theorem dX10_inBrook_30 : decode cX10_inBrook 30 = .ok (.aaload, 1) := by decide +kernel
theorem dX10_inBrook_31 : decode cX10_inBrook 31 = .ok (.getfield 119, 3) := by decide +kernel
theorem dX10_inBrook_34 : decode cX10_inBrook 34 = .ok (.iload_n 1, 1) := by decide +kernel
theorem dX10_inBrook_35 : decode cX10_inBrook 35 = .ok (.if_icmp .ne 6, 3) := by decide +kernel
theorem dX10_inBrook_38 : decode cX10_inBrook 38 = .ok (.iinc 2 1, 3) := by decide +kernel
theorem dX10_inBrook_41 : decode cX10_inBrook 41 = .ok (.iinc 3 1, 3) := by decide +kernel
theorem dX10_inBrook_44 : decode cX10_inBrook 44 = .ok (.goto (-40), 3) := by decide +kernel
theorem dX10_inBrook_47 : decode cX10_inBrook 47 = .ok (.iload_n 2, 1) := by decide +kernel
theorem dX10_inBrook_48 : decode cX10_inBrook 48 = .ok (.ireturn, 1) := by decide +kernel
theorem dX10_howMany_0 : decode cX10_howMany 0 = .ok (.iconst 0, 1) := by decide +kernel
theorem dX10_howMany_1 : decode cX10_howMany 1 = .ok (.istore_n 2, 1) := by decide +kernel
theorem dX10_howMany_2 : decode cX10_howMany 2 = .ok (.iconst 0, 1) := by decide +kernel
theorem dX10_howMany_3 : decode cX10_howMany 3 = .ok (.istore_n 3, 1) := by decide +kernel
theorem dX10_howMany_4 : decode cX10_howMany 4 = .ok (.iload_n 3, 1) := by decide +kernel
theorem dX10_howMany_5 : decode cX10_howMany 5 = .ok (.aload_n 0, 1) := by decide +kernel
theorem dX10_howMany_6 : decode cX10_howMany 6 = .ok (.getfield 83, 3) := by decide +kernel
theorem dX10_howMany_9 : decode cX10_howMany 9 = .ok (.if_icmp .ge 25, 3) := by decide +kernel
theorem dX10_howMany_12 : decode cX10_howMany 12 = .ok (.aload_n 0, 1) := by decide +kernel
theorem dX10_howMany_13 : decode cX10_howMany 13 = .ok (.getfield 29, 3) := by decide +kernel
theorem dX10_howMany_16 : decode cX10_howMany 16 = .ok (.iload_n 3, 1) := by decide +kernel
theorem dX10_howMany_17 : decode cX10_howMany 17 = .ok (.aaload, 1) := by decide +kernel
theorem dX10_howMany_18 : decode cX10_howMany 18 = .ok (.getfield 133, 3) := by decide +kernel
theorem dX10_howMany_21 : decode cX10_howMany 21 = .ok (.iload_n 1, 1) := by decide +kernel
theorem dX10_howMany_22 : decode cX10_howMany 22 = .ok (.if_icmp .ne 6, 3) := by decide +kernel
theorem dX10_howMany_25 : decode cX10_howMany 25 = .ok (.iinc 2 1, 3) := by decide +kernel
theorem dX10_howMany_28 : decode cX10_howMany 28 = .ok (.iinc 3 1, 3) := by decide +kernel
theorem dX10_howMany_31 : decode cX10_howMany 31 = .ok (.goto (-27), 3) := by decide +kernel
theorem dX10_howMany_34 : decode cX10_howMany 34 = .ok (.iload_n 2, 1) := by decide +kernel
theorem dX10_howMany_35 : decode cX10_howMany 35 = .ok (.ireturn, 1) := by decide +kernel
theorem dX10_sweetOnes_0 : decode cX10_sweetOnes 0 = .ok (.iconst 0, 1) := by decide +kernel
theorem dX10_sweetOnes_1 : decode cX10_sweetOnes 1 = .ok (.istore_n 1, 1) := by decide +kernel
theorem dX10_sweetOnes_2 : decode cX10_sweetOnes 2 = .ok (.iconst 0, 1) := by decide +kernel
theorem dX10_sweetOnes_3 : decode cX10_sweetOnes 3 = .ok (.istore_n 2, 1) := by decide +kernel
theorem dX10_sweetOnes_4 : decode cX10_sweetOnes 4 = .ok (.iload_n 2, 1) := by decide +kernel
theorem dX10_sweetOnes_5 : decode cX10_sweetOnes 5 = .ok (.aload_n 0, 1) := by decide +kernel
theorem dX10_sweetOnes_6 : decode cX10_sweetOnes 6 = .ok (.getfield 83, 3) := by decide +kernel
theorem dX10_sweetOnes_9 : decode cX10_sweetOnes 9 = .ok (.if_icmp .ge 24, 3) := by decide +kernel
theorem dX10_sweetOnes_12 : decode cX10_sweetOnes 12 = .ok (.aload_n 0, 1) := by decide +kernel
theorem dX10_sweetOnes_13 : decode cX10_sweetOnes 13 = .ok (.getfield 29, 3) := by decide +kernel
theorem dX10_sweetOnes_16 : decode cX10_sweetOnes 16 = .ok (.iload_n 2, 1) := by decide +kernel
theorem dX10_sweetOnes_17 : decode cX10_sweetOnes 17 = .ok (.aaload, 1) := by decide +kernel
theorem dX10_sweetOnes_18 : decode cX10_sweetOnes 18 = .ok (.invokevirtual 109, 3) := by decide +kernel
theorem dX10_sweetOnes_21 : decode cX10_sweetOnes 21 = .ok (.ifCond .ne 6, 3) := by decide +kernel
theorem dX10_sweetOnes_24 : decode cX10_sweetOnes 24 = .ok (.iinc 1 1, 3) := by decide +kernel
theorem dX10_sweetOnes_27 : decode cX10_sweetOnes 27 = .ok (.iinc 2 1, 3) := by decide +kernel
theorem dX10_sweetOnes_30 : decode cX10_sweetOnes 30 = .ok (.goto (-26), 3) := by decide +kernel
theorem dX10_sweetOnes_33 : decode cX10_sweetOnes 33 = .ok (.iload_n 1, 1) := by decide +kernel
theorem dX10_sweetOnes_34 : decode cX10_sweetOnes 34 = .ok (.ireturn, 1) := by decide +kernel
theorem dX10_draw_0 : decode cX10_draw 0 = .ok (.aload_n 0, 1) := by decide +kernel
theorem dX10_draw_1 : decode cX10_draw 1 = .ok (.aload_n 0, 1) := by decide +kernel
theorem dX10_draw_2 : decode cX10_draw 2 = .ok (.getfield 60, 3) := by decide +kernel
theorem dX10_draw_5 : decode cX10_draw 5 = .ok (.ldc 136, 2) := by decide +kernel
theorem dX10_draw_7 : decode cX10_draw 7 = .ok (.imul, 1) := by decide +kernel
theorem dX10_draw_8 : decode cX10_draw 8 = .ok (.sipush 12345, 3) := by decide +kernel
theorem dX10_draw_11 : decode cX10_draw 11 = .ok (.iadd, 1) := by decide +kernel
theorem dX10_draw_12 : decode cX10_draw 12 = .ok (.putfield 60, 3) := by decide +kernel
theorem dX10_draw_15 : decode cX10_draw 15 = .ok (.aload_n 0, 1) := by decide +kernel
theorem dX10_draw_16 : decode cX10_draw 16 = .ok (.getfield 60, 3) := by decide +kernel
theorem dX10_draw_19 : decode cX10_draw 19 = .ok (.bipush 8, 2) := by decide +kernel
theorem dX10_draw_21 : decode cX10_draw 21 = .ok (.iushr, 1) := by decide +kernel
theorem dX10_draw_22 : decode cX10_draw 22 = .ok (.ireturn, 1) := by decide +kernel
theorem dX10_strike_0 : decode cX10_strike 0 = .ok (.iconst 0, 1) := by decide +kernel
theorem dX10_strike_1 : decode cX10_strike 1 = .ok (.istore_n 1, 1) := by decide +kernel
theorem dX10_strike_2 : decode cX10_strike 2 = .ok (.iconst 0, 1) := by decide +kernel
theorem dX10_strike_3 : decode cX10_strike 3 = .ok (.istore_n 2, 1) := by decide +kernel
theorem dX10_strike_4 : decode cX10_strike 4 = .ok (.iload_n 2, 1) := by decide +kernel
theorem dX10_strike_5 : decode cX10_strike 5 = .ok (.aload_n 0, 1) := by decide +kernel
theorem dX10_strike_6 : decode cX10_strike 6 = .ok (.getfield 83, 3) := by decide +kernel
theorem dX10_strike_9 : decode cX10_strike 9 = .ok (.if_icmp .ge 48, 3) := by decide +kernel
theorem dX10_strike_12 : decode cX10_strike 12 = .ok (.aload_n 0, 1) := by decide +kernel
theorem dX10_strike_13 : decode cX10_strike 13 = .ok (.getfield 29, 3) := by decide +kernel
theorem dX10_strike_16 : decode cX10_strike 16 = .ok (.iload_n 2, 1) := by decide +kernel
theorem dX10_strike_17 : decode cX10_strike 17 = .ok (.aaload, 1) := by decide +kernel
theorem dX10_strike_18 : decode cX10_strike 18 = .ok (.getfield 137, 3) := by decide +kernel
theorem dX10_strike_21 : decode cX10_strike 21 = .ok (.ifCond .ne 30, 3) := by decide +kernel
theorem dX10_strike_24 : decode cX10_strike 24 = .ok (.aload_n 0, 1) := by decide +kernel
theorem dX10_strike_25 : decode cX10_strike 25 = .ok (.getfield 29, 3) := by decide +kernel
theorem dX10_strike_28 : decode cX10_strike 28 = .ok (.iload_n 2, 1) := by decide +kernel
theorem dX10_strike_29 : decode cX10_strike 29 = .ok (.aaload, 1) := by decide +kernel
theorem dX10_strike_30 : decode cX10_strike 30 = .ok (.getfield 133, 3) := by decide +kernel
theorem dX10_strike_33 : decode cX10_strike 33 = .ok (.iconst 3, 1) := by decide +kernel
theorem dX10_strike_34 : decode cX10_strike 34 = .ok (.if_icmp .eq 17, 3) := by decide +kernel
theorem dX10_strike_37 : decode cX10_strike 37 = .ok (.aload_n 0, 1) := by decide +kernel
theorem dX10_strike_38 : decode cX10_strike 38 = .ok (.getfield 29, 3) := by decide +kernel
theorem dX10_strike_41 : decode cX10_strike 41 = .ok (.iload_n 2, 1) := by decide +kernel
theorem dX10_strike_42 : decode cX10_strike 42 = .ok (.aaload, 1) := by decide +kernel
theorem dX10_strike_43 : decode cX10_strike 43 = .ok (.bipush 30, 2) := by decide +kernel
theorem dX10_strike_45 : decode cX10_strike 45 = .ok (.invokevirtual 141, 3) := by decide +kernel
theorem dX10_strike_48 : decode cX10_strike 48 = .ok (.iinc 1 1, 3) := by decide +kernel
theorem dX10_strike_51 : decode cX10_strike 51 = .ok (.iinc 2 1, 3) := by decide +kernel
theorem dX10_strike_54 : decode cX10_strike 54 = .ok (.goto (-50), 3) := by decide +kernel
theorem dX10_strike_57 : decode cX10_strike 57 = .ok (.iload_n 1, 1) := by decide +kernel
theorem dX10_strike_58 : decode cX10_strike 58 = .ok (.ireturn, 1) := by decide +kernel
theorem dX10_passQuarter_0 : decode cX10_passQuarter 0 = .ok (.iconst 0, 1) := by decide +kernel
theorem dX10_passQuarter_1 : decode cX10_passQuarter 1 = .ok (.istore_n 1, 1) := by decide +kernel
theorem dX10_passQuarter_2 : decode cX10_passQuarter 2 = .ok (.iload_n 1, 1) := by decide +kernel
theorem dX10_passQuarter_3 : decode cX10_passQuarter 3 = .ok (.aload_n 0, 1) := by decide +kernel
theorem dX10_passQuarter_4 : decode cX10_passQuarter 4 = .ok (.getfield 83, 3) := by decide +kernel
theorem dX10_passQuarter_7 : decode cX10_passQuarter 7 = .ok (.if_icmp .ge 40, 3) := by decide +kernel
theorem dX10_passQuarter_10 : decode cX10_passQuarter 10 = .ok (.aload_n 0, 1) := by decide +kernel
theorem dX10_passQuarter_11 : decode cX10_passQuarter 11 = .ok (.aload_n 0, 1) := by decide +kernel
theorem dX10_passQuarter_12 : decode cX10_passQuarter 12 = .ok (.getfield 29, 3) := by decide +kernel
theorem dX10_passQuarter_15 : decode cX10_passQuarter 15 = .ok (.iload_n 1, 1) := by decide +kernel
theorem dX10_passQuarter_16 : decode cX10_passQuarter 16 = .ok (.aaload, 1) := by decide +kernel
theorem dX10_passQuarter_17 : decode cX10_passQuarter 17 = .ok (.aload_n 0, 1) := by decide +kernel
theorem dX10_passQuarter_18 : decode cX10_passQuarter 18 = .ok (.getfield 86, 3) := by decide +kernel
theorem dX10_passQuarter_21 : decode cX10_passQuarter 21 = .ok (.invokevirtual 145, 3) := by decide +kernel
theorem dX10_passQuarter_24 : decode cX10_passQuarter 24 = .ok (.ifCond .eq 17, 3) := by decide +kernel
theorem dX10_passQuarter_27 : decode cX10_passQuarter 27 = .ok (.aload_n 0, 1) := by decide +kernel
theorem dX10_passQuarter_28 : decode cX10_passQuarter 28 = .ok (.aload_n 0, 1) := by decide +kernel
theorem dX10_passQuarter_29 : decode cX10_passQuarter 29 = .ok (.aload_n 0, 1) := by decide +kernel
theorem dX10_passQuarter_30 : decode cX10_passQuarter 30 = .ok (.getfield 29, 3) := by decide +kernel
theorem dX10_passQuarter_33 : decode cX10_passQuarter 33 = .ok (.iload_n 1, 1) := by decide +kernel
theorem dX10_passQuarter_34 : decode cX10_passQuarter 34 = .ok (.aaload, 1) := by decide +kernel
theorem dX10_passQuarter_35 : decode cX10_passQuarter 35 = .ok (.invokevirtual 149, 3) := by decide +kernel
theorem dX10_passQuarter_38 : decode cX10_passQuarter 38 = .ok (.invokevirtual 153, 3) := by decide +kernel
theorem dX10_passQuarter_41 : decode cX10_passQuarter 41 = .ok (.iinc 1 1, 3) := by decide +kernel
theorem dX10_passQuarter_44 : decode cX10_passQuarter 44 = .ok (.goto (-42), 3) := by decide +kernel
theorem dX10_passQuarter_47 : decode cX10_passQuarter 47 = .ok (.aload_n 0, 1) := by decide +kernel
theorem dX10_passQuarter_48 : decode cX10_passQuarter 48 = .ok (.dup, 1) := by decide +kernel
theorem dX10_passQuarter_49 : decode cX10_passQuarter 49 = .ok (.getfield 86, 3) := by decide +kernel
theorem dX10_passQuarter_52 : decode cX10_passQuarter 52 = .ok (.iconst 1, 1) := by decide +kernel
theorem dX10_passQuarter_53 : decode cX10_passQuarter 53 = .ok (.iadd, 1) := by decide +kernel
theorem dX10_passQuarter_54 : decode cX10_passQuarter 54 = .ok (.putfield 86, 3) := by decide +kernel
theorem dX10_passQuarter_57 : decode cX10_passQuarter 57 = .ok (.return_, 1) := by decide +kernel
theorem dX10_pass_0 : decode cX10_pass 0 = .ok (.aload_n 1, 1) := by decide +kernel
theorem dX10_pass_1 : decode cX10_pass 1 = .ok (.getfield 137, 3) := by decide +kernel
theorem dX10_pass_4 : decode cX10_pass 4 = .ok (.ifCond .ne 19, 3) := by decide +kernel
theorem dX10_pass_7 : decode cX10_pass 7 = .ok (.aload_n 1, 1) := by decide +kernel
theorem dX10_pass_8 : decode cX10_pass 8 = .ok (.getfield 133, 3) := by decide +kernel
theorem dX10_pass_11 : decode cX10_pass 11 = .ok (.iconst 3, 1) := by decide +kernel
theorem dX10_pass_12 : decode cX10_pass 12 = .ok (.if_icmp .eq 11, 3) := by decide +kernel
theorem dX10_pass_15 : decode cX10_pass 15 = .ok (.aload_n 1, 1) := by decide +kernel
theorem dX10_pass_16 : decode cX10_pass 16 = .ok (.getfield 133, 3) := by decide +kernel
theorem dX10_pass_19 : decode cX10_pass 19 = .ok (.iconst 1, 1) := by decide +kernel
theorem dX10_pass_20 : decode cX10_pass 20 = .ok (.if_icmp .ne 5, 3) := by decide +kernel
theorem dX10_pass_23 : decode cX10_pass 23 = .ok (.iconst 0, 1) := by decide +kernel
theorem dX10_pass_24 : decode cX10_pass 24 = .ok (.ireturn, 1) := by decide +kernel
theorem dX10_pass_25 : decode cX10_pass 25 = .ok (.aload_n 1, 1) := by decide +kernel
theorem dX10_pass_26 : decode cX10_pass 26 = .ok (.aload_n 1, 1) := by decide +kernel
theorem dX10_pass_27 : decode cX10_pass 27 = .ok (.getfield 156, 3) := by decide +kernel
theorem dX10_pass_30 : decode cX10_pass 30 = .ok (.aload_n 0, 1) := by decide +kernel
theorem dX10_pass_31 : decode cX10_pass 31 = .ok (.aload_n 1, 1) := by decide +kernel
theorem dX10_pass_32 : decode cX10_pass 32 = .ok (.getfield 119, 3) := by decide +kernel
theorem dX10_pass_35 : decode cX10_pass 35 = .ok (.iload_n 2, 1) := by decide +kernel
theorem dX10_pass_36 : decode cX10_pass 36 = .ok (.invokevirtual 160, 3) := by decide +kernel
theorem dX10_pass_39 : decode cX10_pass 39 = .ok (.aload_n 1, 1) := by decide +kernel
theorem dX10_pass_40 : decode cX10_pass 40 = .ok (.getfield 116, 3) := by decide +kernel
theorem dX10_pass_43 : decode cX10_pass 43 = .ok (.invokevirtual 163, 3) := by decide +kernel
theorem dX10_pass_46 : decode cX10_pass 46 = .ok (.invokevirtual 141, 3) := by decide +kernel
theorem dX10_pass_49 : decode cX10_pass 49 = .ok (.aload_n 1, 1) := by decide +kernel
theorem dX10_pass_50 : decode cX10_pass 50 = .ok (.getfield 133, 3) := by decide +kernel
theorem dX10_pass_53 : decode cX10_pass 53 = .ok (.ifCond .ne 5, 3) := by decide +kernel
theorem dX10_pass_56 : decode cX10_pass 56 = .ok (.iconst 0, 1) := by decide +kernel
theorem dX10_pass_57 : decode cX10_pass 57 = .ok (.ireturn, 1) := by decide +kernel
theorem dX10_pass_58 : decode cX10_pass 58 = .ok (.aload_n 1, 1) := by decide +kernel
theorem dX10_pass_59 : decode cX10_pass 59 = .ok (.getfield 168, 3) := by decide +kernel
theorem dX10_pass_62 : decode cX10_pass 62 = .ok (.invokestatic 171, 3) := by decide +kernel
theorem dX10_pass_65 : decode cX10_pass 65 = .ok (.ifCond .eq 15, 3) := by decide +kernel
theorem dX10_pass_68 : decode cX10_pass 68 = .ok (.aload_n 0, 1) := by decide +kernel
theorem dX10_pass_69 : decode cX10_pass 69 = .ok (.getfield 24, 3) := by decide +kernel
theorem dX10_pass_72 : decode cX10_pass 72 = .ok (.aload_n 1, 1) := by decide +kernel
theorem dX10_pass_73 : decode cX10_pass 73 = .ok (.getfield 168, 3) := by decide +kernel
theorem dX10_pass_76 : decode cX10_pass 76 = .ok (.iaload, 1) := by decide +kernel
theorem dX10_pass_77 : decode cX10_pass 77 = .ok (.goto 4, 3) := by decide +kernel
theorem dX10_pass_80 : decode cX10_pass 80 = .ok (.iconst 0, 1) := by decide +kernel
theorem dX10_pass_81 : decode cX10_pass 81 = .ok (.istore_n 3, 1) := by decide +kernel
theorem dX10_pass_82 : decode cX10_pass 82 = .ok (.aload_n 1, 1) := by decide +kernel
theorem dX10_pass_83 : decode cX10_pass 83 = .ok (.aload_n 1, 1) := by decide +kernel
theorem dX10_pass_84 : decode cX10_pass 84 = .ok (.getfield 156, 3) := by decide +kernel
theorem dX10_pass_87 : decode cX10_pass 87 = .ok (.iload_n 3, 1) := by decide +kernel
theorem dX10_pass_88 : decode cX10_pass 88 = .ok (.aload_n 1, 1) := by decide +kernel
theorem dX10_pass_89 : decode cX10_pass 89 = .ok (.getfield 116, 3) := by decide +kernel
theorem dX10_pass_92 : decode cX10_pass 92 = .ok (.invokevirtual 175, 3) := by decide +kernel
theorem dX10_pass_95 : decode cX10_pass 95 = .ok (.invokevirtual 178, 3) := by decide +kernel
theorem dX10_pass_98 : decode cX10_pass 98 = .ok (.aload_n 1, 1) := by decide +kernel
theorem dX10_pass_99 : decode cX10_pass 99 = .ok (.dup, 1) := by decide +kernel
theorem dX10_pass_100 : decode cX10_pass 100 = .ok (.getfield 181, 3) := by decide +kernel
theorem dX10_pass_103 : decode cX10_pass 103 = .ok (.iconst 1, 1) := by decide +kernel
theorem dX10_pass_104 : decode cX10_pass 104 = .ok (.isub, 1) := by decide +kernel
theorem dX10_pass_105 : decode cX10_pass 105 = .ok (.putfield 181, 3) := by decide +kernel
theorem dX10_pass_108 : decode cX10_pass 108 = .ok (.aload_n 1, 1) := by decide +kernel
theorem dX10_pass_109 : decode cX10_pass 109 = .ok (.getfield 181, 3) := by decide +kernel
theorem dX10_pass_112 : decode cX10_pass 112 = .ok (.ifCond .le 5, 3) := by decide +kernel
theorem dX10_pass_115 : decode cX10_pass 115 = .ok (.iconst 0, 1) := by decide +kernel
theorem dX10_pass_116 : decode cX10_pass 116 = .ok (.ireturn, 1) := by decide +kernel
theorem dX10_pass_117 : decode cX10_pass 117 = .ok (.aload_n 1, 1) := by decide +kernel
theorem dX10_pass_118 : decode cX10_pass 118 = .ok (.iconst 0, 1) := by decide +kernel
theorem dX10_pass_119 : decode cX10_pass 119 = .ok (.putfield 181, 3) := by decide +kernel
theorem dX10_pass_122 : decode cX10_pass 122 = .ok (.aload_n 1, 1) := by decide +kernel
theorem dX10_pass_123 : decode cX10_pass 123 = .ok (.iconst (-1), 1) := by decide +kernel
theorem dX10_pass_124 : decode cX10_pass 124 = .ok (.putfield 168, 3) := by decide +kernel
theorem dX10_pass_127 : decode cX10_pass 127 = .ok (.aload_n 1, 1) := by decide +kernel
theorem dX10_pass_128 : decode cX10_pass 128 = .ok (.dup, 1) := by decide +kernel
theorem dX10_pass_129 : decode cX10_pass 129 = .ok (.getfield 119, 3) := by decide +kernel
theorem dX10_pass_132 : decode cX10_pass 132 = .ok (.iconst 1, 1) := by decide +kernel
theorem dX10_pass_133 : decode cX10_pass 133 = .ok (.iadd, 1) := by decide +kernel
theorem dX10_pass_134 : decode cX10_pass 134 = .ok (.putfield 119, 3) := by decide +kernel
theorem dX10_pass_137 : decode cX10_pass 137 = .ok (.aload_n 1, 1) := by decide +kernel
theorem dX10_pass_138 : decode cX10_pass 138 = .ok (.aload_n 1, 1) := by decide +kernel
theorem dX10_pass_139 : decode cX10_pass 139 = .ok (.getfield 119, 3) := by decide +kernel
theorem dX10_pass_142 : decode cX10_pass 142 = .ok (.bipush 9, 2) := by decide +kernel
theorem dX10_pass_144 : decode cX10_pass 144 = .ok (.if_icmp .lt 7, 3) := by decide +kernel
theorem dX10_pass_147 : decode cX10_pass 147 = .ok (.iconst 3, 1) := by decide +kernel
theorem dX10_pass_148 : decode cX10_pass 148 = .ok (.goto 4, 3) := by decide +kernel
theorem dX10_pass_151 : decode cX10_pass 151 = .ok (.iconst 0, 1) := by decide +kernel
theorem dX10_pass_152 : decode cX10_pass 152 = .ok (.putfield 133, 3) := by decide +kernel
theorem dX10_pass_155 : decode cX10_pass 155 = .ok (.aload_n 1, 1) := by decide +kernel
theorem dX10_pass_156 : decode cX10_pass 156 = .ok (.getfield 133, 3) := by decide +kernel
theorem dX10_pass_159 : decode cX10_pass 159 = .ok (.iconst 3, 1) := by decide +kernel
theorem dX10_pass_160 : decode cX10_pass 160 = .ok (.if_icmp .ne 7, 3) := by decide +kernel
theorem dX10_pass_163 : decode cX10_pass 163 = .ok (.iconst 1, 1) := by decide +kernel
theorem dX10_pass_164 : decode cX10_pass 164 = .ok (.goto 4, 3) := by decide +kernel
theorem dX10_pass_167 : decode cX10_pass 167 = .ok (.iconst 0, 1) := by decide +kernel
theorem dX10_pass_168 : decode cX10_pass 168 = .ok (.ireturn, 1) := by decide +kernel
theorem dX10_setOff_0 : decode cX10_setOff 0 = .ok (.iload_n 2, 1) := by decide +kernel
theorem dX10_setOff_1 : decode cX10_setOff 1 = .ok (.invokestatic 171, 3) := by decide +kernel
theorem dX10_setOff_4 : decode cX10_setOff 4 = .ok (.ifCond .eq 23, 3) := by decide +kernel
theorem dX10_setOff_7 : decode cX10_setOff 7 = .ok (.aload_n 1, 1) := by decide +kernel
theorem dX10_setOff_8 : decode cX10_setOff 8 = .ok (.iconst 2, 1) := by decide +kernel
theorem dX10_setOff_9 : decode cX10_setOff 9 = .ok (.putfield 133, 3) := by decide +kernel
theorem dX10_setOff_12 : decode cX10_setOff 12 = .ok (.aload_n 1, 1) := by decide +kernel
theorem dX10_setOff_13 : decode cX10_setOff 13 = .ok (.iload_n 2, 1) := by decide +kernel
theorem dX10_setOff_14 : decode cX10_setOff 14 = .ok (.putfield 168, 3) := by decide +kernel
theorem dX10_setOff_17 : decode cX10_setOff 17 = .ok (.aload_n 1, 1) := by decide +kernel
theorem dX10_setOff_18 : decode cX10_setOff 18 = .ok (.aload_n 0, 1) := by decide +kernel
theorem dX10_setOff_19 : decode cX10_setOff 19 = .ok (.getfield 21, 3) := by decide +kernel
theorem dX10_setOff_22 : decode cX10_setOff 22 = .ok (.iload_n 2, 1) := by decide +kernel
theorem dX10_setOff_23 : decode cX10_setOff 23 = .ok (.iaload, 1) := by decide +kernel
theorem dX10_setOff_24 : decode cX10_setOff 24 = .ok (.putfield 181, 3) := by decide +kernel
theorem dX10_setOff_27 : decode cX10_setOff 27 = .ok (.return_, 1) := by decide +kernel
theorem dX10_ride_0 : decode cX10_ride 0 = .ok (.aload_n 0, 1) := by decide +kernel
theorem dX10_ride_1 : decode cX10_ride 1 = .ok (.aload_n 1, 1) := by decide +kernel
theorem dX10_ride_2 : decode cX10_ride 2 = .ok (.iload_n 2, 1) := by decide +kernel
theorem dX10_ride_3 : decode cX10_ride 3 = .ok (.invokevirtual 184, 3) := by decide +kernel
theorem dX10_ride_6 : decode cX10_ride 6 = .ok (.aload_n 1, 1) := by decide +kernel
theorem dX10_ride_7 : decode cX10_ride 7 = .ok (.getfield 181, 3) := by decide +kernel
theorem dX10_ride_10 : decode cX10_ride 10 = .ok (.istore 4, 2) := by decide +kernel
theorem dX10_ride_12 : decode cX10_ride 12 = .ok (.iconst 0, 1) := by decide +kernel
theorem dX10_ride_13 : decode cX10_ride 13 = .ok (.istore 5, 2) := by decide +kernel
theorem dX10_ride_15 : decode cX10_ride 15 = .ok (.iload 5, 2) := by decide +kernel
theorem dX10_ride_17 : decode cX10_ride 17 = .ok (.iload 4, 2) := by decide +kernel
theorem dX10_ride_19 : decode cX10_ride 19 = .ok (.if_icmp .ge 19, 3) := by decide +kernel
theorem dX10_ride_22 : decode cX10_ride 22 = .ok (.aload_n 0, 1) := by decide +kernel
theorem dX10_ride_23 : decode cX10_ride 23 = .ok (.aload_n 1, 1) := by decide +kernel
theorem dX10_ride_24 : decode cX10_ride 24 = .ok (.iload_n 3, 1) := by decide +kernel
theorem dX10_ride_25 : decode cX10_ride 25 = .ok (.iload 5, 2) := by decide +kernel
theorem dX10_ride_27 : decode cX10_ride 27 = .ok (.iadd, 1) := by decide +kernel
theorem dX10_ride_28 : decode cX10_ride 28 = .ok (.invokevirtual 145, 3) := by decide +kernel
theorem dX10_ride_31 : decode cX10_ride 31 = .ok (.pop, 1) := by decide +kernel
theorem dX10_ride_32 : decode cX10_ride 32 = .ok (.iinc 5 1, 3) := by decide +kernel
theorem dX10_ride_35 : decode cX10_ride 35 = .ok (.goto (-20), 3) := by decide +kernel
theorem dX10_ride_38 : decode cX10_ride 38 = .ok (.iload 4, 2) := by decide +kernel
theorem dX10_ride_40 : decode cX10_ride 40 = .ok (.ireturn, 1) := by decide +kernel
theorem dX2_init_0 : decode cX2_init 0 = .ok (.aload_n 0, 1) := by decide +kernel
theorem dX2_init_1 : decode cX2_init 1 = .ok (.iload_n 1, 1) := by decide +kernel
theorem dX2_init_2 : decode cX2_init 2 = .ok (.invokespecial 1, 3) := by decide +kernel
theorem dX2_init_5 : decode cX2_init 5 = .ok (.return_, 1) := by decide +kernel
theorem dX2_warms_0 : decode cX2_warms 0 = .ok (.aload_n 0, 1) := by decide +kernel
theorem dX2_warms_1 : decode cX2_warms 1 = .ok (.iload_n 1, 1) := by decide +kernel
theorem dX2_warms_2 : decode cX2_warms 2 = .ok (.iload_n 2, 1) := by decide +kernel
theorem dX2_warms_3 : decode cX2_warms 3 = .ok (.invokespecial 7, 3) := by decide +kernel
theorem dX2_warms_6 : decode cX2_warms 6 = .ok (.iload_n 2, 1) := by decide +kernel
theorem dX2_warms_7 : decode cX2_warms 7 = .ok (.iconst 3, 1) := by decide +kernel
theorem dX2_warms_8 : decode cX2_warms 8 = .ok (.idiv, 1) := by decide +kernel
theorem dX2_warms_9 : decode cX2_warms 9 = .ok (.iadd, 1) := by decide +kernel
theorem dX2_warms_10 : decode cX2_warms 10 = .ok (.ireturn, 1) := by decide +kernel
theorem dX2_turns_0 : decode cX2_turns 0 = .ok (.bipush 80, 2) := by decide +kernel
theorem dX2_turns_2 : decode cX2_turns 2 = .ok (.ireturn, 1) := by decide +kernel
theorem dX2_shakes_0 : decode cX2_shakes 0 = .ok (.aload_n 2, 1) := by decide +kernel
theorem dX2_shakes_1 : decode cX2_shakes 1 = .ok (.bipush 20, 2) := by decide +kernel
theorem dX2_shakes_3 : decode cX2_shakes 3 = .ok (.invokestatic 11, 3) := by decide +kernel
theorem dX2_shakes_6 : decode cX2_shakes 6 = .ok (.aload_n 0, 1) := by decide +kernel
theorem dX2_shakes_7 : decode cX2_shakes 7 = .ok (.aload_n 1, 1) := by decide +kernel
theorem dX2_shakes_8 : decode cX2_shakes 8 = .ok (.aload_n 2, 1) := by decide +kernel
theorem dX2_shakes_9 : decode cX2_shakes 9 = .ok (.iload_n 3, 1) := by decide +kernel
theorem dX2_shakes_10 : decode cX2_shakes 10 = .ok (.invokespecial 17, 3) := by decide +kernel
theorem dX2_shakes_13 : decode cX2_shakes 13 = .ok (.istore 4, 2) := by decide +kernel
theorem dX2_shakes_15 : decode cX2_shakes 15 = .ok (.iload 4, 2) := by decide +kernel
theorem dX2_shakes_17 : decode cX2_shakes 17 = .ok (.aload_n 1, 1) := by decide +kernel
theorem dX2_shakes_18 : decode cX2_shakes 18 = .ok (.getfield 21, 3) := by decide +kernel
theorem dX2_shakes_21 : decode cX2_shakes 21 = .ok (.aload_n 1, 1) := by decide +kernel
theorem dX2_shakes_22 : decode cX2_shakes 22 = .ok (.aload_n 2, 1) := by decide +kernel
theorem dX2_shakes_23 : decode cX2_shakes 23 = .ok (.iconst 1, 1) := by decide +kernel
theorem dX2_shakes_24 : decode cX2_shakes 24 = .ok (.invokevirtual 27, 3) := by decide +kernel
theorem dX2_shakes_27 : decode cX2_shakes 27 = .ok (.isub, 1) := by decide +kernel
theorem dX2_shakes_28 : decode cX2_shakes 28 = .ok (.ireturn, 1) := by decide +kernel
theorem dX3_init_0 : decode cX3_init 0 = .ok (.aload_n 0, 1) := by decide +kernel
theorem dX3_init_1 : decode cX3_init 1 = .ok (.invokespecial 3, 3) := by decide +kernel
theorem dX3_init_4 : decode cX3_init 4 = .ok (.aload_n 0, 1) := by decide +kernel
theorem dX3_init_5 : decode cX3_init 5 = .ok (.iload_n 1, 1) := by decide +kernel
theorem dX3_init_6 : decode cX3_init 6 = .ok (.putfield 9, 3) := by decide +kernel
theorem dX3_init_9 : decode cX3_init 9 = .ok (.return_, 1) := by decide +kernel
theorem dX3_isUnder_0 : decode cX3_isUnder 0 = .ok (.iload_n 1, 1) := by decide +kernel
theorem dX3_isUnder_1 : decode cX3_isUnder 1 = .ok (.ifCond .eq 21, 3) := by decide +kernel
theorem dX3_isUnder_4 : decode cX3_isUnder 4 = .ok (.iload_n 1, 1) := by decide +kernel
theorem dX3_isUnder_5 : decode cX3_isUnder 5 = .ok (.aload_n 0, 1) := by decide +kernel
theorem dX3_isUnder_6 : decode cX3_isUnder 6 = .ok (.getfield 9, 3) := by decide +kernel
theorem dX3_isUnder_9 : decode cX3_isUnder 9 = .ok (.if_icmp .eq 13, 3) := by decide +kernel
theorem dX3_isUnder_12 : decode cX3_isUnder 12 = .ok (.iload_n 1, 1) := by decide +kernel
theorem dX3_isUnder_13 : decode cX3_isUnder 13 = .ok (.iconst 3, 1) := by decide +kernel
theorem dX3_isUnder_14 : decode cX3_isUnder 14 = .ok (.iadd, 1) := by decide +kernel
theorem dX3_isUnder_15 : decode cX3_isUnder 15 = .ok (.aload_n 0, 1) := by decide +kernel
theorem dX3_isUnder_16 : decode cX3_isUnder 16 = .ok (.getfield 9, 3) := by decide +kernel
theorem dX3_isUnder_19 : decode cX3_isUnder 19 = .ok (.if_icmp .ne 7, 3) := by decide +kernel
theorem dX3_isUnder_22 : decode cX3_isUnder 22 = .ok (.iconst 1, 1) := by decide +kernel
theorem dX3_isUnder_23 : decode cX3_isUnder 23 = .ok (.goto 4, 3) := by decide +kernel
theorem dX3_isUnder_26 : decode cX3_isUnder 26 = .ok (.iconst 0, 1) := by decide +kernel
theorem dX3_isUnder_27 : decode cX3_isUnder 27 = .ok (.ireturn, 1) := by decide +kernel
theorem dX3_warms_0 : decode cX3_warms 0 = .ok (.iload_n 1, 1) := by decide +kernel
theorem dX3_warms_1 : decode cX3_warms 1 = .ok (.ireturn, 1) := by decide +kernel
theorem dX3_jolts_0 : decode cX3_jolts 0 = .ok (.iload_n 1, 1) := by decide +kernel
theorem dX3_jolts_1 : decode cX3_jolts 1 = .ok (.ireturn, 1) := by decide +kernel
theorem dX3_turns_0 : decode cX3_turns 0 = .ok (.bipush 100, 2) := by decide +kernel
theorem dX3_turns_2 : decode cX3_turns 2 = .ok (.ireturn, 1) := by decide +kernel
theorem dX3_fills_0 : decode cX3_fills 0 = .ok (.aload_n 2, 1) := by decide +kernel
theorem dX3_fills_1 : decode cX3_fills 1 = .ok (.bipush 10, 2) := by decide +kernel
theorem dX3_fills_3 : decode cX3_fills 3 = .ok (.invokestatic 15, 3) := by decide +kernel
theorem dX3_fills_6 : decode cX3_fills 6 = .ok (.iload_n 3, 1) := by decide +kernel
theorem dX3_fills_7 : decode cX3_fills 7 = .ok (.aload_n 1, 1) := by decide +kernel
theorem dX3_fills_8 : decode cX3_fills 8 = .ok (.getfield 19, 3) := by decide +kernel
theorem dX3_fills_11 : decode cX3_fills 11 = .ok (.iadd, 1) := by decide +kernel
theorem dX3_fills_12 : decode cX3_fills 12 = .ok (.ireturn, 1) := by decide +kernel
theorem dX3_shakes_0 : decode cX3_shakes 0 = .ok (.aload_n 2, 1) := by decide +kernel
theorem dX3_shakes_1 : decode cX3_shakes 1 = .ok (.bipush 11, 2) := by decide +kernel
theorem dX3_shakes_3 : decode cX3_shakes 3 = .ok (.invokestatic 15, 3) := by decide +kernel
theorem dX3_shakes_6 : decode cX3_shakes 6 = .ok (.aload_n 1, 1) := by decide +kernel
theorem dX3_shakes_7 : decode cX3_shakes 7 = .ok (.getfield 22, 3) := by decide +kernel
theorem dX3_shakes_10 : decode cX3_shakes 10 = .ok (.aload_n 1, 1) := by decide +kernel
theorem dX3_shakes_11 : decode cX3_shakes 11 = .ok (.aload_n 2, 1) := by decide +kernel
theorem dX3_shakes_12 : decode cX3_shakes 12 = .ok (.iload_n 3, 1) := by decide +kernel
theorem dX3_shakes_13 : decode cX3_shakes 13 = .ok (.invokevirtual 26, 3) := by decide +kernel
theorem dX3_shakes_16 : decode cX3_shakes 16 = .ok (.iconst 2, 1) := by decide +kernel
theorem dX3_shakes_17 : decode cX3_shakes 17 = .ok (.imul, 1) := by decide +kernel
theorem dX3_shakes_18 : decode cX3_shakes 18 = .ok (.ireturn, 1) := by decide +kernel
theorem dX3_cools_0 : decode cX3_cools 0 = .ok (.aload_n 2, 1) := by decide +kernel
theorem dX3_cools_1 : decode cX3_cools 1 = .ok (.bipush 12, 2) := by decide +kernel
theorem dX3_cools_3 : decode cX3_cools 3 = .ok (.invokestatic 15, 3) := by decide +kernel
theorem dX3_cools_6 : decode cX3_cools 6 = .ok (.iload_n 3, 1) := by decide +kernel
theorem dX3_cools_7 : decode cX3_cools 7 = .ok (.aload_n 1, 1) := by decide +kernel
theorem dX3_cools_8 : decode cX3_cools 8 = .ok (.getfield 30, 3) := by decide +kernel
theorem dX3_cools_11 : decode cX3_cools 11 = .ok (.isub, 1) := by decide +kernel
theorem dX3_cools_12 : decode cX3_cools 12 = .ok (.ireturn, 1) := by decide +kernel
theorem dX3_tells_0 : decode cX3_tells 0 = .ok (.aload_n 2, 1) := by decide +kernel
theorem dX3_tells_1 : decode cX3_tells 1 = .ok (.bipush 13, 2) := by decide +kernel
theorem dX3_tells_3 : decode cX3_tells 3 = .ok (.invokestatic 15, 3) := by decide +kernel
theorem dX3_tells_6 : decode cX3_tells 6 = .ok (.aload_n 1, 1) := by decide +kernel
theorem dX3_tells_7 : decode cX3_tells 7 = .ok (.getfield 22, 3) := by decide +kernel
theorem dX3_tells_10 : decode cX3_tells 10 = .ok (.aload_n 1, 1) := by decide +kernel
theorem dX3_tells_11 : decode cX3_tells 11 = .ok (.aload_n 2, 1) := by decide +kernel
theorem dX3_tells_12 : decode cX3_tells 12 = .ok (.iload_n 3, 1) := by decide +kernel
theorem dX3_tells_13 : decode cX3_tells 13 = .ok (.invokevirtual 33, 3) := by decide +kernel
theorem dX3_tells_16 : decode cX3_tells 16 = .ok (.istore 4, 2) := by decide +kernel
theorem dX3_tells_18 : decode cX3_tells 18 = .ok (.iload 4, 2) := by decide +kernel
theorem dX3_tells_20 : decode cX3_tells 20 = .ok (.aload_n 1, 1) := by decide +kernel
theorem dX3_tells_21 : decode cX3_tells 21 = .ok (.getfield 22, 3) := by decide +kernel
theorem dX3_tells_24 : decode cX3_tells 24 = .ok (.aload_n 1, 1) := by decide +kernel
theorem dX3_tells_25 : decode cX3_tells 25 = .ok (.aload_n 2, 1) := by decide +kernel
theorem dX3_tells_26 : decode cX3_tells 26 = .ok (.iload_n 3, 1) := by decide +kernel
theorem dX3_tells_27 : decode cX3_tells 27 = .ok (.invokevirtual 36, 3) := by decide +kernel
theorem dX3_tells_30 : decode cX3_tells 30 = .ok (.ixor, 1) := by decide +kernel
theorem dX3_tells_31 : decode cX3_tells 31 = .ok (.ireturn, 1) := by decide +kernel
theorem dX3_begin_0 : decode cX3_begin 0 = .ok (.aload_n 0, 1) := by decide +kernel
theorem dX3_begin_1 : decode cX3_begin 1 = .ok (.iconst 0, 1) := by decide +kernel
theorem dX3_begin_2 : decode cX3_begin 2 = .ok (.iaload, 1) := by decide +kernel
theorem dX3_begin_3 : decode cX3_begin 3 = .ok (.bipush 40, 2) := by decide +kernel
theorem dX3_begin_5 : decode cX3_begin 5 = .ok (.if_icmp .ge 16, 3) := by decide +kernel
theorem dX3_begin_8 : decode cX3_begin 8 = .ok (.aload_n 0, 1) := by decide +kernel
theorem dX3_begin_9 : decode cX3_begin 9 = .ok (.iconst 0, 1) := by decide +kernel
theorem dX3_begin_10 : decode cX3_begin 10 = .ok (.dup2, 1) := by decide +kernel
theorem dX3_begin_11 : decode cX3_begin 11 = .ok (.iaload, 1) := by decide +kernel
theorem dX3_begin_12 : decode cX3_begin 12 = .ok (.iconst 1, 1) := by decide +kernel
theorem dX3_begin_13 : decode cX3_begin 13 = .ok (.iadd, 1) := by decide +kernel
theorem dX3_begin_14 : decode cX3_begin 14 = .ok (.iastore, 1) := by decide +kernel
theorem dX3_begin_15 : decode cX3_begin 15 = .ok (.aload_n 0, 1) := by decide +kernel
theorem dX3_begin_16 : decode cX3_begin 16 = .ok (.aload_n 0, 1) := by decide +kernel
theorem dX3_begin_17 : decode cX3_begin 17 = .ok (.iconst 0, 1) := by decide +kernel
theorem dX3_begin_18 : decode cX3_begin 18 = .ok (.iaload, 1) := by decide +kernel
theorem dX3_begin_19 : decode cX3_begin 19 = .ok (.iload_n 1, 1) := by decide +kernel
theorem dX3_begin_20 : decode cX3_begin 20 = .ok (.iastore, 1) := by decide +kernel
theorem dX3_begin_21 : decode cX3_begin 21 = .ok (.return_, 1) := by decide +kernel
theorem dX4_init_0 : decode cX4_init 0 = .ok (.aload_n 0, 1) := by decide +kernel
theorem dX4_init_1 : decode cX4_init 1 = .ok (.iload_n 1, 1) := by decide +kernel
theorem dX4_init_2 : decode cX4_init 2 = .ok (.invokespecial 1, 3) := by decide +kernel
theorem dX4_init_5 : decode cX4_init 5 = .ok (.return_, 1) := by decide +kernel
theorem dX4_warms_0 : decode cX4_warms 0 = .ok (.aload_n 0, 1) := by decide +kernel
theorem dX4_warms_1 : decode cX4_warms 1 = .ok (.iload_n 1, 1) := by decide +kernel
theorem dX4_warms_2 : decode cX4_warms 2 = .ok (.iload_n 2, 1) := by decide +kernel
theorem dX4_warms_3 : decode cX4_warms 3 = .ok (.invokespecial 7, 3) := by decide +kernel
theorem dX4_warms_6 : decode cX4_warms 6 = .ok (.iconst 2, 1) := by decide +kernel
theorem dX4_warms_7 : decode cX4_warms 7 = .ok (.idiv, 1) := by decide +kernel
theorem dX4_warms_8 : decode cX4_warms 8 = .ok (.ireturn, 1) := by decide +kernel
theorem dX4_fills_0 : decode cX4_fills 0 = .ok (.aload_n 2, 1) := by decide +kernel
theorem dX4_fills_1 : decode cX4_fills 1 = .ok (.bipush 30, 2) := by decide +kernel
theorem dX4_fills_3 : decode cX4_fills 3 = .ok (.invokestatic 11, 3) := by decide +kernel
theorem dX4_fills_6 : decode cX4_fills 6 = .ok (.aload_n 0, 1) := by decide +kernel
theorem dX4_fills_7 : decode cX4_fills 7 = .ok (.aload_n 1, 1) := by decide +kernel
theorem dX4_fills_8 : decode cX4_fills 8 = .ok (.aload_n 2, 1) := by decide +kernel
theorem dX4_fills_9 : decode cX4_fills 9 = .ok (.iload_n 3, 1) := by decide +kernel
theorem dX4_fills_10 : decode cX4_fills 10 = .ok (.invokespecial 17, 3) := by decide +kernel
theorem dX4_fills_13 : decode cX4_fills 13 = .ok (.iconst 3, 1) := by decide +kernel
theorem dX4_fills_14 : decode cX4_fills 14 = .ok (.imul, 1) := by decide +kernel
theorem dX4_fills_15 : decode cX4_fills 15 = .ok (.ireturn, 1) := by decide +kernel
theorem dX5_init_0 : decode cX5_init 0 = .ok (.aload_n 0, 1) := by decide +kernel
theorem dX5_init_1 : decode cX5_init 1 = .ok (.iload_n 1, 1) := by decide +kernel
theorem dX5_init_2 : decode cX5_init 2 = .ok (.invokespecial 1, 3) := by decide +kernel
theorem dX5_init_5 : decode cX5_init 5 = .ok (.return_, 1) := by decide +kernel
theorem dX5_warms_0 : decode cX5_warms 0 = .ok (.aload_n 0, 1) := by decide +kernel
theorem dX5_warms_1 : decode cX5_warms 1 = .ok (.iload_n 1, 1) := by decide +kernel
theorem dX5_warms_2 : decode cX5_warms 2 = .ok (.iload_n 2, 1) := by decide +kernel
theorem dX5_warms_3 : decode cX5_warms 3 = .ok (.invokespecial 7, 3) := by decide +kernel
theorem dX5_warms_6 : decode cX5_warms 6 = .ok (.iconst 2, 1) := by decide +kernel
theorem dX5_warms_7 : decode cX5_warms 7 = .ok (.iadd, 1) := by decide +kernel
theorem dX5_warms_8 : decode cX5_warms 8 = .ok (.ireturn, 1) := by decide +kernel
theorem dX5_jolts_0 : decode cX5_jolts 0 = .ok (.aload_n 0, 1) := by decide +kernel
theorem dX5_jolts_1 : decode cX5_jolts 1 = .ok (.iload_n 1, 1) := by decide +kernel
theorem dX5_jolts_2 : decode cX5_jolts 2 = .ok (.iload_n 2, 1) := by decide +kernel
theorem dX5_jolts_3 : decode cX5_jolts 3 = .ok (.invokespecial 11, 3) := by decide +kernel
theorem dX5_jolts_6 : decode cX5_jolts 6 = .ok (.iload_n 2, 1) := by decide +kernel
theorem dX5_jolts_7 : decode cX5_jolts 7 = .ok (.iadd, 1) := by decide +kernel
theorem dX5_jolts_8 : decode cX5_jolts 8 = .ok (.ireturn, 1) := by decide +kernel
theorem dX5_cools_0 : decode cX5_cools 0 = .ok (.aload_n 2, 1) := by decide +kernel
theorem dX5_cools_1 : decode cX5_cools 1 = .ok (.bipush 70, 2) := by decide +kernel
theorem dX5_cools_3 : decode cX5_cools 3 = .ok (.invokestatic 14, 3) := by decide +kernel
theorem dX5_cools_6 : decode cX5_cools 6 = .ok (.aload_n 0, 1) := by decide +kernel
theorem dX5_cools_7 : decode cX5_cools 7 = .ok (.aload_n 1, 1) := by decide +kernel
theorem dX5_cools_8 : decode cX5_cools 8 = .ok (.aload_n 2, 1) := by decide +kernel
theorem dX5_cools_9 : decode cX5_cools 9 = .ok (.iload_n 3, 1) := by decide +kernel
theorem dX5_cools_10 : decode cX5_cools 10 = .ok (.invokespecial 20, 3) := by decide +kernel
theorem dX5_cools_13 : decode cX5_cools 13 = .ok (.aload_n 1, 1) := by decide +kernel
theorem dX5_cools_14 : decode cX5_cools 14 = .ok (.getfield 24, 3) := by decide +kernel
theorem dX5_cools_17 : decode cX5_cools 17 = .ok (.ixor, 1) := by decide +kernel
theorem dX5_cools_18 : decode cX5_cools 18 = .ok (.ireturn, 1) := by decide +kernel
theorem dX5_tells_0 : decode cX5_tells 0 = .ok (.aload_n 2, 1) := by decide +kernel
theorem dX5_tells_1 : decode cX5_tells 1 = .ok (.bipush 71, 2) := by decide +kernel
theorem dX5_tells_3 : decode cX5_tells 3 = .ok (.invokestatic 14, 3) := by decide +kernel
theorem dX5_tells_6 : decode cX5_tells 6 = .ok (.aload_n 1, 1) := by decide +kernel
theorem dX5_tells_7 : decode cX5_tells 7 = .ok (.getfield 30, 3) := by decide +kernel
theorem dX5_tells_10 : decode cX5_tells 10 = .ok (.aload_n 1, 1) := by decide +kernel
theorem dX5_tells_11 : decode cX5_tells 11 = .ok (.aload_n 2, 1) := by decide +kernel
theorem dX5_tells_12 : decode cX5_tells 12 = .ok (.iload_n 3, 1) := by decide +kernel
theorem dX5_tells_13 : decode cX5_tells 13 = .ok (.invokevirtual 34, 3) := by decide +kernel
theorem dX5_tells_16 : decode cX5_tells 16 = .ok (.istore 4, 2) := by decide +kernel
theorem dX5_tells_18 : decode cX5_tells 18 = .ok (.iload 4, 2) := by decide +kernel
theorem dX5_tells_20 : decode cX5_tells 20 = .ok (.aload_n 0, 1) := by decide +kernel
theorem dX5_tells_21 : decode cX5_tells 21 = .ok (.aload_n 1, 1) := by decide +kernel
theorem dX5_tells_22 : decode cX5_tells 22 = .ok (.aload_n 2, 1) := by decide +kernel
theorem dX5_tells_23 : decode cX5_tells 23 = .ok (.iload_n 3, 1) := by decide +kernel
theorem dX5_tells_24 : decode cX5_tells 24 = .ok (.invokespecial 39, 3) := by decide +kernel
theorem dX5_tells_27 : decode cX5_tells 27 = .ok (.isub, 1) := by decide +kernel
theorem dX5_tells_28 : decode cX5_tells 28 = .ok (.ireturn, 1) := by decide +kernel
theorem dX6_init_0 : decode cX6_init 0 = .ok (.aload_n 0, 1) := by decide +kernel
theorem dX6_init_1 : decode cX6_init 1 = .ok (.invokespecial 5, 3) := by decide +kernel
theorem dX6_init_4 : decode cX6_init 4 = .ok (.aload_n 0, 1) := by decide +kernel
theorem dX6_init_5 : decode cX6_init 5 = .ok (.sipush 6588, 3) := by decide +kernel
theorem dX6_init_8 : decode cX6_init 8 = .ok (.newarray .long, 2) := by decide +kernel
theorem dX6_init_10 : decode cX6_init 10 = .ok (.putfield 11, 3) := by decide +kernel
theorem dX6_init_13 : decode cX6_init 13 = .ok (.aload_n 0, 1) := by decide +kernel
theorem dX6_init_14 : decode cX6_init 14 = .ok (.sipush 549, 3) := by decide +kernel
theorem dX6_init_17 : decode cX6_init 17 = .ok (.newarray .int, 2) := by decide +kernel
theorem dX6_init_19 : decode cX6_init 19 = .ok (.putfield 15, 3) := by decide +kernel
theorem dX6_init_22 : decode cX6_init 22 = .ok (.aload_n 0, 1) := by decide +kernel
theorem dX6_init_23 : decode cX6_init 23 = .ok (.bipush 9, 2) := by decide +kernel
theorem dX6_init_25 : decode cX6_init 25 = .ok (.newarray .boolean, 2) := by decide +kernel
theorem dX6_init_27 : decode cX6_init 27 = .ok (.putfield 19, 3) := by decide +kernel
theorem dX6_init_30 : decode cX6_init 30 = .ok (.aload_n 0, 1) := by decide +kernel
theorem dX6_init_31 : decode cX6_init 31 = .ok (.iconst 4, 1) := by decide +kernel
theorem dX6_init_32 : decode cX6_init 32 = .ok (.newarray .int, 2) := by decide +kernel
theorem dX6_init_34 : decode cX6_init 34 = .ok (.putfield 23, 3) := by decide +kernel
theorem dX6_init_37 : decode cX6_init 37 = .ok (.aload_n 0, 1) := by decide +kernel
theorem dX6_init_38 : decode cX6_init 38 = .ok (.iconst 4, 1) := by decide +kernel
theorem dX6_init_39 : decode cX6_init 39 = .ok (.newarray .int, 2) := by decide +kernel
theorem dX6_init_41 : decode cX6_init 41 = .ok (.putfield 26, 3) := by decide +kernel
theorem dX6_init_44 : decode cX6_init 44 = .ok (.return_, 1) := by decide +kernel
theorem dX6_prepare_0 : decode cX6_prepare 0 = .ok (.aload_n 0, 1) := by decide +kernel
theorem dX6_prepare_1 : decode cX6_prepare 1 = .ok (.iconst 0, 1) := by decide +kernel
theorem dX6_prepare_2 : decode cX6_prepare 2 = .ok (.bipush 60, 2) := by decide +kernel
theorem dX6_prepare_4 : decode cX6_prepare 4 = .ok (.iload_n 3, 1) := by decide +kernel
theorem dX6_prepare_5 : decode cX6_prepare 5 = .ok (.invokestatic 29, 3) := by decide +kernel
theorem dX6_prepare_8 : decode cX6_prepare 8 = .ok (.invokestatic 35, 3) := by decide +kernel
theorem dX6_prepare_11 : decode cX6_prepare 11 = .ok (.putfield 38, 3) := by decide +kernel
theorem dX6_prepare_14 : decode cX6_prepare 14 = .ok (.aload_n 0, 1) := by decide +kernel
theorem dX6_prepare_15 : decode cX6_prepare 15 = .ok (.iconst 0, 1) := by decide +kernel
theorem dX6_prepare_16 : decode cX6_prepare 16 = .ok (.bipush 8, 2) := by decide +kernel
theorem dX6_prepare_18 : decode cX6_prepare 18 = .ok (.aload_n 2, 1) := by decide +kernel
theorem dX6_prepare_19 : decode cX6_prepare 19 = .ok (.getfield 42, 3) := by decide +kernel
theorem dX6_prepare_22 : decode cX6_prepare 22 = .ok (.invokestatic 29, 3) := by decide +kernel
theorem dX6_prepare_25 : decode cX6_prepare 25 = .ok (.invokestatic 35, 3) := by decide +kernel
theorem dX6_prepare_28 : decode cX6_prepare 28 = .ok (.putfield 47, 3) := by decide +kernel
theorem dX6_prepare_31 : decode cX6_prepare 31 = .ok (.aload_n 0, 1) := by decide +kernel
theorem dX6_prepare_32 : decode cX6_prepare 32 = .ok (.aload_n 2, 1) := by decide +kernel
theorem dX6_prepare_33 : decode cX6_prepare 33 = .ok (.getfield 50, 3) := by decide +kernel
theorem dX6_prepare_36 : decode cX6_prepare 36 = .ok (.putfield 53, 3) := by decide +kernel
theorem dX6_prepare_39 : decode cX6_prepare 39 = .ok (.aload_n 0, 1) := by decide +kernel
theorem dX6_prepare_40 : decode cX6_prepare 40 = .ok (.aload_n 2, 1) := by decide +kernel
theorem dX6_prepare_41 : decode cX6_prepare 41 = .ok (.getfield 54, 3) := by decide +kernel
theorem dX6_prepare_44 : decode cX6_prepare 44 = .ok (.putfield 57, 3) := by decide +kernel
theorem dX6_prepare_47 : decode cX6_prepare 47 = .ok (.aload_n 0, 1) := by decide +kernel
theorem dX6_prepare_48 : decode cX6_prepare 48 = .ok (.aload_n 2, 1) := by decide +kernel
theorem dX6_prepare_49 : decode cX6_prepare 49 = .ok (.getfield 58, 3) := by decide +kernel
theorem dX6_prepare_52 : decode cX6_prepare 52 = .ok (.aload_n 2, 1) := by decide +kernel
theorem dX6_prepare_53 : decode cX6_prepare 53 = .ok (.getfield 62, 3) := by decide +kernel
theorem dX6_prepare_56 : decode cX6_prepare 56 = .ok (.invokevirtual 65, 3) := by decide +kernel
theorem dX6_prepare_59 : decode cX6_prepare 59 = .ok (.putfield 71, 3) := by decide +kernel
theorem dX6_prepare_62 : decode cX6_prepare 62 = .ok (.aload_n 0, 1) := by decide +kernel
theorem dX6_prepare_63 : decode cX6_prepare 63 = .ok (.bipush 60, 2) := by decide +kernel
theorem dX6_prepare_65 : decode cX6_prepare 65 = .ok (.putfield 73, 3) := by decide +kernel
theorem dX6_prepare_68 : decode cX6_prepare 68 = .ok (.iconst 0, 1) := by decide +kernel
theorem dX6_prepare_69 : decode cX6_prepare 69 = .ok (.istore 4, 2) := by decide +kernel
theorem dX6_prepare_71 : decode cX6_prepare 71 = .ok (.iload 4, 2) := by decide +kernel
theorem dX6_prepare_73 : decode cX6_prepare 73 = .ok (.iconst 4, 1) := by decide +kernel
theorem dX6_prepare_74 : decode cX6_prepare 74 = .ok (.if_icmp .ge 74, 3) := by decide +kernel
theorem dX6_prepare_77 : decode cX6_prepare 77 = .ok (.aload_n 0, 1) := by decide +kernel
theorem dX6_prepare_78 : decode cX6_prepare 78 = .ok (.getfield 23, 3) := by decide +kernel
theorem dX6_prepare_81 : decode cX6_prepare 81 = .ok (.iload 4, 2) := by decide +kernel
theorem dX6_prepare_83 : decode cX6_prepare 83 = .ok (.aload_n 1, 1) := by decide +kernel
theorem dX6_prepare_84 : decode cX6_prepare 84 = .ok (.getfield 76, 3) := by decide +kernel
theorem dX6_prepare_87 : decode cX6_prepare 87 = .ok (.iload 4, 2) := by decide +kernel
theorem dX6_prepare_89 : decode cX6_prepare 89 = .ok (.iaload, 1) := by decide +kernel
theorem dX6_prepare_90 : decode cX6_prepare 90 = .ok (.iastore, 1) := by decide +kernel
theorem dX6_prepare_91 : decode cX6_prepare 91 = .ok (.aload_n 0, 1) := by decide +kernel
theorem dX6_prepare_92 : decode cX6_prepare 92 = .ok (.getfield 26, 3) := by decide +kernel
theorem dX6_prepare_95 : decode cX6_prepare 95 = .ok (.iload 4, 2) := by decide +kernel
theorem dX6_prepare_97 : decode cX6_prepare 97 = .ok (.aload_n 1, 1) := by decide +kernel
theorem dX6_prepare_98 : decode cX6_prepare 98 = .ok (.getfield 76, 3) := by decide +kernel
theorem dX6_prepare_101 : decode cX6_prepare 101 = .ok (.iload 4, 2) := by decide +kernel
theorem dX6_prepare_103 : decode cX6_prepare 103 = .ok (.iaload, 1) := by decide +kernel
theorem dX6_prepare_104 : decode cX6_prepare 104 = .ok (.aload_n 2, 1) := by decide +kernel
theorem dX6_prepare_105 : decode cX6_prepare 105 = .ok (.getfield 58, 3) := by decide +kernel
theorem dX6_prepare_108 : decode cX6_prepare 108 = .ok (.aload_n 1, 1) := by decide +kernel
theorem dX6_prepare_109 : decode cX6_prepare 109 = .ok (.getfield 79, 3) := by decide +kernel
theorem dX6_prepare_112 : decode cX6_prepare 112 = .ok (.iload 4, 2) := by decide +kernel
theorem dX6_prepare_114 : decode cX6_prepare 114 = .ok (.iaload, 1) := by decide +kernel
theorem dX6_prepare_115 : decode cX6_prepare 115 = .ok (.aload_n 2, 1) := by decide +kernel
theorem dX6_prepare_116 : decode cX6_prepare 116 = .ok (.getfield 62, 3) := by decide +kernel
theorem dX6_prepare_119 : decode cX6_prepare 119 = .ok (.invokevirtual 82, 3) := by decide +kernel
theorem dX6_prepare_122 : decode cX6_prepare 122 = .ok (.imul, 1) := by decide +kernel
theorem dX6_prepare_123 : decode cX6_prepare 123 = .ok (.iastore, 1) := by decide +kernel
theorem dX6_prepare_124 : decode cX6_prepare 124 = .ok (.aload_n 0, 1) := by decide +kernel
theorem dX6_prepare_125 : decode cX6_prepare 125 = .ok (.aload_n 0, 1) := by decide +kernel
theorem dX6_prepare_126 : decode cX6_prepare 126 = .ok (.getfield 73, 3) := by decide +kernel
theorem dX6_prepare_129 : decode cX6_prepare 129 = .ok (.aload_n 0, 1) := by decide +kernel
theorem dX6_prepare_130 : decode cX6_prepare 130 = .ok (.getfield 23, 3) := by decide +kernel
theorem dX6_prepare_133 : decode cX6_prepare 133 = .ok (.iload 4, 2) := by decide +kernel
theorem dX6_prepare_135 : decode cX6_prepare 135 = .ok (.iaload, 1) := by decide +kernel
theorem dX6_prepare_136 : decode cX6_prepare 136 = .ok (.invokestatic 29, 3) := by decide +kernel
theorem dX6_prepare_139 : decode cX6_prepare 139 = .ok (.putfield 73, 3) := by decide +kernel
theorem dX6_prepare_142 : decode cX6_prepare 142 = .ok (.iinc 4 1, 3) := by decide +kernel
theorem dX6_prepare_145 : decode cX6_prepare 145 = .ok (.goto (-74), 3) := by decide +kernel
theorem dX6_prepare_148 : decode cX6_prepare 148 = .ok (.aload_n 0, 1) := by decide +kernel
theorem dX6_prepare_149 : decode cX6_prepare 149 = .ok (.getfield 47, 3) := by decide +kernel
theorem dX6_prepare_152 : decode cX6_prepare 152 = .ok (.istore 4, 2) := by decide +kernel
theorem dX6_prepare_154 : decode cX6_prepare 154 = .ok (.iload 4, 2) := by decide +kernel
theorem dX6_prepare_156 : decode cX6_prepare 156 = .ok (.bipush 9, 2) := by decide +kernel
theorem dX6_prepare_158 : decode cX6_prepare 158 = .ok (.if_icmp .ge 46, 3) := by decide +kernel
theorem dX6_prepare_161 : decode cX6_prepare 161 = .ok (.aload_n 0, 1) := by decide +kernel
theorem dX6_prepare_162 : decode cX6_prepare 162 = .ok (.getfield 19, 3) := by decide +kernel
theorem dX6_prepare_165 : decode cX6_prepare 165 = .ok (.iload 4, 2) := by decide +kernel
theorem dX6_prepare_167 : decode cX6_prepare 167 = .ok (.aload_n 1, 1) := by decide +kernel
theorem dX6_prepare_168 : decode cX6_prepare 168 = .ok (.getfield 84, 3) := by decide +kernel
theorem dX6_prepare_171 : decode cX6_prepare 171 = .ok (.iload 4, 2) := by decide +kernel
theorem dX6_prepare_173 : decode cX6_prepare 173 = .ok (.iaload, 1) := by decide +kernel
theorem dX6_prepare_174 : decode cX6_prepare 174 = .ok (.ifCond .le 7, 3) := by decide +kernel
theorem dX6_prepare_177 : decode cX6_prepare 177 = .ok (.iconst 1, 1) := by decide +kernel
theorem dX6_prepare_178 : decode cX6_prepare 178 = .ok (.goto 4, 3) := by decide +kernel
theorem dX6_prepare_181 : decode cX6_prepare 181 = .ok (.iconst 0, 1) := by decide +kernel
theorem dX6_prepare_182 : decode cX6_prepare 182 = .ok (.bastore, 1) := by decide +kernel
theorem dX6_prepare_183 : decode cX6_prepare 183 = .ok (.aload_n 0, 1) := by decide +kernel
theorem dX6_prepare_184 : decode cX6_prepare 184 = .ok (.aload_n 1, 1) := by decide +kernel
theorem dX6_prepare_185 : decode cX6_prepare 185 = .ok (.aload_n 2, 1) := by decide +kernel
theorem dX6_prepare_186 : decode cX6_prepare 186 = .ok (.iload 4, 2) := by decide +kernel
theorem dX6_prepare_188 : decode cX6_prepare 188 = .ok (.aload_n 1, 1) := by decide +kernel
theorem dX6_prepare_189 : decode cX6_prepare 189 = .ok (.getfield 87, 3) := by decide +kernel
theorem dX6_prepare_192 : decode cX6_prepare 192 = .ok (.iload 4, 2) := by decide +kernel
theorem dX6_prepare_194 : decode cX6_prepare 194 = .ok (.iaload, 1) := by decide +kernel
theorem dX6_prepare_195 : decode cX6_prepare 195 = .ok (.invokevirtual 90, 3) := by decide +kernel
theorem dX6_prepare_198 : decode cX6_prepare 198 = .ok (.iinc 4 1, 3) := by decide +kernel
theorem dX6_prepare_201 : decode cX6_prepare 201 = .ok (.goto (-47), 3) := by decide +kernel
theorem dX6_prepare_204 : decode cX6_prepare 204 = .ok (.aload_n 0, 1) := by decide +kernel
theorem dX6_prepare_205 : decode cX6_prepare 205 = .ok (.bipush 8, 2) := by decide +kernel
theorem dX6_prepare_207 : decode cX6_prepare 207 = .ok (.invokevirtual 94, 3) := by decide +kernel
theorem dX6_prepare_210 : decode cX6_prepare 210 = .ok (.return_, 1) := by decide +kernel
theorem dX6_sourInTown_0 : decode cX6_sourInTown 0 = .ok (.aload_n 0, 1) := by decide +kernel
theorem dX6_sourInTown_1 : decode cX6_sourInTown 1 = .ok (.getfield 53, 3) := by decide +kernel
theorem dX6_sourInTown_4 : decode cX6_sourInTown 4 = .ok (.aload_n 0, 1) := by decide +kernel
theorem dX6_sourInTown_5 : decode cX6_sourInTown 5 = .ok (.aload_n 0, 1) := by decide +kernel
theorem dX6_sourInTown_6 : decode cX6_sourInTown 6 = .ok (.getfield 47, 3) := by decide +kernel
theorem dX6_sourInTown_9 : decode cX6_sourInTown 9 = .ok (.iconst 0, 1) := by decide +kernel
theorem dX6_sourInTown_10 : decode cX6_sourInTown 10 = .ok (.aload_n 0, 1) := by decide +kernel
theorem dX6_sourInTown_11 : decode cX6_sourInTown 11 = .ok (.getfield 57, 3) := by decide +kernel
theorem dX6_sourInTown_14 : decode cX6_sourInTown 14 = .ok (.invokevirtual 98, 3) := by decide +kernel
theorem dX6_sourInTown_17 : decode cX6_sourInTown 17 = .ok (.iadd, 1) := by decide +kernel
theorem dX6_sourInTown_18 : decode cX6_sourInTown 18 = .ok (.istore_n 1, 1) := by decide +kernel
theorem dX6_sourInTown_19 : decode cX6_sourInTown 19 = .ok (.iload_n 1, 1) := by decide +kernel
theorem dX6_sourInTown_20 : decode cX6_sourInTown 20 = .ok (.aload_n 0, 1) := by decide +kernel
theorem dX6_sourInTown_21 : decode cX6_sourInTown 21 = .ok (.getfield 71, 3) := by decide +kernel
theorem dX6_sourInTown_24 : decode cX6_sourInTown 24 = .ok (.if_icmp .ge 7, 3) := by decide +kernel
theorem dX6_sourInTown_27 : decode cX6_sourInTown 27 = .ok (.iload_n 1, 1) := by decide +kernel
theorem dX6_sourInTown_28 : decode cX6_sourInTown 28 = .ok (.goto 4, 3) := by decide +kernel
theorem dX6_sourInTown_31 : decode cX6_sourInTown 31 = .ok (.iconst (-1), 1) := by decide +kernel
theorem dX6_sourInTown_32 : decode cX6_sourInTown 32 = .ok (.ireturn, 1) := by decide +kernel
theorem dX6_sourWithCellar_0 : decode cX6_sourWithCellar 0 = .ok (.iload_n 3, 1) := by decide +kernel
theorem dX6_sourWithCellar_1 : decode cX6_sourWithCellar 1 = .ok (.aload_n 0, 1) := by decide +kernel
theorem dX6_sourWithCellar_2 : decode cX6_sourWithCellar 2 = .ok (.getfield 47, 3) := by decide +kernel
theorem dX6_sourWithCellar_5 : decode cX6_sourWithCellar 5 = .ok (.bipush 8, 2) := by decide +kernel
theorem dX6_sourWithCellar_7 : decode cX6_sourWithCellar 7 = .ok (.invokestatic 102, 3) := by decide +kernel
theorem dX6_sourWithCellar_10 : decode cX6_sourWithCellar 10 = .ok (.ifCond .ne 8, 3) := by decide +kernel
theorem dX6_sourWithCellar_13 : decode cX6_sourWithCellar 13 = .ok (.aload_n 0, 1) := by decide +kernel
theorem dX6_sourWithCellar_14 : decode cX6_sourWithCellar 14 = .ok (.invokevirtual 106, 3) := by decide +kernel
theorem dX6_sourWithCellar_17 : decode cX6_sourWithCellar 17 = .ok (.ireturn, 1) := by decide +kernel
theorem dX6_sourWithCellar_18 : decode cX6_sourWithCellar 18 = .ok (.aload_n 0, 1) := by decide +kernel
theorem dX6_sourWithCellar_19 : decode cX6_sourWithCellar 19 = .ok (.aload_n 1, 1) := by decide +kernel
theorem dX6_sourWithCellar_20 : decode cX6_sourWithCellar 20 = .ok (.aload_n 2, 1) := by decide +kernel
theorem dX6_sourWithCellar_21 : decode cX6_sourWithCellar 21 = .ok (.iload_n 3, 1) := by decide +kernel
theorem dX6_sourWithCellar_22 : decode cX6_sourWithCellar 22 = .ok (.iconst 0, 1) := by decide +kernel
theorem dX6_sourWithCellar_23 : decode cX6_sourWithCellar 23 = .ok (.invokevirtual 90, 3) := by decide +kernel
theorem dX6_sourWithCellar_26 : decode cX6_sourWithCellar 26 = .ok (.aload_n 0, 1) := by decide +kernel
theorem dX6_sourWithCellar_27 : decode cX6_sourWithCellar 27 = .ok (.iload_n 3, 1) := by decide +kernel
theorem dX6_sourWithCellar_28 : decode cX6_sourWithCellar 28 = .ok (.invokevirtual 94, 3) := by decide +kernel
theorem dX6_sourWithCellar_31 : decode cX6_sourWithCellar 31 = .ok (.aload_n 0, 1) := by decide +kernel
theorem dX6_sourWithCellar_32 : decode cX6_sourWithCellar 32 = .ok (.invokevirtual 106, 3) := by decide +kernel
theorem dX6_sourWithCellar_35 : decode cX6_sourWithCellar 35 = .ok (.istore 4, 2) := by decide +kernel
theorem dX6_sourWithCellar_37 : decode cX6_sourWithCellar 37 = .ok (.aload_n 0, 1) := by decide +kernel
theorem dX6_sourWithCellar_38 : decode cX6_sourWithCellar 38 = .ok (.aload_n 1, 1) := by decide +kernel
theorem dX6_sourWithCellar_39 : decode cX6_sourWithCellar 39 = .ok (.aload_n 2, 1) := by decide +kernel
theorem dX6_sourWithCellar_40 : decode cX6_sourWithCellar 40 = .ok (.iload_n 3, 1) := by decide +kernel
theorem dX6_sourWithCellar_41 : decode cX6_sourWithCellar 41 = .ok (.aload_n 1, 1) := by decide +kernel
theorem dX6_sourWithCellar_42 : decode cX6_sourWithCellar 42 = .ok (.getfield 87, 3) := by decide +kernel
theorem dX6_sourWithCellar_45 : decode cX6_sourWithCellar 45 = .ok (.iload_n 3, 1) := by decide +kernel
theorem dX6_sourWithCellar_46 : decode cX6_sourWithCellar 46 = .ok (.iaload, 1) := by decide +kernel
theorem dX6_sourWithCellar_47 : decode cX6_sourWithCellar 47 = .ok (.invokevirtual 90, 3) := by decide +kernel
theorem dX6_sourWithCellar_50 : decode cX6_sourWithCellar 50 = .ok (.iload 4, 2) := by decide +kernel
theorem dX6_sourWithCellar_52 : decode cX6_sourWithCellar 52 = .ok (.ireturn, 1) := by decide +kernel
theorem dX6_choiceAt_0 : decode cX6_choiceAt 0 = .ok (.iconst 0, 1) := by decide +kernel
theorem dX6_choiceAt_1 : decode cX6_choiceAt 1 = .ok (.istore_n 2, 1) := by decide +kernel
theorem dX6_choiceAt_2 : decode cX6_choiceAt 2 = .ok (.aload_n 0, 1) := by decide +kernel
theorem dX6_choiceAt_3 : decode cX6_choiceAt 3 = .ok (.getfield 57, 3) := by decide +kernel
theorem dX6_choiceAt_6 : decode cX6_choiceAt 6 = .ok (.istore_n 3, 1) := by decide +kernel
theorem dX6_choiceAt_7 : decode cX6_choiceAt 7 = .ok (.aload_n 0, 1) := by decide +kernel
theorem dX6_choiceAt_8 : decode cX6_choiceAt 8 = .ok (.aload_n 0, 1) := by decide +kernel
theorem dX6_choiceAt_9 : decode cX6_choiceAt 9 = .ok (.getfield 47, 3) := by decide +kernel
theorem dX6_choiceAt_12 : decode cX6_choiceAt 12 = .ok (.iload_n 2, 1) := by decide +kernel
theorem dX6_choiceAt_13 : decode cX6_choiceAt 13 = .ok (.iload_n 3, 1) := by decide +kernel
theorem dX6_choiceAt_14 : decode cX6_choiceAt 14 = .ok (.invokevirtual 110, 3) := by decide +kernel
theorem dX6_choiceAt_17 : decode cX6_choiceAt 17 = .ok (.istore 4, 2) := by decide +kernel
theorem dX6_choiceAt_19 : decode cX6_choiceAt 19 = .ok (.aload_n 0, 1) := by decide +kernel
theorem dX6_choiceAt_20 : decode cX6_choiceAt 20 = .ok (.getfield 47, 3) := by decide +kernel
theorem dX6_choiceAt_23 : decode cX6_choiceAt 23 = .ok (.istore 5, 2) := by decide +kernel
theorem dX6_choiceAt_25 : decode cX6_choiceAt 25 = .ok (.iload 5, 2) := by decide +kernel
theorem dX6_choiceAt_27 : decode cX6_choiceAt 27 = .ok (.iload_n 1, 1) := by decide +kernel
theorem dX6_choiceAt_28 : decode cX6_choiceAt 28 = .ok (.if_icmp .ge 78, 3) := by decide +kernel
theorem dX6_choiceAt_31 : decode cX6_choiceAt 31 = .ok (.iload 4, 2) := by decide +kernel
theorem dX6_choiceAt_33 : decode cX6_choiceAt 33 = .ok (.bipush 10, 2) := by decide +kernel
theorem dX6_choiceAt_35 : decode cX6_choiceAt 35 = .ok (.irem, 1) := by decide +kernel
theorem dX6_choiceAt_36 : decode cX6_choiceAt 36 = .ok (.istore 6, 2) := by decide +kernel
theorem dX6_choiceAt_38 : decode cX6_choiceAt 38 = .ok (.iload_n 2, 1) := by decide +kernel
theorem dX6_choiceAt_39 : decode cX6_choiceAt 39 = .ok (.iload 4, 2) := by decide +kernel
theorem dX6_choiceAt_41 : decode cX6_choiceAt 41 = .ok (.bipush 10, 2) := by decide +kernel
theorem dX6_choiceAt_43 : decode cX6_choiceAt 43 = .ok (.idiv, 1) := by decide +kernel
theorem dX6_choiceAt_44 : decode cX6_choiceAt 44 = .ok (.iload 6, 2) := by decide +kernel
theorem dX6_choiceAt_46 : decode cX6_choiceAt 46 = .ok (.invokestatic 113, 3) := by decide +kernel
theorem dX6_choiceAt_49 : decode cX6_choiceAt 49 = .ok (.ifCond .eq 13, 3) := by decide +kernel
theorem dX6_choiceAt_52 : decode cX6_choiceAt 52 = .ok (.aload_n 0, 1) := by decide +kernel
theorem dX6_choiceAt_53 : decode cX6_choiceAt 53 = .ok (.getfield 23, 3) := by decide +kernel
theorem dX6_choiceAt_56 : decode cX6_choiceAt 56 = .ok (.iload 6, 2) := by decide +kernel
theorem dX6_choiceAt_58 : decode cX6_choiceAt 58 = .ok (.iaload, 1) := by decide +kernel
theorem dX6_choiceAt_59 : decode cX6_choiceAt 59 = .ok (.goto 4, 3) := by decide +kernel
theorem dX6_choiceAt_62 : decode cX6_choiceAt 62 = .ok (.iconst 0, 1) := by decide +kernel
theorem dX6_choiceAt_63 : decode cX6_choiceAt 63 = .ok (.iadd, 1) := by decide +kernel
theorem dX6_choiceAt_64 : decode cX6_choiceAt 64 = .ok (.iadd, 1) := by decide +kernel
theorem dX6_choiceAt_65 : decode cX6_choiceAt 65 = .ok (.istore_n 2, 1) := by decide +kernel
theorem dX6_choiceAt_66 : decode cX6_choiceAt 66 = .ok (.iload_n 3, 1) := by decide +kernel
theorem dX6_choiceAt_67 : decode cX6_choiceAt 67 = .ok (.iload 6, 2) := by decide +kernel
theorem dX6_choiceAt_69 : decode cX6_choiceAt 69 = .ok (.invokestatic 113, 3) := by decide +kernel
theorem dX6_choiceAt_72 : decode cX6_choiceAt 72 = .ok (.ifCond .eq 13, 3) := by decide +kernel
theorem dX6_choiceAt_75 : decode cX6_choiceAt 75 = .ok (.aload_n 0, 1) := by decide +kernel
theorem dX6_choiceAt_76 : decode cX6_choiceAt 76 = .ok (.getfield 26, 3) := by decide +kernel
theorem dX6_choiceAt_79 : decode cX6_choiceAt 79 = .ok (.iload 6, 2) := by decide +kernel
theorem dX6_choiceAt_81 : decode cX6_choiceAt 81 = .ok (.iaload, 1) := by decide +kernel
theorem dX6_choiceAt_82 : decode cX6_choiceAt 82 = .ok (.goto 4, 3) := by decide +kernel
theorem dX6_choiceAt_85 : decode cX6_choiceAt 85 = .ok (.iconst 0, 1) := by decide +kernel
theorem dX6_choiceAt_86 : decode cX6_choiceAt 86 = .ok (.iadd, 1) := by decide +kernel
theorem dX6_choiceAt_87 : decode cX6_choiceAt 87 = .ok (.istore_n 3, 1) := by decide +kernel
theorem dX6_choiceAt_88 : decode cX6_choiceAt 88 = .ok (.aload_n 0, 1) := by decide +kernel
theorem dX6_choiceAt_89 : decode cX6_choiceAt 89 = .ok (.iload 5, 2) := by decide +kernel
theorem dX6_choiceAt_91 : decode cX6_choiceAt 91 = .ok (.iconst 1, 1) := by decide +kernel
theorem dX6_choiceAt_92 : decode cX6_choiceAt 92 = .ok (.iadd, 1) := by decide +kernel
theorem dX6_choiceAt_93 : decode cX6_choiceAt 93 = .ok (.iload_n 2, 1) := by decide +kernel
theorem dX6_choiceAt_94 : decode cX6_choiceAt 94 = .ok (.iload_n 3, 1) := by decide +kernel
theorem dX6_choiceAt_95 : decode cX6_choiceAt 95 = .ok (.invokevirtual 110, 3) := by decide +kernel
theorem dX6_choiceAt_98 : decode cX6_choiceAt 98 = .ok (.istore 4, 2) := by decide +kernel
theorem dX6_choiceAt_100 : decode cX6_choiceAt 100 = .ok (.iinc 5 1, 3) := by decide +kernel
theorem dX6_choiceAt_103 : decode cX6_choiceAt 103 = .ok (.goto (-78), 3) := by decide +kernel
theorem dX6_choiceAt_106 : decode cX6_choiceAt 106 = .ok (.iload 4, 2) := by decide +kernel
theorem dX6_choiceAt_108 : decode cX6_choiceAt 108 = .ok (.ireturn, 1) := by decide +kernel
theorem dX6_firstChoice_0 : decode cX6_firstChoice 0 = .ok (.iload_n 1, 1) := by decide +kernel
theorem dX6_firstChoice_1 : decode cX6_firstChoice 1 = .ok (.iload_n 2, 1) := by decide +kernel
theorem dX6_firstChoice_2 : decode cX6_firstChoice 2 = .ok (.iload_n 3, 1) := by decide +kernel
theorem dX6_firstChoice_3 : decode cX6_firstChoice 3 = .ok (.invokestatic 117, 3) := by decide +kernel
theorem dX6_firstChoice_6 : decode cX6_firstChoice 6 = .ok (.istore 4, 2) := by decide +kernel
theorem dX6_firstChoice_8 : decode cX6_firstChoice 8 = .ok (.iload 4, 2) := by decide +kernel
theorem dX6_firstChoice_10 : decode cX6_firstChoice 10 = .ok (.ifCond .ge 7, 3) := by decide +kernel
theorem dX6_firstChoice_13 : decode cX6_firstChoice 13 = .ok (.iconst 0, 1) := by decide +kernel
theorem dX6_firstChoice_14 : decode cX6_firstChoice 14 = .ok (.goto 9, 3) := by decide +kernel
theorem dX6_firstChoice_17 : decode cX6_firstChoice 17 = .ok (.aload_n 0, 1) := by decide +kernel
theorem dX6_firstChoice_18 : decode cX6_firstChoice 18 = .ok (.iload 4, 2) := by decide +kernel
theorem dX6_firstChoice_20 : decode cX6_firstChoice 20 = .ok (.invokevirtual 120, 3) := by decide +kernel
theorem dX6_firstChoice_23 : decode cX6_firstChoice 23 = .ok (.istore 5, 2) := by decide +kernel
theorem dX6_firstChoice_25 : decode cX6_firstChoice 25 = .ok (.iload 5, 2) := by decide +kernel
theorem dX6_firstChoice_27 : decode cX6_firstChoice 27 = .ok (.ifCond .le 13, 3) := by decide +kernel
theorem dX6_firstChoice_30 : decode cX6_firstChoice 30 = .ok (.iload 5, 2) := by decide +kernel
theorem dX6_firstChoice_32 : decode cX6_firstChoice 32 = .ok (.iconst 1, 1) := by decide +kernel
theorem dX6_firstChoice_33 : decode cX6_firstChoice 33 = .ok (.isub, 1) := by decide +kernel
theorem dX6_firstChoice_34 : decode cX6_firstChoice 34 = .ok (.bipush 32, 2) := by decide +kernel
theorem dX6_firstChoice_36 : decode cX6_firstChoice 36 = .ok (.irem, 1) := by decide +kernel
theorem dX6_firstChoice_37 : decode cX6_firstChoice 37 = .ok (.goto 4, 3) := by decide +kernel
theorem dX6_firstChoice_40 : decode cX6_firstChoice 40 = .ok (.iconst 0, 1) := by decide +kernel
theorem dX6_firstChoice_41 : decode cX6_firstChoice 41 = .ok (.ireturn, 1) := by decide +kernel
theorem dX6_foundAt_0 : decode cX6_foundAt 0 = .ok (.aload_n 0, 1) := by decide +kernel
theorem dX6_foundAt_1 : decode cX6_foundAt 1 = .ok (.getfield 11, 3) := by decide +kernel
theorem dX6_foundAt_4 : decode cX6_foundAt 4 = .ok (.iload_n 1, 1) := by decide +kernel
theorem dX6_foundAt_5 : decode cX6_foundAt 5 = .ok (.iconst 5, 1) := by decide +kernel
theorem dX6_foundAt_6 : decode cX6_foundAt 6 = .ok (.idiv, 1) := by decide +kernel
theorem dX6_foundAt_7 : decode cX6_foundAt 7 = .ok (.laload, 1) := by decide +kernel
theorem dX6_foundAt_8 : decode cX6_foundAt 8 = .ok (.lstore_n 2, 1) := by decide +kernel
theorem dX6_foundAt_9 : decode cX6_foundAt 9 = .ok (.lload_n 2, 1) := by decide +kernel
theorem dX6_foundAt_10 : decode cX6_foundAt 10 = .ok (.bipush 12, 2) := by decide +kernel
theorem dX6_foundAt_12 : decode cX6_foundAt 12 = .ok (.iload_n 1, 1) := by decide +kernel
theorem dX6_foundAt_13 : decode cX6_foundAt 13 = .ok (.iconst 5, 1) := by decide +kernel
theorem dX6_foundAt_14 : decode cX6_foundAt 14 = .ok (.irem, 1) := by decide +kernel
theorem dX6_foundAt_15 : decode cX6_foundAt 15 = .ok (.imul, 1) := by decide +kernel
theorem dX6_foundAt_16 : decode cX6_foundAt 16 = .ok (.lushr, 1) := by decide +kernel
theorem dX6_foundAt_17 : decode cX6_foundAt 17 = .ok (.l2i, 1) := by decide +kernel
theorem dX6_foundAt_18 : decode cX6_foundAt 18 = .ok (.sipush 4095, 3) := by decide +kernel
theorem dX6_foundAt_21 : decode cX6_foundAt 21 = .ok (.iand, 1) := by decide +kernel
theorem dX6_foundAt_22 : decode cX6_foundAt 22 = .ok (.ireturn, 1) := by decide +kernel
theorem dX6_keep_0 : decode cX6_keep 0 = .ok (.aload_n 0, 1) := by decide +kernel
theorem dX6_keep_1 : decode cX6_keep 1 = .ok (.getfield 11, 3) := by decide +kernel
theorem dX6_keep_4 : decode cX6_keep 4 = .ok (.iload_n 1, 1) := by decide +kernel
theorem dX6_keep_5 : decode cX6_keep 5 = .ok (.iconst 5, 1) := by decide +kernel
theorem dX6_keep_6 : decode cX6_keep 6 = .ok (.idiv, 1) := by decide +kernel
theorem dX6_keep_7 : decode cX6_keep 7 = .ok (.dup2, 1) := by decide +kernel
theorem dX6_keep_8 : decode cX6_keep 8 = .ok (.laload, 1) := by decide +kernel
theorem dX6_keep_9 : decode cX6_keep 9 = .ok (.iload_n 2, 1) := by decide +kernel
theorem dX6_keep_10 : decode cX6_keep 10 = .ok (.i2l, 1) := by decide +kernel
theorem dX6_keep_11 : decode cX6_keep 11 = .ok (.bipush 12, 2) := by decide +kernel
theorem dX6_keep_13 : decode cX6_keep 13 = .ok (.iload_n 1, 1) := by decide +kernel
theorem dX6_keep_14 : decode cX6_keep 14 = .ok (.iconst 5, 1) := by decide +kernel
theorem dX6_keep_15 : decode cX6_keep 15 = .ok (.irem, 1) := by decide +kernel
theorem dX6_keep_16 : decode cX6_keep 16 = .ok (.imul, 1) := by decide +kernel
theorem dX6_keep_17 : decode cX6_keep 17 = .ok (.lshl, 1) := by decide +kernel
theorem dX6_keep_18 : decode cX6_keep 18 = .ok (.lor, 1) := by decide +kernel
theorem dX6_keep_19 : decode cX6_keep 19 = .ok (.lastore, 1) := by decide +kernel
theorem dX6_keep_20 : decode cX6_keep 20 = .ok (.return_, 1) := by decide +kernel
theorem dX6_placeOf_0 : decode cX6_placeOf 0 = .ok (.iload_n 0, 1) := by decide +kernel
theorem dX6_placeOf_1 : decode cX6_placeOf 1 = .ok (.iconst 0, 1) := by decide +kernel
theorem dX6_placeOf_2 : decode cX6_placeOf 2 = .ok (.bipush 8, 2) := by decide +kernel
theorem dX6_placeOf_4 : decode cX6_placeOf 4 = .ok (.invokestatic 102, 3) := by decide +kernel
theorem dX6_placeOf_7 : decode cX6_placeOf 7 = .ok (.ifCond .eq 23, 3) := by decide +kernel
theorem dX6_placeOf_10 : decode cX6_placeOf 10 = .ok (.iload_n 1, 1) := by decide +kernel
theorem dX6_placeOf_11 : decode cX6_placeOf 11 = .ok (.iconst 0, 1) := by decide +kernel
theorem dX6_placeOf_12 : decode cX6_placeOf 12 = .ok (.bipush 60, 2) := by decide +kernel
theorem dX6_placeOf_14 : decode cX6_placeOf 14 = .ok (.invokestatic 102, 3) := by decide +kernel
theorem dX6_placeOf_17 : decode cX6_placeOf 17 = .ok (.ifCond .eq 13, 3) := by decide +kernel
theorem dX6_placeOf_20 : decode cX6_placeOf 20 = .ok (.iload_n 2, 1) := by decide +kernel
theorem dX6_placeOf_21 : decode cX6_placeOf 21 = .ok (.iconst 0, 1) := by decide +kernel
theorem dX6_placeOf_22 : decode cX6_placeOf 22 = .ok (.bipush 59, 2) := by decide +kernel
theorem dX6_placeOf_24 : decode cX6_placeOf 24 = .ok (.invokestatic 102, 3) := by decide +kernel
theorem dX6_placeOf_27 : decode cX6_placeOf 27 = .ok (.ifCond .ne 5, 3) := by decide +kernel
theorem dX6_placeOf_30 : decode cX6_placeOf 30 = .ok (.iconst (-1), 1) := by decide +kernel
theorem dX6_placeOf_31 : decode cX6_placeOf 31 = .ok (.ireturn, 1) := by decide +kernel
theorem dX6_placeOf_32 : decode cX6_placeOf 32 = .ok (.iload_n 0, 1) := by decide +kernel
theorem dX6_placeOf_33 : decode cX6_placeOf 33 = .ok (.sipush 3660, 3) := by decide +kernel
theorem dX6_placeOf_36 : decode cX6_placeOf 36 = .ok (.imul, 1) := by decide +kernel
theorem dX6_placeOf_37 : decode cX6_placeOf 37 = .ok (.iload_n 1, 1) := by decide +kernel
theorem dX6_placeOf_38 : decode cX6_placeOf 38 = .ok (.bipush 60, 2) := by decide +kernel
theorem dX6_placeOf_40 : decode cX6_placeOf 40 = .ok (.imul, 1) := by decide +kernel
theorem dX6_placeOf_41 : decode cX6_placeOf 41 = .ok (.iadd, 1) := by decide +kernel
theorem dX6_placeOf_42 : decode cX6_placeOf 42 = .ok (.iload_n 2, 1) := by decide +kernel
theorem dX6_placeOf_43 : decode cX6_placeOf 43 = .ok (.iadd, 1) := by decide +kernel
theorem dX6_placeOf_44 : decode cX6_placeOf 44 = .ok (.ireturn, 1) := by decide +kernel
theorem dX6_least_0 : decode cX6_least 0 = .ok (.iload_n 1, 1) := by decide +kernel
theorem dX6_least_1 : decode cX6_least 1 = .ok (.bipush 9, 2) := by decide +kernel
theorem dX6_least_3 : decode cX6_least 3 = .ok (.if_icmp .lt 5, 3) := by decide +kernel
theorem dX6_least_6 : decode cX6_least 6 = .ok (.iconst 0, 1) := by decide +kernel
theorem dX6_least_7 : decode cX6_least 7 = .ok (.ireturn, 1) := by decide +kernel
theorem dX6_least_8 : decode cX6_least 8 = .ok (.iload_n 1, 1) := by decide +kernel
theorem dX6_least_9 : decode cX6_least 9 = .ok (.iload_n 2, 1) := by decide +kernel
theorem dX6_least_10 : decode cX6_least 10 = .ok (.iload_n 3, 1) := by decide +kernel
theorem dX6_least_11 : decode cX6_least 11 = .ok (.invokestatic 117, 3) := by decide +kernel
theorem dX6_least_14 : decode cX6_least 14 = .ok (.istore 4, 2) := by decide +kernel
theorem dX6_least_16 : decode cX6_least 16 = .ok (.iload 4, 2) := by decide +kernel
theorem dX6_least_18 : decode cX6_least 18 = .ok (.ifCond .ge 6, 3) := by decide +kernel
theorem dX6_least_21 : decode cX6_least 21 = .ok (.bipush 126, 2) := by decide +kernel
theorem dX6_least_23 : decode cX6_least 23 = .ok (.ireturn, 1) := by decide +kernel
theorem dX6_least_24 : decode cX6_least 24 = .ok (.aload_n 0, 1) := by decide +kernel
theorem dX6_least_25 : decode cX6_least 25 = .ok (.iload 4, 2) := by decide +kernel
theorem dX6_least_27 : decode cX6_least 27 = .ok (.invokevirtual 120, 3) := by decide +kernel
theorem dX6_least_30 : decode cX6_least 30 = .ok (.istore 5, 2) := by decide +kernel
theorem dX6_least_32 : decode cX6_least 32 = .ok (.iload 5, 2) := by decide +kernel
theorem dX6_least_34 : decode cX6_least 34 = .ok (.ifCond .le 11, 3) := by decide +kernel
theorem dX6_least_37 : decode cX6_least 37 = .ok (.iload 5, 2) := by decide +kernel
theorem dX6_least_39 : decode cX6_least 39 = .ok (.iconst 1, 1) := by decide +kernel
theorem dX6_least_40 : decode cX6_least 40 = .ok (.isub, 1) := by decide +kernel
theorem dX6_least_41 : decode cX6_least 41 = .ok (.bipush 32, 2) := by decide +kernel
theorem dX6_least_43 : decode cX6_least 43 = .ok (.idiv, 1) := by decide +kernel
theorem dX6_least_44 : decode cX6_least 44 = .ok (.ireturn, 1) := by decide +kernel
theorem dX6_least_45 : decode cX6_least 45 = .ok (.aload_n 0, 1) := by decide +kernel
theorem dX6_least_46 : decode cX6_least 46 = .ok (.getfield 38, 3) := by decide +kernel
theorem dX6_least_49 : decode cX6_least 49 = .ok (.aload_n 0, 1) := by decide +kernel
theorem dX6_least_50 : decode cX6_least 50 = .ok (.getfield 73, 3) := by decide +kernel
theorem dX6_least_53 : decode cX6_least 53 = .ok (.bipush 8, 2) := by decide +kernel
theorem dX6_least_55 : decode cX6_least 55 = .ok (.iload_n 1, 1) := by decide +kernel
theorem dX6_least_56 : decode cX6_least 56 = .ok (.isub, 1) := by decide +kernel
theorem dX6_least_57 : decode cX6_least 57 = .ok (.imul, 1) := by decide +kernel
theorem dX6_least_58 : decode cX6_least 58 = .ok (.isub, 1) := by decide +kernel
theorem dX6_least_59 : decode cX6_least 59 = .ok (.istore 6, 2) := by decide +kernel
theorem dX6_least_61 : decode cX6_least 61 = .ok (.bipush 126, 2) := by decide +kernel
theorem dX6_least_63 : decode cX6_least 63 = .ok (.istore 7, 2) := by decide +kernel
theorem dX6_least_65 : decode cX6_least 65 = .ok (.iconst 0, 1) := by decide +kernel
theorem dX6_least_66 : decode cX6_least 66 = .ok (.istore 8, 2) := by decide +kernel
theorem dX6_least_68 : decode cX6_least 68 = .ok (.iconst 0, 1) := by decide +kernel
theorem dX6_least_69 : decode cX6_least 69 = .ok (.istore 9, 2) := by decide +kernel
theorem dX6_least_71 : decode cX6_least 71 = .ok (.iload 9, 2) := by decide +kernel
theorem dX6_least_73 : decode cX6_least 73 = .ok (.iconst 2, 1) := by decide +kernel
theorem dX6_least_74 : decode cX6_least 74 = .ok (.if_icmp .gt 140, 3) := by decide +kernel
theorem dX6_least_77 : decode cX6_least 77 = .ok (.iload_n 2, 1) := by decide +kernel
theorem dX6_least_78 : decode cX6_least 78 = .ok (.iload 9, 2) := by decide +kernel
theorem dX6_least_80 : decode cX6_least 80 = .ok (.iadd, 1) := by decide +kernel
theorem dX6_least_81 : decode cX6_least 81 = .ok (.istore 10, 2) := by decide +kernel
theorem dX6_least_83 : decode cX6_least 83 = .ok (.iconst 0, 1) := by decide +kernel
theorem dX6_least_84 : decode cX6_least 84 = .ok (.istore 11, 2) := by decide +kernel
theorem dX6_least_86 : decode cX6_least 86 = .ok (.iload 11, 2) := by decide +kernel
theorem dX6_least_88 : decode cX6_least 88 = .ok (.iconst 4, 1) := by decide +kernel
theorem dX6_least_89 : decode cX6_least 89 = .ok (.if_icmp .ge 119, 3) := by decide +kernel
theorem dX6_least_92 : decode cX6_least 92 = .ok (.iload 10, 2) := by decide +kernel
theorem dX6_least_94 : decode cX6_least 94 = .ok (.aload_n 0, 1) := by decide +kernel
theorem dX6_least_95 : decode cX6_least 95 = .ok (.getfield 23, 3) := by decide +kernel
theorem dX6_least_98 : decode cX6_least 98 = .ok (.iload 11, 2) := by decide +kernel
theorem dX6_least_100 : decode cX6_least 100 = .ok (.iaload, 1) := by decide +kernel
theorem dX6_least_101 : decode cX6_least 101 = .ok (.iadd, 1) := by decide +kernel
theorem dX6_least_102 : decode cX6_least 102 = .ok (.istore 12, 2) := by decide +kernel
theorem dX6_least_104 : decode cX6_least 104 = .ok (.iload_n 3, 1) := by decide +kernel
theorem dX6_least_105 : decode cX6_least 105 = .ok (.aload_n 0, 1) := by decide +kernel
theorem dX6_least_106 : decode cX6_least 106 = .ok (.getfield 26, 3) := by decide +kernel
theorem dX6_least_109 : decode cX6_least 109 = .ok (.iload 11, 2) := by decide +kernel
theorem dX6_least_111 : decode cX6_least 111 = .ok (.iaload, 1) := by decide +kernel
theorem dX6_least_112 : decode cX6_least 112 = .ok (.iadd, 1) := by decide +kernel
theorem dX6_least_113 : decode cX6_least 113 = .ok (.istore 13, 2) := by decide +kernel
theorem dX6_least_115 : decode cX6_least 115 = .ok (.iload 12, 2) := by decide +kernel
theorem dX6_least_117 : decode cX6_least 117 = .ok (.iload 6, 2) := by decide +kernel
theorem dX6_least_119 : decode cX6_least 119 = .ok (.if_icmp .gt 83, 3) := by decide +kernel
theorem dX6_least_122 : decode cX6_least 122 = .ok (.iload 13, 2) := by decide +kernel
theorem dX6_least_124 : decode cX6_least 124 = .ok (.bipush 60, 2) := by decide +kernel
theorem dX6_least_126 : decode cX6_least 126 = .ok (.if_icmp .ge 76, 3) := by decide +kernel
theorem dX6_least_129 : decode cX6_least 129 = .ok (.aload_n 0, 1) := by decide +kernel
theorem dX6_least_130 : decode cX6_least 130 = .ok (.iload_n 1, 1) := by decide +kernel
theorem dX6_least_131 : decode cX6_least 131 = .ok (.aload_n 0, 1) := by decide +kernel
theorem dX6_least_132 : decode cX6_least 132 = .ok (.getfield 19, 3) := by decide +kernel
theorem dX6_least_135 : decode cX6_least 135 = .ok (.iload_n 1, 1) := by decide +kernel
theorem dX6_least_136 : decode cX6_least 136 = .ok (.baload, 1) := by decide +kernel
theorem dX6_least_137 : decode cX6_least 137 = .ok (.ifCond .eq 8, 3) := by decide +kernel
theorem dX6_least_140 : decode cX6_least 140 = .ok (.iload 10, 2) := by decide +kernel
theorem dX6_least_142 : decode cX6_least 142 = .ok (.goto 4, 3) := by decide +kernel
theorem dX6_least_145 : decode cX6_least 145 = .ok (.iload_n 2, 1) := by decide +kernel
theorem dX6_least_146 : decode cX6_least 146 = .ok (.iload 12, 2) := by decide +kernel
theorem dX6_least_148 : decode cX6_least 148 = .ok (.invokevirtual 123, 3) := by decide +kernel
theorem dX6_least_151 : decode cX6_least 151 = .ok (.istore 14, 2) := by decide +kernel
theorem dX6_least_153 : decode cX6_least 153 = .ok (.iload 14, 2) := by decide +kernel
theorem dX6_least_155 : decode cX6_least 155 = .ok (.iload 7, 2) := by decide +kernel
theorem dX6_least_157 : decode cX6_least 157 = .ok (.if_icmp .ge 20, 3) := by decide +kernel
theorem dX6_least_160 : decode cX6_least 160 = .ok (.iload 14, 2) := by decide +kernel
theorem dX6_least_162 : decode cX6_least 162 = .ok (.aload_n 0, 1) := by decide +kernel
theorem dX6_least_163 : decode cX6_least 163 = .ok (.iload_n 1, 1) := by decide +kernel
theorem dX6_least_164 : decode cX6_least 164 = .ok (.iconst 1, 1) := by decide +kernel
theorem dX6_least_165 : decode cX6_least 165 = .ok (.iadd, 1) := by decide +kernel
theorem dX6_least_166 : decode cX6_least 166 = .ok (.iload 12, 2) := by decide +kernel
theorem dX6_least_168 : decode cX6_least 168 = .ok (.iload 13, 2) := by decide +kernel
theorem dX6_least_170 : decode cX6_least 170 = .ok (.invokevirtual 98, 3) := by decide +kernel
theorem dX6_least_173 : decode cX6_least 173 = .ok (.iadd, 1) := by decide +kernel
theorem dX6_least_174 : decode cX6_least 174 = .ok (.goto 5, 3) := by decide +kernel
theorem dX6_least_177 : decode cX6_least 177 = .ok (.iload 7, 2) := by decide +kernel
theorem dX6_least_179 : decode cX6_least 179 = .ok (.istore 15, 2) := by decide +kernel
theorem dX6_least_181 : decode cX6_least 181 = .ok (.iload 15, 2) := by decide +kernel
theorem dX6_least_183 : decode cX6_least 183 = .ok (.iload 7, 2) := by decide +kernel
theorem dX6_least_185 : decode cX6_least 185 = .ok (.if_icmp .ge 17, 3) := by decide +kernel
theorem dX6_least_188 : decode cX6_least 188 = .ok (.iload 15, 2) := by decide +kernel
theorem dX6_least_190 : decode cX6_least 190 = .ok (.istore 7, 2) := by decide +kernel
theorem dX6_least_192 : decode cX6_least 192 = .ok (.bipush 10, 2) := by decide +kernel
theorem dX6_least_194 : decode cX6_least 194 = .ok (.iload 9, 2) := by decide +kernel
theorem dX6_least_196 : decode cX6_least 196 = .ok (.imul, 1) := by decide +kernel
theorem dX6_least_197 : decode cX6_least 197 = .ok (.iload 11, 2) := by decide +kernel
theorem dX6_least_199 : decode cX6_least 199 = .ok (.iadd, 1) := by decide +kernel
theorem dX6_least_200 : decode cX6_least 200 = .ok (.istore 8, 2) := by decide +kernel
theorem dX6_least_202 : decode cX6_least 202 = .ok (.iinc 11 1, 3) := by decide +kernel
theorem dX6_least_205 : decode cX6_least 205 = .ok (.goto (-119), 3) := by decide +kernel
theorem dX6_least_208 : decode cX6_least 208 = .ok (.iinc 9 1, 3) := by decide +kernel
theorem dX6_least_211 : decode cX6_least 211 = .ok (.goto (-140), 3) := by decide +kernel
theorem dX6_least_214 : decode cX6_least 214 = .ok (.aload_n 0, 1) := by decide +kernel
theorem dX6_least_215 : decode cX6_least 215 = .ok (.iload 4, 2) := by decide +kernel
theorem dX6_least_217 : decode cX6_least 217 = .ok (.iconst 1, 1) := by decide +kernel
theorem dX6_least_218 : decode cX6_least 218 = .ok (.bipush 32, 2) := by decide +kernel
theorem dX6_least_220 : decode cX6_least 220 = .ok (.iload 7, 2) := by decide +kernel
theorem dX6_least_222 : decode cX6_least 222 = .ok (.imul, 1) := by decide +kernel
theorem dX6_least_223 : decode cX6_least 223 = .ok (.iadd, 1) := by decide +kernel
theorem dX6_least_224 : decode cX6_least 224 = .ok (.iload 8, 2) := by decide +kernel
theorem dX6_least_226 : decode cX6_least 226 = .ok (.iadd, 1) := by decide +kernel
theorem dX6_least_227 : decode cX6_least 227 = .ok (.invokevirtual 126, 3) := by decide +kernel
theorem dX6_least_230 : decode cX6_least 230 = .ok (.iload 7, 2) := by decide +kernel
theorem dX6_least_232 : decode cX6_least 232 = .ok (.ireturn, 1) := by decide +kernel
theorem dX6_between_0 : decode cX6_between 0 = .ok (.aload_n 0, 1) := by decide +kernel
theorem dX6_between_1 : decode cX6_between 1 = .ok (.getfield 15, 3) := by decide +kernel
theorem dX6_between_4 : decode cX6_between 4 = .ok (.iload_n 1, 1) := by decide +kernel
theorem dX6_between_5 : decode cX6_between 5 = .ok (.bipush 61, 2) := by decide +kernel
theorem dX6_between_7 : decode cX6_between 7 = .ok (.imul, 1) := by decide +kernel
theorem dX6_between_8 : decode cX6_between 8 = .ok (.iload_n 3, 1) := by decide +kernel
theorem dX6_between_9 : decode cX6_between 9 = .ok (.iadd, 1) := by decide +kernel
theorem dX6_between_10 : decode cX6_between 10 = .ok (.iaload, 1) := by decide +kernel
theorem dX6_between_11 : decode cX6_between 11 = .ok (.aload_n 0, 1) := by decide +kernel
theorem dX6_between_12 : decode cX6_between 12 = .ok (.getfield 15, 3) := by decide +kernel
theorem dX6_between_15 : decode cX6_between 15 = .ok (.iload_n 1, 1) := by decide +kernel
theorem dX6_between_16 : decode cX6_between 16 = .ok (.bipush 61, 2) := by decide +kernel
theorem dX6_between_18 : decode cX6_between 18 = .ok (.imul, 1) := by decide +kernel
theorem dX6_between_19 : decode cX6_between 19 = .ok (.iload_n 2, 1) := by decide +kernel
theorem dX6_between_20 : decode cX6_between 20 = .ok (.iadd, 1) := by decide +kernel
theorem dX6_between_21 : decode cX6_between 21 = .ok (.iaload, 1) := by decide +kernel
theorem dX6_between_22 : decode cX6_between 22 = .ok (.isub, 1) := by decide +kernel
theorem dX6_between_23 : decode cX6_between 23 = .ok (.ireturn, 1) := by decide +kernel
theorem dX6_sumUp_0 : decode cX6_sumUp 0 = .ok (.iload_n 3, 1) := by decide +kernel
theorem dX6_sumUp_1 : decode cX6_sumUp 1 = .ok (.bipush 61, 2) := by decide +kernel
theorem dX6_sumUp_3 : decode cX6_sumUp 3 = .ok (.imul, 1) := by decide +kernel
theorem dX6_sumUp_4 : decode cX6_sumUp 4 = .ok (.istore 5, 2) := by decide +kernel
theorem dX6_sumUp_6 : decode cX6_sumUp 6 = .ok (.aload_n 0, 1) := by decide +kernel
theorem dX6_sumUp_7 : decode cX6_sumUp 7 = .ok (.getfield 15, 3) := by decide +kernel
theorem dX6_sumUp_10 : decode cX6_sumUp 10 = .ok (.iload 5, 2) := by decide +kernel
theorem dX6_sumUp_12 : decode cX6_sumUp 12 = .ok (.iconst 0, 1) := by decide +kernel
theorem dX6_sumUp_13 : decode cX6_sumUp 13 = .ok (.iastore, 1) := by decide +kernel
theorem dX6_sumUp_14 : decode cX6_sumUp 14 = .ok (.iconst 0, 1) := by decide +kernel
theorem dX6_sumUp_15 : decode cX6_sumUp 15 = .ok (.istore 6, 2) := by decide +kernel
theorem dX6_sumUp_17 : decode cX6_sumUp 17 = .ok (.iload 6, 2) := by decide +kernel
theorem dX6_sumUp_19 : decode cX6_sumUp 19 = .ok (.aload_n 0, 1) := by decide +kernel
theorem dX6_sumUp_20 : decode cX6_sumUp 20 = .ok (.getfield 38, 3) := by decide +kernel
theorem dX6_sumUp_23 : decode cX6_sumUp 23 = .ok (.if_icmp .ge 67, 3) := by decide +kernel
theorem dX6_sumUp_26 : decode cX6_sumUp 26 = .ok (.aload_n 1, 1) := by decide +kernel
theorem dX6_sumUp_27 : decode cX6_sumUp 27 = .ok (.getfield 130, 3) := by decide +kernel
theorem dX6_sumUp_30 : decode cX6_sumUp 30 = .ok (.iload 4, 2) := by decide +kernel
theorem dX6_sumUp_32 : decode cX6_sumUp 32 = .ok (.aload_n 1, 1) := by decide +kernel
theorem dX6_sumUp_33 : decode cX6_sumUp 33 = .ok (.getfield 134, 3) := by decide +kernel
theorem dX6_sumUp_36 : decode cX6_sumUp 36 = .ok (.iload 6, 2) := by decide +kernel
theorem dX6_sumUp_38 : decode cX6_sumUp 38 = .ok (.iadd, 1) := by decide +kernel
theorem dX6_sumUp_39 : decode cX6_sumUp 39 = .ok (.bipush 96, 2) := by decide +kernel
theorem dX6_sumUp_41 : decode cX6_sumUp 41 = .ok (.irem, 1) := by decide +kernel
theorem dX6_sumUp_42 : decode cX6_sumUp 42 = .ok (.iconst 0, 1) := by decide +kernel
theorem dX6_sumUp_43 : decode cX6_sumUp 43 = .ok (.invokevirtual 137, 3) := by decide +kernel
theorem dX6_sumUp_46 : decode cX6_sumUp 46 = .ok (.istore 7, 2) := by decide +kernel
theorem dX6_sumUp_48 : decode cX6_sumUp 48 = .ok (.aload_n 0, 1) := by decide +kernel
theorem dX6_sumUp_49 : decode cX6_sumUp 49 = .ok (.getfield 15, 3) := by decide +kernel
theorem dX6_sumUp_52 : decode cX6_sumUp 52 = .ok (.iload 5, 2) := by decide +kernel
theorem dX6_sumUp_54 : decode cX6_sumUp 54 = .ok (.iload 6, 2) := by decide +kernel
theorem dX6_sumUp_56 : decode cX6_sumUp 56 = .ok (.iadd, 1) := by decide +kernel
theorem dX6_sumUp_57 : decode cX6_sumUp 57 = .ok (.iconst 1, 1) := by decide +kernel
theorem dX6_sumUp_58 : decode cX6_sumUp 58 = .ok (.iadd, 1) := by decide +kernel
theorem dX6_sumUp_59 : decode cX6_sumUp 59 = .ok (.aload_n 0, 1) := by decide +kernel
theorem dX6_sumUp_60 : decode cX6_sumUp 60 = .ok (.getfield 15, 3) := by decide +kernel
theorem dX6_sumUp_63 : decode cX6_sumUp 63 = .ok (.iload 5, 2) := by decide +kernel
theorem dX6_sumUp_65 : decode cX6_sumUp 65 = .ok (.iload 6, 2) := by decide +kernel
theorem dX6_sumUp_67 : decode cX6_sumUp 67 = .ok (.iadd, 1) := by decide +kernel
theorem dX6_sumUp_68 : decode cX6_sumUp 68 = .ok (.iaload, 1) := by decide +kernel
theorem dX6_sumUp_69 : decode cX6_sumUp 69 = .ok (.aload_n 2, 1) := by decide +kernel
theorem dX6_sumUp_70 : decode cX6_sumUp 70 = .ok (.getfield 58, 3) := by decide +kernel
theorem dX6_sumUp_73 : decode cX6_sumUp 73 = .ok (.iload 7, 2) := by decide +kernel
theorem dX6_sumUp_75 : decode cX6_sumUp 75 = .ok (.aload_n 2, 1) := by decide +kernel
theorem dX6_sumUp_76 : decode cX6_sumUp 76 = .ok (.getfield 62, 3) := by decide +kernel
theorem dX6_sumUp_79 : decode cX6_sumUp 79 = .ok (.invokevirtual 142, 3) := by decide +kernel
theorem dX6_sumUp_82 : decode cX6_sumUp 82 = .ok (.iadd, 1) := by decide +kernel
theorem dX6_sumUp_83 : decode cX6_sumUp 83 = .ok (.iastore, 1) := by decide +kernel
theorem dX6_sumUp_84 : decode cX6_sumUp 84 = .ok (.iinc 6 1, 3) := by decide +kernel
theorem dX6_sumUp_87 : decode cX6_sumUp 87 = .ok (.goto (-70), 3) := by decide +kernel
theorem dX6_sumUp_90 : decode cX6_sumUp 90 = .ok (.return_, 1) := by decide +kernel
theorem dX6_forget_0 : decode cX6_forget 0 = .ok (.aload_n 0, 1) := by decide +kernel
theorem dX6_forget_1 : decode cX6_forget 1 = .ok (.getfield 11, 3) := by decide +kernel
theorem dX6_forget_4 : decode cX6_forget 4 = .ok (.aload_n 0, 1) := by decide +kernel
theorem dX6_forget_5 : decode cX6_forget 5 = .ok (.getfield 47, 3) := by decide +kernel
theorem dX6_forget_8 : decode cX6_forget 8 = .ok (.sipush 3660, 3) := by decide +kernel
theorem dX6_forget_11 : decode cX6_forget 11 = .ok (.imul, 1) := by decide +kernel
theorem dX6_forget_12 : decode cX6_forget 12 = .ok (.iconst 5, 1) := by decide +kernel
theorem dX6_forget_13 : decode cX6_forget 13 = .ok (.idiv, 1) := by decide +kernel
theorem dX6_forget_14 : decode cX6_forget 14 = .ok (.iload_n 1, 1) := by decide +kernel
theorem dX6_forget_15 : decode cX6_forget 15 = .ok (.iconst 1, 1) := by decide +kernel
theorem dX6_forget_16 : decode cX6_forget 16 = .ok (.iadd, 1) := by decide +kernel
theorem dX6_forget_17 : decode cX6_forget 17 = .ok (.sipush 3660, 3) := by decide +kernel
theorem dX6_forget_20 : decode cX6_forget 20 = .ok (.imul, 1) := by decide +kernel
theorem dX6_forget_21 : decode cX6_forget 21 = .ok (.iconst 5, 1) := by decide +kernel
theorem dX6_forget_22 : decode cX6_forget 22 = .ok (.idiv, 1) := by decide +kernel
theorem dX6_forget_23 : decode cX6_forget 23 = .ok (.lconst 0, 1) := by decide +kernel
theorem dX6_forget_24 : decode cX6_forget 24 = .ok (.invokestatic 145, 3) := by decide +kernel
theorem dX6_forget_27 : decode cX6_forget 27 = .ok (.return_, 1) := by decide +kernel
theorem dX7_init_0 : decode cX7_init 0 = .ok (.aload_n 0, 1) := by decide +kernel
theorem dX7_init_1 : decode cX7_init 1 = .ok (.iload_n 1, 1) := by decide +kernel
theorem dX7_init_2 : decode cX7_init 2 = .ok (.invokespecial 1, 3) := by decide +kernel
theorem dX7_init_5 : decode cX7_init 5 = .ok (.return_, 1) := by decide +kernel
theorem dX7_jolts_0 : decode cX7_jolts 0 = .ok (.iconst 0, 1) := by decide +kernel
theorem dX7_jolts_1 : decode cX7_jolts 1 = .ok (.aload_n 0, 1) := by decide +kernel
theorem dX7_jolts_2 : decode cX7_jolts 2 = .ok (.iload_n 1, 1) := by decide +kernel
theorem dX7_jolts_3 : decode cX7_jolts 3 = .ok (.iload_n 2, 1) := by decide +kernel
theorem dX7_jolts_4 : decode cX7_jolts 4 = .ok (.invokespecial 7, 3) := by decide +kernel
theorem dX7_jolts_7 : decode cX7_jolts 7 = .ok (.iconst 2, 1) := by decide +kernel
theorem dX7_jolts_8 : decode cX7_jolts 8 = .ok (.isub, 1) := by decide +kernel
theorem dX7_jolts_9 : decode cX7_jolts 9 = .ok (.invokestatic 11, 3) := by decide +kernel
theorem dX7_jolts_12 : decode cX7_jolts 12 = .ok (.ireturn, 1) := by decide +kernel
theorem dX7_turns_0 : decode cX7_turns 0 = .ok (.aload_n 0, 1) := by decide +kernel
theorem dX7_turns_1 : decode cX7_turns 1 = .ok (.iload_n 1, 1) := by decide +kernel
theorem dX7_turns_2 : decode cX7_turns 2 = .ok (.invokespecial 16, 3) := by decide +kernel
theorem dX7_turns_5 : decode cX7_turns 5 = .ok (.iconst 5, 1) := by decide +kernel
theorem dX7_turns_6 : decode cX7_turns 6 = .ok (.iload_n 1, 1) := by decide +kernel
theorem dX7_turns_7 : decode cX7_turns 7 = .ok (.imul, 1) := by decide +kernel
theorem dX7_turns_8 : decode cX7_turns 8 = .ok (.iadd, 1) := by decide +kernel
theorem dX7_turns_9 : decode cX7_turns 9 = .ok (.ireturn, 1) := by decide +kernel
theorem dX7_shakes_0 : decode cX7_shakes 0 = .ok (.aload_n 2, 1) := by decide +kernel
theorem dX7_shakes_1 : decode cX7_shakes 1 = .ok (.bipush 50, 2) := by decide +kernel
theorem dX7_shakes_3 : decode cX7_shakes 3 = .ok (.invokestatic 20, 3) := by decide +kernel
theorem dX7_shakes_6 : decode cX7_shakes 6 = .ok (.aload_n 0, 1) := by decide +kernel
theorem dX7_shakes_7 : decode cX7_shakes 7 = .ok (.aload_n 1, 1) := by decide +kernel
theorem dX7_shakes_8 : decode cX7_shakes 8 = .ok (.aload_n 2, 1) := by decide +kernel
theorem dX7_shakes_9 : decode cX7_shakes 9 = .ok (.iload_n 3, 1) := by decide +kernel
theorem dX7_shakes_10 : decode cX7_shakes 10 = .ok (.iconst 1, 1) := by decide +kernel
theorem dX7_shakes_11 : decode cX7_shakes 11 = .ok (.iadd, 1) := by decide +kernel
theorem dX7_shakes_12 : decode cX7_shakes 12 = .ok (.invokespecial 26, 3) := by decide +kernel
theorem dX7_shakes_15 : decode cX7_shakes 15 = .ok (.ireturn, 1) := by decide +kernel
theorem dX8_init_0 : decode cX8_init 0 = .ok (.aload_n 0, 1) := by decide +kernel
theorem dX8_init_1 : decode cX8_init 1 = .ok (.iload_n 1, 1) := by decide +kernel
theorem dX8_init_2 : decode cX8_init 2 = .ok (.invokespecial 1, 3) := by decide +kernel
theorem dX8_init_5 : decode cX8_init 5 = .ok (.return_, 1) := by decide +kernel
theorem dX8_warms_0 : decode cX8_warms 0 = .ok (.iconst 0, 1) := by decide +kernel
theorem dX8_warms_1 : decode cX8_warms 1 = .ok (.aload_n 0, 1) := by decide +kernel
theorem dX8_warms_2 : decode cX8_warms 2 = .ok (.iload_n 1, 1) := by decide +kernel
theorem dX8_warms_3 : decode cX8_warms 3 = .ok (.iload_n 2, 1) := by decide +kernel
theorem dX8_warms_4 : decode cX8_warms 4 = .ok (.invokespecial 7, 3) := by decide +kernel
theorem dX8_warms_7 : decode cX8_warms 7 = .ok (.iconst 1, 1) := by decide +kernel
theorem dX8_warms_8 : decode cX8_warms 8 = .ok (.isub, 1) := by decide +kernel
theorem dX8_warms_9 : decode cX8_warms 9 = .ok (.invokestatic 11, 3) := by decide +kernel
theorem dX8_warms_12 : decode cX8_warms 12 = .ok (.ireturn, 1) := by decide +kernel
theorem dX8_turns_0 : decode cX8_turns 0 = .ok (.aload_n 0, 1) := by decide +kernel
theorem dX8_turns_1 : decode cX8_turns 1 = .ok (.iload_n 1, 1) := by decide +kernel
theorem dX8_turns_2 : decode cX8_turns 2 = .ok (.invokespecial 16, 3) := by decide +kernel
theorem dX8_turns_5 : decode cX8_turns 5 = .ok (.bipush 20, 2) := by decide +kernel
theorem dX8_turns_7 : decode cX8_turns 7 = .ok (.iadd, 1) := by decide +kernel
theorem dX8_turns_8 : decode cX8_turns 8 = .ok (.ireturn, 1) := by decide +kernel
theorem dX8_tells_0 : decode cX8_tells 0 = .ok (.aload_n 2, 1) := by decide +kernel
theorem dX8_tells_1 : decode cX8_tells 1 = .ok (.bipush 60, 2) := by decide +kernel
theorem dX8_tells_3 : decode cX8_tells 3 = .ok (.invokestatic 20, 3) := by decide +kernel
theorem dX8_tells_6 : decode cX8_tells 6 = .ok (.aload_n 0, 1) := by decide +kernel
theorem dX8_tells_7 : decode cX8_tells 7 = .ok (.aload_n 1, 1) := by decide +kernel
theorem dX8_tells_8 : decode cX8_tells 8 = .ok (.aload_n 2, 1) := by decide +kernel
theorem dX8_tells_9 : decode cX8_tells 9 = .ok (.iload_n 3, 1) := by decide +kernel
theorem dX8_tells_10 : decode cX8_tells 10 = .ok (.invokespecial 26, 3) := by decide +kernel
theorem dX8_tells_13 : decode cX8_tells 13 = .ok (.istore 4, 2) := by decide +kernel
theorem dX8_tells_15 : decode cX8_tells 15 = .ok (.iload 4, 2) := by decide +kernel
theorem dX8_tells_17 : decode cX8_tells 17 = .ok (.aload_n 1, 1) := by decide +kernel
theorem dX8_tells_18 : decode cX8_tells 18 = .ok (.getfield 30, 3) := by decide +kernel
theorem dX8_tells_21 : decode cX8_tells 21 = .ok (.aload_n 1, 1) := by decide +kernel
theorem dX8_tells_22 : decode cX8_tells 22 = .ok (.aload_n 2, 1) := by decide +kernel
theorem dX8_tells_23 : decode cX8_tells 23 = .ok (.iconst 2, 1) := by decide +kernel
theorem dX8_tells_24 : decode cX8_tells 24 = .ok (.invokevirtual 36, 3) := by decide +kernel
theorem dX8_tells_27 : decode cX8_tells 27 = .ok (.isub, 1) := by decide +kernel
theorem dX8_tells_28 : decode cX8_tells 28 = .ok (.ireturn, 1) := by decide +kernel
theorem dX9_init_0 : decode cX9_init 0 = .ok (.aload_n 0, 1) := by decide +kernel
theorem dX9_init_1 : decode cX9_init 1 = .ok (.invokespecial 3, 3) := by decide +kernel
theorem dX9_init_4 : decode cX9_init 4 = .ok (.aload_n 0, 1) := by decide +kernel
theorem dX9_init_5 : decode cX9_init 5 = .ok (.bipush 50, 2) := by decide +kernel
theorem dX9_init_7 : decode cX9_init 7 = .ok (.newarray .int, 2) := by decide +kernel
theorem dX9_init_9 : decode cX9_init 9 = .ok (.putfield 9, 3) := by decide +kernel
theorem dX9_init_12 : decode cX9_init 12 = .ok (.aload_n 0, 1) := by decide +kernel
theorem dX9_init_13 : decode cX9_init 13 = .ok (.bipush 50, 2) := by decide +kernel
theorem dX9_init_15 : decode cX9_init 15 = .ok (.newarray .int, 2) := by decide +kernel
theorem dX9_init_17 : decode cX9_init 17 = .ok (.putfield 15, 3) := by decide +kernel
theorem dX9_init_20 : decode cX9_init 20 = .ok (.aload_n 0, 1) := by decide +kernel
theorem dX9_init_21 : decode cX9_init 21 = .ok (.bipush 50, 2) := by decide +kernel
theorem dX9_init_23 : decode cX9_init 23 = .ok (.newarray .int, 2) := by decide +kernel
theorem dX9_init_25 : decode cX9_init 25 = .ok (.putfield 18, 3) := by decide +kernel
theorem dX9_init_28 : decode cX9_init 28 = .ok (.aload_n 0, 1) := by decide +kernel
theorem dX9_init_29 : decode cX9_init 29 = .ok (.aload_n 1, 1) := by decide +kernel
theorem dX9_init_30 : decode cX9_init 30 = .ok (.putfield 21, 3) := by decide +kernel
theorem dX9_init_33 : decode cX9_init 33 = .ok (.aload_n 0, 1) := by decide +kernel
theorem dX9_init_34 : decode cX9_init 34 = .ok (.iload_n 3, 1) := by decide +kernel
theorem dX9_init_35 : decode cX9_init 35 = .ok (.putfield 25, 3) := by decide +kernel
theorem dX9_init_38 : decode cX9_init 38 = .ok (.aload_n 2, 1) := by decide +kernel
theorem dX9_init_39 : decode cX9_init 39 = .ok (.invokevirtual 29, 3) := by decide +kernel
theorem dX9_init_42 : decode cX9_init 42 = .ok (.newarray .byte, 2) := by decide +kernel
theorem dX9_init_44 : decode cX9_init 44 = .ok (.astore 4, 2) := by decide +kernel
theorem dX9_init_46 : decode cX9_init 46 = .ok (.iconst 0, 1) := by decide +kernel
theorem dX9_init_47 : decode cX9_init 47 = .ok (.istore 5, 2) := by decide +kernel
theorem dX9_init_49 : decode cX9_init 49 = .ok (.iload 5, 2) := by decide +kernel
theorem dX9_init_51 : decode cX9_init 51 = .ok (.aload 4, 2) := by decide +kernel
theorem dX9_init_53 : decode cX9_init 53 = .ok (.arraylength, 1) := by decide +kernel
theorem dX9_init_54 : decode cX9_init 54 = .ok (.if_icmp .ge 21, 3) := by decide +kernel
theorem dX9_init_57 : decode cX9_init 57 = .ok (.aload 4, 2) := by decide +kernel
theorem dX9_init_59 : decode cX9_init 59 = .ok (.iload 5, 2) := by decide +kernel
theorem dX9_init_61 : decode cX9_init 61 = .ok (.aload_n 2, 1) := by decide +kernel
theorem dX9_init_62 : decode cX9_init 62 = .ok (.iload 5, 2) := by decide +kernel
theorem dX9_init_64 : decode cX9_init 64 = .ok (.invokevirtual 35, 3) := by decide +kernel
theorem dX9_init_67 : decode cX9_init 67 = .ok (.i2b, 1) := by decide +kernel
theorem dX9_init_68 : decode cX9_init 68 = .ok (.bastore, 1) := by decide +kernel
theorem dX9_init_69 : decode cX9_init 69 = .ok (.iinc 5 1, 3) := by decide +kernel
theorem dX9_init_72 : decode cX9_init 72 = .ok (.goto (-23), 3) := by decide +kernel
theorem dX9_init_75 : decode cX9_init 75 = .ok (.aload_n 0, 1) := by decide +kernel
theorem dX9_init_76 : decode cX9_init 76 = .ok (.aload 4, 2) := by decide +kernel
theorem dX9_init_78 : decode cX9_init 78 = .ok (.aload 4, 2) := by decide +kernel
theorem dX9_init_80 : decode cX9_init 80 = .ok (.arraylength, 1) := by decide +kernel
theorem dX9_init_81 : decode cX9_init 81 = .ok (.invokevirtual 39, 3) := by decide +kernel
theorem dX9_init_84 : decode cX9_init 84 = .ok (.pop, 1) := by decide +kernel
theorem dX9_init_85 : decode cX9_init 85 = .ok (.return_, 1) := by decide +kernel
theorem dX9_copy_0 : decode cX9_copy 0 = .ok (.aload_n 1, 1) := by decide +kernel
theorem dX9_copy_1 : decode cX9_copy 1 = .ok (.getfield 9, 3) := by decide +kernel
theorem dX9_copy_4 : decode cX9_copy 4 = .ok (.iconst 0, 1) := by decide +kernel
theorem dX9_copy_5 : decode cX9_copy 5 = .ok (.aload_n 0, 1) := by decide +kernel
theorem dX9_copy_6 : decode cX9_copy 6 = .ok (.getfield 9, 3) := by decide +kernel
theorem dX9_copy_9 : decode cX9_copy 9 = .ok (.iconst 0, 1) := by decide +kernel
theorem dX9_copy_10 : decode cX9_copy 10 = .ok (.bipush 50, 2) := by decide +kernel
theorem dX9_copy_12 : decode cX9_copy 12 = .ok (.invokestatic 43, 3) := by decide +kernel
theorem dX9_copy_15 : decode cX9_copy 15 = .ok (.aload_n 0, 1) := by decide +kernel
theorem dX9_copy_16 : decode cX9_copy 16 = .ok (.aload_n 1, 1) := by decide +kernel
theorem dX9_copy_17 : decode cX9_copy 17 = .ok (.getfield 49, 3) := by decide +kernel
theorem dX9_copy_20 : decode cX9_copy 20 = .ok (.putfield 49, 3) := by decide +kernel
theorem dX9_copy_23 : decode cX9_copy 23 = .ok (.return_, 1) := by decide +kernel
theorem dX9_read_0 : decode cX9_read 0 = .ok (.aload_n 0, 1) := by decide +kernel
theorem dX9_read_1 : decode cX9_read 1 = .ok (.aload_n 1, 1) := by decide +kernel
theorem dX9_read_2 : decode cX9_read 2 = .ok (.putfield 51, 3) := by decide +kernel
theorem dX9_read_5 : decode cX9_read 5 = .ok (.aload_n 0, 1) := by decide +kernel
theorem dX9_read_6 : decode cX9_read 6 = .ok (.iconst 0, 1) := by decide +kernel
theorem dX9_read_7 : decode cX9_read 7 = .ok (.iload_n 2, 1) := by decide +kernel
theorem dX9_read_8 : decode cX9_read 8 = .ok (.aload_n 1, 1) := by decide +kernel
theorem dX9_read_9 : decode cX9_read 9 = .ok (.arraylength, 1) := by decide +kernel
theorem dX9_read_10 : decode cX9_read 10 = .ok (.invokestatic 55, 3) := by decide +kernel
theorem dX9_read_13 : decode cX9_read 13 = .ok (.invokestatic 61, 3) := by decide +kernel
theorem dX9_read_16 : decode cX9_read 16 = .ok (.putfield 64, 3) := by decide +kernel
theorem dX9_read_19 : decode cX9_read 19 = .ok (.aload_n 0, 1) := by decide +kernel
theorem dX9_read_20 : decode cX9_read 20 = .ok (.iconst 0, 1) := by decide +kernel
theorem dX9_read_21 : decode cX9_read 21 = .ok (.putfield 67, 3) := by decide +kernel
theorem dX9_read_24 : decode cX9_read 24 = .ok (.aload_n 0, 1) := by decide +kernel
theorem dX9_read_25 : decode cX9_read 25 = .ok (.iconst 0, 1) := by decide +kernel
theorem dX9_read_26 : decode cX9_read 26 = .ok (.putfield 70, 3) := by decide +kernel
theorem dX9_read_29 : decode cX9_read 29 = .ok (.aload_n 0, 1) := by decide +kernel
theorem dX9_read_30 : decode cX9_read 30 = .ok (.iconst 0, 1) := by decide +kernel
theorem dX9_read_31 : decode cX9_read 31 = .ok (.invokevirtual 73, 3) := by decide +kernel
theorem dX9_read_34 : decode cX9_read 34 = .ok (.ifCond .eq 14, 3) := by decide +kernel
theorem dX9_read_37 : decode cX9_read 37 = .ok (.aload_n 0, 1) := by decide +kernel
theorem dX9_read_38 : decode cX9_read 38 = .ok (.getfield 67, 3) := by decide +kernel
theorem dX9_read_41 : decode cX9_read 41 = .ok (.aload_n 0, 1) := by decide +kernel
theorem dX9_read_42 : decode cX9_read 42 = .ok (.getfield 64, 3) := by decide +kernel
theorem dX9_read_45 : decode cX9_read 45 = .ok (.if_icmp .ge 8, 3) := by decide +kernel
theorem dX9_read_48 : decode cX9_read 48 = .ok (.aload_n 0, 1) := by decide +kernel
theorem dX9_read_49 : decode cX9_read 49 = .ok (.getfield 67, 3) := by decide +kernel
theorem dX9_read_52 : decode cX9_read 52 = .ok (.ireturn, 1) := by decide +kernel
theorem dX9_read_53 : decode cX9_read 53 = .ok (.aload_n 0, 1) := by decide +kernel
theorem dX9_read_54 : decode cX9_read 54 = .ok (.getfield 15, 3) := by decide +kernel
theorem dX9_read_57 : decode cX9_read 57 = .ok (.iconst 0, 1) := by decide +kernel
theorem dX9_read_58 : decode cX9_read 58 = .ok (.aload_n 0, 1) := by decide +kernel
theorem dX9_read_59 : decode cX9_read 59 = .ok (.getfield 9, 3) := by decide +kernel
theorem dX9_read_62 : decode cX9_read 62 = .ok (.iconst 0, 1) := by decide +kernel
theorem dX9_read_63 : decode cX9_read 63 = .ok (.bipush 50, 2) := by decide +kernel
theorem dX9_read_65 : decode cX9_read 65 = .ok (.invokestatic 43, 3) := by decide +kernel
theorem dX9_read_68 : decode cX9_read 68 = .ok (.aload_n 0, 1) := by decide +kernel
theorem dX9_read_69 : decode cX9_read 69 = .ok (.aload_n 0, 1) := by decide +kernel
theorem dX9_read_70 : decode cX9_read 70 = .ok (.getfield 70, 3) := by decide +kernel
theorem dX9_read_73 : decode cX9_read 73 = .ok (.putfield 49, 3) := by decide +kernel
theorem dX9_read_76 : decode cX9_read 76 = .ok (.iconst (-1), 1) := by decide +kernel
theorem dX9_read_77 : decode cX9_read 77 = .ok (.ireturn, 1) := by decide +kernel
theorem dX9_value_0 : decode cX9_value 0 = .ok (.iconst 0, 1) := by decide +kernel
theorem dX9_value_1 : decode cX9_value 1 = .ok (.istore 4, 2) := by decide +kernel
theorem dX9_value_3 : decode cX9_value 3 = .ok (.iconst 0, 1) := by decide +kernel
theorem dX9_value_4 : decode cX9_value 4 = .ok (.istore 5, 2) := by decide +kernel
theorem dX9_value_6 : decode cX9_value 6 = .ok (.iload 5, 2) := by decide +kernel
theorem dX9_value_8 : decode cX9_value 8 = .ok (.aload_n 0, 1) := by decide +kernel
theorem dX9_value_9 : decode cX9_value 9 = .ok (.getfield 49, 3) := by decide +kernel
theorem dX9_value_12 : decode cX9_value 12 = .ok (.if_icmp .ge 179, 3) := by decide +kernel
theorem dX9_value_15 : decode cX9_value 15 = .ok (.iload 5, 2) := by decide +kernel
theorem dX9_value_17 : decode cX9_value 17 = .ok (.bipush 50, 2) := by decide +kernel
theorem dX9_value_19 : decode cX9_value 19 = .ok (.if_icmp .ge 172, 3) := by decide +kernel
theorem dX9_value_22 : decode cX9_value 22 = .ok (.aload_n 0, 1) := by decide +kernel
theorem dX9_value_23 : decode cX9_value 23 = .ok (.getfield 9, 3) := by decide +kernel
theorem dX9_value_26 : decode cX9_value 26 = .ok (.iload 5, 2) := by decide +kernel
theorem dX9_value_28 : decode cX9_value 28 = .ok (.iaload, 1) := by decide +kernel
theorem dX9_value_29 : decode cX9_value 29 = .ok (.istore 6, 2) := by decide +kernel
theorem dX9_value_31 : decode cX9_value 31 = .ok (.iload 6, 2) := by decide +kernel
theorem dX9_value_33 : decode cX9_value 33 = .ok (.iconst 3, 1) := by decide +kernel
theorem dX9_value_34 : decode cX9_value 34 = .ok (.if_icmp .lt 11, 3) := by decide +kernel
theorem dX9_value_37 : decode cX9_value 37 = .ok (.iload 6, 2) := by decide +kernel
theorem dX9_value_39 : decode cX9_value 39 = .ok (.sipush 1000, 3) := by decide +kernel
theorem dX9_value_42 : decode cX9_value 42 = .ok (.if_icmp .lt 60, 3) := by decide +kernel
theorem dX9_value_45 : decode cX9_value 45 = .ok (.iload 4, 2) := by decide +kernel
theorem dX9_value_47 : decode cX9_value 47 = .ok (.bipush 50, 2) := by decide +kernel
theorem dX9_value_49 : decode cX9_value 49 = .ok (.if_icmp .ge 136, 3) := by decide +kernel
theorem dX9_value_52 : decode cX9_value 52 = .ok (.aload_n 0, 1) := by decide +kernel
theorem dX9_value_53 : decode cX9_value 53 = .ok (.getfield 18, 3) := by decide +kernel
theorem dX9_value_56 : decode cX9_value 56 = .ok (.iload 4, 2) := by decide +kernel
theorem dX9_value_58 : decode cX9_value 58 = .ok (.iload 6, 2) := by decide +kernel
theorem dX9_value_60 : decode cX9_value 60 = .ok (.sipush 1000, 3) := by decide +kernel
theorem dX9_value_63 : decode cX9_value 63 = .ok (.if_icmp .lt 12, 3) := by decide +kernel
theorem dX9_value_66 : decode cX9_value 66 = .ok (.iload 6, 2) := by decide +kernel
theorem dX9_value_68 : decode cX9_value 68 = .ok (.sipush 1000, 3) := by decide +kernel
theorem dX9_value_71 : decode cX9_value 71 = .ok (.isub, 1) := by decide +kernel
theorem dX9_value_72 : decode cX9_value 72 = .ok (.goto 23, 3) := by decide +kernel
theorem dX9_value_75 : decode cX9_value 75 = .ok (.iload 6, 2) := by decide +kernel
theorem dX9_value_77 : decode cX9_value 77 = .ok (.ifCond .ne 7, 3) := by decide +kernel
theorem dX9_value_80 : decode cX9_value 80 = .ok (.iload_n 1, 1) := by decide +kernel
theorem dX9_value_81 : decode cX9_value 81 = .ok (.goto 14, 3) := by decide +kernel
theorem dX9_value_84 : decode cX9_value 84 = .ok (.iload 6, 2) := by decide +kernel
theorem dX9_value_86 : decode cX9_value 86 = .ok (.iconst 1, 1) := by decide +kernel
theorem dX9_value_87 : decode cX9_value 87 = .ok (.if_icmp .ne 7, 3) := by decide +kernel
theorem dX9_value_90 : decode cX9_value 90 = .ok (.iload_n 2, 1) := by decide +kernel
theorem dX9_value_91 : decode cX9_value 91 = .ok (.goto 4, 3) := by decide +kernel
theorem dX9_value_94 : decode cX9_value 94 = .ok (.iload_n 3, 1) := by decide +kernel
theorem dX9_value_95 : decode cX9_value 95 = .ok (.iastore, 1) := by decide +kernel
theorem dX9_value_96 : decode cX9_value 96 = .ok (.iinc 4 1, 3) := by decide +kernel
theorem dX9_value_99 : decode cX9_value 99 = .ok (.goto 86, 3) := by decide +kernel
theorem dX9_value_102 : decode cX9_value 102 = .ok (.iload 6, 2) := by decide +kernel
theorem dX9_value_104 : decode cX9_value 104 = .ok (.bipush 33, 2) := by decide +kernel
theorem dX9_value_106 : decode cX9_value 106 = .ok (.if_icmp .ne 40, 3) := by decide +kernel
theorem dX9_value_109 : decode cX9_value 109 = .ok (.iload 4, 2) := by decide +kernel
theorem dX9_value_111 : decode cX9_value 111 = .ok (.ifCond .le 35, 3) := by decide +kernel
theorem dX9_value_114 : decode cX9_value 114 = .ok (.aload_n 0, 1) := by decide +kernel
theorem dX9_value_115 : decode cX9_value 115 = .ok (.getfield 18, 3) := by decide +kernel
theorem dX9_value_118 : decode cX9_value 118 = .ok (.iload 4, 2) := by decide +kernel
theorem dX9_value_120 : decode cX9_value 120 = .ok (.iconst 1, 1) := by decide +kernel
theorem dX9_value_121 : decode cX9_value 121 = .ok (.isub, 1) := by decide +kernel
theorem dX9_value_122 : decode cX9_value 122 = .ok (.aload_n 0, 1) := by decide +kernel
theorem dX9_value_123 : decode cX9_value 123 = .ok (.getfield 18, 3) := by decide +kernel
theorem dX9_value_126 : decode cX9_value 126 = .ok (.iload 4, 2) := by decide +kernel
theorem dX9_value_128 : decode cX9_value 128 = .ok (.iconst 1, 1) := by decide +kernel
theorem dX9_value_129 : decode cX9_value 129 = .ok (.isub, 1) := by decide +kernel
theorem dX9_value_130 : decode cX9_value 130 = .ok (.iaload, 1) := by decide +kernel
theorem dX9_value_131 : decode cX9_value 131 = .ok (.ifCond .ne 7, 3) := by decide +kernel
theorem dX9_value_134 : decode cX9_value 134 = .ok (.iconst 1, 1) := by decide +kernel
theorem dX9_value_135 : decode cX9_value 135 = .ok (.goto 4, 3) := by decide +kernel
theorem dX9_value_138 : decode cX9_value 138 = .ok (.iconst 0, 1) := by decide +kernel
theorem dX9_value_139 : decode cX9_value 139 = .ok (.invokestatic 77, 3) := by decide +kernel
theorem dX9_value_142 : decode cX9_value 142 = .ok (.iastore, 1) := by decide +kernel
theorem dX9_value_143 : decode cX9_value 143 = .ok (.goto 42, 3) := by decide +kernel
theorem dX9_value_146 : decode cX9_value 146 = .ok (.iload 4, 2) := by decide +kernel
theorem dX9_value_148 : decode cX9_value 148 = .ok (.iconst 1, 1) := by decide +kernel
theorem dX9_value_149 : decode cX9_value 149 = .ok (.if_icmp .le 36, 3) := by decide +kernel
theorem dX9_value_152 : decode cX9_value 152 = .ok (.iinc 4 (-1), 3) := by decide +kernel
theorem dX9_value_155 : decode cX9_value 155 = .ok (.aload_n 0, 1) := by decide +kernel
theorem dX9_value_156 : decode cX9_value 156 = .ok (.getfield 18, 3) := by decide +kernel
theorem dX9_value_159 : decode cX9_value 159 = .ok (.iload 4, 2) := by decide +kernel
theorem dX9_value_161 : decode cX9_value 161 = .ok (.iconst 1, 1) := by decide +kernel
theorem dX9_value_162 : decode cX9_value 162 = .ok (.isub, 1) := by decide +kernel
theorem dX9_value_163 : decode cX9_value 163 = .ok (.iload 6, 2) := by decide +kernel
theorem dX9_value_165 : decode cX9_value 165 = .ok (.aload_n 0, 1) := by decide +kernel
theorem dX9_value_166 : decode cX9_value 166 = .ok (.getfield 18, 3) := by decide +kernel
theorem dX9_value_169 : decode cX9_value 169 = .ok (.iload 4, 2) := by decide +kernel
theorem dX9_value_171 : decode cX9_value 171 = .ok (.iconst 1, 1) := by decide +kernel
theorem dX9_value_172 : decode cX9_value 172 = .ok (.isub, 1) := by decide +kernel
theorem dX9_value_173 : decode cX9_value 173 = .ok (.iaload, 1) := by decide +kernel
theorem dX9_value_174 : decode cX9_value 174 = .ok (.aload_n 0, 1) := by decide +kernel
theorem dX9_value_175 : decode cX9_value 175 = .ok (.getfield 18, 3) := by decide +kernel
theorem dX9_value_178 : decode cX9_value 178 = .ok (.iload 4, 2) := by decide +kernel
theorem dX9_value_180 : decode cX9_value 180 = .ok (.iaload, 1) := by decide +kernel
theorem dX9_value_181 : decode cX9_value 181 = .ok (.invokestatic 81, 3) := by decide +kernel
theorem dX9_value_184 : decode cX9_value 184 = .ok (.iastore, 1) := by decide +kernel
theorem dX9_value_185 : decode cX9_value 185 = .ok (.iinc 5 1, 3) := by decide +kernel
theorem dX9_value_188 : decode cX9_value 188 = .ok (.goto (-182), 3) := by decide +kernel
theorem dX9_value_191 : decode cX9_value 191 = .ok (.iconst 0, 1) := by decide +kernel
theorem dX9_value_192 : decode cX9_value 192 = .ok (.aload_n 0, 1) := by decide +kernel
theorem dX9_value_193 : decode cX9_value 193 = .ok (.getfield 25, 3) := by decide +kernel
theorem dX9_value_196 : decode cX9_value 196 = .ok (.aload_n 0, 1) := by decide +kernel
theorem dX9_value_197 : decode cX9_value 197 = .ok (.getfield 18, 3) := by decide +kernel
theorem dX9_value_200 : decode cX9_value 200 = .ok (.iconst 0, 1) := by decide +kernel
theorem dX9_value_201 : decode cX9_value 201 = .ok (.iaload, 1) := by decide +kernel
theorem dX9_value_202 : decode cX9_value 202 = .ok (.invokestatic 55, 3) := by decide +kernel
theorem dX9_value_205 : decode cX9_value 205 = .ok (.invokestatic 61, 3) := by decide +kernel
theorem dX9_value_208 : decode cX9_value 208 = .ok (.ireturn, 1) := by decide +kernel
theorem dX9_joined_0 : decode cX9_joined 0 = .ok (.iload_n 0, 1) := by decide +kernel
theorem dX9_joined_1 : decode cX9_joined 1 = .ok (.lookupswitch 183 #[(38, 100), (42, 167), (43, 159), (45, 163), (47, 171), (60, 117), (61, 131), (62, 145), (124, 83)], 83) := by decide +kernel
theorem dX9_joined_84 : decode cX9_joined 84 = .ok (.iload_n 1, 1) := by decide +kernel
theorem dX9_joined_85 : decode cX9_joined 85 = .ok (.ifCond .ne 7, 3) := by decide +kernel
theorem dX9_joined_88 : decode cX9_joined 88 = .ok (.iload_n 2, 1) := by decide +kernel
theorem dX9_joined_89 : decode cX9_joined 89 = .ok (.ifCond .eq 7, 3) := by decide +kernel
theorem dX9_joined_92 : decode cX9_joined 92 = .ok (.iconst 1, 1) := by decide +kernel
theorem dX9_joined_93 : decode cX9_joined 93 = .ok (.goto 4, 3) := by decide +kernel
theorem dX9_joined_96 : decode cX9_joined 96 = .ok (.iconst 0, 1) := by decide +kernel
theorem dX9_joined_97 : decode cX9_joined 97 = .ok (.invokestatic 77, 3) := by decide +kernel
theorem dX9_joined_100 : decode cX9_joined 100 = .ok (.ireturn, 1) := by decide +kernel
theorem dX9_joined_101 : decode cX9_joined 101 = .ok (.iload_n 1, 1) := by decide +kernel
theorem dX9_joined_102 : decode cX9_joined 102 = .ok (.ifCond .eq 11, 3) := by decide +kernel
theorem dX9_joined_105 : decode cX9_joined 105 = .ok (.iload_n 2, 1) := by decide +kernel
theorem dX9_joined_106 : decode cX9_joined 106 = .ok (.ifCond .eq 7, 3) := by decide +kernel
theorem dX9_joined_109 : decode cX9_joined 109 = .ok (.iconst 1, 1) := by decide +kernel
theorem dX9_joined_110 : decode cX9_joined 110 = .ok (.goto 4, 3) := by decide +kernel
theorem dX9_joined_113 : decode cX9_joined 113 = .ok (.iconst 0, 1) := by decide +kernel
theorem dX9_joined_114 : decode cX9_joined 114 = .ok (.invokestatic 77, 3) := by decide +kernel
theorem dX9_joined_117 : decode cX9_joined 117 = .ok (.ireturn, 1) := by decide +kernel
theorem dX9_joined_118 : decode cX9_joined 118 = .ok (.iload_n 1, 1) := by decide +kernel
theorem dX9_joined_119 : decode cX9_joined 119 = .ok (.iload_n 2, 1) := by decide +kernel
theorem dX9_joined_120 : decode cX9_joined 120 = .ok (.if_icmp .ge 7, 3) := by decide +kernel
theorem dX9_joined_123 : decode cX9_joined 123 = .ok (.iconst 1, 1) := by decide +kernel
theorem dX9_joined_124 : decode cX9_joined 124 = .ok (.goto 4, 3) := by decide +kernel
theorem dX9_joined_127 : decode cX9_joined 127 = .ok (.iconst 0, 1) := by decide +kernel
theorem dX9_joined_128 : decode cX9_joined 128 = .ok (.invokestatic 77, 3) := by decide +kernel
theorem dX9_joined_131 : decode cX9_joined 131 = .ok (.ireturn, 1) := by decide +kernel
theorem dX9_joined_132 : decode cX9_joined 132 = .ok (.iload_n 1, 1) := by decide +kernel
theorem dX9_joined_133 : decode cX9_joined 133 = .ok (.iload_n 2, 1) := by decide +kernel
theorem dX9_joined_134 : decode cX9_joined 134 = .ok (.if_icmp .ne 7, 3) := by decide +kernel
theorem dX9_joined_137 : decode cX9_joined 137 = .ok (.iconst 1, 1) := by decide +kernel
theorem dX9_joined_138 : decode cX9_joined 138 = .ok (.goto 4, 3) := by decide +kernel
theorem dX9_joined_141 : decode cX9_joined 141 = .ok (.iconst 0, 1) := by decide +kernel
theorem dX9_joined_142 : decode cX9_joined 142 = .ok (.invokestatic 77, 3) := by decide +kernel
theorem dX9_joined_145 : decode cX9_joined 145 = .ok (.ireturn, 1) := by decide +kernel
theorem dX9_joined_146 : decode cX9_joined 146 = .ok (.iload_n 1, 1) := by decide +kernel
theorem dX9_joined_147 : decode cX9_joined 147 = .ok (.iload_n 2, 1) := by decide +kernel
theorem dX9_joined_148 : decode cX9_joined 148 = .ok (.if_icmp .le 7, 3) := by decide +kernel
theorem dX9_joined_151 : decode cX9_joined 151 = .ok (.iconst 1, 1) := by decide +kernel
theorem dX9_joined_152 : decode cX9_joined 152 = .ok (.goto 4, 3) := by decide +kernel
theorem dX9_joined_155 : decode cX9_joined 155 = .ok (.iconst 0, 1) := by decide +kernel
theorem dX9_joined_156 : decode cX9_joined 156 = .ok (.invokestatic 77, 3) := by decide +kernel
theorem dX9_joined_159 : decode cX9_joined 159 = .ok (.ireturn, 1) := by decide +kernel
theorem dX9_joined_160 : decode cX9_joined 160 = .ok (.iload_n 1, 1) := by decide +kernel
theorem dX9_joined_161 : decode cX9_joined 161 = .ok (.iload_n 2, 1) := by decide +kernel
theorem dX9_joined_162 : decode cX9_joined 162 = .ok (.iadd, 1) := by decide +kernel
theorem dX9_joined_163 : decode cX9_joined 163 = .ok (.ireturn, 1) := by decide +kernel
theorem dX9_joined_164 : decode cX9_joined 164 = .ok (.iload_n 1, 1) := by decide +kernel
theorem dX9_joined_165 : decode cX9_joined 165 = .ok (.iload_n 2, 1) := by decide +kernel
theorem dX9_joined_166 : decode cX9_joined 166 = .ok (.isub, 1) := by decide +kernel
theorem dX9_joined_167 : decode cX9_joined 167 = .ok (.ireturn, 1) := by decide +kernel
theorem dX9_joined_168 : decode cX9_joined 168 = .ok (.iload_n 1, 1) := by decide +kernel
theorem dX9_joined_169 : decode cX9_joined 169 = .ok (.iload_n 2, 1) := by decide +kernel
theorem dX9_joined_170 : decode cX9_joined 170 = .ok (.imul, 1) := by decide +kernel
theorem dX9_joined_171 : decode cX9_joined 171 = .ok (.ireturn, 1) := by decide +kernel
theorem dX9_joined_172 : decode cX9_joined 172 = .ok (.iload_n 2, 1) := by decide +kernel
theorem dX9_joined_173 : decode cX9_joined 173 = .ok (.ifCond .ne 7, 3) := by decide +kernel
theorem dX9_joined_176 : decode cX9_joined 176 = .ok (.iconst 0, 1) := by decide +kernel
theorem dX9_joined_177 : decode cX9_joined 177 = .ok (.goto 6, 3) := by decide +kernel
theorem dX9_joined_180 : decode cX9_joined 180 = .ok (.iload_n 1, 1) := by decide +kernel
theorem dX9_joined_181 : decode cX9_joined 181 = .ok (.iload_n 2, 1) := by decide +kernel
theorem dX9_joined_182 : decode cX9_joined 182 = .ok (.idiv, 1) := by decide +kernel
theorem dX9_joined_183 : decode cX9_joined 183 = .ok (.ireturn, 1) := by decide +kernel
theorem dX9_joined_184 : decode cX9_joined 184 = .ok (.iload_n 2, 1) := by decide +kernel
theorem dX9_joined_185 : decode cX9_joined 185 = .ok (.ifCond .ne 7, 3) := by decide +kernel
theorem dX9_joined_188 : decode cX9_joined 188 = .ok (.iconst 0, 1) := by decide +kernel
theorem dX9_joined_189 : decode cX9_joined 189 = .ok (.goto 6, 3) := by decide +kernel
theorem dX9_joined_192 : decode cX9_joined 192 = .ok (.iload_n 1, 1) := by decide +kernel
theorem dX9_joined_193 : decode cX9_joined 193 = .ok (.iload_n 2, 1) := by decide +kernel
theorem dX9_joined_194 : decode cX9_joined 194 = .ok (.irem, 1) := by decide +kernel
theorem dX9_joined_195 : decode cX9_joined 195 = .ok (.ireturn, 1) := by decide +kernel
theorem dX9_bit_0 : decode cX9_bit 0 = .ok (.iload_n 0, 1) := by decide +kernel
theorem dX9_bit_1 : decode cX9_bit 1 = .ok (.ifCond .eq 7, 3) := by decide +kernel
theorem dX9_bit_4 : decode cX9_bit 4 = .ok (.iconst 1, 1) := by decide +kernel
theorem dX9_bit_5 : decode cX9_bit 5 = .ok (.goto 4, 3) := by decide +kernel
theorem dX9_bit_8 : decode cX9_bit 8 = .ok (.iconst 0, 1) := by decide +kernel
theorem dX9_bit_9 : decode cX9_bit 9 = .ok (.ireturn, 1) := by decide +kernel
theorem dX9_readAny_0 : decode cX9_readAny 0 = .ok (.aload_n 0, 1) := by decide +kernel
theorem dX9_readAny_1 : decode cX9_readAny 1 = .ok (.iload_n 1, 1) := by decide +kernel
theorem dX9_readAny_2 : decode cX9_readAny 2 = .ok (.invokevirtual 85, 3) := by decide +kernel
theorem dX9_readAny_5 : decode cX9_readAny 5 = .ok (.istore_n 2, 1) := by decide +kernel
theorem dX9_readAny_6 : decode cX9_readAny 6 = .ok (.iconst 0, 1) := by decide +kernel
theorem dX9_readAny_7 : decode cX9_readAny 7 = .ok (.istore_n 3, 1) := by decide +kernel
theorem dX9_readAny_8 : decode cX9_readAny 8 = .ok (.iload_n 3, 1) := by decide +kernel
theorem dX9_readAny_9 : decode cX9_readAny 9 = .ok (.bipush 50, 2) := by decide +kernel
theorem dX9_readAny_11 : decode cX9_readAny 11 = .ok (.if_icmp .ge 44, 3) := by decide +kernel
theorem dX9_readAny_14 : decode cX9_readAny 14 = .ok (.iload_n 2, 1) := by decide +kernel
theorem dX9_readAny_15 : decode cX9_readAny 15 = .ok (.ifCond .eq 40, 3) := by decide +kernel
theorem dX9_readAny_18 : decode cX9_readAny 18 = .ok (.aload_n 0, 1) := by decide +kernel
theorem dX9_readAny_19 : decode cX9_readAny 19 = .ok (.bipush 124, 2) := by decide +kernel
theorem dX9_readAny_21 : decode cX9_readAny 21 = .ok (.invokevirtual 88, 3) := by decide +kernel
theorem dX9_readAny_24 : decode cX9_readAny 24 = .ok (.ifCond .eq 31, 3) := by decide +kernel
theorem dX9_readAny_27 : decode cX9_readAny 27 = .ok (.aload_n 0, 1) := by decide +kernel
theorem dX9_readAny_28 : decode cX9_readAny 28 = .ok (.dup, 1) := by decide +kernel
theorem dX9_readAny_29 : decode cX9_readAny 29 = .ok (.getfield 67, 3) := by decide +kernel
theorem dX9_readAny_32 : decode cX9_readAny 32 = .ok (.iconst 1, 1) := by decide +kernel
theorem dX9_readAny_33 : decode cX9_readAny 33 = .ok (.iadd, 1) := by decide +kernel
theorem dX9_readAny_34 : decode cX9_readAny 34 = .ok (.putfield 67, 3) := by decide +kernel
theorem dX9_readAny_37 : decode cX9_readAny 37 = .ok (.aload_n 0, 1) := by decide +kernel
theorem dX9_readAny_38 : decode cX9_readAny 38 = .ok (.iload_n 1, 1) := by decide +kernel
theorem dX9_readAny_39 : decode cX9_readAny 39 = .ok (.invokevirtual 85, 3) := by decide +kernel
theorem dX9_readAny_42 : decode cX9_readAny 42 = .ok (.istore_n 2, 1) := by decide +kernel
theorem dX9_readAny_43 : decode cX9_readAny 43 = .ok (.aload_n 0, 1) := by decide +kernel
theorem dX9_readAny_44 : decode cX9_readAny 44 = .ok (.bipush 124, 2) := by decide +kernel
theorem dX9_readAny_46 : decode cX9_readAny 46 = .ok (.invokevirtual 92, 3) := by decide +kernel
theorem dX9_readAny_49 : decode cX9_readAny 49 = .ok (.iinc 3 1, 3) := by decide +kernel
theorem dX9_readAny_52 : decode cX9_readAny 52 = .ok (.goto (-44), 3) := by decide +kernel
theorem dX9_readAny_55 : decode cX9_readAny 55 = .ok (.iload_n 2, 1) := by decide +kernel
theorem dX9_readAny_56 : decode cX9_readAny 56 = .ok (.ireturn, 1) := by decide +kernel
theorem dX9_readAll_0 : decode cX9_readAll 0 = .ok (.aload_n 0, 1) := by decide +kernel
theorem dX9_readAll_1 : decode cX9_readAll 1 = .ok (.iload_n 1, 1) := by decide +kernel
theorem dX9_readAll_2 : decode cX9_readAll 2 = .ok (.invokevirtual 96, 3) := by decide +kernel
theorem dX9_readAll_5 : decode cX9_readAll 5 = .ok (.istore_n 2, 1) := by decide +kernel
theorem dX9_readAll_6 : decode cX9_readAll 6 = .ok (.iconst 0, 1) := by decide +kernel
theorem dX9_readAll_7 : decode cX9_readAll 7 = .ok (.istore_n 3, 1) := by decide +kernel
theorem dX9_readAll_8 : decode cX9_readAll 8 = .ok (.iload_n 3, 1) := by decide +kernel
theorem dX9_readAll_9 : decode cX9_readAll 9 = .ok (.bipush 50, 2) := by decide +kernel
theorem dX9_readAll_11 : decode cX9_readAll 11 = .ok (.if_icmp .ge 44, 3) := by decide +kernel
theorem dX9_readAll_14 : decode cX9_readAll 14 = .ok (.iload_n 2, 1) := by decide +kernel
theorem dX9_readAll_15 : decode cX9_readAll 15 = .ok (.ifCond .eq 40, 3) := by decide +kernel
theorem dX9_readAll_18 : decode cX9_readAll 18 = .ok (.aload_n 0, 1) := by decide +kernel
theorem dX9_readAll_19 : decode cX9_readAll 19 = .ok (.bipush 38, 2) := by decide +kernel
theorem dX9_readAll_21 : decode cX9_readAll 21 = .ok (.invokevirtual 88, 3) := by decide +kernel
theorem dX9_readAll_24 : decode cX9_readAll 24 = .ok (.ifCond .eq 31, 3) := by decide +kernel
theorem dX9_readAll_27 : decode cX9_readAll 27 = .ok (.aload_n 0, 1) := by decide +kernel
theorem dX9_readAll_28 : decode cX9_readAll 28 = .ok (.dup, 1) := by decide +kernel
theorem dX9_readAll_29 : decode cX9_readAll 29 = .ok (.getfield 67, 3) := by decide +kernel
theorem dX9_readAll_32 : decode cX9_readAll 32 = .ok (.iconst 1, 1) := by decide +kernel
theorem dX9_readAll_33 : decode cX9_readAll 33 = .ok (.iadd, 1) := by decide +kernel
theorem dX9_readAll_34 : decode cX9_readAll 34 = .ok (.putfield 67, 3) := by decide +kernel
theorem dX9_readAll_37 : decode cX9_readAll 37 = .ok (.aload_n 0, 1) := by decide +kernel
theorem dX9_readAll_38 : decode cX9_readAll 38 = .ok (.iload_n 1, 1) := by decide +kernel
theorem dX9_readAll_39 : decode cX9_readAll 39 = .ok (.invokevirtual 96, 3) := by decide +kernel
theorem dX9_readAll_42 : decode cX9_readAll 42 = .ok (.istore_n 2, 1) := by decide +kernel
theorem dX9_readAll_43 : decode cX9_readAll 43 = .ok (.aload_n 0, 1) := by decide +kernel
theorem dX9_readAll_44 : decode cX9_readAll 44 = .ok (.bipush 38, 2) := by decide +kernel
theorem dX9_readAll_46 : decode cX9_readAll 46 = .ok (.invokevirtual 92, 3) := by decide +kernel
theorem dX9_readAll_49 : decode cX9_readAll 49 = .ok (.iinc 3 1, 3) := by decide +kernel
theorem dX9_readAll_52 : decode cX9_readAll 52 = .ok (.goto (-44), 3) := by decide +kernel
theorem dX9_readAll_55 : decode cX9_readAll 55 = .ok (.iload_n 2, 1) := by decide +kernel
theorem dX9_readAll_56 : decode cX9_readAll 56 = .ok (.ireturn, 1) := by decide +kernel
theorem dX9_readCompared_0 : decode cX9_readCompared 0 = .ok (.aload_n 0, 1) := by decide +kernel
theorem dX9_readCompared_1 : decode cX9_readCompared 1 = .ok (.iload_n 1, 1) := by decide +kernel
theorem dX9_readCompared_2 : decode cX9_readCompared 2 = .ok (.invokevirtual 99, 3) := by decide +kernel
theorem dX9_readCompared_5 : decode cX9_readCompared 5 = .ok (.ifCond .ne 5, 3) := by decide +kernel
theorem dX9_readCompared_8 : decode cX9_readCompared 8 = .ok (.iconst 0, 1) := by decide +kernel
theorem dX9_readCompared_9 : decode cX9_readCompared 9 = .ok (.ireturn, 1) := by decide +kernel
theorem dX9_readCompared_10 : decode cX9_readCompared 10 = .ok (.aload_n 0, 1) := by decide +kernel
theorem dX9_readCompared_11 : decode cX9_readCompared 11 = .ok (.invokevirtual 102, 3) := by decide +kernel
theorem dX9_readCompared_14 : decode cX9_readCompared 14 = .ok (.istore_n 2, 1) := by decide +kernel
theorem dX9_readCompared_15 : decode cX9_readCompared 15 = .ok (.iload_n 2, 1) := by decide +kernel
theorem dX9_readCompared_16 : decode cX9_readCompared 16 = .ok (.bipush 60, 2) := by decide +kernel
theorem dX9_readCompared_18 : decode cX9_readCompared 18 = .ok (.if_icmp .eq 17, 3) := by decide +kernel
theorem dX9_readCompared_21 : decode cX9_readCompared 21 = .ok (.iload_n 2, 1) := by decide +kernel
theorem dX9_readCompared_22 : decode cX9_readCompared 22 = .ok (.bipush 61, 2) := by decide +kernel
theorem dX9_readCompared_24 : decode cX9_readCompared 24 = .ok (.if_icmp .eq 11, 3) := by decide +kernel
theorem dX9_readCompared_27 : decode cX9_readCompared 27 = .ok (.iload_n 2, 1) := by decide +kernel
theorem dX9_readCompared_28 : decode cX9_readCompared 28 = .ok (.bipush 62, 2) := by decide +kernel
theorem dX9_readCompared_30 : decode cX9_readCompared 30 = .ok (.if_icmp .eq 5, 3) := by decide +kernel
theorem dX9_readCompared_33 : decode cX9_readCompared 33 = .ok (.iconst 1, 1) := by decide +kernel
theorem dX9_readCompared_34 : decode cX9_readCompared 34 = .ok (.ireturn, 1) := by decide +kernel
theorem dX9_readCompared_35 : decode cX9_readCompared 35 = .ok (.aload_n 0, 1) := by decide +kernel
theorem dX9_readCompared_36 : decode cX9_readCompared 36 = .ok (.dup, 1) := by decide +kernel
theorem dX9_readCompared_37 : decode cX9_readCompared 37 = .ok (.getfield 67, 3) := by decide +kernel
theorem dX9_readCompared_40 : decode cX9_readCompared 40 = .ok (.iconst 1, 1) := by decide +kernel
theorem dX9_readCompared_41 : decode cX9_readCompared 41 = .ok (.iadd, 1) := by decide +kernel
theorem dX9_readCompared_42 : decode cX9_readCompared 42 = .ok (.putfield 67, 3) := by decide +kernel
theorem dX9_readCompared_45 : decode cX9_readCompared 45 = .ok (.aload_n 0, 1) := by decide +kernel
theorem dX9_readCompared_46 : decode cX9_readCompared 46 = .ok (.iload_n 1, 1) := by decide +kernel
theorem dX9_readCompared_47 : decode cX9_readCompared 47 = .ok (.invokevirtual 99, 3) := by decide +kernel
theorem dX9_readCompared_50 : decode cX9_readCompared 50 = .ok (.istore_n 3, 1) := by decide +kernel
theorem dX9_readCompared_51 : decode cX9_readCompared 51 = .ok (.aload_n 0, 1) := by decide +kernel
theorem dX9_readCompared_52 : decode cX9_readCompared 52 = .ok (.iload_n 2, 1) := by decide +kernel
theorem dX9_readCompared_53 : decode cX9_readCompared 53 = .ok (.invokevirtual 92, 3) := by decide +kernel
theorem dX9_readCompared_56 : decode cX9_readCompared 56 = .ok (.iload_n 3, 1) := by decide +kernel
theorem dX9_readCompared_57 : decode cX9_readCompared 57 = .ok (.ireturn, 1) := by decide +kernel
theorem dX9_readSum_0 : decode cX9_readSum 0 = .ok (.aload_n 0, 1) := by decide +kernel
theorem dX9_readSum_1 : decode cX9_readSum 1 = .ok (.iload_n 1, 1) := by decide +kernel
theorem dX9_readSum_2 : decode cX9_readSum 2 = .ok (.invokevirtual 105, 3) := by decide +kernel
theorem dX9_readSum_5 : decode cX9_readSum 5 = .ok (.istore_n 2, 1) := by decide +kernel
theorem dX9_readSum_6 : decode cX9_readSum 6 = .ok (.iconst 0, 1) := by decide +kernel
theorem dX9_readSum_7 : decode cX9_readSum 7 = .ok (.istore_n 3, 1) := by decide +kernel
theorem dX9_readSum_8 : decode cX9_readSum 8 = .ok (.iload_n 3, 1) := by decide +kernel
theorem dX9_readSum_9 : decode cX9_readSum 9 = .ok (.bipush 50, 2) := by decide +kernel
theorem dX9_readSum_11 : decode cX9_readSum 11 = .ok (.if_icmp .ge 59, 3) := by decide +kernel
theorem dX9_readSum_14 : decode cX9_readSum 14 = .ok (.iload_n 2, 1) := by decide +kernel
theorem dX9_readSum_15 : decode cX9_readSum 15 = .ok (.ifCond .eq 55, 3) := by decide +kernel
theorem dX9_readSum_18 : decode cX9_readSum 18 = .ok (.aload_n 0, 1) := by decide +kernel
theorem dX9_readSum_19 : decode cX9_readSum 19 = .ok (.bipush 43, 2) := by decide +kernel
theorem dX9_readSum_21 : decode cX9_readSum 21 = .ok (.invokevirtual 88, 3) := by decide +kernel
theorem dX9_readSum_24 : decode cX9_readSum 24 = .ok (.ifCond .ne 12, 3) := by decide +kernel
theorem dX9_readSum_27 : decode cX9_readSum 27 = .ok (.aload_n 0, 1) := by decide +kernel
theorem dX9_readSum_28 : decode cX9_readSum 28 = .ok (.bipush 45, 2) := by decide +kernel
theorem dX9_readSum_30 : decode cX9_readSum 30 = .ok (.invokevirtual 88, 3) := by decide +kernel
theorem dX9_readSum_33 : decode cX9_readSum 33 = .ok (.ifCond .eq 37, 3) := by decide +kernel
theorem dX9_readSum_36 : decode cX9_readSum 36 = .ok (.aload_n 0, 1) := by decide +kernel
theorem dX9_readSum_37 : decode cX9_readSum 37 = .ok (.invokevirtual 102, 3) := by decide +kernel
theorem dX9_readSum_40 : decode cX9_readSum 40 = .ok (.istore 4, 2) := by decide +kernel
theorem dX9_readSum_42 : decode cX9_readSum 42 = .ok (.aload_n 0, 1) := by decide +kernel
theorem dX9_readSum_43 : decode cX9_readSum 43 = .ok (.dup, 1) := by decide +kernel
theorem dX9_readSum_44 : decode cX9_readSum 44 = .ok (.getfield 67, 3) := by decide +kernel
theorem dX9_readSum_47 : decode cX9_readSum 47 = .ok (.iconst 1, 1) := by decide +kernel
theorem dX9_readSum_48 : decode cX9_readSum 48 = .ok (.iadd, 1) := by decide +kernel
theorem dX9_readSum_49 : decode cX9_readSum 49 = .ok (.putfield 67, 3) := by decide +kernel
theorem dX9_readSum_52 : decode cX9_readSum 52 = .ok (.aload_n 0, 1) := by decide +kernel
theorem dX9_readSum_53 : decode cX9_readSum 53 = .ok (.iload_n 1, 1) := by decide +kernel
theorem dX9_readSum_54 : decode cX9_readSum 54 = .ok (.invokevirtual 105, 3) := by decide +kernel
theorem dX9_readSum_57 : decode cX9_readSum 57 = .ok (.istore_n 2, 1) := by decide +kernel
theorem dX9_readSum_58 : decode cX9_readSum 58 = .ok (.aload_n 0, 1) := by decide +kernel
theorem dX9_readSum_59 : decode cX9_readSum 59 = .ok (.iload 4, 2) := by decide +kernel
theorem dX9_readSum_61 : decode cX9_readSum 61 = .ok (.invokevirtual 92, 3) := by decide +kernel
theorem dX9_readSum_64 : decode cX9_readSum 64 = .ok (.iinc 3 1, 3) := by decide +kernel
theorem dX9_readSum_67 : decode cX9_readSum 67 = .ok (.goto (-59), 3) := by decide +kernel
theorem dX9_readSum_70 : decode cX9_readSum 70 = .ok (.iload_n 2, 1) := by decide +kernel
theorem dX9_readSum_71 : decode cX9_readSum 71 = .ok (.ireturn, 1) := by decide +kernel
theorem dX9_readProduct_0 : decode cX9_readProduct 0 = .ok (.aload_n 0, 1) := by decide +kernel
theorem dX9_readProduct_1 : decode cX9_readProduct 1 = .ok (.iload_n 1, 1) := by decide +kernel
theorem dX9_readProduct_2 : decode cX9_readProduct 2 = .ok (.invokevirtual 108, 3) := by decide +kernel
theorem dX9_readProduct_5 : decode cX9_readProduct 5 = .ok (.istore_n 2, 1) := by decide +kernel
theorem dX9_readProduct_6 : decode cX9_readProduct 6 = .ok (.iconst 0, 1) := by decide +kernel
theorem dX9_readProduct_7 : decode cX9_readProduct 7 = .ok (.istore_n 3, 1) := by decide +kernel
theorem dX9_readProduct_8 : decode cX9_readProduct 8 = .ok (.iload_n 3, 1) := by decide +kernel
theorem dX9_readProduct_9 : decode cX9_readProduct 9 = .ok (.bipush 50, 2) := by decide +kernel
theorem dX9_readProduct_11 : decode cX9_readProduct 11 = .ok (.if_icmp .ge 68, 3) := by decide +kernel
theorem dX9_readProduct_14 : decode cX9_readProduct 14 = .ok (.iload_n 2, 1) := by decide +kernel
theorem dX9_readProduct_15 : decode cX9_readProduct 15 = .ok (.ifCond .eq 64, 3) := by decide +kernel
theorem dX9_readProduct_18 : decode cX9_readProduct 18 = .ok (.aload_n 0, 1) := by decide +kernel
theorem dX9_readProduct_19 : decode cX9_readProduct 19 = .ok (.bipush 42, 2) := by decide +kernel
theorem dX9_readProduct_21 : decode cX9_readProduct 21 = .ok (.invokevirtual 88, 3) := by decide +kernel
theorem dX9_readProduct_24 : decode cX9_readProduct 24 = .ok (.ifCond .ne 21, 3) := by decide +kernel
theorem dX9_readProduct_27 : decode cX9_readProduct 27 = .ok (.aload_n 0, 1) := by decide +kernel
theorem dX9_readProduct_28 : decode cX9_readProduct 28 = .ok (.bipush 47, 2) := by decide +kernel
theorem dX9_readProduct_30 : decode cX9_readProduct 30 = .ok (.invokevirtual 88, 3) := by decide +kernel
theorem dX9_readProduct_33 : decode cX9_readProduct 33 = .ok (.ifCond .ne 12, 3) := by decide +kernel
theorem dX9_readProduct_36 : decode cX9_readProduct 36 = .ok (.aload_n 0, 1) := by decide +kernel
theorem dX9_readProduct_37 : decode cX9_readProduct 37 = .ok (.bipush 37, 2) := by decide +kernel
theorem dX9_readProduct_39 : decode cX9_readProduct 39 = .ok (.invokevirtual 88, 3) := by decide +kernel
theorem dX9_readProduct_42 : decode cX9_readProduct 42 = .ok (.ifCond .eq 37, 3) := by decide +kernel
theorem dX9_readProduct_45 : decode cX9_readProduct 45 = .ok (.aload_n 0, 1) := by decide +kernel
theorem dX9_readProduct_46 : decode cX9_readProduct 46 = .ok (.invokevirtual 102, 3) := by decide +kernel
theorem dX9_readProduct_49 : decode cX9_readProduct 49 = .ok (.istore 4, 2) := by decide +kernel
theorem dX9_readProduct_51 : decode cX9_readProduct 51 = .ok (.aload_n 0, 1) := by decide +kernel
theorem dX9_readProduct_52 : decode cX9_readProduct 52 = .ok (.dup, 1) := by decide +kernel
theorem dX9_readProduct_53 : decode cX9_readProduct 53 = .ok (.getfield 67, 3) := by decide +kernel
theorem dX9_readProduct_56 : decode cX9_readProduct 56 = .ok (.iconst 1, 1) := by decide +kernel
theorem dX9_readProduct_57 : decode cX9_readProduct 57 = .ok (.iadd, 1) := by decide +kernel
theorem dX9_readProduct_58 : decode cX9_readProduct 58 = .ok (.putfield 67, 3) := by decide +kernel
theorem dX9_readProduct_61 : decode cX9_readProduct 61 = .ok (.aload_n 0, 1) := by decide +kernel
theorem dX9_readProduct_62 : decode cX9_readProduct 62 = .ok (.iload_n 1, 1) := by decide +kernel
theorem dX9_readProduct_63 : decode cX9_readProduct 63 = .ok (.invokevirtual 108, 3) := by decide +kernel
theorem dX9_readProduct_66 : decode cX9_readProduct 66 = .ok (.istore_n 2, 1) := by decide +kernel
theorem dX9_readProduct_67 : decode cX9_readProduct 67 = .ok (.aload_n 0, 1) := by decide +kernel
theorem dX9_readProduct_68 : decode cX9_readProduct 68 = .ok (.iload 4, 2) := by decide +kernel
theorem dX9_readProduct_70 : decode cX9_readProduct 70 = .ok (.invokevirtual 92, 3) := by decide +kernel
theorem dX9_readProduct_73 : decode cX9_readProduct 73 = .ok (.iinc 3 1, 3) := by decide +kernel
theorem dX9_readProduct_76 : decode cX9_readProduct 76 = .ok (.goto (-68), 3) := by decide +kernel
theorem dX9_readProduct_79 : decode cX9_readProduct 79 = .ok (.iload_n 2, 1) := by decide +kernel
theorem dX9_readProduct_80 : decode cX9_readProduct 80 = .ok (.ireturn, 1) := by decide +kernel
theorem dX9_readSingle_0 : decode cX9_readSingle 0 = .ok (.aload_n 0, 1) := by decide +kernel
theorem dX9_readSingle_1 : decode cX9_readSingle 1 = .ok (.invokevirtual 111, 3) := by decide +kernel
theorem dX9_readSingle_4 : decode cX9_readSingle 4 = .ok (.ifCond .eq 9, 3) := by decide +kernel
theorem dX9_readSingle_7 : decode cX9_readSingle 7 = .ok (.aload_n 0, 1) := by decide +kernel
theorem dX9_readSingle_8 : decode cX9_readSingle 8 = .ok (.invokevirtual 115, 3) := by decide +kernel
theorem dX9_readSingle_11 : decode cX9_readSingle 11 = .ok (.iconst 1, 1) := by decide +kernel
theorem dX9_readSingle_12 : decode cX9_readSingle 12 = .ok (.ireturn, 1) := by decide +kernel
theorem dX9_readSingle_13 : decode cX9_readSingle 13 = .ok (.aload_n 0, 1) := by decide +kernel
theorem dX9_readSingle_14 : decode cX9_readSingle 14 = .ok (.bipush 33, 2) := by decide +kernel
theorem dX9_readSingle_16 : decode cX9_readSingle 16 = .ok (.invokevirtual 88, 3) := by decide +kernel
theorem dX9_readSingle_19 : decode cX9_readSingle 19 = .ok (.ifCond .ne 12, 3) := by decide +kernel
theorem dX9_readSingle_22 : decode cX9_readSingle 22 = .ok (.aload_n 0, 1) := by decide +kernel
theorem dX9_readSingle_23 : decode cX9_readSingle 23 = .ok (.bipush 40, 2) := by decide +kernel
theorem dX9_readSingle_25 : decode cX9_readSingle 25 = .ok (.invokevirtual 88, 3) := by decide +kernel
theorem dX9_readSingle_28 : decode cX9_readSingle 28 = .ok (.ifCond .eq 24, 3) := by decide +kernel
theorem dX9_readSingle_31 : decode cX9_readSingle 31 = .ok (.iload_n 1, 1) := by decide +kernel
theorem dX9_readSingle_32 : decode cX9_readSingle 32 = .ok (.iconst 5, 1) := by decide +kernel
theorem dX9_readSingle_33 : decode cX9_readSingle 33 = .ok (.if_icmp .ge 17, 3) := by decide +kernel
theorem dX9_readSingle_36 : decode cX9_readSingle 36 = .ok (.aload_n 0, 1) := by decide +kernel
theorem dX9_readSingle_37 : decode cX9_readSingle 37 = .ok (.iload_n 1, 1) := by decide +kernel
theorem dX9_readSingle_38 : decode cX9_readSingle 38 = .ok (.iconst 1, 1) := by decide +kernel
theorem dX9_readSingle_39 : decode cX9_readSingle 39 = .ok (.iadd, 1) := by decide +kernel
theorem dX9_readSingle_40 : decode cX9_readSingle 40 = .ok (.invokevirtual 118, 3) := by decide +kernel
theorem dX9_readSingle_43 : decode cX9_readSingle 43 = .ok (.ifCond .eq 7, 3) := by decide +kernel
theorem dX9_readSingle_46 : decode cX9_readSingle 46 = .ok (.iconst 1, 1) := by decide +kernel
theorem dX9_readSingle_47 : decode cX9_readSingle 47 = .ok (.goto 4, 3) := by decide +kernel
theorem dX9_readSingle_50 : decode cX9_readSingle 50 = .ok (.iconst 0, 1) := by decide +kernel
theorem dX9_readSingle_51 : decode cX9_readSingle 51 = .ok (.ireturn, 1) := by decide +kernel
theorem dX9_readSingle_52 : decode cX9_readSingle 52 = .ok (.aload_n 0, 1) := by decide +kernel
theorem dX9_readSingle_53 : decode cX9_readSingle 53 = .ok (.invokevirtual 102, 3) := by decide +kernel
theorem dX9_readSingle_56 : decode cX9_readSingle 56 = .ok (.ifCond .ge 7, 3) := by decide +kernel
theorem dX9_readSingle_59 : decode cX9_readSingle 59 = .ok (.iconst (-1), 1) := by decide +kernel
theorem dX9_readSingle_60 : decode cX9_readSingle 60 = .ok (.goto 15, 3) := by decide +kernel
theorem dX9_readSingle_63 : decode cX9_readSingle 63 = .ok (.aload_n 0, 1) := by decide +kernel
theorem dX9_readSingle_64 : decode cX9_readSingle 64 = .ok (.getfield 21, 3) := by decide +kernel
theorem dX9_readSingle_67 : decode cX9_readSingle 67 = .ok (.aload_n 0, 1) := by decide +kernel
theorem dX9_readSingle_68 : decode cX9_readSingle 68 = .ok (.invokevirtual 102, 3) := by decide +kernel
theorem dX9_readSingle_71 : decode cX9_readSingle 71 = .ok (.i2c, 1) := by decide +kernel
theorem dX9_readSingle_72 : decode cX9_readSingle 72 = .ok (.invokevirtual 121, 3) := by decide +kernel
theorem dX9_readSingle_75 : decode cX9_readSingle 75 = .ok (.istore_n 2, 1) := by decide +kernel
theorem dX9_readSingle_76 : decode cX9_readSingle 76 = .ok (.iload_n 2, 1) := by decide +kernel
theorem dX9_readSingle_77 : decode cX9_readSingle 77 = .ok (.ifCond .ge 5, 3) := by decide +kernel
theorem dX9_readSingle_80 : decode cX9_readSingle 80 = .ok (.iconst 0, 1) := by decide +kernel
theorem dX9_readSingle_81 : decode cX9_readSingle 81 = .ok (.ireturn, 1) := by decide +kernel
theorem dX9_readSingle_82 : decode cX9_readSingle 82 = .ok (.aload_n 0, 1) := by decide +kernel
theorem dX9_readSingle_83 : decode cX9_readSingle 83 = .ok (.dup, 1) := by decide +kernel
theorem dX9_readSingle_84 : decode cX9_readSingle 84 = .ok (.getfield 67, 3) := by decide +kernel
theorem dX9_readSingle_87 : decode cX9_readSingle 87 = .ok (.iconst 1, 1) := by decide +kernel
theorem dX9_readSingle_88 : decode cX9_readSingle 88 = .ok (.iadd, 1) := by decide +kernel
theorem dX9_readSingle_89 : decode cX9_readSingle 89 = .ok (.putfield 67, 3) := by decide +kernel
theorem dX9_readSingle_92 : decode cX9_readSingle 92 = .ok (.aload_n 0, 1) := by decide +kernel
theorem dX9_readSingle_93 : decode cX9_readSingle 93 = .ok (.iload_n 2, 1) := by decide +kernel
theorem dX9_readSingle_94 : decode cX9_readSingle 94 = .ok (.invokevirtual 92, 3) := by decide +kernel
theorem dX9_readSingle_97 : decode cX9_readSingle 97 = .ok (.iconst 1, 1) := by decide +kernel
theorem dX9_readSingle_98 : decode cX9_readSingle 98 = .ok (.ireturn, 1) := by decide +kernel
theorem dX9_readOpened_0 : decode cX9_readOpened 0 = .ok (.aload_n 0, 1) := by decide +kernel
theorem dX9_readOpened_1 : decode cX9_readOpened 1 = .ok (.bipush 33, 2) := by decide +kernel
theorem dX9_readOpened_3 : decode cX9_readOpened 3 = .ok (.invokevirtual 88, 3) := by decide +kernel
theorem dX9_readOpened_6 : decode cX9_readOpened 6 = .ok (.istore_n 2, 1) := by decide +kernel
theorem dX9_readOpened_7 : decode cX9_readOpened 7 = .ok (.aload_n 0, 1) := by decide +kernel
theorem dX9_readOpened_8 : decode cX9_readOpened 8 = .ok (.dup, 1) := by decide +kernel
theorem dX9_readOpened_9 : decode cX9_readOpened 9 = .ok (.getfield 67, 3) := by decide +kernel
theorem dX9_readOpened_12 : decode cX9_readOpened 12 = .ok (.iconst 1, 1) := by decide +kernel
theorem dX9_readOpened_13 : decode cX9_readOpened 13 = .ok (.iadd, 1) := by decide +kernel
theorem dX9_readOpened_14 : decode cX9_readOpened 14 = .ok (.putfield 67, 3) := by decide +kernel
theorem dX9_readOpened_17 : decode cX9_readOpened 17 = .ok (.iload_n 2, 1) := by decide +kernel
theorem dX9_readOpened_18 : decode cX9_readOpened 18 = .ok (.ifCond .eq 17, 3) := by decide +kernel
theorem dX9_readOpened_21 : decode cX9_readOpened 21 = .ok (.aload_n 0, 1) := by decide +kernel
theorem dX9_readOpened_22 : decode cX9_readOpened 22 = .ok (.iload_n 1, 1) := by decide +kernel
theorem dX9_readOpened_23 : decode cX9_readOpened 23 = .ok (.invokevirtual 108, 3) := by decide +kernel
theorem dX9_readOpened_26 : decode cX9_readOpened 26 = .ok (.istore_n 3, 1) := by decide +kernel
theorem dX9_readOpened_27 : decode cX9_readOpened 27 = .ok (.aload_n 0, 1) := by decide +kernel
theorem dX9_readOpened_28 : decode cX9_readOpened 28 = .ok (.bipush 33, 2) := by decide +kernel
theorem dX9_readOpened_30 : decode cX9_readOpened 30 = .ok (.invokevirtual 92, 3) := by decide +kernel
theorem dX9_readOpened_33 : decode cX9_readOpened 33 = .ok (.iload_n 3, 1) := by decide +kernel
theorem dX9_readOpened_34 : decode cX9_readOpened 34 = .ok (.ireturn, 1) := by decide +kernel
theorem dX9_readOpened_35 : decode cX9_readOpened 35 = .ok (.aload_n 0, 1) := by decide +kernel
theorem dX9_readOpened_36 : decode cX9_readOpened 36 = .ok (.iload_n 1, 1) := by decide +kernel
theorem dX9_readOpened_37 : decode cX9_readOpened 37 = .ok (.invokevirtual 73, 3) := by decide +kernel
theorem dX9_readOpened_40 : decode cX9_readOpened 40 = .ok (.ifCond .eq 12, 3) := by decide +kernel
theorem dX9_readOpened_43 : decode cX9_readOpened 43 = .ok (.aload_n 0, 1) := by decide +kernel
theorem dX9_readOpened_44 : decode cX9_readOpened 44 = .ok (.bipush 41, 2) := by decide +kernel
theorem dX9_readOpened_46 : decode cX9_readOpened 46 = .ok (.invokevirtual 88, 3) := by decide +kernel
theorem dX9_readOpened_49 : decode cX9_readOpened 49 = .ok (.ifCond .ne 5, 3) := by decide +kernel
theorem dX9_readOpened_52 : decode cX9_readOpened 52 = .ok (.iconst 0, 1) := by decide +kernel
theorem dX9_readOpened_53 : decode cX9_readOpened 53 = .ok (.ireturn, 1) := by decide +kernel
theorem dX9_readOpened_54 : decode cX9_readOpened 54 = .ok (.aload_n 0, 1) := by decide +kernel
theorem dX9_readOpened_55 : decode cX9_readOpened 55 = .ok (.dup, 1) := by decide +kernel
theorem dX9_readOpened_56 : decode cX9_readOpened 56 = .ok (.getfield 67, 3) := by decide +kernel
theorem dX9_readOpened_59 : decode cX9_readOpened 59 = .ok (.iconst 1, 1) := by decide +kernel
theorem dX9_readOpened_60 : decode cX9_readOpened 60 = .ok (.iadd, 1) := by decide +kernel
theorem dX9_readOpened_61 : decode cX9_readOpened 61 = .ok (.putfield 67, 3) := by decide +kernel
theorem dX9_readOpened_64 : decode cX9_readOpened 64 = .ok (.iconst 1, 1) := by decide +kernel
theorem dX9_readOpened_65 : decode cX9_readOpened 65 = .ok (.ireturn, 1) := by decide +kernel
theorem dX9_readNumber_0 : decode cX9_readNumber 0 = .ok (.iconst 0, 1) := by decide +kernel
theorem dX9_readNumber_1 : decode cX9_readNumber 1 = .ok (.istore_n 1, 1) := by decide +kernel
theorem dX9_readNumber_2 : decode cX9_readNumber 2 = .ok (.iconst 0, 1) := by decide +kernel
theorem dX9_readNumber_3 : decode cX9_readNumber 3 = .ok (.istore_n 2, 1) := by decide +kernel
theorem dX9_readNumber_4 : decode cX9_readNumber 4 = .ok (.iload_n 2, 1) := by decide +kernel
theorem dX9_readNumber_5 : decode cX9_readNumber 5 = .ok (.iconst 4, 1) := by decide +kernel
theorem dX9_readNumber_6 : decode cX9_readNumber 6 = .ok (.if_icmp .ge 39, 3) := by decide +kernel
theorem dX9_readNumber_9 : decode cX9_readNumber 9 = .ok (.aload_n 0, 1) := by decide +kernel
theorem dX9_readNumber_10 : decode cX9_readNumber 10 = .ok (.invokevirtual 111, 3) := by decide +kernel
theorem dX9_readNumber_13 : decode cX9_readNumber 13 = .ok (.ifCond .eq 32, 3) := by decide +kernel
theorem dX9_readNumber_16 : decode cX9_readNumber 16 = .ok (.bipush 10, 2) := by decide +kernel
theorem dX9_readNumber_18 : decode cX9_readNumber 18 = .ok (.iload_n 1, 1) := by decide +kernel
theorem dX9_readNumber_19 : decode cX9_readNumber 19 = .ok (.imul, 1) := by decide +kernel
theorem dX9_readNumber_20 : decode cX9_readNumber 20 = .ok (.aload_n 0, 1) := by decide +kernel
theorem dX9_readNumber_21 : decode cX9_readNumber 21 = .ok (.invokevirtual 102, 3) := by decide +kernel
theorem dX9_readNumber_24 : decode cX9_readNumber 24 = .ok (.iadd, 1) := by decide +kernel
theorem dX9_readNumber_25 : decode cX9_readNumber 25 = .ok (.bipush 48, 2) := by decide +kernel
theorem dX9_readNumber_27 : decode cX9_readNumber 27 = .ok (.isub, 1) := by decide +kernel
theorem dX9_readNumber_28 : decode cX9_readNumber 28 = .ok (.istore_n 1, 1) := by decide +kernel
theorem dX9_readNumber_29 : decode cX9_readNumber 29 = .ok (.aload_n 0, 1) := by decide +kernel
theorem dX9_readNumber_30 : decode cX9_readNumber 30 = .ok (.dup, 1) := by decide +kernel
theorem dX9_readNumber_31 : decode cX9_readNumber 31 = .ok (.getfield 67, 3) := by decide +kernel
theorem dX9_readNumber_34 : decode cX9_readNumber 34 = .ok (.iconst 1, 1) := by decide +kernel
theorem dX9_readNumber_35 : decode cX9_readNumber 35 = .ok (.iadd, 1) := by decide +kernel
theorem dX9_readNumber_36 : decode cX9_readNumber 36 = .ok (.putfield 67, 3) := by decide +kernel
theorem dX9_readNumber_39 : decode cX9_readNumber 39 = .ok (.iinc 2 1, 3) := by decide +kernel
theorem dX9_readNumber_42 : decode cX9_readNumber 42 = .ok (.goto (-38), 3) := by decide +kernel
theorem dX9_readNumber_45 : decode cX9_readNumber 45 = .ok (.aload_n 0, 1) := by decide +kernel
theorem dX9_readNumber_46 : decode cX9_readNumber 46 = .ok (.sipush 1000, 3) := by decide +kernel
theorem dX9_readNumber_49 : decode cX9_readNumber 49 = .ok (.iload_n 1, 1) := by decide +kernel
theorem dX9_readNumber_50 : decode cX9_readNumber 50 = .ok (.iadd, 1) := by decide +kernel
theorem dX9_readNumber_51 : decode cX9_readNumber 51 = .ok (.invokevirtual 92, 3) := by decide +kernel
theorem dX9_readNumber_54 : decode cX9_readNumber 54 = .ok (.return_, 1) := by decide +kernel
theorem dX9_next_0 : decode cX9_next 0 = .ok (.aload_n 0, 1) := by decide +kernel
theorem dX9_next_1 : decode cX9_next 1 = .ok (.getfield 67, 3) := by decide +kernel
theorem dX9_next_4 : decode cX9_next 4 = .ok (.aload_n 0, 1) := by decide +kernel
theorem dX9_next_5 : decode cX9_next 5 = .ok (.getfield 64, 3) := by decide +kernel
theorem dX9_next_8 : decode cX9_next 8 = .ok (.if_icmp .ge 19, 3) := by decide +kernel
theorem dX9_next_11 : decode cX9_next 11 = .ok (.aload_n 0, 1) := by decide +kernel
theorem dX9_next_12 : decode cX9_next 12 = .ok (.getfield 51, 3) := by decide +kernel
theorem dX9_next_15 : decode cX9_next 15 = .ok (.aload_n 0, 1) := by decide +kernel
theorem dX9_next_16 : decode cX9_next 16 = .ok (.getfield 67, 3) := by decide +kernel
theorem dX9_next_19 : decode cX9_next 19 = .ok (.baload, 1) := by decide +kernel
theorem dX9_next_20 : decode cX9_next 20 = .ok (.sipush 255, 3) := by decide +kernel
theorem dX9_next_23 : decode cX9_next 23 = .ok (.iand, 1) := by decide +kernel
theorem dX9_next_24 : decode cX9_next 24 = .ok (.goto 4, 3) := by decide +kernel
theorem dX9_next_27 : decode cX9_next 27 = .ok (.iconst (-1), 1) := by decide +kernel
theorem dX9_next_28 : decode cX9_next 28 = .ok (.ireturn, 1) := by decide +kernel
theorem dX9_sees_0 : decode cX9_sees 0 = .ok (.aload_n 0, 1) := by decide +kernel
theorem dX9_sees_1 : decode cX9_sees 1 = .ok (.invokevirtual 102, 3) := by decide +kernel
theorem dX9_sees_4 : decode cX9_sees 4 = .ok (.iload_n 1, 1) := by decide +kernel
theorem dX9_sees_5 : decode cX9_sees 5 = .ok (.if_icmp .ne 7, 3) := by decide +kernel
theorem dX9_sees_8 : decode cX9_sees 8 = .ok (.iconst 1, 1) := by decide +kernel
theorem dX9_sees_9 : decode cX9_sees 9 = .ok (.goto 4, 3) := by decide +kernel
theorem dX9_sees_12 : decode cX9_sees 12 = .ok (.iconst 0, 1) := by decide +kernel
theorem dX9_sees_13 : decode cX9_sees 13 = .ok (.ireturn, 1) := by decide +kernel
theorem dX9_seesDigit_0 : decode cX9_seesDigit 0 = .ok (.aload_n 0, 1) := by decide +kernel
theorem dX9_seesDigit_1 : decode cX9_seesDigit 1 = .ok (.invokevirtual 102, 3) := by decide +kernel
theorem dX9_seesDigit_4 : decode cX9_seesDigit 4 = .ok (.bipush 48, 2) := by decide +kernel
theorem dX9_seesDigit_6 : decode cX9_seesDigit 6 = .ok (.if_icmp .lt 16, 3) := by decide +kernel
theorem dX9_seesDigit_9 : decode cX9_seesDigit 9 = .ok (.aload_n 0, 1) := by decide +kernel
theorem dX9_seesDigit_10 : decode cX9_seesDigit 10 = .ok (.invokevirtual 102, 3) := by decide +kernel
theorem dX9_seesDigit_13 : decode cX9_seesDigit 13 = .ok (.bipush 57, 2) := by decide +kernel
theorem dX9_seesDigit_15 : decode cX9_seesDigit 15 = .ok (.if_icmp .gt 7, 3) := by decide +kernel
theorem dX9_seesDigit_18 : decode cX9_seesDigit 18 = .ok (.iconst 1, 1) := by decide +kernel
theorem dX9_seesDigit_19 : decode cX9_seesDigit 19 = .ok (.goto 4, 3) := by decide +kernel
theorem dX9_seesDigit_22 : decode cX9_seesDigit 22 = .ok (.iconst 0, 1) := by decide +kernel
theorem dX9_seesDigit_23 : decode cX9_seesDigit 23 = .ok (.ireturn, 1) := by decide +kernel
theorem dX9_write_0 : decode cX9_write 0 = .ok (.aload_n 0, 1) := by decide +kernel
theorem dX9_write_1 : decode cX9_write 1 = .ok (.getfield 70, 3) := by decide +kernel
theorem dX9_write_4 : decode cX9_write 4 = .ok (.bipush 50, 2) := by decide +kernel
theorem dX9_write_6 : decode cX9_write 6 = .ok (.if_icmp .ge 23, 3) := by decide +kernel
theorem dX9_write_9 : decode cX9_write 9 = .ok (.aload_n 0, 1) := by decide +kernel
theorem dX9_write_10 : decode cX9_write 10 = .ok (.getfield 15, 3) := by decide +kernel
theorem dX9_write_13 : decode cX9_write 13 = .ok (.aload_n 0, 1) := by decide +kernel
theorem dX9_write_14 : decode cX9_write 14 = .ok (.getfield 70, 3) := by decide +kernel
theorem dX9_write_17 : decode cX9_write 17 = .ok (.iload_n 1, 1) := by decide +kernel
theorem dX9_write_18 : decode cX9_write 18 = .ok (.iastore, 1) := by decide +kernel
theorem dX9_write_19 : decode cX9_write 19 = .ok (.aload_n 0, 1) := by decide +kernel
theorem dX9_write_20 : decode cX9_write 20 = .ok (.dup, 1) := by decide +kernel
theorem dX9_write_21 : decode cX9_write 21 = .ok (.getfield 70, 3) := by decide +kernel
theorem dX9_write_24 : decode cX9_write 24 = .ok (.iconst 1, 1) := by decide +kernel
theorem dX9_write_25 : decode cX9_write 25 = .ok (.iadd, 1) := by decide +kernel
theorem dX9_write_26 : decode cX9_write 26 = .ok (.putfield 70, 3) := by decide +kernel
theorem dX9_write_29 : decode cX9_write 29 = .ok (.return_, 1) := by decide +kernel
