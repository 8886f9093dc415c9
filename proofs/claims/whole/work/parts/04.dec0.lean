theorem dJ0_length_8abf5_0 : decode cJ0_length_8abf5 0 = .ok (.aload_n 0, 1) := by decide +kernel
theorem dJ0_length_8abf5_1 : decode cJ0_length_8abf5 1 = .ok (.getfield 9, 3) := by decide +kernel
theorem dJ0_length_8abf5_4 : decode cJ0_length_8abf5 4 = .ok (.arraylength, 1) := by decide +kernel
theorem dJ0_length_8abf5_5 : decode cJ0_length_8abf5 5 = .ok (.aload_n 0, 1) := by decide +kernel
theorem dJ0_length_8abf5_6 : decode cJ0_length_8abf5 6 = .ok (.invokevirtual 335, 3) := by decide +kernel
theorem dJ0_length_8abf5_9 : decode cJ0_length_8abf5 9 = .ok (.ishr, 1) := by decide +kernel
theorem dJ0_length_8abf5_10 : decode cJ0_length_8abf5 10 = .ok (.ireturn, 1) := by decide +kernel
theorem dJ0_charAt_5068e_0 : decode cJ0_charAt_5068e 0 = .ok (.aload_n 0, 1) := by decide +kernel
theorem dJ0_charAt_5068e_1 : decode cJ0_charAt_5068e 1 = .ok (.invokevirtual 492, 3) := by decide +kernel
theorem dJ0_charAt_5068e_4 : decode cJ0_charAt_5068e 4 = .ok (.ifCond .eq 12, 3) := by decide +kernel
theorem dJ0_charAt_5068e_7 : decode cJ0_charAt_5068e 7 = .ok (.aload_n 0, 1) := by decide +kernel
theorem dJ0_charAt_5068e_8 : decode cJ0_charAt_5068e 8 = .ok (.getfield 9, 3) := by decide +kernel
theorem dJ0_charAt_5068e_11 : decode cJ0_charAt_5068e 11 = .ok (.iload_n 1, 1) := by decide +kernel
theorem dJ0_charAt_5068e_12 : decode cJ0_charAt_5068e 12 = .ok (.invokestatic 495, 3) := by decide +kernel
theorem dJ0_charAt_5068e_15 : decode cJ0_charAt_5068e 15 = .ok (.ireturn, 1) := by decide +kernel
theorem dJ0_charAt_5068e_16 : decode cJ0_charAt_5068e 16 = .ok (.aload_n 0, 1) := by decide +kernel
theorem dJ0_charAt_5068e_17 : decode cJ0_charAt_5068e 17 = .ok (.getfield 9, 3) := by decide +kernel
theorem dJ0_charAt_5068e_20 : decode cJ0_charAt_5068e 20 = .ok (.iload_n 1, 1) := by decide +kernel
theorem dJ0_charAt_5068e_21 : decode cJ0_charAt_5068e 21 = .ok (.invokestatic 498, 3) := by decide +kernel
theorem dJ0_charAt_5068e_24 : decode cJ0_charAt_5068e 24 = .ok (.ireturn, 1) := by decide +kernel
theorem dJ0_coder_7d493_0 : decode cJ0_coder_7d493 0 = .ok (.getstatic 38, 3) := by decide +kernel
theorem dJ0_coder_7d493_3 : decode cJ0_coder_7d493 3 = .ok (.ifCond .eq 10, 3) := by decide +kernel
theorem dJ0_coder_7d493_6 : decode cJ0_coder_7d493 6 = .ok (.aload_n 0, 1) := by decide +kernel
theorem dJ0_coder_7d493_7 : decode cJ0_coder_7d493 7 = .ok (.getfield 15, 3) := by decide +kernel
theorem dJ0_coder_7d493_10 : decode cJ0_coder_7d493 10 = .ok (.goto 4, 3) := by decide +kernel
theorem dJ0_coder_7d493_13 : decode cJ0_coder_7d493 13 = .ok (.iconst 1, 1) := by decide +kernel
theorem dJ0_coder_7d493_14 : decode cJ0_coder_7d493 14 = .ok (.ireturn, 1) := by decide +kernel
theorem dJ0_isLatin1_aae02_0 : decode cJ0_isLatin1_aae02 0 = .ok (.getstatic 38, 3) := by decide +kernel
theorem dJ0_isLatin1_aae02_3 : decode cJ0_isLatin1_aae02 3 = .ok (.ifCond .eq 14, 3) := by decide +kernel
theorem dJ0_isLatin1_aae02_6 : decode cJ0_isLatin1_aae02 6 = .ok (.aload_n 0, 1) := by decide +kernel
theorem dJ0_isLatin1_aae02_7 : decode cJ0_isLatin1_aae02 7 = .ok (.getfield 15, 3) := by decide +kernel
theorem dJ0_isLatin1_aae02_10 : decode cJ0_isLatin1_aae02 10 = .ok (.ifCond .ne 7, 3) := by decide +kernel
theorem dJ0_isLatin1_aae02_13 : decode cJ0_isLatin1_aae02 13 = .ok (.iconst 1, 1) := by decide +kernel
theorem dJ0_isLatin1_aae02_14 : decode cJ0_isLatin1_aae02 14 = .ok (.goto 4, 3) := by decide +kernel
theorem dJ0_isLatin1_aae02_17 : decode cJ0_isLatin1_aae02 17 = .ok (.iconst 0, 1) := by decide +kernel
theorem dJ0_isLatin1_aae02_18 : decode cJ0_isLatin1_aae02 18 = .ok (.ireturn, 1) := by decide +kernel
theorem dJ0_checkIndex_df160_0 : decode cJ0_checkIndex_df160 0 = .ok (.iload_n 0, 1) := by decide +kernel
theorem dJ0_checkIndex_df160_1 : decode cJ0_checkIndex_df160 1 = .ok (.iload_n 1, 1) := by decide +kernel
theorem dJ0_checkIndex_df160_2 : decode cJ0_checkIndex_df160 2 = .ok (.getstatic 1053, 3) := by decide +kernel
theorem dJ0_checkIndex_df160_5 : decode cJ0_checkIndex_df160 5 = .ok (.invokestatic 1059, 3) := by decide +kernel
theorem dJ0_checkIndex_df160_8 : decode cJ0_checkIndex_df160 8 = .ok (.pop, 1) := by decide +kernel
theorem dJ0_checkIndex_df160_9 : decode cJ0_checkIndex_df160 9 = .ok (.return_, 1) := by decide +kernel
theorem dJ1_charAt_3b067_0 : decode cJ1_charAt_3b067 0 = .ok (.iload_n 1, 1) := by decide +kernel
theorem dJ1_charAt_3b067_1 : decode cJ1_charAt_3b067 1 = .ok (.aload_n 0, 1) := by decide +kernel
theorem dJ1_charAt_3b067_2 : decode cJ1_charAt_3b067 2 = .ok (.arraylength, 1) := by decide +kernel
theorem dJ1_charAt_3b067_3 : decode cJ1_charAt_3b067 3 = .ok (.invokestatic 9, 3) := by decide +kernel
theorem dJ1_charAt_3b067_6 : decode cJ1_charAt_3b067 6 = .ok (.aload_n 0, 1) := by decide +kernel
theorem dJ1_charAt_3b067_7 : decode cJ1_charAt_3b067 7 = .ok (.iload_n 1, 1) := by decide +kernel
theorem dJ1_charAt_3b067_8 : decode cJ1_charAt_3b067 8 = .ok (.baload, 1) := by decide +kernel
theorem dJ1_charAt_3b067_9 : decode cJ1_charAt_3b067 9 = .ok (.sipush 255, 3) := by decide +kernel
theorem dJ1_charAt_3b067_12 : decode cJ1_charAt_3b067 12 = .ok (.iand, 1) := by decide +kernel
theorem dJ1_charAt_3b067_13 : decode cJ1_charAt_3b067 13 = .ok (.i2c, 1) := by decide +kernel
theorem dJ1_charAt_3b067_14 : decode cJ1_charAt_3b067 14 = .ok (.ireturn, 1) := by decide +kernel
theorem dJ2_getChar_3b067_0 : decode cJ2_getChar_3b067 0 = .ok (.getstatic 44, 3) := by decide +kernel
theorem dJ2_getChar_3b067_3 : decode cJ2_getChar_3b067 3 = .ok (.ifCond .ne 25, 3) := by decide +kernel
theorem dJ2_getChar_3b067_6 : decode cJ2_getChar_3b067 6 = .ok (.iload_n 1, 1) := by decide +kernel
theorem dJ2_getChar_3b067_7 : decode cJ2_getChar_3b067 7 = .ok (.ifCond .lt 11, 3) := by decide +kernel
theorem dJ2_getChar_3b067_10 : decode cJ2_getChar_3b067 10 = .ok (.iload_n 1, 1) := by decide +kernel
theorem dJ2_getChar_3b067_11 : decode cJ2_getChar_3b067 11 = .ok (.aload_n 0, 1) := by decide +kernel
theorem dJ2_getChar_3b067_12 : decode cJ2_getChar_3b067 12 = .ok (.invokestatic 48, 3) := by decide +kernel
theorem dJ2_getChar_3b067_15 : decode cJ2_getChar_3b067 15 = .ok (.if_icmp .lt 13, 3) := by decide +kernel
theorem dJ2_getChar_3b067_18 : decode cJ2_getChar_3b067 18 = .ok (.new 52, 3) := by decide +kernel
theorem dJ2_getChar_3b067_21 : decode cJ2_getChar_3b067 21 = .ok (.dup, 1) := by decide +kernel
theorem dJ2_getChar_3b067_22 : decode cJ2_getChar_3b067 22 = .ok (.ldc 54, 2) := by decide +kernel
theorem dJ2_getChar_3b067_24 : decode cJ2_getChar_3b067 24 = .ok (.invokespecial 56, 3) := by decide +kernel
theorem dJ2_getChar_3b067_27 : decode cJ2_getChar_3b067 27 = .ok (.athrow, 1) := by decide +kernel
theorem dJ2_getChar_3b067_28 : decode cJ2_getChar_3b067 28 = .ok (.iload_n 1, 1) := by decide +kernel
theorem dJ2_getChar_3b067_29 : decode cJ2_getChar_3b067 29 = .ok (.iconst 1, 1) := by decide +kernel
theorem dJ2_getChar_3b067_30 : decode cJ2_getChar_3b067 30 = .ok (.ishl, 1) := by decide +kernel
theorem dJ2_getChar_3b067_31 : decode cJ2_getChar_3b067 31 = .ok (.istore_n 1, 1) := by decide +kernel
theorem dJ2_getChar_3b067_32 : decode cJ2_getChar_3b067 32 = .ok (.aload_n 0, 1) := by decide +kernel
theorem dJ2_getChar_3b067_33 : decode cJ2_getChar_3b067 33 = .ok (.iload_n 1, 1) := by decide +kernel
theorem dJ2_getChar_3b067_34 : decode cJ2_getChar_3b067 34 = .ok (.iinc 1 1, 3) := by decide +kernel
theorem dJ2_getChar_3b067_37 : decode cJ2_getChar_3b067 37 = .ok (.baload, 1) := by decide +kernel
theorem dJ2_getChar_3b067_38 : decode cJ2_getChar_3b067 38 = .ok (.sipush 255, 3) := by decide +kernel
theorem dJ2_getChar_3b067_41 : decode cJ2_getChar_3b067 41 = .ok (.iand, 1) := by decide +kernel
theorem dJ2_getChar_3b067_42 : decode cJ2_getChar_3b067 42 = .ok (.getstatic 59, 3) := by decide +kernel
theorem dJ2_getChar_3b067_45 : decode cJ2_getChar_3b067 45 = .ok (.ishl, 1) := by decide +kernel
theorem dJ2_getChar_3b067_46 : decode cJ2_getChar_3b067 46 = .ok (.aload_n 0, 1) := by decide +kernel
theorem dJ2_getChar_3b067_47 : decode cJ2_getChar_3b067 47 = .ok (.iload_n 1, 1) := by decide +kernel
theorem dJ2_getChar_3b067_48 : decode cJ2_getChar_3b067 48 = .ok (.baload, 1) := by decide +kernel
theorem dJ2_getChar_3b067_49 : decode cJ2_getChar_3b067 49 = .ok (.sipush 255, 3) := by decide +kernel
theorem dJ2_getChar_3b067_52 : decode cJ2_getChar_3b067 52 = .ok (.iand, 1) := by decide +kernel
theorem dJ2_getChar_3b067_53 : decode cJ2_getChar_3b067 53 = .ok (.getstatic 63, 3) := by decide +kernel
theorem dJ2_getChar_3b067_56 : decode cJ2_getChar_3b067 56 = .ok (.ishl, 1) := by decide +kernel
theorem dJ2_getChar_3b067_57 : decode cJ2_getChar_3b067 57 = .ok (.ior, 1) := by decide +kernel
theorem dJ2_getChar_3b067_58 : decode cJ2_getChar_3b067 58 = .ok (.i2c, 1) := by decide +kernel
theorem dJ2_getChar_3b067_59 : decode cJ2_getChar_3b067 59 = .ok (.ireturn, 1) := by decide +kernel
theorem dJ2_length_9d52b_0 : decode cJ2_length_9d52b 0 = .ok (.aload_n 0, 1) := by decide +kernel
theorem dJ2_length_9d52b_1 : decode cJ2_length_9d52b 1 = .ok (.arraylength, 1) := by decide +kernel
theorem dJ2_length_9d52b_2 : decode cJ2_length_9d52b 2 = .ok (.iconst 1, 1) := by decide +kernel
theorem dJ2_length_9d52b_3 : decode cJ2_length_9d52b 3 = .ok (.ishr, 1) := by decide +kernel
theorem dJ2_length_9d52b_4 : decode cJ2_length_9d52b 4 = .ok (.ireturn, 1) := by decide +kernel
theorem dJ2_charAt_3b067_0 : decode cJ2_charAt_3b067 0 = .ok (.iload_n 1, 1) := by decide +kernel
theorem dJ2_charAt_3b067_1 : decode cJ2_charAt_3b067 1 = .ok (.aload_n 0, 1) := by decide +kernel
theorem dJ2_charAt_3b067_2 : decode cJ2_charAt_3b067 2 = .ok (.invokestatic 67, 3) := by decide +kernel
theorem dJ2_charAt_3b067_5 : decode cJ2_charAt_3b067 5 = .ok (.aload_n 0, 1) := by decide +kernel
theorem dJ2_charAt_3b067_6 : decode cJ2_charAt_3b067 6 = .ok (.iload_n 1, 1) := by decide +kernel
theorem dJ2_charAt_3b067_7 : decode cJ2_charAt_3b067 7 = .ok (.invokestatic 71, 3) := by decide +kernel
theorem dJ2_charAt_3b067_10 : decode cJ2_charAt_3b067 10 = .ok (.ireturn, 1) := by decide +kernel
theorem dJ2_checkIndex_2214a_0 : decode cJ2_checkIndex_2214a 0 = .ok (.iload_n 0, 1) := by decide +kernel
theorem dJ2_checkIndex_2214a_1 : decode cJ2_checkIndex_2214a 1 = .ok (.aload_n 1, 1) := by decide +kernel
theorem dJ2_checkIndex_2214a_2 : decode cJ2_checkIndex_2214a 2 = .ok (.invokestatic 48, 3) := by decide +kernel
theorem dJ2_checkIndex_2214a_5 : decode cJ2_checkIndex_2214a 5 = .ok (.invokestatic 414, 3) := by decide +kernel
theorem dJ2_checkIndex_2214a_8 : decode cJ2_checkIndex_2214a 8 = .ok (.return_, 1) := by decide +kernel
theorem dJ3_checkIndex_8e157_0 : decode cJ3_checkIndex_8e157 0 = .ok (.iload_n 0, 1) := by decide +kernel
theorem dJ3_checkIndex_8e157_1 : decode cJ3_checkIndex_8e157 1 = .ok (.ifCond .lt 8, 3) := by decide +kernel
theorem dJ3_checkIndex_8e157_4 : decode cJ3_checkIndex_8e157 4 = .ok (.iload_n 0, 1) := by decide +kernel
theorem dJ3_checkIndex_8e157_5 : decode cJ3_checkIndex_8e157 5 = .ok (.iload_n 1, 1) := by decide +kernel
theorem dJ3_checkIndex_8e157_6 : decode cJ3_checkIndex_8e157 6 = .ok (.if_icmp .lt 10, 3) := by decide +kernel
theorem dJ3_checkIndex_8e157_9 : decode cJ3_checkIndex_8e157 9 = .ok (.aload_n 2, 1) := by decide +kernel
theorem dJ3_checkIndex_8e157_10 : decode cJ3_checkIndex_8e157 10 = .ok (.iload_n 0, 1) := by decide +kernel
theorem dJ3_checkIndex_8e157_11 : decode cJ3_checkIndex_8e157 11 = .ok (.iload_n 1, 1) := by decide +kernel
theorem dJ3_checkIndex_8e157_12 : decode cJ3_checkIndex_8e157 12 = .ok (.invokestatic 95, 3) := by decide +kernel
theorem dJ3_checkIndex_8e157_15 : decode cJ3_checkIndex_8e157 15 = .ok (.athrow, 1) := by decide +kernel
theorem dJ3_checkIndex_8e157_16 : decode cJ3_checkIndex_8e157 16 = .ok (.iload_n 0, 1) := by decide +kernel
theorem dJ3_checkIndex_8e157_17 : decode cJ3_checkIndex_8e157 17 = .ok (.ireturn, 1) := by decide +kernel
theorem dJ7_fill_d0a16_0 : decode cJ7_fill_d0a16 0 = .ok (.iconst 0, 1) := by decide +kernel
theorem dJ7_fill_d0a16_1 : decode cJ7_fill_d0a16 1 = .ok (.istore_n 3, 1) := by decide +kernel
theorem dJ7_fill_d0a16_2 : decode cJ7_fill_d0a16 2 = .ok (.aload_n 0, 1) := by decide +kernel
theorem dJ7_fill_d0a16_3 : decode cJ7_fill_d0a16 3 = .ok (.arraylength, 1) := by decide +kernel
theorem dJ7_fill_d0a16_4 : decode cJ7_fill_d0a16 4 = .ok (.istore 4, 2) := by decide +kernel
theorem dJ7_fill_d0a16_6 : decode cJ7_fill_d0a16 6 = .ok (.iload_n 3, 1) := by decide +kernel
theorem dJ7_fill_d0a16_7 : decode cJ7_fill_d0a16 7 = .ok (.iload 4, 2) := by decide +kernel
theorem dJ7_fill_d0a16_9 : decode cJ7_fill_d0a16 9 = .ok (.if_icmp .ge 13, 3) := by decide +kernel
theorem dJ7_fill_d0a16_12 : decode cJ7_fill_d0a16 12 = .ok (.aload_n 0, 1) := by decide +kernel
theorem dJ7_fill_d0a16_13 : decode cJ7_fill_d0a16 13 = .ok (.iload_n 3, 1) := by decide +kernel
theorem dJ7_fill_d0a16_14 : decode cJ7_fill_d0a16 14 = .ok (.lload_n 1, 1) := by decide +kernel
theorem dJ7_fill_d0a16_15 : decode cJ7_fill_d0a16 15 = .ok (.lastore, 1) := by decide +kernel
theorem dJ7_fill_d0a16_16 : decode cJ7_fill_d0a16 16 = .ok (.iinc 3 1, 3) := by decide +kernel
theorem dJ7_fill_d0a16_19 : decode cJ7_fill_d0a16 19 = .ok (.goto (-13), 3) := by decide +kernel
theorem dJ7_fill_d0a16_22 : decode cJ7_fill_d0a16 22 = .ok (.return_, 1) := by decide +kernel
theorem dJ7_fill_53178_0 : decode cJ7_fill_53178 0 = .ok (.iconst 0, 1) := by decide +kernel
theorem dJ7_fill_53178_1 : decode cJ7_fill_53178 1 = .ok (.istore_n 2, 1) := by decide +kernel
theorem dJ7_fill_53178_2 : decode cJ7_fill_53178 2 = .ok (.aload_n 0, 1) := by decide +kernel
theorem dJ7_fill_53178_3 : decode cJ7_fill_53178 3 = .ok (.arraylength, 1) := by decide +kernel
theorem dJ7_fill_53178_4 : decode cJ7_fill_53178 4 = .ok (.istore_n 3, 1) := by decide +kernel
theorem dJ7_fill_53178_5 : decode cJ7_fill_53178 5 = .ok (.iload_n 2, 1) := by decide +kernel
theorem dJ7_fill_53178_6 : decode cJ7_fill_53178 6 = .ok (.iload_n 3, 1) := by decide +kernel
theorem dJ7_fill_53178_7 : decode cJ7_fill_53178 7 = .ok (.if_icmp .ge 13, 3) := by decide +kernel
theorem dJ7_fill_53178_10 : decode cJ7_fill_53178 10 = .ok (.aload_n 0, 1) := by decide +kernel
theorem dJ7_fill_53178_11 : decode cJ7_fill_53178 11 = .ok (.iload_n 2, 1) := by decide +kernel
theorem dJ7_fill_53178_12 : decode cJ7_fill_53178 12 = .ok (.iload_n 1, 1) := by decide +kernel
theorem dJ7_fill_53178_13 : decode cJ7_fill_53178 13 = .ok (.iastore, 1) := by decide +kernel
theorem dJ7_fill_53178_14 : decode cJ7_fill_53178 14 = .ok (.iinc 2 1, 3) := by decide +kernel
theorem dJ7_fill_53178_17 : decode cJ7_fill_53178 17 = .ok (.goto (-12), 3) := by decide +kernel
theorem dJ7_fill_53178_20 : decode cJ7_fill_53178 20 = .ok (.return_, 1) := by decide +kernel
theorem dJ9_max_7cf53_0 : decode cJ9_max_7cf53 0 = .ok (.iload_n 0, 1) := by decide +kernel
theorem dJ9_max_7cf53_1 : decode cJ9_max_7cf53 1 = .ok (.iload_n 1, 1) := by decide +kernel
theorem dJ9_max_7cf53_2 : decode cJ9_max_7cf53 2 = .ok (.if_icmp .lt 7, 3) := by decide +kernel
theorem dJ9_max_7cf53_5 : decode cJ9_max_7cf53 5 = .ok (.iload_n 0, 1) := by decide +kernel
theorem dJ9_max_7cf53_6 : decode cJ9_max_7cf53 6 = .ok (.goto 4, 3) := by decide +kernel
theorem dJ9_max_7cf53_9 : decode cJ9_max_7cf53 9 = .ok (.iload_n 1, 1) := by decide +kernel
theorem dJ9_max_7cf53_10 : decode cJ9_max_7cf53 10 = .ok (.ireturn, 1) := by decide +kernel
theorem dJ9_max_f86c9_0 : decode cJ9_max_f86c9 0 = .ok (.lload_n 0, 1) := by decide +kernel
theorem dJ9_max_f86c9_1 : decode cJ9_max_f86c9 1 = .ok (.lload_n 2, 1) := by decide +kernel
theorem dJ9_max_f86c9_2 : decode cJ9_max_f86c9 2 = .ok (.lcmp, 1) := by decide +kernel
theorem dJ9_max_f86c9_3 : decode cJ9_max_f86c9 3 = .ok (.ifCond .lt 7, 3) := by decide +kernel
theorem dJ9_max_f86c9_6 : decode cJ9_max_f86c9 6 = .ok (.lload_n 0, 1) := by decide +kernel
theorem dJ9_max_f86c9_7 : decode cJ9_max_f86c9 7 = .ok (.goto 4, 3) := by decide +kernel
theorem dJ9_max_f86c9_10 : decode cJ9_max_f86c9 10 = .ok (.lload_n 2, 1) := by decide +kernel
theorem dJ9_max_f86c9_11 : decode cJ9_max_f86c9 11 = .ok (.lreturn, 1) := by decide +kernel
theorem dJ9_min_7cf53_0 : decode cJ9_min_7cf53 0 = .ok (.iload_n 0, 1) := by decide +kernel
theorem dJ9_min_7cf53_1 : decode cJ9_min_7cf53 1 = .ok (.iload_n 1, 1) := by decide +kernel
theorem dJ9_min_7cf53_2 : decode cJ9_min_7cf53 2 = .ok (.if_icmp .gt 7, 3) := by decide +kernel
theorem dJ9_min_7cf53_5 : decode cJ9_min_7cf53 5 = .ok (.iload_n 0, 1) := by decide +kernel
theorem dJ9_min_7cf53_6 : decode cJ9_min_7cf53 6 = .ok (.goto 4, 3) := by decide +kernel
theorem dJ9_min_7cf53_9 : decode cJ9_min_7cf53 9 = .ok (.iload_n 1, 1) := by decide +kernel
theorem dJ9_min_7cf53_10 : decode cJ9_min_7cf53 10 = .ok (.ireturn, 1) := by decide +kernel
theorem dL_octet_0 : decode cL_octet 0 = .ok (.aload_n 2, 1) := by decide +kernel
theorem dL_octet_1 : decode cL_octet 1 = .ok (.iconst 0, 1) := by decide +kernel
theorem dL_octet_2 : decode cL_octet 2 = .ok (.aload_n 0, 1) := by decide +kernel
theorem dL_octet_3 : decode cL_octet 3 = .ok (.iload_n 1, 1) := by decide +kernel
theorem dL_octet_4 : decode cL_octet 4 = .ok (.invokevirtual 7, 3) := by decide +kernel
theorem dL_octet_7 : decode cL_octet 7 = .ok (.i2l, 1) := by decide +kernel
theorem dL_octet_8 : decode cL_octet 8 = .ok (.lastore, 1) := by decide +kernel
theorem dL_octet_9 : decode cL_octet 9 = .ok (.goto 6, 3) := by decide +kernel
theorem dL_octet_12 : decode cL_octet 12 = .ok (.astore_n 3, 1) := by decide +kernel
theorem dL_octet_13 : decode cL_octet 13 = .ok (.iconst 1, 1) := by decide +kernel
theorem dL_octet_14 : decode cL_octet 14 = .ok (.ireturn, 1) := by decide +kernel
theorem dL_octet_15 : decode cL_octet 15 = .ok (.iconst 0, 1) := by decide +kernel
theorem dL_octet_16 : decode cL_octet 16 = .ok (.ireturn, 1) := by decide +kernel
theorem dL_judged_0 : decode cL_judged 0 = .ok (.aload 4, 2) := by decide +kernel
theorem dL_judged_2 : decode cL_judged 2 = .ok (.iconst 0, 1) := by decide +kernel
theorem dL_judged_3 : decode cL_judged 3 = .ok (.aload_n 0, 1) := by decide +kernel
theorem dL_judged_4 : decode cL_judged 4 = .ok (.iload_n 1, 1) := by decide +kernel
theorem dL_judged_5 : decode cL_judged 5 = .ok (.iload_n 2, 1) := by decide +kernel
theorem dL_judged_6 : decode cL_judged 6 = .ok (.iload_n 3, 1) := by decide +kernel
theorem dL_judged_7 : decode cL_judged 7 = .ok (.invokevirtual 15, 3) := by decide +kernel
theorem dL_judged_10 : decode cL_judged 10 = .ok (.i2l, 1) := by decide +kernel
theorem dL_judged_11 : decode cL_judged 11 = .ok (.lastore, 1) := by decide +kernel
theorem dL_judged_12 : decode cL_judged 12 = .ok (.goto 7, 3) := by decide +kernel
theorem dL_judged_15 : decode cL_judged 15 = .ok (.astore 5, 2) := by decide +kernel
theorem dL_judged_17 : decode cL_judged 17 = .ok (.iconst 1, 1) := by decide +kernel
theorem dL_judged_18 : decode cL_judged 18 = .ok (.ireturn, 1) := by decide +kernel
theorem dL_judged_19 : decode cL_judged 19 = .ok (.iconst 0, 1) := by decide +kernel
theorem dL_judged_20 : decode cL_judged 20 = .ok (.ireturn, 1) := by decide +kernel
theorem dL_entered_0 : decode cL_entered 0 = .ok (.aload 4, 2) := by decide +kernel
theorem dL_entered_2 : decode cL_entered 2 = .ok (.iconst 0, 1) := by decide +kernel
theorem dL_entered_3 : decode cL_entered 3 = .ok (.aload_n 0, 1) := by decide +kernel
theorem dL_entered_4 : decode cL_entered 4 = .ok (.iload_n 1, 1) := by decide +kernel
theorem dL_entered_5 : decode cL_entered 5 = .ok (.iload_n 2, 1) := by decide +kernel
theorem dL_entered_6 : decode cL_entered 6 = .ok (.iload_n 3, 1) := by decide +kernel
theorem dL_entered_7 : decode cL_entered 7 = .ok (.invokevirtual 19, 3) := by decide +kernel
theorem dL_entered_10 : decode cL_entered 10 = .ok (.i2l, 1) := by decide +kernel
theorem dL_entered_11 : decode cL_entered 11 = .ok (.lastore, 1) := by decide +kernel
theorem dL_entered_12 : decode cL_entered 12 = .ok (.goto 7, 3) := by decide +kernel
theorem dL_entered_15 : decode cL_entered 15 = .ok (.astore 5, 2) := by decide +kernel
theorem dL_entered_17 : decode cL_entered 17 = .ok (.iconst 1, 1) := by decide +kernel
theorem dL_entered_18 : decode cL_entered 18 = .ok (.ireturn, 1) := by decide +kernel
theorem dL_entered_19 : decode cL_entered 19 = .ok (.iconst 0, 1) := by decide +kernel
theorem dL_entered_20 : decode cL_entered 20 = .ok (.ireturn, 1) := by decide +kernel
theorem dL_chance_0 : decode cL_chance 0 = .ok (.aload_n 3, 1) := by decide +kernel
theorem dL_chance_1 : decode cL_chance 1 = .ok (.iconst 0, 1) := by decide +kernel
theorem dL_chance_2 : decode cL_chance 2 = .ok (.aload_n 0, 1) := by decide +kernel
theorem dL_chance_3 : decode cL_chance 3 = .ok (.iload_n 1, 1) := by decide +kernel
theorem dL_chance_4 : decode cL_chance 4 = .ok (.iload_n 2, 1) := by decide +kernel
theorem dL_chance_5 : decode cL_chance 5 = .ok (.invokevirtual 22, 3) := by decide +kernel
theorem dL_chance_8 : decode cL_chance 8 = .ok (.lastore, 1) := by decide +kernel
theorem dL_chance_9 : decode cL_chance 9 = .ok (.goto 7, 3) := by decide +kernel
theorem dL_chance_12 : decode cL_chance 12 = .ok (.astore 4, 2) := by decide +kernel
theorem dL_chance_14 : decode cL_chance 14 = .ok (.iconst 1, 1) := by decide +kernel
theorem dL_chance_15 : decode cL_chance 15 = .ok (.ireturn, 1) := by decide +kernel
theorem dL_chance_16 : decode cL_chance 16 = .ok (.iconst 0, 1) := by decide +kernel
theorem dL_chance_17 : decode cL_chance 17 = .ok (.ireturn, 1) := by decide +kernel
theorem dL_law_0 : decode cL_law 0 = .ok (.new 8, 3) := by decide +kernel
theorem dL_law_3 : decode cL_law 3 = .ok (.dup, 1) := by decide +kernel
theorem dL_law_4 : decode cL_law 4 = .ok (.invokespecial 26, 3) := by decide +kernel
theorem dL_law_7 : decode cL_law 7 = .ok (.astore_n 1, 1) := by decide +kernel
theorem dL_law_8 : decode cL_law 8 = .ok (.new 27, 3) := by decide +kernel
theorem dL_law_11 : decode cL_law 11 = .ok (.dup, 1) := by decide +kernel
theorem dL_law_12 : decode cL_law 12 = .ok (.invokespecial 29, 3) := by decide +kernel
theorem dL_law_15 : decode cL_law 15 = .ok (.astore_n 2, 1) := by decide +kernel
theorem dL_law_16 : decode cL_law 16 = .ok (.iconst 1, 1) := by decide +kernel
theorem dL_law_17 : decode cL_law 17 = .ok (.newarray .long, 2) := by decide +kernel
theorem dL_law_19 : decode cL_law 19 = .ok (.astore_n 3, 1) := by decide +kernel
theorem dL_law_20 : decode cL_law 20 = .ok (.iconst 0, 1) := by decide +kernel
theorem dL_law_21 : decode cL_law 21 = .ok (.istore 4, 2) := by decide +kernel
theorem dL_law_23 : decode cL_law 23 = .ok (.iload 4, 2) := by decide +kernel
theorem dL_law_25 : decode cL_law 25 = .ok (.aload_n 0, 1) := by decide +kernel
theorem dL_law_26 : decode cL_law 26 = .ok (.arraylength, 1) := by decide +kernel
theorem dL_law_27 : decode cL_law 27 = .ok (.bipush 8, 2) := by decide +kernel
theorem dL_law_29 : decode cL_law 29 = .ok (.isub, 1) := by decide +kernel
theorem dL_law_30 : decode cL_law 30 = .ok (.if_icmp .gt 1679, 3) := by decide +kernel
theorem dL_law_33 : decode cL_law 33 = .ok (.aload_n 0, 1) := by decide +kernel
theorem dL_law_34 : decode cL_law 34 = .ok (.iload 4, 2) := by decide +kernel
theorem dL_law_36 : decode cL_law 36 = .ok (.iaload, 1) := by decide +kernel
theorem dL_law_37 : decode cL_law 37 = .ok (.bipush 31, 2) := by decide +kernel
theorem dL_law_39 : decode cL_law 39 = .ok (.iand, 1) := by decide +kernel
theorem dL_law_40 : decode cL_law 40 = .ok (.tableswitch 1663 0 30 #[140, 213, 238, 263, 288, 361, 422, 483, 600, 649, 686, 711, 736, 749, 811, 872, 928, 977, 1038, 1118, 1143, 1180, 1229, 1266, 1315, 1340, 1420, 1485, 1522, 1589, 1638], 140) := by decide +kernel
theorem dL_law_180 : decode cL_law 180 = .ok (.aload_n 1, 1) := by decide +kernel
theorem dL_law_181 : decode cL_law 181 = .ok (.aload_n 0, 1) := by decide +kernel
theorem dL_law_182 : decode cL_law 182 = .ok (.iload 4, 2) := by decide +kernel
theorem dL_law_184 : decode cL_law 184 = .ok (.iconst 1, 1) := by decide +kernel
theorem dL_law_185 : decode cL_law 185 = .ok (.iadd, 1) := by decide +kernel
theorem dL_law_186 : decode cL_law 186 = .ok (.iaload, 1) := by decide +kernel
theorem dL_law_187 : decode cL_law 187 = .ok (.aload_n 0, 1) := by decide +kernel
theorem dL_law_188 : decode cL_law 188 = .ok (.iload 4, 2) := by decide +kernel
theorem dL_law_190 : decode cL_law 190 = .ok (.iconst 2, 1) := by decide +kernel
theorem dL_law_191 : decode cL_law 191 = .ok (.iadd, 1) := by decide +kernel
theorem dL_law_192 : decode cL_law 192 = .ok (.iaload, 1) := by decide +kernel
theorem dL_law_193 : decode cL_law 193 = .ok (.aload_n 0, 1) := by decide +kernel
theorem dL_law_194 : decode cL_law 194 = .ok (.iload 4, 2) := by decide +kernel
theorem dL_law_196 : decode cL_law 196 = .ok (.iconst 3, 1) := by decide +kernel
theorem dL_law_197 : decode cL_law 197 = .ok (.iadd, 1) := by decide +kernel
theorem dL_law_198 : decode cL_law 198 = .ok (.iaload, 1) := by decide +kernel
theorem dL_law_199 : decode cL_law 199 = .ok (.aload_n 0, 1) := by decide +kernel
theorem dL_law_200 : decode cL_law 200 = .ok (.iload 4, 2) := by decide +kernel
theorem dL_law_202 : decode cL_law 202 = .ok (.iconst 4, 1) := by decide +kernel
theorem dL_law_203 : decode cL_law 203 = .ok (.iadd, 1) := by decide +kernel
theorem dL_law_204 : decode cL_law 204 = .ok (.iaload, 1) := by decide +kernel
theorem dL_law_205 : decode cL_law 205 = .ok (.aload_n 0, 1) := by decide +kernel
theorem dL_law_206 : decode cL_law 206 = .ok (.iload 4, 2) := by decide +kernel
theorem dL_law_208 : decode cL_law 208 = .ok (.iconst 5, 1) := by decide +kernel
theorem dL_law_209 : decode cL_law 209 = .ok (.iadd, 1) := by decide +kernel
theorem dL_law_210 : decode cL_law 210 = .ok (.iaload, 1) := by decide +kernel
theorem dL_law_211 : decode cL_law 211 = .ok (.invokevirtual 30, 3) := by decide +kernel
theorem dL_law_214 : decode cL_law 214 = .ok (.aload_n 2, 1) := by decide +kernel
theorem dL_law_215 : decode cL_law 215 = .ok (.aload_n 0, 1) := by decide +kernel
theorem dL_law_216 : decode cL_law 216 = .ok (.iload 4, 2) := by decide +kernel
theorem dL_law_218 : decode cL_law 218 = .ok (.iconst 1, 1) := by decide +kernel
theorem dL_law_219 : decode cL_law 219 = .ok (.iadd, 1) := by decide +kernel
theorem dL_law_220 : decode cL_law 220 = .ok (.iaload, 1) := by decide +kernel
theorem dL_law_221 : decode cL_law 221 = .ok (.aload_n 0, 1) := by decide +kernel
theorem dL_law_222 : decode cL_law 222 = .ok (.iload 4, 2) := by decide +kernel
theorem dL_law_224 : decode cL_law 224 = .ok (.iconst 2, 1) := by decide +kernel
theorem dL_law_225 : decode cL_law 225 = .ok (.iadd, 1) := by decide +kernel
theorem dL_law_226 : decode cL_law 226 = .ok (.iaload, 1) := by decide +kernel
theorem dL_law_227 : decode cL_law 227 = .ok (.aload_n 0, 1) := by decide +kernel
theorem dL_law_228 : decode cL_law 228 = .ok (.iload 4, 2) := by decide +kernel
theorem dL_law_230 : decode cL_law 230 = .ok (.iconst 3, 1) := by decide +kernel
theorem dL_law_231 : decode cL_law 231 = .ok (.iadd, 1) := by decide +kernel
theorem dL_law_232 : decode cL_law 232 = .ok (.iaload, 1) := by decide +kernel
theorem dL_law_233 : decode cL_law 233 = .ok (.aload_n 0, 1) := by decide +kernel
theorem dL_law_234 : decode cL_law 234 = .ok (.iload 4, 2) := by decide +kernel
theorem dL_law_236 : decode cL_law 236 = .ok (.iconst 4, 1) := by decide +kernel
theorem dL_law_237 : decode cL_law 237 = .ok (.iadd, 1) := by decide +kernel
theorem dL_law_238 : decode cL_law 238 = .ok (.iaload, 1) := by decide +kernel
theorem dL_law_239 : decode cL_law 239 = .ok (.aload_n 0, 1) := by decide +kernel
theorem dL_law_240 : decode cL_law 240 = .ok (.iload 4, 2) := by decide +kernel
theorem dL_law_242 : decode cL_law 242 = .ok (.iconst 5, 1) := by decide +kernel
theorem dL_law_243 : decode cL_law 243 = .ok (.iadd, 1) := by decide +kernel
theorem dL_law_244 : decode cL_law 244 = .ok (.iaload, 1) := by decide +kernel
theorem dL_law_245 : decode cL_law 245 = .ok (.invokevirtual 34, 3) := by decide +kernel
theorem dL_law_248 : decode cL_law 248 = .ok (.if_icmp .eq 1455, 3) := by decide +kernel
theorem dL_law_251 : decode cL_law 251 = .ok (.iconst 0, 1) := by decide +kernel
theorem dL_law_252 : decode cL_law 252 = .ok (.ireturn, 1) := by decide +kernel
theorem dL_law_253 : decode cL_law 253 = .ok (.aload_n 1, 1) := by decide +kernel
theorem dL_law_254 : decode cL_law 254 = .ok (.aload_n 0, 1) := by decide +kernel
theorem dL_law_255 : decode cL_law 255 = .ok (.iload 4, 2) := by decide +kernel
theorem dL_law_257 : decode cL_law 257 = .ok (.iconst 1, 1) := by decide +kernel
theorem dL_law_258 : decode cL_law 258 = .ok (.iadd, 1) := by decide +kernel
theorem dL_law_259 : decode cL_law 259 = .ok (.iaload, 1) := by decide +kernel
theorem dL_law_260 : decode cL_law 260 = .ok (.invokevirtual 35, 3) := by decide +kernel
theorem dL_law_263 : decode cL_law 263 = .ok (.aload_n 2, 1) := by decide +kernel
theorem dL_law_264 : decode cL_law 264 = .ok (.aload_n 0, 1) := by decide +kernel
theorem dL_law_265 : decode cL_law 265 = .ok (.iload 4, 2) := by decide +kernel
theorem dL_law_267 : decode cL_law 267 = .ok (.iconst 1, 1) := by decide +kernel
theorem dL_law_268 : decode cL_law 268 = .ok (.iadd, 1) := by decide +kernel
theorem dL_law_269 : decode cL_law 269 = .ok (.iaload, 1) := by decide +kernel
theorem dL_law_270 : decode cL_law 270 = .ok (.invokevirtual 39, 3) := by decide +kernel
theorem dL_law_273 : decode cL_law 273 = .ok (.if_icmp .eq 1430, 3) := by decide +kernel
theorem dL_law_276 : decode cL_law 276 = .ok (.iconst 0, 1) := by decide +kernel
theorem dL_law_277 : decode cL_law 277 = .ok (.ireturn, 1) := by decide +kernel
theorem dL_law_278 : decode cL_law 278 = .ok (.aload_n 1, 1) := by decide +kernel
theorem dL_law_279 : decode cL_law 279 = .ok (.aload_n 0, 1) := by decide +kernel
theorem dL_law_280 : decode cL_law 280 = .ok (.iload 4, 2) := by decide +kernel
theorem dL_law_282 : decode cL_law 282 = .ok (.iconst 1, 1) := by decide +kernel
theorem dL_law_283 : decode cL_law 283 = .ok (.iadd, 1) := by decide +kernel
theorem dL_law_284 : decode cL_law 284 = .ok (.iaload, 1) := by decide +kernel
theorem dL_law_285 : decode cL_law 285 = .ok (.invokevirtual 40, 3) := by decide +kernel
theorem dL_law_288 : decode cL_law 288 = .ok (.aload_n 2, 1) := by decide +kernel
theorem dL_law_289 : decode cL_law 289 = .ok (.aload_n 0, 1) := by decide +kernel
theorem dL_law_290 : decode cL_law 290 = .ok (.iload 4, 2) := by decide +kernel
theorem dL_law_292 : decode cL_law 292 = .ok (.iconst 1, 1) := by decide +kernel
theorem dL_law_293 : decode cL_law 293 = .ok (.iadd, 1) := by decide +kernel
theorem dL_law_294 : decode cL_law 294 = .ok (.iaload, 1) := by decide +kernel
theorem dL_law_295 : decode cL_law 295 = .ok (.invokevirtual 43, 3) := by decide +kernel
theorem dL_law_298 : decode cL_law 298 = .ok (.if_icmp .eq 1405, 3) := by decide +kernel
theorem dL_law_301 : decode cL_law 301 = .ok (.iconst 0, 1) := by decide +kernel
theorem dL_law_302 : decode cL_law 302 = .ok (.ireturn, 1) := by decide +kernel
theorem dL_law_303 : decode cL_law 303 = .ok (.aload_n 1, 1) := by decide +kernel
theorem dL_law_304 : decode cL_law 304 = .ok (.aload_n 0, 1) := by decide +kernel
theorem dL_law_305 : decode cL_law 305 = .ok (.iload 4, 2) := by decide +kernel
theorem dL_law_307 : decode cL_law 307 = .ok (.iconst 1, 1) := by decide +kernel
theorem dL_law_308 : decode cL_law 308 = .ok (.iadd, 1) := by decide +kernel
theorem dL_law_309 : decode cL_law 309 = .ok (.iaload, 1) := by decide +kernel
theorem dL_law_310 : decode cL_law 310 = .ok (.invokevirtual 44, 3) := by decide +kernel
theorem dL_law_313 : decode cL_law 313 = .ok (.aload_n 2, 1) := by decide +kernel
theorem dL_law_314 : decode cL_law 314 = .ok (.aload_n 0, 1) := by decide +kernel
theorem dL_law_315 : decode cL_law 315 = .ok (.iload 4, 2) := by decide +kernel
theorem dL_law_317 : decode cL_law 317 = .ok (.iconst 1, 1) := by decide +kernel
theorem dL_law_318 : decode cL_law 318 = .ok (.iadd, 1) := by decide +kernel
theorem dL_law_319 : decode cL_law 319 = .ok (.iaload, 1) := by decide +kernel
theorem dL_law_320 : decode cL_law 320 = .ok (.invokevirtual 47, 3) := by decide +kernel
theorem dL_law_323 : decode cL_law 323 = .ok (.if_icmp .eq 1380, 3) := by decide +kernel
theorem dL_law_326 : decode cL_law 326 = .ok (.iconst 0, 1) := by decide +kernel
theorem dL_law_327 : decode cL_law 327 = .ok (.ireturn, 1) := by decide +kernel
theorem dL_law_328 : decode cL_law 328 = .ok (.aload_n 1, 1) := by decide +kernel
theorem dL_law_329 : decode cL_law 329 = .ok (.aload_n 0, 1) := by decide +kernel
theorem dL_law_330 : decode cL_law 330 = .ok (.iload 4, 2) := by decide +kernel
theorem dL_law_332 : decode cL_law 332 = .ok (.iconst 1, 1) := by decide +kernel
theorem dL_law_333 : decode cL_law 333 = .ok (.iadd, 1) := by decide +kernel
theorem dL_law_334 : decode cL_law 334 = .ok (.iaload, 1) := by decide +kernel
theorem dL_law_335 : decode cL_law 335 = .ok (.aload_n 0, 1) := by decide +kernel
theorem dL_law_336 : decode cL_law 336 = .ok (.iload 4, 2) := by decide +kernel
theorem dL_law_338 : decode cL_law 338 = .ok (.iconst 2, 1) := by decide +kernel
theorem dL_law_339 : decode cL_law 339 = .ok (.iadd, 1) := by decide +kernel
theorem dL_law_340 : decode cL_law 340 = .ok (.iaload, 1) := by decide +kernel
theorem dL_law_341 : decode cL_law 341 = .ok (.aload_n 0, 1) := by decide +kernel
theorem dL_law_342 : decode cL_law 342 = .ok (.iload 4, 2) := by decide +kernel
theorem dL_law_344 : decode cL_law 344 = .ok (.iconst 3, 1) := by decide +kernel
theorem dL_law_345 : decode cL_law 345 = .ok (.iadd, 1) := by decide +kernel
theorem dL_law_346 : decode cL_law 346 = .ok (.iaload, 1) := by decide +kernel
theorem dL_law_347 : decode cL_law 347 = .ok (.aload_n 0, 1) := by decide +kernel
theorem dL_law_348 : decode cL_law 348 = .ok (.iload 4, 2) := by decide +kernel
theorem dL_law_350 : decode cL_law 350 = .ok (.iconst 4, 1) := by decide +kernel
theorem dL_law_351 : decode cL_law 351 = .ok (.iadd, 1) := by decide +kernel
theorem dL_law_352 : decode cL_law 352 = .ok (.iaload, 1) := by decide +kernel
theorem dL_law_353 : decode cL_law 353 = .ok (.aload_n 0, 1) := by decide +kernel
theorem dL_law_354 : decode cL_law 354 = .ok (.iload 4, 2) := by decide +kernel
theorem dL_law_356 : decode cL_law 356 = .ok (.iconst 5, 1) := by decide +kernel
theorem dL_law_357 : decode cL_law 357 = .ok (.iadd, 1) := by decide +kernel
theorem dL_law_358 : decode cL_law 358 = .ok (.iaload, 1) := by decide +kernel
theorem dL_law_359 : decode cL_law 359 = .ok (.invokevirtual 48, 3) := by decide +kernel
theorem dL_law_362 : decode cL_law 362 = .ok (.aload_n 2, 1) := by decide +kernel
theorem dL_law_363 : decode cL_law 363 = .ok (.aload_n 0, 1) := by decide +kernel
theorem dL_law_364 : decode cL_law 364 = .ok (.iload 4, 2) := by decide +kernel
theorem dL_law_366 : decode cL_law 366 = .ok (.iconst 1, 1) := by decide +kernel
theorem dL_law_367 : decode cL_law 367 = .ok (.iadd, 1) := by decide +kernel
theorem dL_law_368 : decode cL_law 368 = .ok (.iaload, 1) := by decide +kernel
theorem dL_law_369 : decode cL_law 369 = .ok (.aload_n 0, 1) := by decide +kernel
theorem dL_law_370 : decode cL_law 370 = .ok (.iload 4, 2) := by decide +kernel
theorem dL_law_372 : decode cL_law 372 = .ok (.iconst 2, 1) := by decide +kernel
theorem dL_law_373 : decode cL_law 373 = .ok (.iadd, 1) := by decide +kernel
theorem dL_law_374 : decode cL_law 374 = .ok (.iaload, 1) := by decide +kernel
theorem dL_law_375 : decode cL_law 375 = .ok (.aload_n 0, 1) := by decide +kernel
theorem dL_law_376 : decode cL_law 376 = .ok (.iload 4, 2) := by decide +kernel
theorem dL_law_378 : decode cL_law 378 = .ok (.iconst 3, 1) := by decide +kernel
theorem dL_law_379 : decode cL_law 379 = .ok (.iadd, 1) := by decide +kernel
theorem dL_law_380 : decode cL_law 380 = .ok (.iaload, 1) := by decide +kernel
theorem dL_law_381 : decode cL_law 381 = .ok (.aload_n 0, 1) := by decide +kernel
theorem dL_law_382 : decode cL_law 382 = .ok (.iload 4, 2) := by decide +kernel
theorem dL_law_384 : decode cL_law 384 = .ok (.iconst 4, 1) := by decide +kernel
theorem dL_law_385 : decode cL_law 385 = .ok (.iadd, 1) := by decide +kernel
theorem dL_law_386 : decode cL_law 386 = .ok (.iaload, 1) := by decide +kernel
theorem dL_law_387 : decode cL_law 387 = .ok (.aload_n 0, 1) := by decide +kernel
theorem dL_law_388 : decode cL_law 388 = .ok (.iload 4, 2) := by decide +kernel
theorem dL_law_390 : decode cL_law 390 = .ok (.iconst 5, 1) := by decide +kernel
theorem dL_law_391 : decode cL_law 391 = .ok (.iadd, 1) := by decide +kernel
theorem dL_law_392 : decode cL_law 392 = .ok (.iaload, 1) := by decide +kernel
theorem dL_law_393 : decode cL_law 393 = .ok (.invokevirtual 51, 3) := by decide +kernel
theorem dL_law_396 : decode cL_law 396 = .ok (.if_icmp .eq 1307, 3) := by decide +kernel
theorem dL_law_399 : decode cL_law 399 = .ok (.iconst 0, 1) := by decide +kernel
theorem dL_law_400 : decode cL_law 400 = .ok (.ireturn, 1) := by decide +kernel
theorem dL_law_401 : decode cL_law 401 = .ok (.aload_n 1, 1) := by decide +kernel
theorem dL_law_402 : decode cL_law 402 = .ok (.aload_n 0, 1) := by decide +kernel
theorem dL_law_403 : decode cL_law 403 = .ok (.iload 4, 2) := by decide +kernel
theorem dL_law_405 : decode cL_law 405 = .ok (.iconst 1, 1) := by decide +kernel
theorem dL_law_406 : decode cL_law 406 = .ok (.iadd, 1) := by decide +kernel
theorem dL_law_407 : decode cL_law 407 = .ok (.iaload, 1) := by decide +kernel
theorem dL_law_408 : decode cL_law 408 = .ok (.aload_n 0, 1) := by decide +kernel
theorem dL_law_409 : decode cL_law 409 = .ok (.iload 4, 2) := by decide +kernel
theorem dL_law_411 : decode cL_law 411 = .ok (.iconst 2, 1) := by decide +kernel
theorem dL_law_412 : decode cL_law 412 = .ok (.iadd, 1) := by decide +kernel
theorem dL_law_413 : decode cL_law 413 = .ok (.iaload, 1) := by decide +kernel
theorem dL_law_414 : decode cL_law 414 = .ok (.aload_n 0, 1) := by decide +kernel
theorem dL_law_415 : decode cL_law 415 = .ok (.iload 4, 2) := by decide +kernel
theorem dL_law_417 : decode cL_law 417 = .ok (.iconst 3, 1) := by decide +kernel
theorem dL_law_418 : decode cL_law 418 = .ok (.iadd, 1) := by decide +kernel
theorem dL_law_419 : decode cL_law 419 = .ok (.iaload, 1) := by decide +kernel
theorem dL_law_420 : decode cL_law 420 = .ok (.aload_n 0, 1) := by decide +kernel
theorem dL_law_421 : decode cL_law 421 = .ok (.iload 4, 2) := by decide +kernel
theorem dL_law_423 : decode cL_law 423 = .ok (.iconst 4, 1) := by decide +kernel
theorem dL_law_424 : decode cL_law 424 = .ok (.iadd, 1) := by decide +kernel
theorem dL_law_425 : decode cL_law 425 = .ok (.iaload, 1) := by decide +kernel
theorem dL_law_426 : decode cL_law 426 = .ok (.invokevirtual 52, 3) := by decide +kernel
theorem dL_law_429 : decode cL_law 429 = .ok (.aload_n 2, 1) := by decide +kernel
theorem dL_law_430 : decode cL_law 430 = .ok (.aload_n 0, 1) := by decide +kernel
theorem dL_law_431 : decode cL_law 431 = .ok (.iload 4, 2) := by decide +kernel
theorem dL_law_433 : decode cL_law 433 = .ok (.iconst 1, 1) := by decide +kernel
theorem dL_law_434 : decode cL_law 434 = .ok (.iadd, 1) := by decide +kernel
theorem dL_law_435 : decode cL_law 435 = .ok (.iaload, 1) := by decide +kernel
theorem dL_law_436 : decode cL_law 436 = .ok (.aload_n 0, 1) := by decide +kernel
theorem dL_law_437 : decode cL_law 437 = .ok (.iload 4, 2) := by decide +kernel
theorem dL_law_439 : decode cL_law 439 = .ok (.iconst 2, 1) := by decide +kernel
theorem dL_law_440 : decode cL_law 440 = .ok (.iadd, 1) := by decide +kernel
theorem dL_law_441 : decode cL_law 441 = .ok (.iaload, 1) := by decide +kernel
theorem dL_law_442 : decode cL_law 442 = .ok (.aload_n 0, 1) := by decide +kernel
theorem dL_law_443 : decode cL_law 443 = .ok (.iload 4, 2) := by decide +kernel
theorem dL_law_445 : decode cL_law 445 = .ok (.iconst 3, 1) := by decide +kernel
theorem dL_law_446 : decode cL_law 446 = .ok (.iadd, 1) := by decide +kernel
theorem dL_law_447 : decode cL_law 447 = .ok (.iaload, 1) := by decide +kernel
theorem dL_law_448 : decode cL_law 448 = .ok (.aload_n 0, 1) := by decide +kernel
theorem dL_law_449 : decode cL_law 449 = .ok (.iload 4, 2) := by decide +kernel
theorem dL_law_451 : decode cL_law 451 = .ok (.iconst 4, 1) := by decide +kernel
theorem dL_law_452 : decode cL_law 452 = .ok (.iadd, 1) := by decide +kernel
theorem dL_law_453 : decode cL_law 453 = .ok (.iaload, 1) := by decide +kernel
theorem dL_law_454 : decode cL_law 454 = .ok (.invokevirtual 56, 3) := by decide +kernel
theorem dL_law_457 : decode cL_law 457 = .ok (.if_icmp .eq 1246, 3) := by decide +kernel
theorem dL_law_460 : decode cL_law 460 = .ok (.iconst 0, 1) := by decide +kernel
theorem dL_law_461 : decode cL_law 461 = .ok (.ireturn, 1) := by decide +kernel
theorem dL_law_462 : decode cL_law 462 = .ok (.aload_n 1, 1) := by decide +kernel
theorem dL_law_463 : decode cL_law 463 = .ok (.aload_n 0, 1) := by decide +kernel
theorem dL_law_464 : decode cL_law 464 = .ok (.iload 4, 2) := by decide +kernel
theorem dL_law_466 : decode cL_law 466 = .ok (.iconst 1, 1) := by decide +kernel
theorem dL_law_467 : decode cL_law 467 = .ok (.iadd, 1) := by decide +kernel
theorem dL_law_468 : decode cL_law 468 = .ok (.iaload, 1) := by decide +kernel
theorem dL_law_469 : decode cL_law 469 = .ok (.aload_n 0, 1) := by decide +kernel
theorem dL_law_470 : decode cL_law 470 = .ok (.iload 4, 2) := by decide +kernel
theorem dL_law_472 : decode cL_law 472 = .ok (.iconst 2, 1) := by decide +kernel
theorem dL_law_473 : decode cL_law 473 = .ok (.iadd, 1) := by decide +kernel
theorem dL_law_474 : decode cL_law 474 = .ok (.iaload, 1) := by decide +kernel
theorem dL_law_475 : decode cL_law 475 = .ok (.aload_n 0, 1) := by decide +kernel
theorem dL_law_476 : decode cL_law 476 = .ok (.iload 4, 2) := by decide +kernel
theorem dL_law_478 : decode cL_law 478 = .ok (.iconst 3, 1) := by decide +kernel
theorem dL_law_479 : decode cL_law 479 = .ok (.iadd, 1) := by decide +kernel
theorem dL_law_480 : decode cL_law 480 = .ok (.iaload, 1) := by decide +kernel
theorem dL_law_481 : decode cL_law 481 = .ok (.aload_n 0, 1) := by decide +kernel
theorem dL_law_482 : decode cL_law 482 = .ok (.iload 4, 2) := by decide +kernel
theorem dL_law_484 : decode cL_law 484 = .ok (.iconst 4, 1) := by decide +kernel
theorem dL_law_485 : decode cL_law 485 = .ok (.iadd, 1) := by decide +kernel
theorem dL_law_486 : decode cL_law 486 = .ok (.iaload, 1) := by decide +kernel
theorem dL_law_487 : decode cL_law 487 = .ok (.invokevirtual 57, 3) := by decide +kernel
theorem dL_law_490 : decode cL_law 490 = .ok (.aload_n 2, 1) := by decide +kernel
theorem dL_law_491 : decode cL_law 491 = .ok (.aload_n 0, 1) := by decide +kernel
theorem dL_law_492 : decode cL_law 492 = .ok (.iload 4, 2) := by decide +kernel
theorem dL_law_494 : decode cL_law 494 = .ok (.iconst 1, 1) := by decide +kernel
theorem dL_law_495 : decode cL_law 495 = .ok (.iadd, 1) := by decide +kernel
theorem dL_law_496 : decode cL_law 496 = .ok (.iaload, 1) := by decide +kernel
theorem dL_law_497 : decode cL_law 497 = .ok (.aload_n 0, 1) := by decide +kernel
theorem dL_law_498 : decode cL_law 498 = .ok (.iload 4, 2) := by decide +kernel
theorem dL_law_500 : decode cL_law 500 = .ok (.iconst 2, 1) := by decide +kernel
theorem dL_law_501 : decode cL_law 501 = .ok (.iadd, 1) := by decide +kernel
theorem dL_law_502 : decode cL_law 502 = .ok (.iaload, 1) := by decide +kernel
theorem dL_law_503 : decode cL_law 503 = .ok (.aload_n 0, 1) := by decide +kernel
theorem dL_law_504 : decode cL_law 504 = .ok (.iload 4, 2) := by decide +kernel
theorem dL_law_506 : decode cL_law 506 = .ok (.iconst 3, 1) := by decide +kernel
theorem dL_law_507 : decode cL_law 507 = .ok (.iadd, 1) := by decide +kernel
theorem dL_law_508 : decode cL_law 508 = .ok (.iaload, 1) := by decide +kernel
theorem dL_law_509 : decode cL_law 509 = .ok (.aload_n 0, 1) := by decide +kernel
theorem dL_law_510 : decode cL_law 510 = .ok (.iload 4, 2) := by decide +kernel
theorem dL_law_512 : decode cL_law 512 = .ok (.iconst 4, 1) := by decide +kernel
theorem dL_law_513 : decode cL_law 513 = .ok (.iadd, 1) := by decide +kernel
theorem dL_law_514 : decode cL_law 514 = .ok (.iaload, 1) := by decide +kernel
theorem dL_law_515 : decode cL_law 515 = .ok (.invokevirtual 60, 3) := by decide +kernel
theorem dL_law_518 : decode cL_law 518 = .ok (.if_icmp .eq 1185, 3) := by decide +kernel
theorem dL_law_521 : decode cL_law 521 = .ok (.iconst 0, 1) := by decide +kernel
theorem dL_law_522 : decode cL_law 522 = .ok (.ireturn, 1) := by decide +kernel
theorem dL_law_523 : decode cL_law 523 = .ok (.aload_n 1, 1) := by decide +kernel
theorem dL_law_524 : decode cL_law 524 = .ok (.aload_n 0, 1) := by decide +kernel
theorem dL_law_525 : decode cL_law 525 = .ok (.iload 4, 2) := by decide +kernel
theorem dL_law_527 : decode cL_law 527 = .ok (.iconst 1, 1) := by decide +kernel
theorem dL_law_528 : decode cL_law 528 = .ok (.iadd, 1) := by decide +kernel
theorem dL_law_529 : decode cL_law 529 = .ok (.iaload, 1) := by decide +kernel
theorem dL_law_530 : decode cL_law 530 = .ok (.aload_n 0, 1) := by decide +kernel
theorem dL_law_531 : decode cL_law 531 = .ok (.iload 4, 2) := by decide +kernel
theorem dL_law_533 : decode cL_law 533 = .ok (.iconst 2, 1) := by decide +kernel
theorem dL_law_534 : decode cL_law 534 = .ok (.iadd, 1) := by decide +kernel
theorem dL_law_535 : decode cL_law 535 = .ok (.iaload, 1) := by decide +kernel
theorem dL_law_536 : decode cL_law 536 = .ok (.aload_n 0, 1) := by decide +kernel
theorem dL_law_537 : decode cL_law 537 = .ok (.iload 4, 2) := by decide +kernel
theorem dL_law_539 : decode cL_law 539 = .ok (.iconst 3, 1) := by decide +kernel
theorem dL_law_540 : decode cL_law 540 = .ok (.iadd, 1) := by decide +kernel
theorem dL_law_541 : decode cL_law 541 = .ok (.iaload, 1) := by decide +kernel
theorem dL_law_542 : decode cL_law 542 = .ok (.aload_n 0, 1) := by decide +kernel
theorem dL_law_543 : decode cL_law 543 = .ok (.iload 4, 2) := by decide +kernel
theorem dL_law_545 : decode cL_law 545 = .ok (.iconst 4, 1) := by decide +kernel
theorem dL_law_546 : decode cL_law 546 = .ok (.iadd, 1) := by decide +kernel
theorem dL_law_547 : decode cL_law 547 = .ok (.iaload, 1) := by decide +kernel
theorem dL_law_548 : decode cL_law 548 = .ok (.aload_n 0, 1) := by decide +kernel
theorem dL_law_549 : decode cL_law 549 = .ok (.iload 4, 2) := by decide +kernel
theorem dL_law_551 : decode cL_law 551 = .ok (.iconst 5, 1) := by decide +kernel
theorem dL_law_552 : decode cL_law 552 = .ok (.iadd, 1) := by decide +kernel
theorem dL_law_553 : decode cL_law 553 = .ok (.iaload, 1) := by decide +kernel
theorem dL_law_554 : decode cL_law 554 = .ok (.ifCond .eq 7, 3) := by decide +kernel
theorem dL_law_557 : decode cL_law 557 = .ok (.iconst 1, 1) := by decide +kernel
theorem dL_law_558 : decode cL_law 558 = .ok (.goto 4, 3) := by decide +kernel
theorem dL_law_561 : decode cL_law 561 = .ok (.iconst 0, 1) := by decide +kernel
theorem dL_law_562 : decode cL_law 562 = .ok (.aload_n 0, 1) := by decide +kernel
theorem dL_law_563 : decode cL_law 563 = .ok (.iload 4, 2) := by decide +kernel
theorem dL_law_565 : decode cL_law 565 = .ok (.bipush 6, 2) := by decide +kernel
theorem dL_law_567 : decode cL_law 567 = .ok (.iadd, 1) := by decide +kernel
theorem dL_law_568 : decode cL_law 568 = .ok (.iaload, 1) := by decide +kernel
theorem dL_law_569 : decode cL_law 569 = .ok (.aload_n 0, 1) := by decide +kernel
theorem dL_law_570 : decode cL_law 570 = .ok (.iload 4, 2) := by decide +kernel
theorem dL_law_572 : decode cL_law 572 = .ok (.bipush 7, 2) := by decide +kernel
theorem dL_law_574 : decode cL_law 574 = .ok (.iadd, 1) := by decide +kernel
theorem dL_law_575 : decode cL_law 575 = .ok (.iaload, 1) := by decide +kernel
theorem dL_law_576 : decode cL_law 576 = .ok (.invokevirtual 61, 3) := by decide +kernel
theorem dL_law_579 : decode cL_law 579 = .ok (.aload_n 2, 1) := by decide +kernel
theorem dL_law_580 : decode cL_law 580 = .ok (.aload_n 0, 1) := by decide +kernel
theorem dL_law_581 : decode cL_law 581 = .ok (.iload 4, 2) := by decide +kernel
theorem dL_law_583 : decode cL_law 583 = .ok (.iconst 1, 1) := by decide +kernel
theorem dL_law_584 : decode cL_law 584 = .ok (.iadd, 1) := by decide +kernel
theorem dL_law_585 : decode cL_law 585 = .ok (.iaload, 1) := by decide +kernel
theorem dL_law_586 : decode cL_law 586 = .ok (.aload_n 0, 1) := by decide +kernel
theorem dL_law_587 : decode cL_law 587 = .ok (.iload 4, 2) := by decide +kernel
theorem dL_law_589 : decode cL_law 589 = .ok (.iconst 2, 1) := by decide +kernel
theorem dL_law_590 : decode cL_law 590 = .ok (.iadd, 1) := by decide +kernel
theorem dL_law_591 : decode cL_law 591 = .ok (.iaload, 1) := by decide +kernel
theorem dL_law_592 : decode cL_law 592 = .ok (.aload_n 0, 1) := by decide +kernel
theorem dL_law_593 : decode cL_law 593 = .ok (.iload 4, 2) := by decide +kernel
theorem dL_law_595 : decode cL_law 595 = .ok (.iconst 3, 1) := by decide +kernel
theorem dL_law_596 : decode cL_law 596 = .ok (.iadd, 1) := by decide +kernel
theorem dL_law_597 : decode cL_law 597 = .ok (.iaload, 1) := by decide +kernel
theorem dL_law_598 : decode cL_law 598 = .ok (.aload_n 0, 1) := by decide +kernel
theorem dL_law_599 : decode cL_law 599 = .ok (.iload 4, 2) := by decide +kernel
theorem dL_law_601 : decode cL_law 601 = .ok (.iconst 4, 1) := by decide +kernel
theorem dL_law_602 : decode cL_law 602 = .ok (.iadd, 1) := by decide +kernel
theorem dL_law_603 : decode cL_law 603 = .ok (.iaload, 1) := by decide +kernel
theorem dL_law_604 : decode cL_law 604 = .ok (.aload_n 0, 1) := by decide +kernel
theorem dL_law_605 : decode cL_law 605 = .ok (.iload 4, 2) := by decide +kernel
theorem dL_law_607 : decode cL_law 607 = .ok (.iconst 5, 1) := by decide +kernel
theorem dL_law_608 : decode cL_law 608 = .ok (.iadd, 1) := by decide +kernel
theorem dL_law_609 : decode cL_law 609 = .ok (.iaload, 1) := by decide +kernel
theorem dL_law_610 : decode cL_law 610 = .ok (.ifCond .eq 7, 3) := by decide +kernel
theorem dL_law_613 : decode cL_law 613 = .ok (.iconst 1, 1) := by decide +kernel
theorem dL_law_614 : decode cL_law 614 = .ok (.goto 4, 3) := by decide +kernel
theorem dL_law_617 : decode cL_law 617 = .ok (.iconst 0, 1) := by decide +kernel
theorem dL_law_618 : decode cL_law 618 = .ok (.aload_n 0, 1) := by decide +kernel
theorem dL_law_619 : decode cL_law 619 = .ok (.iload 4, 2) := by decide +kernel
theorem dL_law_621 : decode cL_law 621 = .ok (.bipush 6, 2) := by decide +kernel
theorem dL_law_623 : decode cL_law 623 = .ok (.iadd, 1) := by decide +kernel
theorem dL_law_624 : decode cL_law 624 = .ok (.iaload, 1) := by decide +kernel
theorem dL_law_625 : decode cL_law 625 = .ok (.aload_n 0, 1) := by decide +kernel
theorem dL_law_626 : decode cL_law 626 = .ok (.iload 4, 2) := by decide +kernel
theorem dL_law_628 : decode cL_law 628 = .ok (.bipush 7, 2) := by decide +kernel
theorem dL_law_630 : decode cL_law 630 = .ok (.iadd, 1) := by decide +kernel
theorem dL_law_631 : decode cL_law 631 = .ok (.iaload, 1) := by decide +kernel
theorem dL_law_632 : decode cL_law 632 = .ok (.invokevirtual 65, 3) := by decide +kernel
theorem dL_law_635 : decode cL_law 635 = .ok (.if_icmp .eq 1068, 3) := by decide +kernel
theorem dL_law_638 : decode cL_law 638 = .ok (.iconst 0, 1) := by decide +kernel
theorem dL_law_639 : decode cL_law 639 = .ok (.ireturn, 1) := by decide +kernel
theorem dL_law_640 : decode cL_law 640 = .ok (.aload_n 1, 1) := by decide +kernel
theorem dL_law_641 : decode cL_law 641 = .ok (.aload_n 0, 1) := by decide +kernel
theorem dL_law_642 : decode cL_law 642 = .ok (.iload 4, 2) := by decide +kernel
theorem dL_law_644 : decode cL_law 644 = .ok (.iconst 1, 1) := by decide +kernel
theorem dL_law_645 : decode cL_law 645 = .ok (.iadd, 1) := by decide +kernel
theorem dL_law_646 : decode cL_law 646 = .ok (.iaload, 1) := by decide +kernel
theorem dL_law_647 : decode cL_law 647 = .ok (.aload_n 0, 1) := by decide +kernel
theorem dL_law_648 : decode cL_law 648 = .ok (.iload 4, 2) := by decide +kernel
theorem dL_law_650 : decode cL_law 650 = .ok (.iconst 2, 1) := by decide +kernel
theorem dL_law_651 : decode cL_law 651 = .ok (.iadd, 1) := by decide +kernel
theorem dL_law_652 : decode cL_law 652 = .ok (.iaload, 1) := by decide +kernel
theorem dL_law_653 : decode cL_law 653 = .ok (.aload_n 0, 1) := by decide +kernel
theorem dL_law_654 : decode cL_law 654 = .ok (.iload 4, 2) := by decide +kernel
theorem dL_law_656 : decode cL_law 656 = .ok (.iconst 3, 1) := by decide +kernel
theorem dL_law_657 : decode cL_law 657 = .ok (.iadd, 1) := by decide +kernel
theorem dL_law_658 : decode cL_law 658 = .ok (.iaload, 1) := by decide +kernel
theorem dL_law_659 : decode cL_law 659 = .ok (.invokevirtual 66, 3) := by decide +kernel
theorem dL_law_662 : decode cL_law 662 = .ok (.aload_n 2, 1) := by decide +kernel
theorem dL_law_663 : decode cL_law 663 = .ok (.aload_n 0, 1) := by decide +kernel
theorem dL_law_664 : decode cL_law 664 = .ok (.iload 4, 2) := by decide +kernel
theorem dL_law_666 : decode cL_law 666 = .ok (.iconst 1, 1) := by decide +kernel
theorem dL_law_667 : decode cL_law 667 = .ok (.iadd, 1) := by decide +kernel
theorem dL_law_668 : decode cL_law 668 = .ok (.iaload, 1) := by decide +kernel
theorem dL_law_669 : decode cL_law 669 = .ok (.aload_n 0, 1) := by decide +kernel
theorem dL_law_670 : decode cL_law 670 = .ok (.iload 4, 2) := by decide +kernel
theorem dL_law_672 : decode cL_law 672 = .ok (.iconst 2, 1) := by decide +kernel
theorem dL_law_673 : decode cL_law 673 = .ok (.iadd, 1) := by decide +kernel
theorem dL_law_674 : decode cL_law 674 = .ok (.iaload, 1) := by decide +kernel
theorem dL_law_675 : decode cL_law 675 = .ok (.aload_n 0, 1) := by decide +kernel
theorem dL_law_676 : decode cL_law 676 = .ok (.iload 4, 2) := by decide +kernel
theorem dL_law_678 : decode cL_law 678 = .ok (.iconst 3, 1) := by decide +kernel
theorem dL_law_679 : decode cL_law 679 = .ok (.iadd, 1) := by decide +kernel
theorem dL_law_680 : decode cL_law 680 = .ok (.iaload, 1) := by decide +kernel
theorem dL_law_681 : decode cL_law 681 = .ok (.invokevirtual 70, 3) := by decide +kernel
theorem dL_law_684 : decode cL_law 684 = .ok (.if_icmp .eq 1019, 3) := by decide +kernel
theorem dL_law_687 : decode cL_law 687 = .ok (.iconst 0, 1) := by decide +kernel
theorem dL_law_688 : decode cL_law 688 = .ok (.ireturn, 1) := by decide +kernel
theorem dL_law_689 : decode cL_law 689 = .ok (.aload_n 1, 1) := by decide +kernel
theorem dL_law_690 : decode cL_law 690 = .ok (.aload_n 0, 1) := by decide +kernel
theorem dL_law_691 : decode cL_law 691 = .ok (.iload 4, 2) := by decide +kernel
theorem dL_law_693 : decode cL_law 693 = .ok (.iconst 1, 1) := by decide +kernel
theorem dL_law_694 : decode cL_law 694 = .ok (.iadd, 1) := by decide +kernel
theorem dL_law_695 : decode cL_law 695 = .ok (.iaload, 1) := by decide +kernel
theorem dL_law_696 : decode cL_law 696 = .ok (.aload_n 0, 1) := by decide +kernel
theorem dL_law_697 : decode cL_law 697 = .ok (.iload 4, 2) := by decide +kernel
theorem dL_law_699 : decode cL_law 699 = .ok (.iconst 2, 1) := by decide +kernel
theorem dL_law_700 : decode cL_law 700 = .ok (.iadd, 1) := by decide +kernel
theorem dL_law_701 : decode cL_law 701 = .ok (.iaload, 1) := by decide +kernel
theorem dL_law_702 : decode cL_law 702 = .ok (.invokevirtual 71, 3) := by decide +kernel
theorem dL_law_705 : decode cL_law 705 = .ok (.aload_n 2, 1) := by decide +kernel
theorem dL_law_706 : decode cL_law 706 = .ok (.aload_n 0, 1) := by decide +kernel
theorem dL_law_707 : decode cL_law 707 = .ok (.iload 4, 2) := by decide +kernel
theorem dL_law_709 : decode cL_law 709 = .ok (.iconst 1, 1) := by decide +kernel
theorem dL_law_710 : decode cL_law 710 = .ok (.iadd, 1) := by decide +kernel
theorem dL_law_711 : decode cL_law 711 = .ok (.iaload, 1) := by decide +kernel
theorem dL_law_712 : decode cL_law 712 = .ok (.aload_n 0, 1) := by decide +kernel
theorem dL_law_713 : decode cL_law 713 = .ok (.iload 4, 2) := by decide +kernel
theorem dL_law_715 : decode cL_law 715 = .ok (.iconst 2, 1) := by decide +kernel
theorem dL_law_716 : decode cL_law 716 = .ok (.iadd, 1) := by decide +kernel
theorem dL_law_717 : decode cL_law 717 = .ok (.iaload, 1) := by decide +kernel
theorem dL_law_718 : decode cL_law 718 = .ok (.invokevirtual 75, 3) := by decide +kernel
theorem dL_law_721 : decode cL_law 721 = .ok (.if_icmp .eq 982, 3) := by decide +kernel
theorem dL_law_724 : decode cL_law 724 = .ok (.iconst 0, 1) := by decide +kernel
theorem dL_law_725 : decode cL_law 725 = .ok (.ireturn, 1) := by decide +kernel
theorem dL_law_726 : decode cL_law 726 = .ok (.aload_n 1, 1) := by decide +kernel
theorem dL_law_727 : decode cL_law 727 = .ok (.aload_n 0, 1) := by decide +kernel
theorem dL_law_728 : decode cL_law 728 = .ok (.iload 4, 2) := by decide +kernel
theorem dL_law_730 : decode cL_law 730 = .ok (.iconst 1, 1) := by decide +kernel
theorem dL_law_731 : decode cL_law 731 = .ok (.iadd, 1) := by decide +kernel
theorem dL_law_732 : decode cL_law 732 = .ok (.iaload, 1) := by decide +kernel
theorem dL_law_733 : decode cL_law 733 = .ok (.invokevirtual 76, 3) := by decide +kernel
theorem dL_law_736 : decode cL_law 736 = .ok (.aload_n 2, 1) := by decide +kernel
theorem dL_law_737 : decode cL_law 737 = .ok (.aload_n 0, 1) := by decide +kernel
theorem dL_law_738 : decode cL_law 738 = .ok (.iload 4, 2) := by decide +kernel
theorem dL_law_740 : decode cL_law 740 = .ok (.iconst 1, 1) := by decide +kernel
theorem dL_law_741 : decode cL_law 741 = .ok (.iadd, 1) := by decide +kernel
theorem dL_law_742 : decode cL_law 742 = .ok (.iaload, 1) := by decide +kernel
theorem dL_law_743 : decode cL_law 743 = .ok (.invokevirtual 79, 3) := by decide +kernel
theorem dL_law_746 : decode cL_law 746 = .ok (.if_icmp .eq 957, 3) := by decide +kernel
theorem dL_law_749 : decode cL_law 749 = .ok (.iconst 0, 1) := by decide +kernel
theorem dL_law_750 : decode cL_law 750 = .ok (.ireturn, 1) := by decide +kernel
theorem dL_law_751 : decode cL_law 751 = .ok (.aload_n 1, 1) := by decide +kernel
theorem dL_law_752 : decode cL_law 752 = .ok (.aload_n 0, 1) := by decide +kernel
theorem dL_law_753 : decode cL_law 753 = .ok (.iload 4, 2) := by decide +kernel
theorem dL_law_755 : decode cL_law 755 = .ok (.iconst 1, 1) := by decide +kernel
theorem dL_law_756 : decode cL_law 756 = .ok (.iadd, 1) := by decide +kernel
theorem dL_law_757 : decode cL_law 757 = .ok (.iaload, 1) := by decide +kernel
theorem dL_law_758 : decode cL_law 758 = .ok (.invokevirtual 80, 3) := by decide +kernel
theorem dL_law_761 : decode cL_law 761 = .ok (.aload_n 2, 1) := by decide +kernel
theorem dL_law_762 : decode cL_law 762 = .ok (.aload_n 0, 1) := by decide +kernel
theorem dL_law_763 : decode cL_law 763 = .ok (.iload 4, 2) := by decide +kernel
theorem dL_law_765 : decode cL_law 765 = .ok (.iconst 1, 1) := by decide +kernel
theorem dL_law_766 : decode cL_law 766 = .ok (.iadd, 1) := by decide +kernel
theorem dL_law_767 : decode cL_law 767 = .ok (.iaload, 1) := by decide +kernel
theorem dL_law_768 : decode cL_law 768 = .ok (.invokevirtual 83, 3) := by decide +kernel
theorem dL_law_771 : decode cL_law 771 = .ok (.if_icmp .eq 932, 3) := by decide +kernel
theorem dL_law_774 : decode cL_law 774 = .ok (.iconst 0, 1) := by decide +kernel
theorem dL_law_775 : decode cL_law 775 = .ok (.ireturn, 1) := by decide +kernel
theorem dL_law_776 : decode cL_law 776 = .ok (.aload_n 1, 1) := by decide +kernel
theorem dL_law_777 : decode cL_law 777 = .ok (.invokevirtual 84, 3) := by decide +kernel
theorem dL_law_780 : decode cL_law 780 = .ok (.aload_n 2, 1) := by decide +kernel
theorem dL_law_781 : decode cL_law 781 = .ok (.invokevirtual 88, 3) := by decide +kernel
theorem dL_law_784 : decode cL_law 784 = .ok (.if_icmp .eq 919, 3) := by decide +kernel
theorem dL_law_787 : decode cL_law 787 = .ok (.iconst 0, 1) := by decide +kernel
theorem dL_law_788 : decode cL_law 788 = .ok (.ireturn, 1) := by decide +kernel
theorem dL_law_789 : decode cL_law 789 = .ok (.aload_n 1, 1) := by decide +kernel
theorem dL_law_790 : decode cL_law 790 = .ok (.aload_n 0, 1) := by decide +kernel
theorem dL_law_791 : decode cL_law 791 = .ok (.iload 4, 2) := by decide +kernel
theorem dL_law_793 : decode cL_law 793 = .ok (.iconst 1, 1) := by decide +kernel
theorem dL_law_794 : decode cL_law 794 = .ok (.iadd, 1) := by decide +kernel
theorem dL_law_795 : decode cL_law 795 = .ok (.iaload, 1) := by decide +kernel
theorem dL_law_796 : decode cL_law 796 = .ok (.aload_n 0, 1) := by decide +kernel
theorem dL_law_797 : decode cL_law 797 = .ok (.iload 4, 2) := by decide +kernel
theorem dL_law_799 : decode cL_law 799 = .ok (.iconst 2, 1) := by decide +kernel
theorem dL_law_800 : decode cL_law 800 = .ok (.iadd, 1) := by decide +kernel
theorem dL_law_801 : decode cL_law 801 = .ok (.iaload, 1) := by decide +kernel
theorem dL_law_802 : decode cL_law 802 = .ok (.aload_n 0, 1) := by decide +kernel
theorem dL_law_803 : decode cL_law 803 = .ok (.iload 4, 2) := by decide +kernel
theorem dL_law_805 : decode cL_law 805 = .ok (.iconst 3, 1) := by decide +kernel
theorem dL_law_806 : decode cL_law 806 = .ok (.iadd, 1) := by decide +kernel
theorem dL_law_807 : decode cL_law 807 = .ok (.iaload, 1) := by decide +kernel
theorem dL_law_808 : decode cL_law 808 = .ok (.aload_n 0, 1) := by decide +kernel
theorem dL_law_809 : decode cL_law 809 = .ok (.iload 4, 2) := by decide +kernel
theorem dL_law_811 : decode cL_law 811 = .ok (.iconst 4, 1) := by decide +kernel
theorem dL_law_812 : decode cL_law 812 = .ok (.iadd, 1) := by decide +kernel
theorem dL_law_813 : decode cL_law 813 = .ok (.iaload, 1) := by decide +kernel
theorem dL_law_814 : decode cL_law 814 = .ok (.invokevirtual 89, 3) := by decide +kernel
theorem dL_law_817 : decode cL_law 817 = .ok (.aload_n 2, 1) := by decide +kernel
theorem dL_law_818 : decode cL_law 818 = .ok (.aload_n 0, 1) := by decide +kernel
theorem dL_law_819 : decode cL_law 819 = .ok (.iload 4, 2) := by decide +kernel
theorem dL_law_821 : decode cL_law 821 = .ok (.iconst 1, 1) := by decide +kernel
theorem dL_law_822 : decode cL_law 822 = .ok (.iadd, 1) := by decide +kernel
theorem dL_law_823 : decode cL_law 823 = .ok (.iaload, 1) := by decide +kernel
theorem dL_law_824 : decode cL_law 824 = .ok (.aload_n 0, 1) := by decide +kernel
theorem dL_law_825 : decode cL_law 825 = .ok (.iload 4, 2) := by decide +kernel
theorem dL_law_827 : decode cL_law 827 = .ok (.iconst 2, 1) := by decide +kernel
theorem dL_law_828 : decode cL_law 828 = .ok (.iadd, 1) := by decide +kernel
theorem dL_law_829 : decode cL_law 829 = .ok (.iaload, 1) := by decide +kernel
theorem dL_law_830 : decode cL_law 830 = .ok (.aload_n 0, 1) := by decide +kernel
theorem dL_law_831 : decode cL_law 831 = .ok (.iload 4, 2) := by decide +kernel
theorem dL_law_833 : decode cL_law 833 = .ok (.iconst 3, 1) := by decide +kernel
theorem dL_law_834 : decode cL_law 834 = .ok (.iadd, 1) := by decide +kernel
theorem dL_law_835 : decode cL_law 835 = .ok (.iaload, 1) := by decide +kernel
theorem dL_law_836 : decode cL_law 836 = .ok (.aload_n 0, 1) := by decide +kernel
theorem dL_law_837 : decode cL_law 837 = .ok (.iload 4, 2) := by decide +kernel
theorem dL_law_839 : decode cL_law 839 = .ok (.iconst 4, 1) := by decide +kernel
theorem dL_law_840 : decode cL_law 840 = .ok (.iadd, 1) := by decide +kernel
theorem dL_law_841 : decode cL_law 841 = .ok (.iaload, 1) := by decide +kernel
theorem dL_law_842 : decode cL_law 842 = .ok (.invokevirtual 93, 3) := by decide +kernel
theorem dL_law_845 : decode cL_law 845 = .ok (.lcmp, 1) := by decide +kernel
theorem dL_law_846 : decode cL_law 846 = .ok (.ifCond .eq 857, 3) := by decide +kernel
theorem dL_law_849 : decode cL_law 849 = .ok (.iconst 0, 1) := by decide +kernel
theorem dL_law_850 : decode cL_law 850 = .ok (.ireturn, 1) := by decide +kernel
theorem dL_law_851 : decode cL_law 851 = .ok (.aload_n 1, 1) := by decide +kernel
theorem dL_law_852 : decode cL_law 852 = .ok (.aload_n 0, 1) := by decide +kernel
theorem dL_law_853 : decode cL_law 853 = .ok (.iload 4, 2) := by decide +kernel
theorem dL_law_855 : decode cL_law 855 = .ok (.iconst 1, 1) := by decide +kernel
theorem dL_law_856 : decode cL_law 856 = .ok (.iadd, 1) := by decide +kernel
theorem dL_law_857 : decode cL_law 857 = .ok (.iaload, 1) := by decide +kernel
theorem dL_law_858 : decode cL_law 858 = .ok (.aload_n 0, 1) := by decide +kernel
theorem dL_law_859 : decode cL_law 859 = .ok (.iload 4, 2) := by decide +kernel
theorem dL_law_861 : decode cL_law 861 = .ok (.iconst 2, 1) := by decide +kernel
theorem dL_law_862 : decode cL_law 862 = .ok (.iadd, 1) := by decide +kernel
theorem dL_law_863 : decode cL_law 863 = .ok (.iaload, 1) := by decide +kernel
theorem dL_law_864 : decode cL_law 864 = .ok (.aload_n 0, 1) := by decide +kernel
theorem dL_law_865 : decode cL_law 865 = .ok (.iload 4, 2) := by decide +kernel
theorem dL_law_867 : decode cL_law 867 = .ok (.iconst 3, 1) := by decide +kernel
theorem dL_law_868 : decode cL_law 868 = .ok (.iadd, 1) := by decide +kernel
theorem dL_law_869 : decode cL_law 869 = .ok (.iaload, 1) := by decide +kernel
theorem dL_law_870 : decode cL_law 870 = .ok (.aload_n 0, 1) := by decide +kernel
theorem dL_law_871 : decode cL_law 871 = .ok (.iload 4, 2) := by decide +kernel
theorem dL_law_873 : decode cL_law 873 = .ok (.iconst 4, 1) := by decide +kernel
theorem dL_law_874 : decode cL_law 874 = .ok (.iadd, 1) := by decide +kernel
theorem dL_law_875 : decode cL_law 875 = .ok (.iaload, 1) := by decide +kernel
theorem dL_law_876 : decode cL_law 876 = .ok (.invokevirtual 94, 3) := by decide +kernel
theorem dL_law_879 : decode cL_law 879 = .ok (.aload_n 2, 1) := by decide +kernel
theorem dL_law_880 : decode cL_law 880 = .ok (.aload_n 0, 1) := by decide +kernel
theorem dL_law_881 : decode cL_law 881 = .ok (.iload 4, 2) := by decide +kernel
theorem dL_law_883 : decode cL_law 883 = .ok (.iconst 1, 1) := by decide +kernel
theorem dL_law_884 : decode cL_law 884 = .ok (.iadd, 1) := by decide +kernel
theorem dL_law_885 : decode cL_law 885 = .ok (.iaload, 1) := by decide +kernel
theorem dL_law_886 : decode cL_law 886 = .ok (.aload_n 0, 1) := by decide +kernel
theorem dL_law_887 : decode cL_law 887 = .ok (.iload 4, 2) := by decide +kernel
theorem dL_law_889 : decode cL_law 889 = .ok (.iconst 2, 1) := by decide +kernel
theorem dL_law_890 : decode cL_law 890 = .ok (.iadd, 1) := by decide +kernel
theorem dL_law_891 : decode cL_law 891 = .ok (.iaload, 1) := by decide +kernel
theorem dL_law_892 : decode cL_law 892 = .ok (.aload_n 0, 1) := by decide +kernel
theorem dL_law_893 : decode cL_law 893 = .ok (.iload 4, 2) := by decide +kernel
theorem dL_law_895 : decode cL_law 895 = .ok (.iconst 3, 1) := by decide +kernel
theorem dL_law_896 : decode cL_law 896 = .ok (.iadd, 1) := by decide +kernel
theorem dL_law_897 : decode cL_law 897 = .ok (.iaload, 1) := by decide +kernel
theorem dL_law_898 : decode cL_law 898 = .ok (.aload_n 0, 1) := by decide +kernel
theorem dL_law_899 : decode cL_law 899 = .ok (.iload 4, 2) := by decide +kernel
theorem dL_law_901 : decode cL_law 901 = .ok (.iconst 4, 1) := by decide +kernel
theorem dL_law_902 : decode cL_law 902 = .ok (.iadd, 1) := by decide +kernel
theorem dL_law_903 : decode cL_law 903 = .ok (.iaload, 1) := by decide +kernel
theorem dL_law_904 : decode cL_law 904 = .ok (.invokevirtual 97, 3) := by decide +kernel
theorem dL_law_907 : decode cL_law 907 = .ok (.if_icmp .eq 796, 3) := by decide +kernel
theorem dL_law_910 : decode cL_law 910 = .ok (.iconst 0, 1) := by decide +kernel
theorem dL_law_911 : decode cL_law 911 = .ok (.ireturn, 1) := by decide +kernel
theorem dL_law_912 : decode cL_law 912 = .ok (.aload_n 1, 1) := by decide +kernel
theorem dL_law_913 : decode cL_law 913 = .ok (.aload_n 0, 1) := by decide +kernel
theorem dL_law_914 : decode cL_law 914 = .ok (.iload 4, 2) := by decide +kernel
theorem dL_law_916 : decode cL_law 916 = .ok (.iconst 1, 1) := by decide +kernel
theorem dL_law_917 : decode cL_law 917 = .ok (.iadd, 1) := by decide +kernel
theorem dL_law_918 : decode cL_law 918 = .ok (.iaload, 1) := by decide +kernel
theorem dL_law_919 : decode cL_law 919 = .ok (.aload_n 3, 1) := by decide +kernel
theorem dL_law_920 : decode cL_law 920 = .ok (.invokestatic 98, 3) := by decide +kernel
theorem dL_law_923 : decode cL_law 923 = .ok (.istore 5, 2) := by decide +kernel
theorem dL_law_925 : decode cL_law 925 = .ok (.aload_n 2, 1) := by decide +kernel
theorem dL_law_926 : decode cL_law 926 = .ok (.aload_n 0, 1) := by decide +kernel
theorem dL_law_927 : decode cL_law 927 = .ok (.iload 4, 2) := by decide +kernel
theorem dL_law_929 : decode cL_law 929 = .ok (.iconst 1, 1) := by decide +kernel
theorem dL_law_930 : decode cL_law 930 = .ok (.iadd, 1) := by decide +kernel
theorem dL_law_931 : decode cL_law 931 = .ok (.iaload, 1) := by decide +kernel
theorem dL_law_932 : decode cL_law 932 = .ok (.invokevirtual 103, 3) := by decide +kernel
theorem dL_law_935 : decode cL_law 935 = .ok (.istore 6, 2) := by decide +kernel
theorem dL_law_937 : decode cL_law 937 = .ok (.aload_n 2, 1) := by decide +kernel
theorem dL_law_938 : decode cL_law 938 = .ok (.invokevirtual 104, 3) := by decide +kernel
theorem dL_law_941 : decode cL_law 941 = .ok (.iload 5, 2) := by decide +kernel
theorem dL_law_943 : decode cL_law 943 = .ok (.if_icmp .eq 5, 3) := by decide +kernel
theorem dL_law_946 : decode cL_law 946 = .ok (.iconst 0, 1) := by decide +kernel
theorem dL_law_947 : decode cL_law 947 = .ok (.ireturn, 1) := by decide +kernel
theorem dL_law_948 : decode cL_law 948 = .ok (.iload 5, 2) := by decide +kernel
theorem dL_law_950 : decode cL_law 950 = .ok (.ifCond .ne 15, 3) := by decide +kernel
theorem dL_law_953 : decode cL_law 953 = .ok (.aload_n 3, 1) := by decide +kernel
theorem dL_law_954 : decode cL_law 954 = .ok (.iconst 0, 1) := by decide +kernel
theorem dL_law_955 : decode cL_law 955 = .ok (.laload, 1) := by decide +kernel
theorem dL_law_956 : decode cL_law 956 = .ok (.iload 6, 2) := by decide +kernel
theorem dL_law_958 : decode cL_law 958 = .ok (.i2l, 1) := by decide +kernel
theorem dL_law_959 : decode cL_law 959 = .ok (.lcmp, 1) := by decide +kernel
theorem dL_law_960 : decode cL_law 960 = .ok (.ifCond .eq 5, 3) := by decide +kernel
theorem dL_law_963 : decode cL_law 963 = .ok (.iconst 0, 1) := by decide +kernel
theorem dL_law_964 : decode cL_law 964 = .ok (.ireturn, 1) := by decide +kernel
theorem dL_law_965 : decode cL_law 965 = .ok (.goto 738, 3) := by decide +kernel
theorem dL_law_968 : decode cL_law 968 = .ok (.aload_n 1, 1) := by decide +kernel
theorem dL_law_969 : decode cL_law 969 = .ok (.aload_n 0, 1) := by decide +kernel
theorem dL_law_970 : decode cL_law 970 = .ok (.iload 4, 2) := by decide +kernel
theorem dL_law_972 : decode cL_law 972 = .ok (.iconst 1, 1) := by decide +kernel
theorem dL_law_973 : decode cL_law 973 = .ok (.iadd, 1) := by decide +kernel
theorem dL_law_974 : decode cL_law 974 = .ok (.iaload, 1) := by decide +kernel
theorem dL_law_975 : decode cL_law 975 = .ok (.aload_n 0, 1) := by decide +kernel
theorem dL_law_976 : decode cL_law 976 = .ok (.iload 4, 2) := by decide +kernel
theorem dL_law_978 : decode cL_law 978 = .ok (.iconst 2, 1) := by decide +kernel
theorem dL_law_979 : decode cL_law 979 = .ok (.iadd, 1) := by decide +kernel
theorem dL_law_980 : decode cL_law 980 = .ok (.iaload, 1) := by decide +kernel
theorem dL_law_981 : decode cL_law 981 = .ok (.aload_n 0, 1) := by decide +kernel
theorem dL_law_982 : decode cL_law 982 = .ok (.iload 4, 2) := by decide +kernel
theorem dL_law_984 : decode cL_law 984 = .ok (.iconst 3, 1) := by decide +kernel
theorem dL_law_985 : decode cL_law 985 = .ok (.iadd, 1) := by decide +kernel
theorem dL_law_986 : decode cL_law 986 = .ok (.iaload, 1) := by decide +kernel
theorem dL_law_987 : decode cL_law 987 = .ok (.invokevirtual 107, 3) := by decide +kernel
theorem dL_law_990 : decode cL_law 990 = .ok (.aload_n 2, 1) := by decide +kernel
theorem dL_law_991 : decode cL_law 991 = .ok (.aload_n 0, 1) := by decide +kernel
theorem dL_law_992 : decode cL_law 992 = .ok (.iload 4, 2) := by decide +kernel
theorem dL_law_994 : decode cL_law 994 = .ok (.iconst 1, 1) := by decide +kernel
theorem dL_law_995 : decode cL_law 995 = .ok (.iadd, 1) := by decide +kernel
theorem dL_law_996 : decode cL_law 996 = .ok (.iaload, 1) := by decide +kernel
theorem dL_law_997 : decode cL_law 997 = .ok (.aload_n 0, 1) := by decide +kernel
theorem dL_law_998 : decode cL_law 998 = .ok (.iload 4, 2) := by decide +kernel
theorem dL_law_1000 : decode cL_law 1000 = .ok (.iconst 2, 1) := by decide +kernel
theorem dL_law_1001 : decode cL_law 1001 = .ok (.iadd, 1) := by decide +kernel
theorem dL_law_1002 : decode cL_law 1002 = .ok (.iaload, 1) := by decide +kernel
theorem dL_law_1003 : decode cL_law 1003 = .ok (.aload_n 0, 1) := by decide +kernel
theorem dL_law_1004 : decode cL_law 1004 = .ok (.iload 4, 2) := by decide +kernel
theorem dL_law_1006 : decode cL_law 1006 = .ok (.iconst 3, 1) := by decide +kernel
theorem dL_law_1007 : decode cL_law 1007 = .ok (.iadd, 1) := by decide +kernel
theorem dL_law_1008 : decode cL_law 1008 = .ok (.iaload, 1) := by decide +kernel
theorem dL_law_1009 : decode cL_law 1009 = .ok (.invokevirtual 110, 3) := by decide +kernel
theorem dL_law_1012 : decode cL_law 1012 = .ok (.if_icmp .eq 691, 3) := by decide +kernel
theorem dL_law_1015 : decode cL_law 1015 = .ok (.iconst 0, 1) := by decide +kernel
theorem dL_law_1016 : decode cL_law 1016 = .ok (.ireturn, 1) := by decide +kernel
theorem dL_law_1017 : decode cL_law 1017 = .ok (.aload_n 1, 1) := by decide +kernel
theorem dL_law_1018 : decode cL_law 1018 = .ok (.aload_n 0, 1) := by decide +kernel
theorem dL_law_1019 : decode cL_law 1019 = .ok (.iload 4, 2) := by decide +kernel
theorem dL_law_1021 : decode cL_law 1021 = .ok (.iconst 1, 1) := by decide +kernel
theorem dL_law_1022 : decode cL_law 1022 = .ok (.iadd, 1) := by decide +kernel
theorem dL_law_1023 : decode cL_law 1023 = .ok (.iaload, 1) := by decide +kernel
theorem dL_law_1024 : decode cL_law 1024 = .ok (.aload_n 0, 1) := by decide +kernel
theorem dL_law_1025 : decode cL_law 1025 = .ok (.iload 4, 2) := by decide +kernel
theorem dL_law_1027 : decode cL_law 1027 = .ok (.iconst 2, 1) := by decide +kernel
theorem dL_law_1028 : decode cL_law 1028 = .ok (.iadd, 1) := by decide +kernel
theorem dL_law_1029 : decode cL_law 1029 = .ok (.iaload, 1) := by decide +kernel
theorem dL_law_1030 : decode cL_law 1030 = .ok (.aload_n 0, 1) := by decide +kernel
theorem dL_law_1031 : decode cL_law 1031 = .ok (.iload 4, 2) := by decide +kernel
theorem dL_law_1033 : decode cL_law 1033 = .ok (.iconst 3, 1) := by decide +kernel
theorem dL_law_1034 : decode cL_law 1034 = .ok (.iadd, 1) := by decide +kernel
theorem dL_law_1035 : decode cL_law 1035 = .ok (.iaload, 1) := by decide +kernel
theorem dL_law_1036 : decode cL_law 1036 = .ok (.aload_n 0, 1) := by decide +kernel
theorem dL_law_1037 : decode cL_law 1037 = .ok (.iload 4, 2) := by decide +kernel
theorem dL_law_1039 : decode cL_law 1039 = .ok (.iconst 4, 1) := by decide +kernel
theorem dL_law_1040 : decode cL_law 1040 = .ok (.iadd, 1) := by decide +kernel
theorem dL_law_1041 : decode cL_law 1041 = .ok (.iaload, 1) := by decide +kernel
theorem dL_law_1042 : decode cL_law 1042 = .ok (.invokevirtual 111, 3) := by decide +kernel
theorem dL_law_1045 : decode cL_law 1045 = .ok (.aload_n 2, 1) := by decide +kernel
theorem dL_law_1046 : decode cL_law 1046 = .ok (.aload_n 0, 1) := by decide +kernel
theorem dL_law_1047 : decode cL_law 1047 = .ok (.iload 4, 2) := by decide +kernel
theorem dL_law_1049 : decode cL_law 1049 = .ok (.iconst 1, 1) := by decide +kernel
theorem dL_law_1050 : decode cL_law 1050 = .ok (.iadd, 1) := by decide +kernel
theorem dL_law_1051 : decode cL_law 1051 = .ok (.iaload, 1) := by decide +kernel
theorem dL_law_1052 : decode cL_law 1052 = .ok (.aload_n 0, 1) := by decide +kernel
theorem dL_law_1053 : decode cL_law 1053 = .ok (.iload 4, 2) := by decide +kernel
theorem dL_law_1055 : decode cL_law 1055 = .ok (.iconst 2, 1) := by decide +kernel
theorem dL_law_1056 : decode cL_law 1056 = .ok (.iadd, 1) := by decide +kernel
theorem dL_law_1057 : decode cL_law 1057 = .ok (.iaload, 1) := by decide +kernel
theorem dL_law_1058 : decode cL_law 1058 = .ok (.aload_n 0, 1) := by decide +kernel
theorem dL_law_1059 : decode cL_law 1059 = .ok (.iload 4, 2) := by decide +kernel
theorem dL_law_1061 : decode cL_law 1061 = .ok (.iconst 3, 1) := by decide +kernel
theorem dL_law_1062 : decode cL_law 1062 = .ok (.iadd, 1) := by decide +kernel
theorem dL_law_1063 : decode cL_law 1063 = .ok (.iaload, 1) := by decide +kernel
theorem dL_law_1064 : decode cL_law 1064 = .ok (.aload_n 0, 1) := by decide +kernel
theorem dL_law_1065 : decode cL_law 1065 = .ok (.iload 4, 2) := by decide +kernel
theorem dL_law_1067 : decode cL_law 1067 = .ok (.iconst 4, 1) := by decide +kernel
theorem dL_law_1068 : decode cL_law 1068 = .ok (.iadd, 1) := by decide +kernel
theorem dL_law_1069 : decode cL_law 1069 = .ok (.iaload, 1) := by decide +kernel
theorem dL_law_1070 : decode cL_law 1070 = .ok (.invokevirtual 114, 3) := by decide +kernel
theorem dL_law_1073 : decode cL_law 1073 = .ok (.if_icmp .eq 630, 3) := by decide +kernel
theorem dL_law_1076 : decode cL_law 1076 = .ok (.iconst 0, 1) := by decide +kernel
theorem dL_law_1077 : decode cL_law 1077 = .ok (.ireturn, 1) := by decide +kernel
theorem dL_law_1078 : decode cL_law 1078 = .ok (.aload_n 1, 1) := by decide +kernel
theorem dL_law_1079 : decode cL_law 1079 = .ok (.aload_n 0, 1) := by decide +kernel
theorem dL_law_1080 : decode cL_law 1080 = .ok (.iload 4, 2) := by decide +kernel
theorem dL_law_1082 : decode cL_law 1082 = .ok (.iconst 1, 1) := by decide +kernel
theorem dL_law_1083 : decode cL_law 1083 = .ok (.iadd, 1) := by decide +kernel
theorem dL_law_1084 : decode cL_law 1084 = .ok (.iaload, 1) := by decide +kernel
theorem dL_law_1085 : decode cL_law 1085 = .ok (.aload_n 0, 1) := by decide +kernel
theorem dL_law_1086 : decode cL_law 1086 = .ok (.iload 4, 2) := by decide +kernel
theorem dL_law_1088 : decode cL_law 1088 = .ok (.iconst 2, 1) := by decide +kernel
theorem dL_law_1089 : decode cL_law 1089 = .ok (.iadd, 1) := by decide +kernel
theorem dL_law_1090 : decode cL_law 1090 = .ok (.iaload, 1) := by decide +kernel
theorem dL_law_1091 : decode cL_law 1091 = .ok (.aload_n 0, 1) := by decide +kernel
theorem dL_law_1092 : decode cL_law 1092 = .ok (.iload 4, 2) := by decide +kernel
theorem dL_law_1094 : decode cL_law 1094 = .ok (.iconst 3, 1) := by decide +kernel
theorem dL_law_1095 : decode cL_law 1095 = .ok (.iadd, 1) := by decide +kernel
theorem dL_law_1096 : decode cL_law 1096 = .ok (.iaload, 1) := by decide +kernel
theorem dL_law_1097 : decode cL_law 1097 = .ok (.aload_n 3, 1) := by decide +kernel
theorem dL_law_1098 : decode cL_law 1098 = .ok (.invokestatic 115, 3) := by decide +kernel
theorem dL_law_1101 : decode cL_law 1101 = .ok (.istore 5, 2) := by decide +kernel
theorem dL_law_1103 : decode cL_law 1103 = .ok (.aload_n 2, 1) := by decide +kernel
theorem dL_law_1104 : decode cL_law 1104 = .ok (.aload_n 0, 1) := by decide +kernel
theorem dL_law_1105 : decode cL_law 1105 = .ok (.iload 4, 2) := by decide +kernel
theorem dL_law_1107 : decode cL_law 1107 = .ok (.iconst 1, 1) := by decide +kernel
theorem dL_law_1108 : decode cL_law 1108 = .ok (.iadd, 1) := by decide +kernel
theorem dL_law_1109 : decode cL_law 1109 = .ok (.iaload, 1) := by decide +kernel
theorem dL_law_1110 : decode cL_law 1110 = .ok (.aload_n 0, 1) := by decide +kernel
theorem dL_law_1111 : decode cL_law 1111 = .ok (.iload 4, 2) := by decide +kernel
theorem dL_law_1113 : decode cL_law 1113 = .ok (.iconst 2, 1) := by decide +kernel
theorem dL_law_1114 : decode cL_law 1114 = .ok (.iadd, 1) := by decide +kernel
theorem dL_law_1115 : decode cL_law 1115 = .ok (.iaload, 1) := by decide +kernel
theorem dL_law_1116 : decode cL_law 1116 = .ok (.aload_n 0, 1) := by decide +kernel
theorem dL_law_1117 : decode cL_law 1117 = .ok (.iload 4, 2) := by decide +kernel
theorem dL_law_1119 : decode cL_law 1119 = .ok (.iconst 3, 1) := by decide +kernel
theorem dL_law_1120 : decode cL_law 1120 = .ok (.iadd, 1) := by decide +kernel
theorem dL_law_1121 : decode cL_law 1121 = .ok (.iaload, 1) := by decide +kernel
theorem dL_law_1122 : decode cL_law 1122 = .ok (.invokevirtual 118, 3) := by decide +kernel
theorem dL_law_1125 : decode cL_law 1125 = .ok (.istore 6, 2) := by decide +kernel
theorem dL_law_1127 : decode cL_law 1127 = .ok (.aload_n 2, 1) := by decide +kernel
theorem dL_law_1128 : decode cL_law 1128 = .ok (.invokevirtual 104, 3) := by decide +kernel
theorem dL_law_1131 : decode cL_law 1131 = .ok (.iload 5, 2) := by decide +kernel
theorem dL_law_1133 : decode cL_law 1133 = .ok (.if_icmp .eq 5, 3) := by decide +kernel
theorem dL_law_1136 : decode cL_law 1136 = .ok (.iconst 0, 1) := by decide +kernel
theorem dL_law_1137 : decode cL_law 1137 = .ok (.ireturn, 1) := by decide +kernel
theorem dL_law_1138 : decode cL_law 1138 = .ok (.iload 5, 2) := by decide +kernel
theorem dL_law_1140 : decode cL_law 1140 = .ok (.ifCond .ne 15, 3) := by decide +kernel
theorem dL_law_1143 : decode cL_law 1143 = .ok (.aload_n 3, 1) := by decide +kernel
theorem dL_law_1144 : decode cL_law 1144 = .ok (.iconst 0, 1) := by decide +kernel
theorem dL_law_1145 : decode cL_law 1145 = .ok (.laload, 1) := by decide +kernel
theorem dL_law_1146 : decode cL_law 1146 = .ok (.iload 6, 2) := by decide +kernel
theorem dL_law_1148 : decode cL_law 1148 = .ok (.i2l, 1) := by decide +kernel
theorem dL_law_1149 : decode cL_law 1149 = .ok (.lcmp, 1) := by decide +kernel
theorem dL_law_1150 : decode cL_law 1150 = .ok (.ifCond .eq 5, 3) := by decide +kernel
theorem dL_law_1153 : decode cL_law 1153 = .ok (.iconst 0, 1) := by decide +kernel
theorem dL_law_1154 : decode cL_law 1154 = .ok (.ireturn, 1) := by decide +kernel
theorem dL_law_1155 : decode cL_law 1155 = .ok (.goto 548, 3) := by decide +kernel
theorem dL_law_1158 : decode cL_law 1158 = .ok (.aload_n 1, 1) := by decide +kernel
theorem dL_law_1159 : decode cL_law 1159 = .ok (.aload_n 0, 1) := by decide +kernel
theorem dL_law_1160 : decode cL_law 1160 = .ok (.iload 4, 2) := by decide +kernel
theorem dL_law_1162 : decode cL_law 1162 = .ok (.iconst 1, 1) := by decide +kernel
theorem dL_law_1163 : decode cL_law 1163 = .ok (.iadd, 1) := by decide +kernel
theorem dL_law_1164 : decode cL_law 1164 = .ok (.iaload, 1) := by decide +kernel
theorem dL_law_1165 : decode cL_law 1165 = .ok (.invokevirtual 119, 3) := by decide +kernel
theorem dL_law_1168 : decode cL_law 1168 = .ok (.aload_n 2, 1) := by decide +kernel
theorem dL_law_1169 : decode cL_law 1169 = .ok (.aload_n 0, 1) := by decide +kernel
theorem dL_law_1170 : decode cL_law 1170 = .ok (.iload 4, 2) := by decide +kernel
theorem dL_law_1172 : decode cL_law 1172 = .ok (.iconst 1, 1) := by decide +kernel
theorem dL_law_1173 : decode cL_law 1173 = .ok (.iadd, 1) := by decide +kernel
theorem dL_law_1174 : decode cL_law 1174 = .ok (.iaload, 1) := by decide +kernel
theorem dL_law_1175 : decode cL_law 1175 = .ok (.invokevirtual 122, 3) := by decide +kernel
theorem dL_law_1178 : decode cL_law 1178 = .ok (.if_icmp .eq 525, 3) := by decide +kernel
theorem dL_law_1181 : decode cL_law 1181 = .ok (.iconst 0, 1) := by decide +kernel
theorem dL_law_1182 : decode cL_law 1182 = .ok (.ireturn, 1) := by decide +kernel
theorem dL_law_1183 : decode cL_law 1183 = .ok (.aload_n 1, 1) := by decide +kernel
theorem dL_law_1184 : decode cL_law 1184 = .ok (.aload_n 0, 1) := by decide +kernel
theorem dL_law_1185 : decode cL_law 1185 = .ok (.iload 4, 2) := by decide +kernel
theorem dL_law_1187 : decode cL_law 1187 = .ok (.iconst 1, 1) := by decide +kernel
theorem dL_law_1188 : decode cL_law 1188 = .ok (.iadd, 1) := by decide +kernel
theorem dL_law_1189 : decode cL_law 1189 = .ok (.iaload, 1) := by decide +kernel
theorem dL_law_1190 : decode cL_law 1190 = .ok (.aload_n 0, 1) := by decide +kernel
theorem dL_law_1191 : decode cL_law 1191 = .ok (.iload 4, 2) := by decide +kernel
theorem dL_law_1193 : decode cL_law 1193 = .ok (.iconst 2, 1) := by decide +kernel
theorem dL_law_1194 : decode cL_law 1194 = .ok (.iadd, 1) := by decide +kernel
theorem dL_law_1195 : decode cL_law 1195 = .ok (.iaload, 1) := by decide +kernel
theorem dL_law_1196 : decode cL_law 1196 = .ok (.invokevirtual 123, 3) := by decide +kernel
theorem dL_law_1199 : decode cL_law 1199 = .ok (.aload_n 2, 1) := by decide +kernel
theorem dL_law_1200 : decode cL_law 1200 = .ok (.aload_n 0, 1) := by decide +kernel
theorem dL_law_1201 : decode cL_law 1201 = .ok (.iload 4, 2) := by decide +kernel
theorem dL_law_1203 : decode cL_law 1203 = .ok (.iconst 1, 1) := by decide +kernel
theorem dL_law_1204 : decode cL_law 1204 = .ok (.iadd, 1) := by decide +kernel
theorem dL_law_1205 : decode cL_law 1205 = .ok (.iaload, 1) := by decide +kernel
theorem dL_law_1206 : decode cL_law 1206 = .ok (.aload_n 0, 1) := by decide +kernel
theorem dL_law_1207 : decode cL_law 1207 = .ok (.iload 4, 2) := by decide +kernel
theorem dL_law_1209 : decode cL_law 1209 = .ok (.iconst 2, 1) := by decide +kernel
theorem dL_law_1210 : decode cL_law 1210 = .ok (.iadd, 1) := by decide +kernel
theorem dL_law_1211 : decode cL_law 1211 = .ok (.iaload, 1) := by decide +kernel
theorem dL_law_1212 : decode cL_law 1212 = .ok (.invokevirtual 127, 3) := by decide +kernel
theorem dL_law_1215 : decode cL_law 1215 = .ok (.if_icmp .eq 488, 3) := by decide +kernel
theorem dL_law_1218 : decode cL_law 1218 = .ok (.iconst 0, 1) := by decide +kernel
theorem dL_law_1219 : decode cL_law 1219 = .ok (.ireturn, 1) := by decide +kernel
theorem dL_law_1220 : decode cL_law 1220 = .ok (.aload_n 1, 1) := by decide +kernel
theorem dL_law_1221 : decode cL_law 1221 = .ok (.aload_n 0, 1) := by decide +kernel
theorem dL_law_1222 : decode cL_law 1222 = .ok (.iload 4, 2) := by decide +kernel
theorem dL_law_1224 : decode cL_law 1224 = .ok (.iconst 1, 1) := by decide +kernel
theorem dL_law_1225 : decode cL_law 1225 = .ok (.iadd, 1) := by decide +kernel
theorem dL_law_1226 : decode cL_law 1226 = .ok (.iaload, 1) := by decide +kernel
theorem dL_law_1227 : decode cL_law 1227 = .ok (.aload_n 0, 1) := by decide +kernel
theorem dL_law_1228 : decode cL_law 1228 = .ok (.iload 4, 2) := by decide +kernel
theorem dL_law_1230 : decode cL_law 1230 = .ok (.iconst 2, 1) := by decide +kernel
theorem dL_law_1231 : decode cL_law 1231 = .ok (.iadd, 1) := by decide +kernel
theorem dL_law_1232 : decode cL_law 1232 = .ok (.iaload, 1) := by decide +kernel
theorem dL_law_1233 : decode cL_law 1233 = .ok (.aload_n 0, 1) := by decide +kernel
theorem dL_law_1234 : decode cL_law 1234 = .ok (.iload 4, 2) := by decide +kernel
theorem dL_law_1236 : decode cL_law 1236 = .ok (.iconst 3, 1) := by decide +kernel
theorem dL_law_1237 : decode cL_law 1237 = .ok (.iadd, 1) := by decide +kernel
theorem dL_law_1238 : decode cL_law 1238 = .ok (.iaload, 1) := by decide +kernel
theorem dL_law_1239 : decode cL_law 1239 = .ok (.invokevirtual 128, 3) := by decide +kernel
theorem dL_law_1242 : decode cL_law 1242 = .ok (.aload_n 2, 1) := by decide +kernel
theorem dL_law_1243 : decode cL_law 1243 = .ok (.aload_n 0, 1) := by decide +kernel
theorem dL_law_1244 : decode cL_law 1244 = .ok (.iload 4, 2) := by decide +kernel
theorem dL_law_1246 : decode cL_law 1246 = .ok (.iconst 1, 1) := by decide +kernel
theorem dL_law_1247 : decode cL_law 1247 = .ok (.iadd, 1) := by decide +kernel
theorem dL_law_1248 : decode cL_law 1248 = .ok (.iaload, 1) := by decide +kernel
theorem dL_law_1249 : decode cL_law 1249 = .ok (.aload_n 0, 1) := by decide +kernel
theorem dL_law_1250 : decode cL_law 1250 = .ok (.iload 4, 2) := by decide +kernel
theorem dL_law_1252 : decode cL_law 1252 = .ok (.iconst 2, 1) := by decide +kernel
theorem dL_law_1253 : decode cL_law 1253 = .ok (.iadd, 1) := by decide +kernel
theorem dL_law_1254 : decode cL_law 1254 = .ok (.iaload, 1) := by decide +kernel
theorem dL_law_1255 : decode cL_law 1255 = .ok (.aload_n 0, 1) := by decide +kernel
theorem dL_law_1256 : decode cL_law 1256 = .ok (.iload 4, 2) := by decide +kernel
theorem dL_law_1258 : decode cL_law 1258 = .ok (.iconst 3, 1) := by decide +kernel
theorem dL_law_1259 : decode cL_law 1259 = .ok (.iadd, 1) := by decide +kernel
theorem dL_law_1260 : decode cL_law 1260 = .ok (.iaload, 1) := by decide +kernel
theorem dL_law_1261 : decode cL_law 1261 = .ok (.invokevirtual 131, 3) := by decide +kernel
theorem dL_law_1264 : decode cL_law 1264 = .ok (.if_icmp .eq 439, 3) := by decide +kernel
theorem dL_law_1267 : decode cL_law 1267 = .ok (.iconst 0, 1) := by decide +kernel
theorem dL_law_1268 : decode cL_law 1268 = .ok (.ireturn, 1) := by decide +kernel
theorem dL_law_1269 : decode cL_law 1269 = .ok (.aload_n 1, 1) := by decide +kernel
theorem dL_law_1270 : decode cL_law 1270 = .ok (.aload_n 0, 1) := by decide +kernel
theorem dL_law_1271 : decode cL_law 1271 = .ok (.iload 4, 2) := by decide +kernel
theorem dL_law_1273 : decode cL_law 1273 = .ok (.iconst 1, 1) := by decide +kernel
theorem dL_law_1274 : decode cL_law 1274 = .ok (.iadd, 1) := by decide +kernel
theorem dL_law_1275 : decode cL_law 1275 = .ok (.iaload, 1) := by decide +kernel
theorem dL_law_1276 : decode cL_law 1276 = .ok (.aload_n 0, 1) := by decide +kernel
theorem dL_law_1277 : decode cL_law 1277 = .ok (.iload 4, 2) := by decide +kernel
theorem dL_law_1279 : decode cL_law 1279 = .ok (.iconst 2, 1) := by decide +kernel
theorem dL_law_1280 : decode cL_law 1280 = .ok (.iadd, 1) := by decide +kernel
theorem dL_law_1281 : decode cL_law 1281 = .ok (.iaload, 1) := by decide +kernel
theorem dL_law_1282 : decode cL_law 1282 = .ok (.invokevirtual 132, 3) := by decide +kernel
theorem dL_law_1285 : decode cL_law 1285 = .ok (.aload_n 2, 1) := by decide +kernel
theorem dL_law_1286 : decode cL_law 1286 = .ok (.aload_n 0, 1) := by decide +kernel
theorem dL_law_1287 : decode cL_law 1287 = .ok (.iload 4, 2) := by decide +kernel
theorem dL_law_1289 : decode cL_law 1289 = .ok (.iconst 1, 1) := by decide +kernel
theorem dL_law_1290 : decode cL_law 1290 = .ok (.iadd, 1) := by decide +kernel
theorem dL_law_1291 : decode cL_law 1291 = .ok (.iaload, 1) := by decide +kernel
theorem dL_law_1292 : decode cL_law 1292 = .ok (.aload_n 0, 1) := by decide +kernel
theorem dL_law_1293 : decode cL_law 1293 = .ok (.iload 4, 2) := by decide +kernel
theorem dL_law_1295 : decode cL_law 1295 = .ok (.iconst 2, 1) := by decide +kernel
theorem dL_law_1296 : decode cL_law 1296 = .ok (.iadd, 1) := by decide +kernel
theorem dL_law_1297 : decode cL_law 1297 = .ok (.iaload, 1) := by decide +kernel
theorem dL_law_1298 : decode cL_law 1298 = .ok (.invokevirtual 135, 3) := by decide +kernel
theorem dL_law_1301 : decode cL_law 1301 = .ok (.if_icmp .eq 402, 3) := by decide +kernel
theorem dL_law_1304 : decode cL_law 1304 = .ok (.iconst 0, 1) := by decide +kernel
theorem dL_law_1305 : decode cL_law 1305 = .ok (.ireturn, 1) := by decide +kernel
theorem dL_law_1306 : decode cL_law 1306 = .ok (.aload_n 1, 1) := by decide +kernel
theorem dL_law_1307 : decode cL_law 1307 = .ok (.aload_n 0, 1) := by decide +kernel
theorem dL_law_1308 : decode cL_law 1308 = .ok (.iload 4, 2) := by decide +kernel
theorem dL_law_1310 : decode cL_law 1310 = .ok (.iconst 1, 1) := by decide +kernel
theorem dL_law_1311 : decode cL_law 1311 = .ok (.iadd, 1) := by decide +kernel
theorem dL_law_1312 : decode cL_law 1312 = .ok (.iaload, 1) := by decide +kernel
theorem dL_law_1313 : decode cL_law 1313 = .ok (.aload_n 0, 1) := by decide +kernel
theorem dL_law_1314 : decode cL_law 1314 = .ok (.iload 4, 2) := by decide +kernel
theorem dL_law_1316 : decode cL_law 1316 = .ok (.iconst 2, 1) := by decide +kernel
theorem dL_law_1317 : decode cL_law 1317 = .ok (.iadd, 1) := by decide +kernel
theorem dL_law_1318 : decode cL_law 1318 = .ok (.iaload, 1) := by decide +kernel
theorem dL_law_1319 : decode cL_law 1319 = .ok (.aload_n 0, 1) := by decide +kernel
theorem dL_law_1320 : decode cL_law 1320 = .ok (.iload 4, 2) := by decide +kernel
theorem dL_law_1322 : decode cL_law 1322 = .ok (.iconst 3, 1) := by decide +kernel
theorem dL_law_1323 : decode cL_law 1323 = .ok (.iadd, 1) := by decide +kernel
theorem dL_law_1324 : decode cL_law 1324 = .ok (.iaload, 1) := by decide +kernel
theorem dL_law_1325 : decode cL_law 1325 = .ok (.invokevirtual 136, 3) := by decide +kernel
theorem dL_law_1328 : decode cL_law 1328 = .ok (.aload_n 2, 1) := by decide +kernel
theorem dL_law_1329 : decode cL_law 1329 = .ok (.aload_n 0, 1) := by decide +kernel
theorem dL_law_1330 : decode cL_law 1330 = .ok (.iload 4, 2) := by decide +kernel
theorem dL_law_1332 : decode cL_law 1332 = .ok (.iconst 1, 1) := by decide +kernel
theorem dL_law_1333 : decode cL_law 1333 = .ok (.iadd, 1) := by decide +kernel
theorem dL_law_1334 : decode cL_law 1334 = .ok (.iaload, 1) := by decide +kernel
theorem dL_law_1335 : decode cL_law 1335 = .ok (.aload_n 0, 1) := by decide +kernel
theorem dL_law_1336 : decode cL_law 1336 = .ok (.iload 4, 2) := by decide +kernel
theorem dL_law_1338 : decode cL_law 1338 = .ok (.iconst 2, 1) := by decide +kernel
theorem dL_law_1339 : decode cL_law 1339 = .ok (.iadd, 1) := by decide +kernel
theorem dL_law_1340 : decode cL_law 1340 = .ok (.iaload, 1) := by decide +kernel
theorem dL_law_1341 : decode cL_law 1341 = .ok (.aload_n 0, 1) := by decide +kernel
theorem dL_law_1342 : decode cL_law 1342 = .ok (.iload 4, 2) := by decide +kernel
theorem dL_law_1344 : decode cL_law 1344 = .ok (.iconst 3, 1) := by decide +kernel
theorem dL_law_1345 : decode cL_law 1345 = .ok (.iadd, 1) := by decide +kernel
theorem dL_law_1346 : decode cL_law 1346 = .ok (.iaload, 1) := by decide +kernel
theorem dL_law_1347 : decode cL_law 1347 = .ok (.invokevirtual 139, 3) := by decide +kernel
theorem dL_law_1350 : decode cL_law 1350 = .ok (.if_icmp .eq 353, 3) := by decide +kernel
theorem dL_law_1353 : decode cL_law 1353 = .ok (.iconst 0, 1) := by decide +kernel
theorem dL_law_1354 : decode cL_law 1354 = .ok (.ireturn, 1) := by decide +kernel
theorem dL_law_1355 : decode cL_law 1355 = .ok (.aload_n 1, 1) := by decide +kernel
theorem dL_law_1356 : decode cL_law 1356 = .ok (.aload_n 0, 1) := by decide +kernel
theorem dL_law_1357 : decode cL_law 1357 = .ok (.iload 4, 2) := by decide +kernel
theorem dL_law_1359 : decode cL_law 1359 = .ok (.iconst 1, 1) := by decide +kernel
theorem dL_law_1360 : decode cL_law 1360 = .ok (.iadd, 1) := by decide +kernel
theorem dL_law_1361 : decode cL_law 1361 = .ok (.iaload, 1) := by decide +kernel
theorem dL_law_1362 : decode cL_law 1362 = .ok (.invokevirtual 140, 3) := by decide +kernel
theorem dL_law_1365 : decode cL_law 1365 = .ok (.aload_n 2, 1) := by decide +kernel
theorem dL_law_1366 : decode cL_law 1366 = .ok (.aload_n 0, 1) := by decide +kernel
theorem dL_law_1367 : decode cL_law 1367 = .ok (.iload 4, 2) := by decide +kernel
theorem dL_law_1369 : decode cL_law 1369 = .ok (.iconst 1, 1) := by decide +kernel
theorem dL_law_1370 : decode cL_law 1370 = .ok (.iadd, 1) := by decide +kernel
theorem dL_law_1371 : decode cL_law 1371 = .ok (.iaload, 1) := by decide +kernel
theorem dL_law_1372 : decode cL_law 1372 = .ok (.invokevirtual 143, 3) := by decide +kernel
theorem dL_law_1375 : decode cL_law 1375 = .ok (.if_icmp .eq 328, 3) := by decide +kernel
theorem dL_law_1378 : decode cL_law 1378 = .ok (.iconst 0, 1) := by decide +kernel
theorem dL_law_1379 : decode cL_law 1379 = .ok (.ireturn, 1) := by decide +kernel
theorem dL_law_1380 : decode cL_law 1380 = .ok (.aload_n 1, 1) := by decide +kernel
theorem dL_law_1381 : decode cL_law 1381 = .ok (.aload_n 0, 1) := by decide +kernel
theorem dL_law_1382 : decode cL_law 1382 = .ok (.iload 4, 2) := by decide +kernel
theorem dL_law_1384 : decode cL_law 1384 = .ok (.iconst 1, 1) := by decide +kernel
theorem dL_law_1385 : decode cL_law 1385 = .ok (.iadd, 1) := by decide +kernel
theorem dL_law_1386 : decode cL_law 1386 = .ok (.iaload, 1) := by decide +kernel
theorem dL_law_1387 : decode cL_law 1387 = .ok (.aload_n 0, 1) := by decide +kernel
theorem dL_law_1388 : decode cL_law 1388 = .ok (.iload 4, 2) := by decide +kernel
theorem dL_law_1390 : decode cL_law 1390 = .ok (.iconst 2, 1) := by decide +kernel
theorem dL_law_1391 : decode cL_law 1391 = .ok (.iadd, 1) := by decide +kernel
theorem dL_law_1392 : decode cL_law 1392 = .ok (.iaload, 1) := by decide +kernel
theorem dL_law_1393 : decode cL_law 1393 = .ok (.aload_n 0, 1) := by decide +kernel
theorem dL_law_1394 : decode cL_law 1394 = .ok (.iload 4, 2) := by decide +kernel
theorem dL_law_1396 : decode cL_law 1396 = .ok (.iconst 3, 1) := by decide +kernel
theorem dL_law_1397 : decode cL_law 1397 = .ok (.iadd, 1) := by decide +kernel
theorem dL_law_1398 : decode cL_law 1398 = .ok (.iaload, 1) := by decide +kernel
theorem dL_law_1399 : decode cL_law 1399 = .ok (.aload_n 3, 1) := by decide +kernel
theorem dL_law_1400 : decode cL_law 1400 = .ok (.invokestatic 144, 3) := by decide +kernel
theorem dL_law_1403 : decode cL_law 1403 = .ok (.istore 5, 2) := by decide +kernel
theorem dL_law_1405 : decode cL_law 1405 = .ok (.aload_n 2, 1) := by decide +kernel
theorem dL_law_1406 : decode cL_law 1406 = .ok (.aload_n 0, 1) := by decide +kernel
theorem dL_law_1407 : decode cL_law 1407 = .ok (.iload 4, 2) := by decide +kernel
theorem dL_law_1409 : decode cL_law 1409 = .ok (.iconst 1, 1) := by decide +kernel
theorem dL_law_1410 : decode cL_law 1410 = .ok (.iadd, 1) := by decide +kernel
theorem dL_law_1411 : decode cL_law 1411 = .ok (.iaload, 1) := by decide +kernel
theorem dL_law_1412 : decode cL_law 1412 = .ok (.aload_n 0, 1) := by decide +kernel
theorem dL_law_1413 : decode cL_law 1413 = .ok (.iload 4, 2) := by decide +kernel
theorem dL_law_1415 : decode cL_law 1415 = .ok (.iconst 2, 1) := by decide +kernel
theorem dL_law_1416 : decode cL_law 1416 = .ok (.iadd, 1) := by decide +kernel
theorem dL_law_1417 : decode cL_law 1417 = .ok (.iaload, 1) := by decide +kernel
theorem dL_law_1418 : decode cL_law 1418 = .ok (.aload_n 0, 1) := by decide +kernel
theorem dL_law_1419 : decode cL_law 1419 = .ok (.iload 4, 2) := by decide +kernel
theorem dL_law_1421 : decode cL_law 1421 = .ok (.iconst 3, 1) := by decide +kernel
theorem dL_law_1422 : decode cL_law 1422 = .ok (.iadd, 1) := by decide +kernel
theorem dL_law_1423 : decode cL_law 1423 = .ok (.iaload, 1) := by decide +kernel
theorem dL_law_1424 : decode cL_law 1424 = .ok (.invokevirtual 146, 3) := by decide +kernel
theorem dL_law_1427 : decode cL_law 1427 = .ok (.istore 6, 2) := by decide +kernel
theorem dL_law_1429 : decode cL_law 1429 = .ok (.aload_n 2, 1) := by decide +kernel
theorem dL_law_1430 : decode cL_law 1430 = .ok (.invokevirtual 104, 3) := by decide +kernel
theorem dL_law_1433 : decode cL_law 1433 = .ok (.iload 5, 2) := by decide +kernel
theorem dL_law_1435 : decode cL_law 1435 = .ok (.if_icmp .eq 5, 3) := by decide +kernel
theorem dL_law_1438 : decode cL_law 1438 = .ok (.iconst 0, 1) := by decide +kernel
theorem dL_law_1439 : decode cL_law 1439 = .ok (.ireturn, 1) := by decide +kernel
theorem dL_law_1440 : decode cL_law 1440 = .ok (.iload 5, 2) := by decide +kernel
theorem dL_law_1442 : decode cL_law 1442 = .ok (.ifCond .ne 15, 3) := by decide +kernel
theorem dL_law_1445 : decode cL_law 1445 = .ok (.aload_n 3, 1) := by decide +kernel
theorem dL_law_1446 : decode cL_law 1446 = .ok (.iconst 0, 1) := by decide +kernel
theorem dL_law_1447 : decode cL_law 1447 = .ok (.laload, 1) := by decide +kernel
theorem dL_law_1448 : decode cL_law 1448 = .ok (.iload 6, 2) := by decide +kernel
theorem dL_law_1450 : decode cL_law 1450 = .ok (.i2l, 1) := by decide +kernel
theorem dL_law_1451 : decode cL_law 1451 = .ok (.lcmp, 1) := by decide +kernel
theorem dL_law_1452 : decode cL_law 1452 = .ok (.ifCond .eq 5, 3) := by decide +kernel
theorem dL_law_1455 : decode cL_law 1455 = .ok (.iconst 0, 1) := by decide +kernel
theorem dL_law_1456 : decode cL_law 1456 = .ok (.ireturn, 1) := by decide +kernel
theorem dL_law_1457 : decode cL_law 1457 = .ok (.goto 246, 3) := by decide +kernel
theorem dL_law_1460 : decode cL_law 1460 = .ok (.aload_n 1, 1) := by decide +kernel
theorem dL_law_1461 : decode cL_law 1461 = .ok (.aload_n 0, 1) := by decide +kernel
theorem dL_law_1462 : decode cL_law 1462 = .ok (.iload 4, 2) := by decide +kernel
theorem dL_law_1464 : decode cL_law 1464 = .ok (.iconst 1, 1) := by decide +kernel
theorem dL_law_1465 : decode cL_law 1465 = .ok (.iadd, 1) := by decide +kernel
theorem dL_law_1466 : decode cL_law 1466 = .ok (.iaload, 1) := by decide +kernel
theorem dL_law_1467 : decode cL_law 1467 = .ok (.aload_n 0, 1) := by decide +kernel
theorem dL_law_1468 : decode cL_law 1468 = .ok (.iload 4, 2) := by decide +kernel
theorem dL_law_1470 : decode cL_law 1470 = .ok (.iconst 2, 1) := by decide +kernel
theorem dL_law_1471 : decode cL_law 1471 = .ok (.iadd, 1) := by decide +kernel
theorem dL_law_1472 : decode cL_law 1472 = .ok (.iaload, 1) := by decide +kernel
theorem dL_law_1473 : decode cL_law 1473 = .ok (.aload_n 0, 1) := by decide +kernel
theorem dL_law_1474 : decode cL_law 1474 = .ok (.iload 4, 2) := by decide +kernel
theorem dL_law_1476 : decode cL_law 1476 = .ok (.iconst 3, 1) := by decide +kernel
theorem dL_law_1477 : decode cL_law 1477 = .ok (.iadd, 1) := by decide +kernel
theorem dL_law_1478 : decode cL_law 1478 = .ok (.iaload, 1) := by decide +kernel
theorem dL_law_1479 : decode cL_law 1479 = .ok (.ifCond .eq 7, 3) := by decide +kernel
theorem dL_law_1482 : decode cL_law 1482 = .ok (.iconst 1, 1) := by decide +kernel
theorem dL_law_1483 : decode cL_law 1483 = .ok (.goto 4, 3) := by decide +kernel
theorem dL_law_1486 : decode cL_law 1486 = .ok (.iconst 0, 1) := by decide +kernel
theorem dL_law_1487 : decode cL_law 1487 = .ok (.invokevirtual 147, 3) := by decide +kernel
theorem dL_law_1490 : decode cL_law 1490 = .ok (.aload_n 2, 1) := by decide +kernel
theorem dL_law_1491 : decode cL_law 1491 = .ok (.aload_n 0, 1) := by decide +kernel
theorem dL_law_1492 : decode cL_law 1492 = .ok (.iload 4, 2) := by decide +kernel
theorem dL_law_1494 : decode cL_law 1494 = .ok (.iconst 1, 1) := by decide +kernel
theorem dL_law_1495 : decode cL_law 1495 = .ok (.iadd, 1) := by decide +kernel
theorem dL_law_1496 : decode cL_law 1496 = .ok (.iaload, 1) := by decide +kernel
theorem dL_law_1497 : decode cL_law 1497 = .ok (.aload_n 0, 1) := by decide +kernel
theorem dL_law_1498 : decode cL_law 1498 = .ok (.iload 4, 2) := by decide +kernel
theorem dL_law_1500 : decode cL_law 1500 = .ok (.iconst 2, 1) := by decide +kernel
theorem dL_law_1501 : decode cL_law 1501 = .ok (.iadd, 1) := by decide +kernel
theorem dL_law_1502 : decode cL_law 1502 = .ok (.iaload, 1) := by decide +kernel
theorem dL_law_1503 : decode cL_law 1503 = .ok (.aload_n 0, 1) := by decide +kernel
theorem dL_law_1504 : decode cL_law 1504 = .ok (.iload 4, 2) := by decide +kernel
theorem dL_law_1506 : decode cL_law 1506 = .ok (.iconst 3, 1) := by decide +kernel
theorem dL_law_1507 : decode cL_law 1507 = .ok (.iadd, 1) := by decide +kernel
theorem dL_law_1508 : decode cL_law 1508 = .ok (.iaload, 1) := by decide +kernel
theorem dL_law_1509 : decode cL_law 1509 = .ok (.ifCond .eq 7, 3) := by decide +kernel
theorem dL_law_1512 : decode cL_law 1512 = .ok (.iconst 1, 1) := by decide +kernel
theorem dL_law_1513 : decode cL_law 1513 = .ok (.goto 4, 3) := by decide +kernel
theorem dL_law_1516 : decode cL_law 1516 = .ok (.iconst 0, 1) := by decide +kernel
theorem dL_law_1517 : decode cL_law 1517 = .ok (.invokevirtual 151, 3) := by decide +kernel
theorem dL_law_1520 : decode cL_law 1520 = .ok (.if_icmp .eq 183, 3) := by decide +kernel
theorem dL_law_1523 : decode cL_law 1523 = .ok (.iconst 0, 1) := by decide +kernel
theorem dL_law_1524 : decode cL_law 1524 = .ok (.ireturn, 1) := by decide +kernel
theorem dL_law_1525 : decode cL_law 1525 = .ok (.aload_n 1, 1) := by decide +kernel
theorem dL_law_1526 : decode cL_law 1526 = .ok (.aload_n 0, 1) := by decide +kernel
theorem dL_law_1527 : decode cL_law 1527 = .ok (.iload 4, 2) := by decide +kernel
theorem dL_law_1529 : decode cL_law 1529 = .ok (.iconst 1, 1) := by decide +kernel
theorem dL_law_1530 : decode cL_law 1530 = .ok (.iadd, 1) := by decide +kernel
theorem dL_law_1531 : decode cL_law 1531 = .ok (.iaload, 1) := by decide +kernel
theorem dL_law_1532 : decode cL_law 1532 = .ok (.aload_n 0, 1) := by decide +kernel
theorem dL_law_1533 : decode cL_law 1533 = .ok (.iload 4, 2) := by decide +kernel
theorem dL_law_1535 : decode cL_law 1535 = .ok (.iconst 2, 1) := by decide +kernel
theorem dL_law_1536 : decode cL_law 1536 = .ok (.iadd, 1) := by decide +kernel
theorem dL_law_1537 : decode cL_law 1537 = .ok (.iaload, 1) := by decide +kernel
theorem dL_law_1538 : decode cL_law 1538 = .ok (.invokevirtual 152, 3) := by decide +kernel
theorem dL_law_1541 : decode cL_law 1541 = .ok (.aload_n 2, 1) := by decide +kernel
theorem dL_law_1542 : decode cL_law 1542 = .ok (.aload_n 0, 1) := by decide +kernel
theorem dL_law_1543 : decode cL_law 1543 = .ok (.iload 4, 2) := by decide +kernel
theorem dL_law_1545 : decode cL_law 1545 = .ok (.iconst 1, 1) := by decide +kernel
theorem dL_law_1546 : decode cL_law 1546 = .ok (.iadd, 1) := by decide +kernel
theorem dL_law_1547 : decode cL_law 1547 = .ok (.iaload, 1) := by decide +kernel
theorem dL_law_1548 : decode cL_law 1548 = .ok (.aload_n 0, 1) := by decide +kernel
theorem dL_law_1549 : decode cL_law 1549 = .ok (.iload 4, 2) := by decide +kernel
theorem dL_law_1551 : decode cL_law 1551 = .ok (.iconst 2, 1) := by decide +kernel
theorem dL_law_1552 : decode cL_law 1552 = .ok (.iadd, 1) := by decide +kernel
theorem dL_law_1553 : decode cL_law 1553 = .ok (.iaload, 1) := by decide +kernel
theorem dL_law_1554 : decode cL_law 1554 = .ok (.invokevirtual 155, 3) := by decide +kernel
theorem dL_law_1557 : decode cL_law 1557 = .ok (.if_icmp .eq 146, 3) := by decide +kernel
theorem dL_law_1560 : decode cL_law 1560 = .ok (.iconst 0, 1) := by decide +kernel
theorem dL_law_1561 : decode cL_law 1561 = .ok (.ireturn, 1) := by decide +kernel
theorem dL_law_1562 : decode cL_law 1562 = .ok (.aload_n 1, 1) := by decide +kernel
theorem dL_law_1563 : decode cL_law 1563 = .ok (.aload_n 0, 1) := by decide +kernel
theorem dL_law_1564 : decode cL_law 1564 = .ok (.iload 4, 2) := by decide +kernel
theorem dL_law_1566 : decode cL_law 1566 = .ok (.iconst 1, 1) := by decide +kernel
theorem dL_law_1567 : decode cL_law 1567 = .ok (.iadd, 1) := by decide +kernel
theorem dL_law_1568 : decode cL_law 1568 = .ok (.iaload, 1) := by decide +kernel
theorem dL_law_1569 : decode cL_law 1569 = .ok (.aload_n 0, 1) := by decide +kernel
theorem dL_law_1570 : decode cL_law 1570 = .ok (.iload 4, 2) := by decide +kernel
theorem dL_law_1572 : decode cL_law 1572 = .ok (.iconst 2, 1) := by decide +kernel
theorem dL_law_1573 : decode cL_law 1573 = .ok (.iadd, 1) := by decide +kernel
theorem dL_law_1574 : decode cL_law 1574 = .ok (.iaload, 1) := by decide +kernel
theorem dL_law_1575 : decode cL_law 1575 = .ok (.aload_n 3, 1) := by decide +kernel
theorem dL_law_1576 : decode cL_law 1576 = .ok (.invokestatic 156, 3) := by decide +kernel
theorem dL_law_1579 : decode cL_law 1579 = .ok (.istore 5, 2) := by decide +kernel
theorem dL_law_1581 : decode cL_law 1581 = .ok (.aload_n 2, 1) := by decide +kernel
theorem dL_law_1582 : decode cL_law 1582 = .ok (.aload_n 0, 1) := by decide +kernel
theorem dL_law_1583 : decode cL_law 1583 = .ok (.iload 4, 2) := by decide +kernel
theorem dL_law_1585 : decode cL_law 1585 = .ok (.iconst 1, 1) := by decide +kernel
theorem dL_law_1586 : decode cL_law 1586 = .ok (.iadd, 1) := by decide +kernel
theorem dL_law_1587 : decode cL_law 1587 = .ok (.iaload, 1) := by decide +kernel
theorem dL_law_1588 : decode cL_law 1588 = .ok (.aload_n 0, 1) := by decide +kernel
theorem dL_law_1589 : decode cL_law 1589 = .ok (.iload 4, 2) := by decide +kernel
theorem dL_law_1591 : decode cL_law 1591 = .ok (.iconst 2, 1) := by decide +kernel
theorem dL_law_1592 : decode cL_law 1592 = .ok (.iadd, 1) := by decide +kernel
theorem dL_law_1593 : decode cL_law 1593 = .ok (.iaload, 1) := by decide +kernel
theorem dL_law_1594 : decode cL_law 1594 = .ok (.invokevirtual 159, 3) := by decide +kernel
theorem dL_law_1597 : decode cL_law 1597 = .ok (.lstore 6, 2) := by decide +kernel
theorem dL_law_1599 : decode cL_law 1599 = .ok (.aload_n 2, 1) := by decide +kernel
theorem dL_law_1600 : decode cL_law 1600 = .ok (.invokevirtual 104, 3) := by decide +kernel
theorem dL_law_1603 : decode cL_law 1603 = .ok (.iload 5, 2) := by decide +kernel
theorem dL_law_1605 : decode cL_law 1605 = .ok (.if_icmp .eq 5, 3) := by decide +kernel
theorem dL_law_1608 : decode cL_law 1608 = .ok (.iconst 0, 1) := by decide +kernel
theorem dL_law_1609 : decode cL_law 1609 = .ok (.ireturn, 1) := by decide +kernel
theorem dL_law_1610 : decode cL_law 1610 = .ok (.iload 5, 2) := by decide +kernel
theorem dL_law_1612 : decode cL_law 1612 = .ok (.ifCond .ne 14, 3) := by decide +kernel
theorem dL_law_1615 : decode cL_law 1615 = .ok (.aload_n 3, 1) := by decide +kernel
theorem dL_law_1616 : decode cL_law 1616 = .ok (.iconst 0, 1) := by decide +kernel
theorem dL_law_1617 : decode cL_law 1617 = .ok (.laload, 1) := by decide +kernel
theorem dL_law_1618 : decode cL_law 1618 = .ok (.lload 6, 2) := by decide +kernel
theorem dL_law_1620 : decode cL_law 1620 = .ok (.lcmp, 1) := by decide +kernel
theorem dL_law_1621 : decode cL_law 1621 = .ok (.ifCond .eq 5, 3) := by decide +kernel
theorem dL_law_1624 : decode cL_law 1624 = .ok (.iconst 0, 1) := by decide +kernel
theorem dL_law_1625 : decode cL_law 1625 = .ok (.ireturn, 1) := by decide +kernel
theorem dL_law_1626 : decode cL_law 1626 = .ok (.goto 77, 3) := by decide +kernel
theorem dL_law_1629 : decode cL_law 1629 = .ok (.aload_n 1, 1) := by decide +kernel
theorem dL_law_1630 : decode cL_law 1630 = .ok (.aload_n 0, 1) := by decide +kernel
theorem dL_law_1631 : decode cL_law 1631 = .ok (.iload 4, 2) := by decide +kernel
theorem dL_law_1633 : decode cL_law 1633 = .ok (.iconst 1, 1) := by decide +kernel
theorem dL_law_1634 : decode cL_law 1634 = .ok (.iadd, 1) := by decide +kernel
theorem dL_law_1635 : decode cL_law 1635 = .ok (.iaload, 1) := by decide +kernel
theorem dL_law_1636 : decode cL_law 1636 = .ok (.aload_n 0, 1) := by decide +kernel
theorem dL_law_1637 : decode cL_law 1637 = .ok (.iload 4, 2) := by decide +kernel
theorem dL_law_1639 : decode cL_law 1639 = .ok (.iconst 2, 1) := by decide +kernel
theorem dL_law_1640 : decode cL_law 1640 = .ok (.iadd, 1) := by decide +kernel
theorem dL_law_1641 : decode cL_law 1641 = .ok (.iaload, 1) := by decide +kernel
theorem dL_law_1642 : decode cL_law 1642 = .ok (.aload_n 0, 1) := by decide +kernel
theorem dL_law_1643 : decode cL_law 1643 = .ok (.iload 4, 2) := by decide +kernel
theorem dL_law_1645 : decode cL_law 1645 = .ok (.iconst 3, 1) := by decide +kernel
theorem dL_law_1646 : decode cL_law 1646 = .ok (.iadd, 1) := by decide +kernel
theorem dL_law_1647 : decode cL_law 1647 = .ok (.iaload, 1) := by decide +kernel
theorem dL_law_1648 : decode cL_law 1648 = .ok (.invokevirtual 160, 3) := by decide +kernel
theorem dL_law_1651 : decode cL_law 1651 = .ok (.aload_n 2, 1) := by decide +kernel
theorem dL_law_1652 : decode cL_law 1652 = .ok (.aload_n 0, 1) := by decide +kernel
theorem dL_law_1653 : decode cL_law 1653 = .ok (.iload 4, 2) := by decide +kernel
theorem dL_law_1655 : decode cL_law 1655 = .ok (.iconst 1, 1) := by decide +kernel
theorem dL_law_1656 : decode cL_law 1656 = .ok (.iadd, 1) := by decide +kernel
theorem dL_law_1657 : decode cL_law 1657 = .ok (.iaload, 1) := by decide +kernel
theorem dL_law_1658 : decode cL_law 1658 = .ok (.aload_n 0, 1) := by decide +kernel
theorem dL_law_1659 : decode cL_law 1659 = .ok (.iload 4, 2) := by decide +kernel
theorem dL_law_1661 : decode cL_law 1661 = .ok (.iconst 2, 1) := by decide +kernel
theorem dL_law_1662 : decode cL_law 1662 = .ok (.iadd, 1) := by decide +kernel
theorem dL_law_1663 : decode cL_law 1663 = .ok (.iaload, 1) := by decide +kernel
theorem dL_law_1664 : decode cL_law 1664 = .ok (.aload_n 0, 1) := by decide +kernel
theorem dL_law_1665 : decode cL_law 1665 = .ok (.iload 4, 2) := by decide +kernel
theorem dL_law_1667 : decode cL_law 1667 = .ok (.iconst 3, 1) := by decide +kernel
theorem dL_law_1668 : decode cL_law 1668 = .ok (.iadd, 1) := by decide +kernel
theorem dL_law_1669 : decode cL_law 1669 = .ok (.iaload, 1) := by decide +kernel
theorem dL_law_1670 : decode cL_law 1670 = .ok (.invokevirtual 163, 3) := by decide +kernel
theorem dL_law_1673 : decode cL_law 1673 = .ok (.if_icmp .eq 30, 3) := by decide +kernel
theorem dL_law_1676 : decode cL_law 1676 = .ok (.iconst 0, 1) := by decide +kernel
theorem dL_law_1677 : decode cL_law 1677 = .ok (.ireturn, 1) := by decide +kernel
theorem dL_law_1678 : decode cL_law 1678 = .ok (.aload_n 1, 1) := by decide +kernel
theorem dL_law_1679 : decode cL_law 1679 = .ok (.aload_n 0, 1) := by decide +kernel
theorem dL_law_1680 : decode cL_law 1680 = .ok (.iload 4, 2) := by decide +kernel
theorem dL_law_1682 : decode cL_law 1682 = .ok (.iconst 1, 1) := by decide +kernel
theorem dL_law_1683 : decode cL_law 1683 = .ok (.iadd, 1) := by decide +kernel
theorem dL_law_1684 : decode cL_law 1684 = .ok (.iaload, 1) := by decide +kernel
theorem dL_law_1685 : decode cL_law 1685 = .ok (.invokevirtual 164, 3) := by decide +kernel
theorem dL_law_1688 : decode cL_law 1688 = .ok (.aload_n 2, 1) := by decide +kernel
theorem dL_law_1689 : decode cL_law 1689 = .ok (.aload_n 0, 1) := by decide +kernel
theorem dL_law_1690 : decode cL_law 1690 = .ok (.iload 4, 2) := by decide +kernel
theorem dL_law_1692 : decode cL_law 1692 = .ok (.iconst 1, 1) := by decide +kernel
theorem dL_law_1693 : decode cL_law 1693 = .ok (.iadd, 1) := by decide +kernel
theorem dL_law_1694 : decode cL_law 1694 = .ok (.iaload, 1) := by decide +kernel
theorem dL_law_1695 : decode cL_law 1695 = .ok (.invokevirtual 167, 3) := by decide +kernel
theorem dL_law_1698 : decode cL_law 1698 = .ok (.if_icmp .eq 5, 3) := by decide +kernel
theorem dL_law_1701 : decode cL_law 1701 = .ok (.iconst 0, 1) := by decide +kernel
theorem dL_law_1702 : decode cL_law 1702 = .ok (.ireturn, 1) := by decide +kernel
theorem dL_law_1703 : decode cL_law 1703 = .ok (.iinc 4 8, 3) := by decide +kernel
theorem dL_law_1706 : decode cL_law 1706 = .ok (.goto (-1683), 3) := by decide +kernel
theorem dL_law_1709 : decode cL_law 1709 = .ok (.iconst 1, 1) := by decide +kernel
theorem dL_law_1710 : decode cL_law 1710 = .ok (.ireturn, 1) := by decide +kernel
theorem dX0_init_0 : decode cX0_init 0 = .ok (.aload_n 0, 1) := by decide +kernel
theorem dX0_init_1 : decode cX0_init 1 = .ok (.invokespecial 3, 3) := by decide +kernel
theorem dX0_init_4 : decode cX0_init 4 = .ok (.aload_n 0, 1) := by decide +kernel
theorem dX0_init_5 : decode cX0_init 5 = .ok (.bipush 60, 2) := by decide +kernel
theorem dX0_init_7 : decode cX0_init 7 = .ok (.newarray .long, 2) := by decide +kernel
theorem dX0_init_9 : decode cX0_init 9 = .ok (.putfield 9, 3) := by decide +kernel
theorem dX0_init_12 : decode cX0_init 12 = .ok (.aload_n 0, 1) := by decide +kernel
theorem dX0_init_13 : decode cX0_init 13 = .ok (.iconst 5, 1) := by decide +kernel
theorem dX0_init_14 : decode cX0_init 14 = .ok (.newarray .int, 2) := by decide +kernel
theorem dX0_init_16 : decode cX0_init 16 = .ok (.putfield 15, 3) := by decide +kernel
theorem dX0_init_19 : decode cX0_init 19 = .ok (.aload_n 0, 1) := by decide +kernel
theorem dX0_init_20 : decode cX0_init 20 = .ok (.iconst 5, 1) := by decide +kernel
theorem dX0_init_21 : decode cX0_init 21 = .ok (.newarray .int, 2) := by decide +kernel
theorem dX0_init_23 : decode cX0_init 23 = .ok (.putfield 19, 3) := by decide +kernel
theorem dX0_init_26 : decode cX0_init 26 = .ok (.aload_n 0, 1) := by decide +kernel
theorem dX0_init_27 : decode cX0_init 27 = .ok (.aload_n 1, 1) := by decide +kernel
theorem dX0_init_28 : decode cX0_init 28 = .ok (.putfield 22, 3) := by decide +kernel
theorem dX0_init_31 : decode cX0_init 31 = .ok (.return_, 1) := by decide +kernel
theorem dX0_partOf_0 : decode cX0_partOf 0 = .ok (.aload_n 0, 1) := by decide +kernel
theorem dX0_partOf_1 : decode cX0_partOf 1 = .ok (.iload_n 1, 1) := by decide +kernel
theorem dX0_partOf_2 : decode cX0_partOf 2 = .ok (.iconst (-1), 1) := by decide +kernel
theorem dX0_partOf_3 : decode cX0_partOf 3 = .ok (.iload_n 3, 1) := by decide +kernel
theorem dX0_partOf_4 : decode cX0_partOf 4 = .ok (.iload 4, 2) := by decide +kernel
theorem dX0_partOf_6 : decode cX0_partOf 6 = .ok (.invokevirtual 26, 3) := by decide +kernel
theorem dX0_partOf_9 : decode cX0_partOf 9 = .ok (.iload_n 2, 1) := by decide +kernel
theorem dX0_partOf_10 : decode cX0_partOf 10 = .ok (.ifCond .lt 18, 3) := by decide +kernel
theorem dX0_partOf_13 : decode cX0_partOf 13 = .ok (.iload_n 2, 1) := by decide +kernel
theorem dX0_partOf_14 : decode cX0_partOf 14 = .ok (.bipush 60, 2) := by decide +kernel
theorem dX0_partOf_16 : decode cX0_partOf 16 = .ok (.if_icmp .ge 12, 3) := by decide +kernel
theorem dX0_partOf_19 : decode cX0_partOf 19 = .ok (.aload_n 0, 1) := by decide +kernel
theorem dX0_partOf_20 : decode cX0_partOf 20 = .ok (.getfield 9, 3) := by decide +kernel
theorem dX0_partOf_23 : decode cX0_partOf 23 = .ok (.iload_n 2, 1) := by decide +kernel
theorem dX0_partOf_24 : decode cX0_partOf 24 = .ok (.laload, 1) := by decide +kernel
theorem dX0_partOf_25 : decode cX0_partOf 25 = .ok (.goto 4, 3) := by decide +kernel
theorem dX0_partOf_28 : decode cX0_partOf 28 = .ok (.lconst 0, 1) := by decide +kernel
theorem dX0_partOf_29 : decode cX0_partOf 29 = .ok (.lreturn, 1) := by decide +kernel
theorem dX0_cutPartOf_0 : decode cX0_cutPartOf 0 = .ok (.iload_n 1, 1) := by decide +kernel
theorem dX0_cutPartOf_1 : decode cX0_cutPartOf 1 = .ok (.iload_n 2, 1) := by decide +kernel
theorem dX0_cutPartOf_2 : decode cX0_cutPartOf 2 = .ok (.if_icmp .ne 7, 3) := by decide +kernel
theorem dX0_cutPartOf_5 : decode cX0_cutPartOf 5 = .ok (.sipush 10000, 3) := by decide +kernel
theorem dX0_cutPartOf_8 : decode cX0_cutPartOf 8 = .ok (.ireturn, 1) := by decide +kernel
theorem dX0_cutPartOf_9 : decode cX0_cutPartOf 9 = .ok (.aload_n 0, 1) := by decide +kernel
theorem dX0_cutPartOf_10 : decode cX0_cutPartOf 10 = .ok (.iload_n 1, 1) := by decide +kernel
theorem dX0_cutPartOf_11 : decode cX0_cutPartOf 11 = .ok (.iconst (-1), 1) := by decide +kernel
theorem dX0_cutPartOf_12 : decode cX0_cutPartOf 12 = .ok (.iload_n 3, 1) := by decide +kernel
theorem dX0_cutPartOf_13 : decode cX0_cutPartOf 13 = .ok (.iload 4, 2) := by decide +kernel
theorem dX0_cutPartOf_15 : decode cX0_cutPartOf 15 = .ok (.invokevirtual 26, 3) := by decide +kernel
theorem dX0_cutPartOf_18 : decode cX0_cutPartOf 18 = .ok (.iload_n 2, 1) := by decide +kernel
theorem dX0_cutPartOf_19 : decode cX0_cutPartOf 19 = .ok (.ifCond .lt 23, 3) := by decide +kernel
theorem dX0_cutPartOf_22 : decode cX0_cutPartOf 22 = .ok (.iload_n 2, 1) := by decide +kernel
theorem dX0_cutPartOf_23 : decode cX0_cutPartOf 23 = .ok (.bipush 60, 2) := by decide +kernel
theorem dX0_cutPartOf_25 : decode cX0_cutPartOf 25 = .ok (.if_icmp .ge 17, 3) := by decide +kernel
theorem dX0_cutPartOf_28 : decode cX0_cutPartOf 28 = .ok (.aload_n 0, 1) := by decide +kernel
theorem dX0_cutPartOf_29 : decode cX0_cutPartOf 29 = .ok (.getfield 9, 3) := by decide +kernel
theorem dX0_cutPartOf_32 : decode cX0_cutPartOf 32 = .ok (.iload_n 2, 1) := by decide +kernel
theorem dX0_cutPartOf_33 : decode cX0_cutPartOf 33 = .ok (.laload, 1) := by decide +kernel
theorem dX0_cutPartOf_34 : decode cX0_cutPartOf 34 = .ok (.ldc2_w 30, 3) := by decide +kernel
theorem dX0_cutPartOf_37 : decode cX0_cutPartOf 37 = .ok (.ldiv, 1) := by decide +kernel
theorem dX0_cutPartOf_38 : decode cX0_cutPartOf 38 = .ok (.l2i, 1) := by decide +kernel
theorem dX0_cutPartOf_39 : decode cX0_cutPartOf 39 = .ok (.goto 4, 3) := by decide +kernel
theorem dX0_cutPartOf_42 : decode cX0_cutPartOf 42 = .ok (.iconst 0, 1) := by decide +kernel
theorem dX0_cutPartOf_43 : decode cX0_cutPartOf 43 = .ok (.ireturn, 1) := by decide +kernel
theorem dX0_greatestPart_0 : decode cX0_greatestPart 0 = .ok (.aload_n 0, 1) := by decide +kernel
theorem dX0_greatestPart_1 : decode cX0_greatestPart 1 = .ok (.iload_n 1, 1) := by decide +kernel
theorem dX0_greatestPart_2 : decode cX0_greatestPart 2 = .ok (.iconst (-1), 1) := by decide +kernel
theorem dX0_greatestPart_3 : decode cX0_greatestPart 3 = .ok (.iload_n 2, 1) := by decide +kernel
theorem dX0_greatestPart_4 : decode cX0_greatestPart 4 = .ok (.iload_n 2, 1) := by decide +kernel
theorem dX0_greatestPart_5 : decode cX0_greatestPart 5 = .ok (.invokevirtual 26, 3) := by decide +kernel
theorem dX0_greatestPart_8 : decode cX0_greatestPart 8 = .ok (.lconst 0, 1) := by decide +kernel
theorem dX0_greatestPart_9 : decode cX0_greatestPart 9 = .ok (.lstore_n 3, 1) := by decide +kernel
theorem dX0_greatestPart_10 : decode cX0_greatestPart 10 = .ok (.iconst 0, 1) := by decide +kernel
theorem dX0_greatestPart_11 : decode cX0_greatestPart 11 = .ok (.istore 5, 2) := by decide +kernel
theorem dX0_greatestPart_13 : decode cX0_greatestPart 13 = .ok (.iload 5, 2) := by decide +kernel
theorem dX0_greatestPart_15 : decode cX0_greatestPart 15 = .ok (.bipush 60, 2) := by decide +kernel
theorem dX0_greatestPart_17 : decode cX0_greatestPart 17 = .ok (.if_icmp .ge 21, 3) := by decide +kernel
theorem dX0_greatestPart_20 : decode cX0_greatestPart 20 = .ok (.lload_n 3, 1) := by decide +kernel
theorem dX0_greatestPart_21 : decode cX0_greatestPart 21 = .ok (.aload_n 0, 1) := by decide +kernel
theorem dX0_greatestPart_22 : decode cX0_greatestPart 22 = .ok (.getfield 9, 3) := by decide +kernel
theorem dX0_greatestPart_25 : decode cX0_greatestPart 25 = .ok (.iload 5, 2) := by decide +kernel
theorem dX0_greatestPart_27 : decode cX0_greatestPart 27 = .ok (.laload, 1) := by decide +kernel
theorem dX0_greatestPart_28 : decode cX0_greatestPart 28 = .ok (.invokestatic 32, 3) := by decide +kernel
theorem dX0_greatestPart_31 : decode cX0_greatestPart 31 = .ok (.lstore_n 3, 1) := by decide +kernel
theorem dX0_greatestPart_32 : decode cX0_greatestPart 32 = .ok (.iinc 5 1, 3) := by decide +kernel
theorem dX0_greatestPart_35 : decode cX0_greatestPart 35 = .ok (.goto (-22), 3) := by decide +kernel
theorem dX0_greatestPart_38 : decode cX0_greatestPart 38 = .ok (.lload_n 3, 1) := by decide +kernel
theorem dX0_greatestPart_39 : decode cX0_greatestPart 39 = .ok (.ldc2_w 30, 3) := by decide +kernel
theorem dX0_greatestPart_42 : decode cX0_greatestPart 42 = .ok (.ldiv, 1) := by decide +kernel
theorem dX0_greatestPart_43 : decode cX0_greatestPart 43 = .ok (.l2i, 1) := by decide +kernel
theorem dX0_greatestPart_44 : decode cX0_greatestPart 44 = .ok (.ireturn, 1) := by decide +kernel
theorem dX0_findBest_0 : decode cX0_findBest 0 = .ok (.aload_n 0, 1) := by decide +kernel
theorem dX0_findBest_1 : decode cX0_findBest 1 = .ok (.iload_n 1, 1) := by decide +kernel
theorem dX0_findBest_2 : decode cX0_findBest 2 = .ok (.iload_n 2, 1) := by decide +kernel
theorem dX0_findBest_3 : decode cX0_findBest 3 = .ok (.iload_n 3, 1) := by decide +kernel
theorem dX0_findBest_4 : decode cX0_findBest 4 = .ok (.iload 4, 2) := by decide +kernel
theorem dX0_findBest_6 : decode cX0_findBest 6 = .ok (.invokevirtual 26, 3) := by decide +kernel
theorem dX0_findBest_9 : decode cX0_findBest 9 = .ok (.aload_n 0, 1) := by decide +kernel
theorem dX0_findBest_10 : decode cX0_findBest 10 = .ok (.getfield 38, 3) := by decide +kernel
theorem dX0_findBest_13 : decode cX0_findBest 13 = .ok (.ireturn, 1) := by decide +kernel
theorem dX0_copyBest_0 : decode cX0_copyBest 0 = .ok (.iconst 0, 1) := by decide +kernel
theorem dX0_copyBest_1 : decode cX0_copyBest 1 = .ok (.istore_n 2, 1) := by decide +kernel
theorem dX0_copyBest_2 : decode cX0_copyBest 2 = .ok (.iconst 0, 1) := by decide +kernel
theorem dX0_copyBest_3 : decode cX0_copyBest 3 = .ok (.istore_n 3, 1) := by decide +kernel
theorem dX0_copyBest_4 : decode cX0_copyBest 4 = .ok (.iload_n 3, 1) := by decide +kernel
theorem dX0_copyBest_5 : decode cX0_copyBest 5 = .ok (.aload_n 0, 1) := by decide +kernel
theorem dX0_copyBest_6 : decode cX0_copyBest 6 = .ok (.getfield 38, 3) := by decide +kernel
theorem dX0_copyBest_9 : decode cX0_copyBest 9 = .ok (.if_icmp .ge 36, 3) := by decide +kernel
theorem dX0_copyBest_12 : decode cX0_copyBest 12 = .ok (.iload_n 3, 1) := by decide +kernel
theorem dX0_copyBest_13 : decode cX0_copyBest 13 = .ok (.aload_n 0, 1) := by decide +kernel
theorem dX0_copyBest_14 : decode cX0_copyBest 14 = .ok (.getfield 19, 3) := by decide +kernel
theorem dX0_copyBest_17 : decode cX0_copyBest 17 = .ok (.arraylength, 1) := by decide +kernel
theorem dX0_copyBest_18 : decode cX0_copyBest 18 = .ok (.if_icmp .ge 27, 3) := by decide +kernel
theorem dX0_copyBest_21 : decode cX0_copyBest 21 = .ok (.iload_n 3, 1) := by decide +kernel
theorem dX0_copyBest_22 : decode cX0_copyBest 22 = .ok (.aload_n 1, 1) := by decide +kernel
theorem dX0_copyBest_23 : decode cX0_copyBest 23 = .ok (.arraylength, 1) := by decide +kernel
theorem dX0_copyBest_24 : decode cX0_copyBest 24 = .ok (.if_icmp .ge 21, 3) := by decide +kernel
theorem dX0_copyBest_27 : decode cX0_copyBest 27 = .ok (.aload_n 1, 1) := by decide +kernel
theorem dX0_copyBest_28 : decode cX0_copyBest 28 = .ok (.iload_n 3, 1) := by decide +kernel
theorem dX0_copyBest_29 : decode cX0_copyBest 29 = .ok (.aload_n 0, 1) := by decide +kernel
theorem dX0_copyBest_30 : decode cX0_copyBest 30 = .ok (.getfield 19, 3) := by decide +kernel
theorem dX0_copyBest_33 : decode cX0_copyBest 33 = .ok (.iload_n 3, 1) := by decide +kernel
theorem dX0_copyBest_34 : decode cX0_copyBest 34 = .ok (.iaload, 1) := by decide +kernel
theorem dX0_copyBest_35 : decode cX0_copyBest 35 = .ok (.iastore, 1) := by decide +kernel
theorem dX0_copyBest_36 : decode cX0_copyBest 36 = .ok (.iinc 2 1, 3) := by decide +kernel
theorem dX0_copyBest_39 : decode cX0_copyBest 39 = .ok (.iinc 3 1, 3) := by decide +kernel
theorem dX0_copyBest_42 : decode cX0_copyBest 42 = .ok (.goto (-38), 3) := by decide +kernel
theorem dX0_copyBest_45 : decode cX0_copyBest 45 = .ok (.iload_n 2, 1) := by decide +kernel
theorem dX0_copyBest_46 : decode cX0_copyBest 46 = .ok (.ireturn, 1) := by decide +kernel
theorem dX0_walk_0 : decode cX0_walk 0 = .ok (.aload_n 0, 1) := by decide +kernel
theorem dX0_walk_1 : decode cX0_walk 1 = .ok (.getfield 22, 3) := by decide +kernel
theorem dX0_walk_4 : decode cX0_walk 4 = .ok (.iload_n 3, 1) := by decide +kernel
theorem dX0_walk_5 : decode cX0_walk 5 = .ok (.iload 4, 2) := by decide +kernel
theorem dX0_walk_7 : decode cX0_walk 7 = .ok (.invokevirtual 42, 3) := by decide +kernel
theorem dX0_walk_10 : decode cX0_walk 10 = .ok (.aload_n 0, 1) := by decide +kernel
theorem dX0_walk_11 : decode cX0_walk 11 = .ok (.getfield 9, 3) := by decide +kernel
theorem dX0_walk_14 : decode cX0_walk 14 = .ok (.lconst 0, 1) := by decide +kernel
theorem dX0_walk_15 : decode cX0_walk 15 = .ok (.invokestatic 48, 3) := by decide +kernel
theorem dX0_walk_18 : decode cX0_walk 18 = .ok (.aload_n 0, 1) := by decide +kernel
theorem dX0_walk_19 : decode cX0_walk 19 = .ok (.iconst 0, 1) := by decide +kernel
theorem dX0_walk_20 : decode cX0_walk 20 = .ok (.putfield 38, 3) := by decide +kernel
theorem dX0_walk_23 : decode cX0_walk 23 = .ok (.aload_n 0, 1) := by decide +kernel
theorem dX0_walk_24 : decode cX0_walk 24 = .ok (.lconst 0, 1) := by decide +kernel
theorem dX0_walk_25 : decode cX0_walk 25 = .ok (.putfield 54, 3) := by decide +kernel
theorem dX0_walk_28 : decode cX0_walk 28 = .ok (.aload_n 0, 1) := by decide +kernel
theorem dX0_walk_29 : decode cX0_walk 29 = .ok (.iload_n 2, 1) := by decide +kernel
theorem dX0_walk_30 : decode cX0_walk 30 = .ok (.putfield 58, 3) := by decide +kernel
theorem dX0_walk_33 : decode cX0_walk 33 = .ok (.aload_n 0, 1) := by decide +kernel
theorem dX0_walk_34 : decode cX0_walk 34 = .ok (.getfield 15, 3) := by decide +kernel
theorem dX0_walk_37 : decode cX0_walk 37 = .ok (.iconst 0, 1) := by decide +kernel
theorem dX0_walk_38 : decode cX0_walk 38 = .ok (.iload_n 1, 1) := by decide +kernel
theorem dX0_walk_39 : decode cX0_walk 39 = .ok (.iastore, 1) := by decide +kernel
theorem dX0_walk_40 : decode cX0_walk 40 = .ok (.aload_n 0, 1) := by decide +kernel
theorem dX0_walk_41 : decode cX0_walk 41 = .ok (.lconst 1, 1) := by decide +kernel
theorem dX0_walk_42 : decode cX0_walk 42 = .ok (.iload_n 1, 1) := by decide +kernel
theorem dX0_walk_43 : decode cX0_walk 43 = .ok (.lshl, 1) := by decide +kernel
theorem dX0_walk_44 : decode cX0_walk 44 = .ok (.putfield 61, 3) := by decide +kernel
theorem dX0_walk_47 : decode cX0_walk 47 = .ok (.aload_n 0, 1) := by decide +kernel
theorem dX0_walk_48 : decode cX0_walk 48 = .ok (.iconst 0, 1) := by decide +kernel
theorem dX0_walk_49 : decode cX0_walk 49 = .ok (.ldc2_w 64, 3) := by decide +kernel
theorem dX0_walk_52 : decode cX0_walk 52 = .ok (.invokestatic 66, 3) := by decide +kernel
theorem dX0_walk_55 : decode cX0_walk 55 = .ok (.return_, 1) := by decide +kernel
theorem dX0_stepOn_0 : decode cX0_stepOn 0 = .ok (.iload_n 1, 1) := by decide +kernel
theorem dX0_stepOn_1 : decode cX0_stepOn 1 = .ok (.ifCond .lt 8, 3) := by decide +kernel
theorem dX0_stepOn_4 : decode cX0_stepOn 4 = .ok (.iload_n 1, 1) := by decide +kernel
theorem dX0_stepOn_5 : decode cX0_stepOn 5 = .ok (.iconst 4, 1) := by decide +kernel
theorem dX0_stepOn_6 : decode cX0_stepOn 6 = .ok (.if_icmp .lt 4, 3) := by decide +kernel
theorem dX0_stepOn_9 : decode cX0_stepOn 9 = .ok (.return_, 1) := by decide +kernel
theorem dX0_stepOn_10 : decode cX0_stepOn 10 = .ok (.aload_n 0, 1) := by decide +kernel
theorem dX0_stepOn_11 : decode cX0_stepOn 11 = .ok (.getfield 15, 3) := by decide +kernel
theorem dX0_stepOn_14 : decode cX0_stepOn 14 = .ok (.iload_n 1, 1) := by decide +kernel
theorem dX0_stepOn_15 : decode cX0_stepOn 15 = .ok (.iaload, 1) := by decide +kernel
theorem dX0_stepOn_16 : decode cX0_stepOn 16 = .ok (.istore 4, 2) := by decide +kernel
theorem dX0_stepOn_18 : decode cX0_stepOn 18 = .ok (.aload_n 0, 1) := by decide +kernel
theorem dX0_stepOn_19 : decode cX0_stepOn 19 = .ok (.getfield 22, 3) := by decide +kernel
theorem dX0_stepOn_22 : decode cX0_stepOn 22 = .ok (.iload 4, 2) := by decide +kernel
theorem dX0_stepOn_24 : decode cX0_stepOn 24 = .ok (.invokevirtual 70, 3) := by decide +kernel
theorem dX0_stepOn_27 : decode cX0_stepOn 27 = .ok (.istore 5, 2) := by decide +kernel
theorem dX0_stepOn_29 : decode cX0_stepOn 29 = .ok (.aload_n 0, 1) := by decide +kernel
theorem dX0_stepOn_30 : decode cX0_stepOn 30 = .ok (.getfield 22, 3) := by decide +kernel
theorem dX0_stepOn_33 : decode cX0_stepOn 33 = .ok (.iload 4, 2) := by decide +kernel
theorem dX0_stepOn_35 : decode cX0_stepOn 35 = .ok (.invokevirtual 74, 3) := by decide +kernel
theorem dX0_stepOn_38 : decode cX0_stepOn 38 = .ok (.istore 6, 2) := by decide +kernel
theorem dX0_stepOn_40 : decode cX0_stepOn 40 = .ok (.iload 6, 2) := by decide +kernel
theorem dX0_stepOn_42 : decode cX0_stepOn 42 = .ok (.iload 5, 2) := by decide +kernel
theorem dX0_stepOn_44 : decode cX0_stepOn 44 = .ok (.if_icmp .ge 143, 3) := by decide +kernel
theorem dX0_stepOn_47 : decode cX0_stepOn 47 = .ok (.aload_n 0, 1) := by decide +kernel
theorem dX0_stepOn_48 : decode cX0_stepOn 48 = .ok (.getfield 22, 3) := by decide +kernel
theorem dX0_stepOn_51 : decode cX0_stepOn 51 = .ok (.iload 6, 2) := by decide +kernel
theorem dX0_stepOn_53 : decode cX0_stepOn 53 = .ok (.invokevirtual 77, 3) := by decide +kernel
theorem dX0_stepOn_56 : decode cX0_stepOn 56 = .ok (.istore 7, 2) := by decide +kernel
theorem dX0_stepOn_58 : decode cX0_stepOn 58 = .ok (.iload 7, 2) := by decide +kernel
theorem dX0_stepOn_60 : decode cX0_stepOn 60 = .ok (.ifCond .lt 121, 3) := by decide +kernel
theorem dX0_stepOn_63 : decode cX0_stepOn 63 = .ok (.iload 7, 2) := by decide +kernel
theorem dX0_stepOn_65 : decode cX0_stepOn 65 = .ok (.bipush 60, 2) := by decide +kernel
theorem dX0_stepOn_67 : decode cX0_stepOn 67 = .ok (.if_icmp .ge 114, 3) := by decide +kernel
theorem dX0_stepOn_70 : decode cX0_stepOn 70 = .ok (.aload_n 0, 1) := by decide +kernel
theorem dX0_stepOn_71 : decode cX0_stepOn 71 = .ok (.getfield 61, 3) := by decide +kernel
theorem dX0_stepOn_74 : decode cX0_stepOn 74 = .ok (.iload 7, 2) := by decide +kernel
theorem dX0_stepOn_76 : decode cX0_stepOn 76 = .ok (.lshr, 1) := by decide +kernel
theorem dX0_stepOn_77 : decode cX0_stepOn 77 = .ok (.lconst 1, 1) := by decide +kernel
theorem dX0_stepOn_78 : decode cX0_stepOn 78 = .ok (.land, 1) := by decide +kernel
theorem dX0_stepOn_79 : decode cX0_stepOn 79 = .ok (.lconst 0, 1) := by decide +kernel
theorem dX0_stepOn_80 : decode cX0_stepOn 80 = .ok (.lcmp, 1) := by decide +kernel
theorem dX0_stepOn_81 : decode cX0_stepOn 81 = .ok (.ifCond .ne 100, 3) := by decide +kernel
theorem dX0_stepOn_84 : decode cX0_stepOn 84 = .ok (.lload_n 2, 1) := by decide +kernel
theorem dX0_stepOn_85 : decode cX0_stepOn 85 = .ok (.ldc2_w 80, 3) := by decide +kernel
theorem dX0_stepOn_88 : decode cX0_stepOn 88 = .ok (.ldiv, 1) := by decide +kernel
theorem dX0_stepOn_89 : decode cX0_stepOn 89 = .ok (.aload_n 0, 1) := by decide +kernel
theorem dX0_stepOn_90 : decode cX0_stepOn 90 = .ok (.getfield 22, 3) := by decide +kernel
theorem dX0_stepOn_93 : decode cX0_stepOn 93 = .ok (.iload 6, 2) := by decide +kernel
theorem dX0_stepOn_95 : decode cX0_stepOn 95 = .ok (.invokevirtual 82, 3) := by decide +kernel
theorem dX0_stepOn_98 : decode cX0_stepOn 98 = .ok (.i2l, 1) := by decide +kernel
theorem dX0_stepOn_99 : decode cX0_stepOn 99 = .ok (.lmul, 1) := by decide +kernel
theorem dX0_stepOn_100 : decode cX0_stepOn 100 = .ok (.lstore 8, 2) := by decide +kernel
theorem dX0_stepOn_102 : decode cX0_stepOn 102 = .ok (.aload_n 0, 1) := by decide +kernel
theorem dX0_stepOn_103 : decode cX0_stepOn 103 = .ok (.getfield 9, 3) := by decide +kernel
theorem dX0_stepOn_106 : decode cX0_stepOn 106 = .ok (.iload 7, 2) := by decide +kernel
theorem dX0_stepOn_108 : decode cX0_stepOn 108 = .ok (.dup2, 1) := by decide +kernel
theorem dX0_stepOn_109 : decode cX0_stepOn 109 = .ok (.laload, 1) := by decide +kernel
theorem dX0_stepOn_110 : decode cX0_stepOn 110 = .ok (.lload 8, 2) := by decide +kernel
theorem dX0_stepOn_112 : decode cX0_stepOn 112 = .ok (.ladd, 1) := by decide +kernel
theorem dX0_stepOn_113 : decode cX0_stepOn 113 = .ok (.lastore, 1) := by decide +kernel
theorem dX0_stepOn_114 : decode cX0_stepOn 114 = .ok (.aload_n 0, 1) := by decide +kernel
theorem dX0_stepOn_115 : decode cX0_stepOn 115 = .ok (.getfield 15, 3) := by decide +kernel
theorem dX0_stepOn_118 : decode cX0_stepOn 118 = .ok (.iload_n 1, 1) := by decide +kernel
theorem dX0_stepOn_119 : decode cX0_stepOn 119 = .ok (.iconst 1, 1) := by decide +kernel
theorem dX0_stepOn_120 : decode cX0_stepOn 120 = .ok (.iadd, 1) := by decide +kernel
theorem dX0_stepOn_121 : decode cX0_stepOn 121 = .ok (.iload 7, 2) := by decide +kernel
theorem dX0_stepOn_123 : decode cX0_stepOn 123 = .ok (.iastore, 1) := by decide +kernel
theorem dX0_stepOn_124 : decode cX0_stepOn 124 = .ok (.iload 7, 2) := by decide +kernel
theorem dX0_stepOn_126 : decode cX0_stepOn 126 = .ok (.aload_n 0, 1) := by decide +kernel
theorem dX0_stepOn_127 : decode cX0_stepOn 127 = .ok (.getfield 58, 3) := by decide +kernel
theorem dX0_stepOn_130 : decode cX0_stepOn 130 = .ok (.if_icmp .ne 12, 3) := by decide +kernel
theorem dX0_stepOn_133 : decode cX0_stepOn 133 = .ok (.aload_n 0, 1) := by decide +kernel
theorem dX0_stepOn_134 : decode cX0_stepOn 134 = .ok (.iload_n 1, 1) := by decide +kernel
theorem dX0_stepOn_135 : decode cX0_stepOn 135 = .ok (.iconst 2, 1) := by decide +kernel
theorem dX0_stepOn_136 : decode cX0_stepOn 136 = .ok (.iadd, 1) := by decide +kernel
theorem dX0_stepOn_137 : decode cX0_stepOn 137 = .ok (.lload 8, 2) := by decide +kernel
theorem dX0_stepOn_139 : decode cX0_stepOn 139 = .ok (.invokevirtual 85, 3) := by decide +kernel
theorem dX0_stepOn_142 : decode cX0_stepOn 142 = .ok (.aload_n 0, 1) := by decide +kernel
theorem dX0_stepOn_143 : decode cX0_stepOn 143 = .ok (.dup, 1) := by decide +kernel
theorem dX0_stepOn_144 : decode cX0_stepOn 144 = .ok (.getfield 61, 3) := by decide +kernel
theorem dX0_stepOn_147 : decode cX0_stepOn 147 = .ok (.lconst 1, 1) := by decide +kernel
theorem dX0_stepOn_148 : decode cX0_stepOn 148 = .ok (.iload 7, 2) := by decide +kernel
theorem dX0_stepOn_150 : decode cX0_stepOn 150 = .ok (.lshl, 1) := by decide +kernel
theorem dX0_stepOn_151 : decode cX0_stepOn 151 = .ok (.lor, 1) := by decide +kernel
theorem dX0_stepOn_152 : decode cX0_stepOn 152 = .ok (.putfield 61, 3) := by decide +kernel
theorem dX0_stepOn_155 : decode cX0_stepOn 155 = .ok (.aload_n 0, 1) := by decide +kernel
theorem dX0_stepOn_156 : decode cX0_stepOn 156 = .ok (.iload_n 1, 1) := by decide +kernel
theorem dX0_stepOn_157 : decode cX0_stepOn 157 = .ok (.iconst 1, 1) := by decide +kernel
theorem dX0_stepOn_158 : decode cX0_stepOn 158 = .ok (.iadd, 1) := by decide +kernel
theorem dX0_stepOn_159 : decode cX0_stepOn 159 = .ok (.lload 8, 2) := by decide +kernel
theorem dX0_stepOn_161 : decode cX0_stepOn 161 = .ok (.invokestatic 66, 3) := by decide +kernel
theorem dX0_stepOn_164 : decode cX0_stepOn 164 = .ok (.aload_n 0, 1) := by decide +kernel
theorem dX0_stepOn_165 : decode cX0_stepOn 165 = .ok (.dup, 1) := by decide +kernel
theorem dX0_stepOn_166 : decode cX0_stepOn 166 = .ok (.getfield 61, 3) := by decide +kernel
theorem dX0_stepOn_169 : decode cX0_stepOn 169 = .ok (.lconst 1, 1) := by decide +kernel
theorem dX0_stepOn_170 : decode cX0_stepOn 170 = .ok (.iload 7, 2) := by decide +kernel
theorem dX0_stepOn_172 : decode cX0_stepOn 172 = .ok (.lshl, 1) := by decide +kernel
theorem dX0_stepOn_173 : decode cX0_stepOn 173 = .ok (.ldc2_w 89, 3) := by decide +kernel
theorem dX0_stepOn_176 : decode cX0_stepOn 176 = .ok (.lxor, 1) := by decide +kernel
theorem dX0_stepOn_177 : decode cX0_stepOn 177 = .ok (.land, 1) := by decide +kernel
theorem dX0_stepOn_178 : decode cX0_stepOn 178 = .ok (.putfield 61, 3) := by decide +kernel
theorem dX0_stepOn_181 : decode cX0_stepOn 181 = .ok (.iinc 6 1, 3) := by decide +kernel
theorem dX0_stepOn_184 : decode cX0_stepOn 184 = .ok (.goto (-144), 3) := by decide +kernel
theorem dX0_stepOn_187 : decode cX0_stepOn 187 = .ok (.return_, 1) := by decide +kernel
theorem dX0_keepBest_0 : decode cX0_keepBest 0 = .ok (.aload_n 0, 1) := by decide +kernel
theorem dX0_keepBest_1 : decode cX0_keepBest 1 = .ok (.getfield 38, 3) := by decide +kernel
theorem dX0_keepBest_4 : decode cX0_keepBest 4 = .ok (.ifCond .eq 29, 3) := by decide +kernel
theorem dX0_keepBest_7 : decode cX0_keepBest 7 = .ok (.lload_n 2, 1) := by decide +kernel
theorem dX0_keepBest_8 : decode cX0_keepBest 8 = .ok (.aload_n 0, 1) := by decide +kernel
theorem dX0_keepBest_9 : decode cX0_keepBest 9 = .ok (.getfield 54, 3) := by decide +kernel
theorem dX0_keepBest_12 : decode cX0_keepBest 12 = .ok (.lcmp, 1) := by decide +kernel
theorem dX0_keepBest_13 : decode cX0_keepBest 13 = .ok (.ifCond .gt 20, 3) := by decide +kernel
theorem dX0_keepBest_16 : decode cX0_keepBest 16 = .ok (.lload_n 2, 1) := by decide +kernel
theorem dX0_keepBest_17 : decode cX0_keepBest 17 = .ok (.aload_n 0, 1) := by decide +kernel
theorem dX0_keepBest_18 : decode cX0_keepBest 18 = .ok (.getfield 54, 3) := by decide +kernel
theorem dX0_keepBest_21 : decode cX0_keepBest 21 = .ok (.lcmp, 1) := by decide +kernel
theorem dX0_keepBest_22 : decode cX0_keepBest 22 = .ok (.ifCond .ne 15, 3) := by decide +kernel
theorem dX0_keepBest_25 : decode cX0_keepBest 25 = .ok (.iload_n 1, 1) := by decide +kernel
theorem dX0_keepBest_26 : decode cX0_keepBest 26 = .ok (.aload_n 0, 1) := by decide +kernel
theorem dX0_keepBest_27 : decode cX0_keepBest 27 = .ok (.getfield 38, 3) := by decide +kernel
theorem dX0_keepBest_30 : decode cX0_keepBest 30 = .ok (.if_icmp .ge 7, 3) := by decide +kernel
theorem dX0_keepBest_33 : decode cX0_keepBest 33 = .ok (.iconst 1, 1) := by decide +kernel
theorem dX0_keepBest_34 : decode cX0_keepBest 34 = .ok (.goto 4, 3) := by decide +kernel
theorem dX0_keepBest_37 : decode cX0_keepBest 37 = .ok (.iconst 0, 1) := by decide +kernel
theorem dX0_keepBest_38 : decode cX0_keepBest 38 = .ok (.istore 4, 2) := by decide +kernel
theorem dX0_keepBest_40 : decode cX0_keepBest 40 = .ok (.iload 4, 2) := by decide +kernel
theorem dX0_keepBest_42 : decode cX0_keepBest 42 = .ok (.ifCond .ne 4, 3) := by decide +kernel
theorem dX0_keepBest_45 : decode cX0_keepBest 45 = .ok (.return_, 1) := by decide +kernel
theorem dX0_keepBest_46 : decode cX0_keepBest 46 = .ok (.aload_n 0, 1) := by decide +kernel
theorem dX0_keepBest_47 : decode cX0_keepBest 47 = .ok (.iload_n 1, 1) := by decide +kernel
theorem dX0_keepBest_48 : decode cX0_keepBest 48 = .ok (.putfield 38, 3) := by decide +kernel
theorem dX0_keepBest_51 : decode cX0_keepBest 51 = .ok (.aload_n 0, 1) := by decide +kernel
theorem dX0_keepBest_52 : decode cX0_keepBest 52 = .ok (.lload_n 2, 1) := by decide +kernel
theorem dX0_keepBest_53 : decode cX0_keepBest 53 = .ok (.putfield 54, 3) := by decide +kernel
theorem dX0_keepBest_56 : decode cX0_keepBest 56 = .ok (.iconst 0, 1) := by decide +kernel
theorem dX0_keepBest_57 : decode cX0_keepBest 57 = .ok (.istore 5, 2) := by decide +kernel
theorem dX0_keepBest_59 : decode cX0_keepBest 59 = .ok (.iload 5, 2) := by decide +kernel
theorem dX0_keepBest_61 : decode cX0_keepBest 61 = .ok (.iload_n 1, 1) := by decide +kernel
theorem dX0_keepBest_62 : decode cX0_keepBest 62 = .ok (.if_icmp .ge 43, 3) := by decide +kernel
theorem dX0_keepBest_65 : decode cX0_keepBest 65 = .ok (.iload 5, 2) := by decide +kernel
theorem dX0_keepBest_67 : decode cX0_keepBest 67 = .ok (.aload_n 0, 1) := by decide +kernel
theorem dX0_keepBest_68 : decode cX0_keepBest 68 = .ok (.getfield 15, 3) := by decide +kernel
theorem dX0_keepBest_71 : decode cX0_keepBest 71 = .ok (.arraylength, 1) := by decide +kernel
theorem dX0_keepBest_72 : decode cX0_keepBest 72 = .ok (.if_icmp .ge 33, 3) := by decide +kernel
theorem dX0_keepBest_75 : decode cX0_keepBest 75 = .ok (.iload 5, 2) := by decide +kernel
theorem dX0_keepBest_77 : decode cX0_keepBest 77 = .ok (.aload_n 0, 1) := by decide +kernel
theorem dX0_keepBest_78 : decode cX0_keepBest 78 = .ok (.getfield 19, 3) := by decide +kernel
theorem dX0_keepBest_81 : decode cX0_keepBest 81 = .ok (.arraylength, 1) := by decide +kernel
theorem dX0_keepBest_82 : decode cX0_keepBest 82 = .ok (.if_icmp .ge 23, 3) := by decide +kernel
theorem dX0_keepBest_85 : decode cX0_keepBest 85 = .ok (.aload_n 0, 1) := by decide +kernel
theorem dX0_keepBest_86 : decode cX0_keepBest 86 = .ok (.getfield 19, 3) := by decide +kernel
theorem dX0_keepBest_89 : decode cX0_keepBest 89 = .ok (.iload 5, 2) := by decide +kernel
theorem dX0_keepBest_91 : decode cX0_keepBest 91 = .ok (.aload_n 0, 1) := by decide +kernel
theorem dX0_keepBest_92 : decode cX0_keepBest 92 = .ok (.getfield 15, 3) := by decide +kernel
theorem dX0_keepBest_95 : decode cX0_keepBest 95 = .ok (.iload 5, 2) := by decide +kernel
theorem dX0_keepBest_97 : decode cX0_keepBest 97 = .ok (.iaload, 1) := by decide +kernel
theorem dX0_keepBest_98 : decode cX0_keepBest 98 = .ok (.iastore, 1) := by decide +kernel
theorem dX0_keepBest_99 : decode cX0_keepBest 99 = .ok (.iinc 5 1, 3) := by decide +kernel
theorem dX0_keepBest_102 : decode cX0_keepBest 102 = .ok (.goto (-43), 3) := by decide +kernel
theorem dX0_keepBest_105 : decode cX0_keepBest 105 = .ok (.return_, 1) := by decide +kernel
theorem dX1_init_0 : decode cX1_init 0 = .ok (.aload_n 0, 1) := by decide +kernel
theorem dX1_init_1 : decode cX1_init 1 = .ok (.invokespecial 3, 3) := by decide +kernel
theorem dX1_init_4 : decode cX1_init 4 = .ok (.aload_n 0, 1) := by decide +kernel
theorem dX1_init_5 : decode cX1_init 5 = .ok (.bipush 12, 2) := by decide +kernel
theorem dX1_init_7 : decode cX1_init 7 = .ok (.newarray .int, 2) := by decide +kernel
theorem dX1_init_9 : decode cX1_init 9 = .ok (.putfield 11, 3) := by decide +kernel
theorem dX1_init_12 : decode cX1_init 12 = .ok (.aload_n 0, 1) := by decide +kernel
theorem dX1_init_13 : decode cX1_init 13 = .ok (.bipush 60, 2) := by decide +kernel
theorem dX1_init_15 : decode cX1_init 15 = .ok (.newarray .int, 2) := by decide +kernel
theorem dX1_init_17 : decode cX1_init 17 = .ok (.putfield 15, 3) := by decide +kernel
theorem dX1_init_20 : decode cX1_init 20 = .ok (.aload_n 0, 1) := by decide +kernel
theorem dX1_init_21 : decode cX1_init 21 = .ok (.bipush 60, 2) := by decide +kernel
theorem dX1_init_23 : decode cX1_init 23 = .ok (.newarray .int, 2) := by decide +kernel
theorem dX1_init_25 : decode cX1_init 25 = .ok (.putfield 18, 3) := by decide +kernel
theorem dX1_init_28 : decode cX1_init 28 = .ok (.aload_n 0, 1) := by decide +kernel
theorem dX1_init_29 : decode cX1_init 29 = .ok (.sipush 200, 3) := by decide +kernel
theorem dX1_init_32 : decode cX1_init 32 = .ok (.newarray .int, 2) := by decide +kernel
theorem dX1_init_34 : decode cX1_init 34 = .ok (.putfield 21, 3) := by decide +kernel
theorem dX1_init_37 : decode cX1_init 37 = .ok (.aload_n 0, 1) := by decide +kernel
theorem dX1_init_38 : decode cX1_init 38 = .ok (.sipush 200, 3) := by decide +kernel
theorem dX1_init_41 : decode cX1_init 41 = .ok (.newarray .int, 2) := by decide +kernel
theorem dX1_init_43 : decode cX1_init 43 = .ok (.putfield 24, 3) := by decide +kernel
theorem dX1_init_46 : decode cX1_init 46 = .ok (.aload_n 0, 1) := by decide +kernel
theorem dX1_init_47 : decode cX1_init 47 = .ok (.sipush 200, 3) := by decide +kernel
theorem dX1_init_50 : decode cX1_init 50 = .ok (.newarray .boolean, 2) := by decide +kernel
theorem dX1_init_52 : decode cX1_init 52 = .ok (.putfield 27, 3) := by decide +kernel
theorem dX1_init_55 : decode cX1_init 55 = .ok (.aload_n 0, 1) := by decide +kernel
theorem dX1_init_56 : decode cX1_init 56 = .ok (.sipush 200, 3) := by decide +kernel
theorem dX1_init_59 : decode cX1_init 59 = .ok (.newarray .int, 2) := by decide +kernel
theorem dX1_init_61 : decode cX1_init 61 = .ok (.putfield 31, 3) := by decide +kernel
theorem dX1_init_64 : decode cX1_init 64 = .ok (.aload_n 0, 1) := by decide +kernel
theorem dX1_init_65 : decode cX1_init 65 = .ok (.aload_n 1, 1) := by decide +kernel
theorem dX1_init_66 : decode cX1_init 66 = .ok (.putfield 34, 3) := by decide +kernel
theorem dX1_init_69 : decode cX1_init 69 = .ok (.return_, 1) := by decide +kernel
theorem dX1_totalMembers_0 : decode cX1_totalMembers 0 = .ok (.aload_n 0, 1) := by decide +kernel
theorem dX1_totalMembers_1 : decode cX1_totalMembers 1 = .ok (.getfield 38, 3) := by decide +kernel
theorem dX1_totalMembers_4 : decode cX1_totalMembers 4 = .ok (.ireturn, 1) := by decide +kernel
theorem dX1_totalMatters_0 : decode cX1_totalMatters 0 = .ok (.aload_n 0, 1) := by decide +kernel
theorem dX1_totalMatters_1 : decode cX1_totalMatters 1 = .ok (.getfield 42, 3) := by decide +kernel
theorem dX1_totalMatters_4 : decode cX1_totalMatters 4 = .ok (.ireturn, 1) := by decide +kernel
theorem dX1_totalVotes_0 : decode cX1_totalVotes 0 = .ok (.aload_n 0, 1) := by decide +kernel
theorem dX1_totalVotes_1 : decode cX1_totalVotes 1 = .ok (.getfield 45, 3) := by decide +kernel
theorem dX1_totalVotes_4 : decode cX1_totalVotes 4 = .ok (.ireturn, 1) := by decide +kernel
theorem dX1_isMember_0 : decode cX1_isMember 0 = .ok (.iconst 0, 1) := by decide +kernel
theorem dX1_isMember_1 : decode cX1_isMember 1 = .ok (.istore_n 2, 1) := by decide +kernel
theorem dX1_isMember_2 : decode cX1_isMember 2 = .ok (.iload_n 2, 1) := by decide +kernel
theorem dX1_isMember_3 : decode cX1_isMember 3 = .ok (.aload_n 0, 1) := by decide +kernel
theorem dX1_isMember_4 : decode cX1_isMember 4 = .ok (.getfield 38, 3) := by decide +kernel
theorem dX1_isMember_7 : decode cX1_isMember 7 = .ok (.if_icmp .ge 27, 3) := by decide +kernel
theorem dX1_isMember_10 : decode cX1_isMember 10 = .ok (.iload_n 2, 1) := by decide +kernel
theorem dX1_isMember_11 : decode cX1_isMember 11 = .ok (.bipush 12, 2) := by decide +kernel
theorem dX1_isMember_13 : decode cX1_isMember 13 = .ok (.if_icmp .ge 21, 3) := by decide +kernel
theorem dX1_isMember_16 : decode cX1_isMember 16 = .ok (.aload_n 0, 1) := by decide +kernel
theorem dX1_isMember_17 : decode cX1_isMember 17 = .ok (.getfield 11, 3) := by decide +kernel
theorem dX1_isMember_20 : decode cX1_isMember 20 = .ok (.iload_n 2, 1) := by decide +kernel
theorem dX1_isMember_21 : decode cX1_isMember 21 = .ok (.iaload, 1) := by decide +kernel
theorem dX1_isMember_22 : decode cX1_isMember 22 = .ok (.iload_n 1, 1) := by decide +kernel
theorem dX1_isMember_23 : decode cX1_isMember 23 = .ok (.if_icmp .ne 5, 3) := by decide +kernel
theorem dX1_isMember_26 : decode cX1_isMember 26 = .ok (.iconst 1, 1) := by decide +kernel
theorem dX1_isMember_27 : decode cX1_isMember 27 = .ok (.ireturn, 1) := by decide +kernel
theorem dX1_isMember_28 : decode cX1_isMember 28 = .ok (.iinc 2 1, 3) := by decide +kernel
theorem dX1_isMember_31 : decode cX1_isMember 31 = .ok (.goto (-29), 3) := by decide +kernel
theorem dX1_isMember_34 : decode cX1_isMember 34 = .ok (.iconst 0, 1) := by decide +kernel
theorem dX1_isMember_35 : decode cX1_isMember 35 = .ok (.ireturn, 1) := by decide +kernel
theorem dX1_addMember_0 : decode cX1_addMember 0 = .ok (.aload_n 0, 1) := by decide +kernel
theorem dX1_addMember_1 : decode cX1_addMember 1 = .ok (.iload_n 1, 1) := by decide +kernel
theorem dX1_addMember_2 : decode cX1_addMember 2 = .ok (.invokevirtual 48, 3) := by decide +kernel
theorem dX1_addMember_5 : decode cX1_addMember 5 = .ok (.ifCond .ne 19, 3) := by decide +kernel
theorem dX1_addMember_8 : decode cX1_addMember 8 = .ok (.aload_n 0, 1) := by decide +kernel
theorem dX1_addMember_9 : decode cX1_addMember 9 = .ok (.getfield 38, 3) := by decide +kernel
theorem dX1_addMember_12 : decode cX1_addMember 12 = .ok (.ifCond .lt 12, 3) := by decide +kernel
theorem dX1_addMember_15 : decode cX1_addMember 15 = .ok (.aload_n 0, 1) := by decide +kernel
theorem dX1_addMember_16 : decode cX1_addMember 16 = .ok (.getfield 38, 3) := by decide +kernel
theorem dX1_addMember_19 : decode cX1_addMember 19 = .ok (.bipush 12, 2) := by decide +kernel
theorem dX1_addMember_21 : decode cX1_addMember 21 = .ok (.if_icmp .lt 5, 3) := by decide +kernel
theorem dX1_addMember_24 : decode cX1_addMember 24 = .ok (.iconst (-1), 1) := by decide +kernel
theorem dX1_addMember_25 : decode cX1_addMember 25 = .ok (.ireturn, 1) := by decide +kernel
theorem dX1_addMember_26 : decode cX1_addMember 26 = .ok (.aload_n 0, 1) := by decide +kernel
theorem dX1_addMember_27 : decode cX1_addMember 27 = .ok (.getfield 11, 3) := by decide +kernel
theorem dX1_addMember_30 : decode cX1_addMember 30 = .ok (.aload_n 0, 1) := by decide +kernel
theorem dX1_addMember_31 : decode cX1_addMember 31 = .ok (.getfield 38, 3) := by decide +kernel
theorem dX1_addMember_34 : decode cX1_addMember 34 = .ok (.iload_n 1, 1) := by decide +kernel
theorem dX1_addMember_35 : decode cX1_addMember 35 = .ok (.iastore, 1) := by decide +kernel
theorem dX1_addMember_36 : decode cX1_addMember 36 = .ok (.aload_n 0, 1) := by decide +kernel
theorem dX1_addMember_37 : decode cX1_addMember 37 = .ok (.dup, 1) := by decide +kernel
theorem dX1_addMember_38 : decode cX1_addMember 38 = .ok (.getfield 38, 3) := by decide +kernel
theorem dX1_addMember_41 : decode cX1_addMember 41 = .ok (.iconst 1, 1) := by decide +kernel
theorem dX1_addMember_42 : decode cX1_addMember 42 = .ok (.iadd, 1) := by decide +kernel
theorem dX1_addMember_43 : decode cX1_addMember 43 = .ok (.putfield 38, 3) := by decide +kernel
theorem dX1_addMember_46 : decode cX1_addMember 46 = .ok (.aload_n 0, 1) := by decide +kernel
theorem dX1_addMember_47 : decode cX1_addMember 47 = .ok (.getfield 38, 3) := by decide +kernel
theorem dX1_addMember_50 : decode cX1_addMember 50 = .ok (.ireturn, 1) := by decide +kernel
theorem dX1_addMatter_0 : decode cX1_addMatter 0 = .ok (.aload_n 0, 1) := by decide +kernel
theorem dX1_addMatter_1 : decode cX1_addMatter 1 = .ok (.getfield 42, 3) := by decide +kernel
theorem dX1_addMatter_4 : decode cX1_addMatter 4 = .ok (.ifCond .lt 12, 3) := by decide +kernel
theorem dX1_addMatter_7 : decode cX1_addMatter 7 = .ok (.aload_n 0, 1) := by decide +kernel
theorem dX1_addMatter_8 : decode cX1_addMatter 8 = .ok (.getfield 42, 3) := by decide +kernel
theorem dX1_addMatter_11 : decode cX1_addMatter 11 = .ok (.bipush 60, 2) := by decide +kernel
theorem dX1_addMatter_13 : decode cX1_addMatter 13 = .ok (.if_icmp .lt 5, 3) := by decide +kernel
theorem dX1_addMatter_16 : decode cX1_addMatter 16 = .ok (.iconst (-1), 1) := by decide +kernel
theorem dX1_addMatter_17 : decode cX1_addMatter 17 = .ok (.ireturn, 1) := by decide +kernel
theorem dX1_addMatter_18 : decode cX1_addMatter 18 = .ok (.aload_n 0, 1) := by decide +kernel
theorem dX1_addMatter_19 : decode cX1_addMatter 19 = .ok (.getfield 15, 3) := by decide +kernel
theorem dX1_addMatter_22 : decode cX1_addMatter 22 = .ok (.aload_n 0, 1) := by decide +kernel
theorem dX1_addMatter_23 : decode cX1_addMatter 23 = .ok (.getfield 42, 3) := by decide +kernel
theorem dX1_addMatter_26 : decode cX1_addMatter 26 = .ok (.iload_n 1, 1) := by decide +kernel
theorem dX1_addMatter_27 : decode cX1_addMatter 27 = .ok (.iastore, 1) := by decide +kernel
theorem dX1_addMatter_28 : decode cX1_addMatter 28 = .ok (.aload_n 0, 1) := by decide +kernel
theorem dX1_addMatter_29 : decode cX1_addMatter 29 = .ok (.getfield 18, 3) := by decide +kernel
theorem dX1_addMatter_32 : decode cX1_addMatter 32 = .ok (.aload_n 0, 1) := by decide +kernel
theorem dX1_addMatter_33 : decode cX1_addMatter 33 = .ok (.getfield 42, 3) := by decide +kernel
theorem dX1_addMatter_36 : decode cX1_addMatter 36 = .ok (.iload_n 2, 1) := by decide +kernel
theorem dX1_addMatter_37 : decode cX1_addMatter 37 = .ok (.iastore, 1) := by decide +kernel
theorem dX1_addMatter_38 : decode cX1_addMatter 38 = .ok (.aload_n 0, 1) := by decide +kernel
theorem dX1_addMatter_39 : decode cX1_addMatter 39 = .ok (.dup, 1) := by decide +kernel
theorem dX1_addMatter_40 : decode cX1_addMatter 40 = .ok (.getfield 42, 3) := by decide +kernel
theorem dX1_addMatter_43 : decode cX1_addMatter 43 = .ok (.iconst 1, 1) := by decide +kernel
theorem dX1_addMatter_44 : decode cX1_addMatter 44 = .ok (.iadd, 1) := by decide +kernel
theorem dX1_addMatter_45 : decode cX1_addMatter 45 = .ok (.putfield 42, 3) := by decide +kernel
theorem dX1_addMatter_48 : decode cX1_addMatter 48 = .ok (.aload_n 0, 1) := by decide +kernel
theorem dX1_addMatter_49 : decode cX1_addMatter 49 = .ok (.getfield 42, 3) := by decide +kernel
theorem dX1_addMatter_52 : decode cX1_addMatter 52 = .ok (.iconst 1, 1) := by decide +kernel
theorem dX1_addMatter_53 : decode cX1_addMatter 53 = .ok (.isub, 1) := by decide +kernel
theorem dX1_addMatter_54 : decode cX1_addMatter 54 = .ok (.ireturn, 1) := by decide +kernel
theorem dX1_hasMatter_0 : decode cX1_hasMatter 0 = .ok (.iload_n 1, 1) := by decide +kernel
theorem dX1_hasMatter_1 : decode cX1_hasMatter 1 = .ok (.ifCond .lt 21, 3) := by decide +kernel
theorem dX1_hasMatter_4 : decode cX1_hasMatter 4 = .ok (.iload_n 1, 1) := by decide +kernel
theorem dX1_hasMatter_5 : decode cX1_hasMatter 5 = .ok (.aload_n 0, 1) := by decide +kernel
theorem dX1_hasMatter_6 : decode cX1_hasMatter 6 = .ok (.getfield 42, 3) := by decide +kernel
theorem dX1_hasMatter_9 : decode cX1_hasMatter 9 = .ok (.if_icmp .ge 13, 3) := by decide +kernel
theorem dX1_hasMatter_12 : decode cX1_hasMatter 12 = .ok (.iload_n 1, 1) := by decide +kernel
theorem dX1_hasMatter_13 : decode cX1_hasMatter 13 = .ok (.bipush 60, 2) := by decide +kernel
theorem dX1_hasMatter_15 : decode cX1_hasMatter 15 = .ok (.if_icmp .ge 7, 3) := by decide +kernel
theorem dX1_hasMatter_18 : decode cX1_hasMatter 18 = .ok (.iconst 1, 1) := by decide +kernel
theorem dX1_hasMatter_19 : decode cX1_hasMatter 19 = .ok (.goto 4, 3) := by decide +kernel
theorem dX1_hasMatter_22 : decode cX1_hasMatter 22 = .ok (.iconst 0, 1) := by decide +kernel
theorem dX1_hasMatter_23 : decode cX1_hasMatter 23 = .ok (.ireturn, 1) := by decide +kernel
theorem dX1_dutyOf_0 : decode cX1_dutyOf 0 = .ok (.aload_n 0, 1) := by decide +kernel
theorem dX1_dutyOf_1 : decode cX1_dutyOf 1 = .ok (.iload_n 1, 1) := by decide +kernel
theorem dX1_dutyOf_2 : decode cX1_dutyOf 2 = .ok (.invokevirtual 52, 3) := by decide +kernel
theorem dX1_dutyOf_5 : decode cX1_dutyOf 5 = .ok (.ifCond .eq 27, 3) := by decide +kernel
theorem dX1_dutyOf_8 : decode cX1_dutyOf 8 = .ok (.aload_n 0, 1) := by decide +kernel
theorem dX1_dutyOf_9 : decode cX1_dutyOf 9 = .ok (.getfield 34, 3) := by decide +kernel
theorem dX1_dutyOf_12 : decode cX1_dutyOf 12 = .ok (.iload_n 2, 1) := by decide +kernel
theorem dX1_dutyOf_13 : decode cX1_dutyOf 13 = .ok (.aload_n 0, 1) := by decide +kernel
theorem dX1_dutyOf_14 : decode cX1_dutyOf 14 = .ok (.getfield 15, 3) := by decide +kernel
theorem dX1_dutyOf_17 : decode cX1_dutyOf 17 = .ok (.iload_n 1, 1) := by decide +kernel
theorem dX1_dutyOf_18 : decode cX1_dutyOf 18 = .ok (.iaload, 1) := by decide +kernel
theorem dX1_dutyOf_19 : decode cX1_dutyOf 19 = .ok (.aload_n 0, 1) := by decide +kernel
theorem dX1_dutyOf_20 : decode cX1_dutyOf 20 = .ok (.getfield 18, 3) := by decide +kernel
theorem dX1_dutyOf_23 : decode cX1_dutyOf 23 = .ok (.iload_n 1, 1) := by decide +kernel
theorem dX1_dutyOf_24 : decode cX1_dutyOf 24 = .ok (.iaload, 1) := by decide +kernel
theorem dX1_dutyOf_25 : decode cX1_dutyOf 25 = .ok (.iload_n 3, 1) := by decide +kernel
theorem dX1_dutyOf_26 : decode cX1_dutyOf 26 = .ok (.invokevirtual 55, 3) := by decide +kernel
theorem dX1_dutyOf_29 : decode cX1_dutyOf 29 = .ok (.goto 4, 3) := by decide +kernel
theorem dX1_dutyOf_32 : decode cX1_dutyOf 32 = .ok (.iconst (-1), 1) := by decide +kernel
theorem dX1_dutyOf_33 : decode cX1_dutyOf 33 = .ok (.ireturn, 1) := by decide +kernel
theorem dX1_quorumOf_0 : decode cX1_quorumOf 0 = .ok (.aload_n 0, 1) := by decide +kernel
theorem dX1_quorumOf_1 : decode cX1_quorumOf 1 = .ok (.iload_n 1, 1) := by decide +kernel
theorem dX1_quorumOf_2 : decode cX1_quorumOf 2 = .ok (.invokevirtual 52, 3) := by decide +kernel
theorem dX1_quorumOf_5 : decode cX1_quorumOf 5 = .ok (.ifCond .ne 5, 3) := by decide +kernel
theorem dX1_quorumOf_8 : decode cX1_quorumOf 8 = .ok (.iconst 0, 1) := by decide +kernel
theorem dX1_quorumOf_9 : decode cX1_quorumOf 9 = .ok (.ireturn, 1) := by decide +kernel
theorem dX1_quorumOf_10 : decode cX1_quorumOf 10 = .ok (.aload_n 0, 1) := by decide +kernel
theorem dX1_quorumOf_11 : decode cX1_quorumOf 11 = .ok (.getfield 34, 3) := by decide +kernel
theorem dX1_quorumOf_14 : decode cX1_quorumOf 14 = .ok (.aload_n 0, 1) := by decide +kernel
theorem dX1_quorumOf_15 : decode cX1_quorumOf 15 = .ok (.getfield 18, 3) := by decide +kernel
theorem dX1_quorumOf_18 : decode cX1_quorumOf 18 = .ok (.iload_n 1, 1) := by decide +kernel
theorem dX1_quorumOf_19 : decode cX1_quorumOf 19 = .ok (.iaload, 1) := by decide +kernel
theorem dX1_quorumOf_20 : decode cX1_quorumOf 20 = .ok (.iload_n 2, 1) := by decide +kernel
theorem dX1_quorumOf_21 : decode cX1_quorumOf 21 = .ok (.invokevirtual 61, 3) := by decide +kernel
theorem dX1_quorumOf_24 : decode cX1_quorumOf 24 = .ok (.ineg, 1) := by decide +kernel
theorem dX1_quorumOf_25 : decode cX1_quorumOf 25 = .ok (.istore_n 3, 1) := by decide +kernel
theorem dX1_quorumOf_26 : decode cX1_quorumOf 26 = .ok (.iconst 0, 1) := by decide +kernel
theorem dX1_quorumOf_27 : decode cX1_quorumOf 27 = .ok (.istore 4, 2) := by decide +kernel
theorem dX1_quorumOf_29 : decode cX1_quorumOf 29 = .ok (.iload 4, 2) := by decide +kernel
theorem dX1_quorumOf_31 : decode cX1_quorumOf 31 = .ok (.aload_n 0, 1) := by decide +kernel
theorem dX1_quorumOf_32 : decode cX1_quorumOf 32 = .ok (.getfield 38, 3) := by decide +kernel
theorem dX1_quorumOf_35 : decode cX1_quorumOf 35 = .ok (.if_icmp .ge 50, 3) := by decide +kernel
theorem dX1_quorumOf_38 : decode cX1_quorumOf 38 = .ok (.iload 4, 2) := by decide +kernel
theorem dX1_quorumOf_40 : decode cX1_quorumOf 40 = .ok (.bipush 12, 2) := by decide +kernel
theorem dX1_quorumOf_42 : decode cX1_quorumOf 42 = .ok (.if_icmp .ge 43, 3) := by decide +kernel
theorem dX1_quorumOf_45 : decode cX1_quorumOf 45 = .ok (.aload_n 0, 1) := by decide +kernel
theorem dX1_quorumOf_46 : decode cX1_quorumOf 46 = .ok (.getfield 34, 3) := by decide +kernel
theorem dX1_quorumOf_49 : decode cX1_quorumOf 49 = .ok (.aload_n 0, 1) := by decide +kernel
theorem dX1_quorumOf_50 : decode cX1_quorumOf 50 = .ok (.getfield 11, 3) := by decide +kernel
theorem dX1_quorumOf_53 : decode cX1_quorumOf 53 = .ok (.iload 4, 2) := by decide +kernel
theorem dX1_quorumOf_55 : decode cX1_quorumOf 55 = .ok (.iaload, 1) := by decide +kernel
theorem dX1_quorumOf_56 : decode cX1_quorumOf 56 = .ok (.aload_n 0, 1) := by decide +kernel
theorem dX1_quorumOf_57 : decode cX1_quorumOf 57 = .ok (.getfield 15, 3) := by decide +kernel
theorem dX1_quorumOf_60 : decode cX1_quorumOf 60 = .ok (.iload_n 1, 1) := by decide +kernel
theorem dX1_quorumOf_61 : decode cX1_quorumOf 61 = .ok (.iaload, 1) := by decide +kernel
theorem dX1_quorumOf_62 : decode cX1_quorumOf 62 = .ok (.aload_n 0, 1) := by decide +kernel
theorem dX1_quorumOf_63 : decode cX1_quorumOf 63 = .ok (.getfield 18, 3) := by decide +kernel
theorem dX1_quorumOf_66 : decode cX1_quorumOf 66 = .ok (.iload_n 1, 1) := by decide +kernel
theorem dX1_quorumOf_67 : decode cX1_quorumOf 67 = .ok (.iaload, 1) := by decide +kernel
theorem dX1_quorumOf_68 : decode cX1_quorumOf 68 = .ok (.iload_n 2, 1) := by decide +kernel
theorem dX1_quorumOf_69 : decode cX1_quorumOf 69 = .ok (.invokevirtual 55, 3) := by decide +kernel
theorem dX1_quorumOf_72 : decode cX1_quorumOf 72 = .ok (.iconst 2, 1) := by decide +kernel
theorem dX1_quorumOf_73 : decode cX1_quorumOf 73 = .ok (.if_icmp .eq 6, 3) := by decide +kernel
theorem dX1_quorumOf_76 : decode cX1_quorumOf 76 = .ok (.iinc 3 1, 3) := by decide +kernel
theorem dX1_quorumOf_79 : decode cX1_quorumOf 79 = .ok (.iinc 4 1, 3) := by decide +kernel
theorem dX1_quorumOf_82 : decode cX1_quorumOf 82 = .ok (.goto (-53), 3) := by decide +kernel
theorem dX1_quorumOf_85 : decode cX1_quorumOf 85 = .ok (.iload_n 3, 1) := by decide +kernel
theorem dX1_quorumOf_86 : decode cX1_quorumOf 86 = .ok (.ireturn, 1) := by decide +kernel
theorem dX1_addVote_0 : decode cX1_addVote 0 = .ok (.aload_n 0, 1) := by decide +kernel
theorem dX1_addVote_1 : decode cX1_addVote 1 = .ok (.iload_n 1, 1) := by decide +kernel
theorem dX1_addVote_2 : decode cX1_addVote 2 = .ok (.invokevirtual 52, 3) := by decide +kernel
theorem dX1_addVote_5 : decode cX1_addVote 5 = .ok (.ifCond .eq 28, 3) := by decide +kernel
theorem dX1_addVote_8 : decode cX1_addVote 8 = .ok (.aload_n 0, 1) := by decide +kernel
theorem dX1_addVote_9 : decode cX1_addVote 9 = .ok (.iload_n 2, 1) := by decide +kernel
theorem dX1_addVote_10 : decode cX1_addVote 10 = .ok (.invokevirtual 48, 3) := by decide +kernel
theorem dX1_addVote_13 : decode cX1_addVote 13 = .ok (.ifCond .eq 20, 3) := by decide +kernel
theorem dX1_addVote_16 : decode cX1_addVote 16 = .ok (.aload_n 0, 1) := by decide +kernel
theorem dX1_addVote_17 : decode cX1_addVote 17 = .ok (.getfield 45, 3) := by decide +kernel
theorem dX1_addVote_20 : decode cX1_addVote 20 = .ok (.ifCond .lt 13, 3) := by decide +kernel
theorem dX1_addVote_23 : decode cX1_addVote 23 = .ok (.aload_n 0, 1) := by decide +kernel
theorem dX1_addVote_24 : decode cX1_addVote 24 = .ok (.getfield 45, 3) := by decide +kernel
theorem dX1_addVote_27 : decode cX1_addVote 27 = .ok (.sipush 200, 3) := by decide +kernel
theorem dX1_addVote_30 : decode cX1_addVote 30 = .ok (.if_icmp .lt 5, 3) := by decide +kernel
theorem dX1_addVote_33 : decode cX1_addVote 33 = .ok (.iconst (-1), 1) := by decide +kernel
theorem dX1_addVote_34 : decode cX1_addVote 34 = .ok (.ireturn, 1) := by decide +kernel
theorem dX1_addVote_35 : decode cX1_addVote 35 = .ok (.iconst 0, 1) := by decide +kernel
theorem dX1_addVote_36 : decode cX1_addVote 36 = .ok (.istore 5, 2) := by decide +kernel
theorem dX1_addVote_38 : decode cX1_addVote 38 = .ok (.iload 5, 2) := by decide +kernel
theorem dX1_addVote_40 : decode cX1_addVote 40 = .ok (.aload_n 0, 1) := by decide +kernel
theorem dX1_addVote_41 : decode cX1_addVote 41 = .ok (.getfield 45, 3) := by decide +kernel
theorem dX1_addVote_44 : decode cX1_addVote 44 = .ok (.if_icmp .ge 33, 3) := by decide +kernel
theorem dX1_addVote_47 : decode cX1_addVote 47 = .ok (.aload_n 0, 1) := by decide +kernel
theorem dX1_addVote_48 : decode cX1_addVote 48 = .ok (.getfield 21, 3) := by decide +kernel
theorem dX1_addVote_51 : decode cX1_addVote 51 = .ok (.iload 5, 2) := by decide +kernel
theorem dX1_addVote_53 : decode cX1_addVote 53 = .ok (.iaload, 1) := by decide +kernel
theorem dX1_addVote_54 : decode cX1_addVote 54 = .ok (.iload_n 1, 1) := by decide +kernel
theorem dX1_addVote_55 : decode cX1_addVote 55 = .ok (.if_icmp .ne 16, 3) := by decide +kernel
theorem dX1_addVote_58 : decode cX1_addVote 58 = .ok (.aload_n 0, 1) := by decide +kernel
theorem dX1_addVote_59 : decode cX1_addVote 59 = .ok (.getfield 24, 3) := by decide +kernel
theorem dX1_addVote_62 : decode cX1_addVote 62 = .ok (.iload 5, 2) := by decide +kernel
theorem dX1_addVote_64 : decode cX1_addVote 64 = .ok (.iaload, 1) := by decide +kernel
theorem dX1_addVote_65 : decode cX1_addVote 65 = .ok (.iload_n 2, 1) := by decide +kernel
theorem dX1_addVote_66 : decode cX1_addVote 66 = .ok (.if_icmp .ne 5, 3) := by decide +kernel
theorem dX1_addVote_69 : decode cX1_addVote 69 = .ok (.iconst (-1), 1) := by decide +kernel
theorem dX1_addVote_70 : decode cX1_addVote 70 = .ok (.ireturn, 1) := by decide +kernel
theorem dX1_addVote_71 : decode cX1_addVote 71 = .ok (.iinc 5 1, 3) := by decide +kernel
theorem dX1_addVote_74 : decode cX1_addVote 74 = .ok (.goto (-36), 3) := by decide +kernel
theorem dX1_addVote_77 : decode cX1_addVote 77 = .ok (.aload_n 0, 1) := by decide +kernel
theorem dX1_addVote_78 : decode cX1_addVote 78 = .ok (.getfield 21, 3) := by decide +kernel
theorem dX1_addVote_81 : decode cX1_addVote 81 = .ok (.aload_n 0, 1) := by decide +kernel
theorem dX1_addVote_82 : decode cX1_addVote 82 = .ok (.getfield 45, 3) := by decide +kernel
theorem dX1_addVote_85 : decode cX1_addVote 85 = .ok (.iload_n 1, 1) := by decide +kernel
theorem dX1_addVote_86 : decode cX1_addVote 86 = .ok (.iastore, 1) := by decide +kernel
theorem dX1_addVote_87 : decode cX1_addVote 87 = .ok (.aload_n 0, 1) := by decide +kernel
theorem dX1_addVote_88 : decode cX1_addVote 88 = .ok (.getfield 24, 3) := by decide +kernel
theorem dX1_addVote_91 : decode cX1_addVote 91 = .ok (.aload_n 0, 1) := by decide +kernel
theorem dX1_addVote_92 : decode cX1_addVote 92 = .ok (.getfield 45, 3) := by decide +kernel
theorem dX1_addVote_95 : decode cX1_addVote 95 = .ok (.iload_n 2, 1) := by decide +kernel
theorem dX1_addVote_96 : decode cX1_addVote 96 = .ok (.iastore, 1) := by decide +kernel
theorem dX1_addVote_97 : decode cX1_addVote 97 = .ok (.aload_n 0, 1) := by decide +kernel
theorem dX1_addVote_98 : decode cX1_addVote 98 = .ok (.getfield 27, 3) := by decide +kernel
theorem dX1_addVote_101 : decode cX1_addVote 101 = .ok (.aload_n 0, 1) := by decide +kernel
theorem dX1_addVote_102 : decode cX1_addVote 102 = .ok (.getfield 45, 3) := by decide +kernel
theorem dX1_addVote_105 : decode cX1_addVote 105 = .ok (.iload_n 3, 1) := by decide +kernel
theorem dX1_addVote_106 : decode cX1_addVote 106 = .ok (.bastore, 1) := by decide +kernel
theorem dX1_addVote_107 : decode cX1_addVote 107 = .ok (.aload_n 0, 1) := by decide +kernel
theorem dX1_addVote_108 : decode cX1_addVote 108 = .ok (.getfield 31, 3) := by decide +kernel
theorem dX1_addVote_111 : decode cX1_addVote 111 = .ok (.aload_n 0, 1) := by decide +kernel
theorem dX1_addVote_112 : decode cX1_addVote 112 = .ok (.getfield 45, 3) := by decide +kernel
theorem dX1_addVote_115 : decode cX1_addVote 115 = .ok (.iload 4, 2) := by decide +kernel
theorem dX1_addVote_117 : decode cX1_addVote 117 = .ok (.iastore, 1) := by decide +kernel
theorem dX1_addVote_118 : decode cX1_addVote 118 = .ok (.aload_n 0, 1) := by decide +kernel
theorem dX1_addVote_119 : decode cX1_addVote 119 = .ok (.dup, 1) := by decide +kernel
theorem dX1_addVote_120 : decode cX1_addVote 120 = .ok (.getfield 45, 3) := by decide +kernel
theorem dX1_addVote_123 : decode cX1_addVote 123 = .ok (.iconst 1, 1) := by decide +kernel
theorem dX1_addVote_124 : decode cX1_addVote 124 = .ok (.iadd, 1) := by decide +kernel
theorem dX1_addVote_125 : decode cX1_addVote 125 = .ok (.putfield 45, 3) := by decide +kernel
theorem dX1_addVote_128 : decode cX1_addVote 128 = .ok (.aload_n 0, 1) := by decide +kernel
theorem dX1_addVote_129 : decode cX1_addVote 129 = .ok (.getfield 45, 3) := by decide +kernel
theorem dX1_addVote_132 : decode cX1_addVote 132 = .ok (.iconst 1, 1) := by decide +kernel
theorem dX1_addVote_133 : decode cX1_addVote 133 = .ok (.isub, 1) := by decide +kernel
theorem dX1_addVote_134 : decode cX1_addVote 134 = .ok (.ireturn, 1) := by decide +kernel
theorem dX1_tallyOf_0 : decode cX1_tallyOf 0 = .ok (.iconst 0, 1) := by decide +kernel
theorem dX1_tallyOf_1 : decode cX1_tallyOf 1 = .ok (.istore_n 3, 1) := by decide +kernel
theorem dX1_tallyOf_2 : decode cX1_tallyOf 2 = .ok (.iconst 0, 1) := by decide +kernel
theorem dX1_tallyOf_3 : decode cX1_tallyOf 3 = .ok (.istore 4, 2) := by decide +kernel
theorem dX1_tallyOf_5 : decode cX1_tallyOf 5 = .ok (.iload 4, 2) := by decide +kernel
theorem dX1_tallyOf_7 : decode cX1_tallyOf 7 = .ok (.aload_n 0, 1) := by decide +kernel
theorem dX1_tallyOf_8 : decode cX1_tallyOf 8 = .ok (.getfield 45, 3) := by decide +kernel
theorem dX1_tallyOf_11 : decode cX1_tallyOf 11 = .ok (.if_icmp .ge 117, 3) := by decide +kernel
theorem dX1_tallyOf_14 : decode cX1_tallyOf 14 = .ok (.iload 4, 2) := by decide +kernel
theorem dX1_tallyOf_16 : decode cX1_tallyOf 16 = .ok (.sipush 200, 3) := by decide +kernel
theorem dX1_tallyOf_19 : decode cX1_tallyOf 19 = .ok (.if_icmp .ge 109, 3) := by decide +kernel
theorem dX1_tallyOf_22 : decode cX1_tallyOf 22 = .ok (.aload_n 0, 1) := by decide +kernel
theorem dX1_tallyOf_23 : decode cX1_tallyOf 23 = .ok (.getfield 21, 3) := by decide +kernel
theorem dX1_tallyOf_26 : decode cX1_tallyOf 26 = .ok (.iload 4, 2) := by decide +kernel
theorem dX1_tallyOf_28 : decode cX1_tallyOf 28 = .ok (.iaload, 1) := by decide +kernel
theorem dX1_tallyOf_29 : decode cX1_tallyOf 29 = .ok (.istore 5, 2) := by decide +kernel
theorem dX1_tallyOf_31 : decode cX1_tallyOf 31 = .ok (.iload_n 2, 1) := by decide +kernel
theorem dX1_tallyOf_32 : decode cX1_tallyOf 32 = .ok (.ifCond .eq 18, 3) := by decide +kernel
theorem dX1_tallyOf_35 : decode cX1_tallyOf 35 = .ok (.iload_n 2, 1) := by decide +kernel
theorem dX1_tallyOf_36 : decode cX1_tallyOf 36 = .ok (.iconst 2, 1) := by decide +kernel
theorem dX1_tallyOf_37 : decode cX1_tallyOf 37 = .ok (.if_icmp .eq 13, 3) := by decide +kernel
theorem dX1_tallyOf_40 : decode cX1_tallyOf 40 = .ok (.aload_n 0, 1) := by decide +kernel
theorem dX1_tallyOf_41 : decode cX1_tallyOf 41 = .ok (.getfield 27, 3) := by decide +kernel
theorem dX1_tallyOf_44 : decode cX1_tallyOf 44 = .ok (.iload 4, 2) := by decide +kernel
theorem dX1_tallyOf_46 : decode cX1_tallyOf 46 = .ok (.baload, 1) := by decide +kernel
theorem dX1_tallyOf_47 : decode cX1_tallyOf 47 = .ok (.ifCond .eq 7, 3) := by decide +kernel
theorem dX1_tallyOf_50 : decode cX1_tallyOf 50 = .ok (.iconst 1, 1) := by decide +kernel
theorem dX1_tallyOf_51 : decode cX1_tallyOf 51 = .ok (.goto 4, 3) := by decide +kernel
theorem dX1_tallyOf_54 : decode cX1_tallyOf 54 = .ok (.iconst 0, 1) := by decide +kernel
theorem dX1_tallyOf_55 : decode cX1_tallyOf 55 = .ok (.istore 6, 2) := by decide +kernel
theorem dX1_tallyOf_57 : decode cX1_tallyOf 57 = .ok (.aload_n 0, 1) := by decide +kernel
theorem dX1_tallyOf_58 : decode cX1_tallyOf 58 = .ok (.getfield 31, 3) := by decide +kernel
theorem dX1_tallyOf_61 : decode cX1_tallyOf 61 = .ok (.iload 4, 2) := by decide +kernel
theorem dX1_tallyOf_63 : decode cX1_tallyOf 63 = .ok (.iaload, 1) := by decide +kernel
theorem dX1_tallyOf_64 : decode cX1_tallyOf 64 = .ok (.iload_n 1, 1) := by decide +kernel
theorem dX1_tallyOf_65 : decode cX1_tallyOf 65 = .ok (.if_icmp .gt 57, 3) := by decide +kernel
theorem dX1_tallyOf_68 : decode cX1_tallyOf 68 = .ok (.iload 6, 2) := by decide +kernel
theorem dX1_tallyOf_70 : decode cX1_tallyOf 70 = .ok (.ifCond .eq 52, 3) := by decide +kernel
theorem dX1_tallyOf_73 : decode cX1_tallyOf 73 = .ok (.aload_n 0, 1) := by decide +kernel
theorem dX1_tallyOf_74 : decode cX1_tallyOf 74 = .ok (.iload 5, 2) := by decide +kernel
theorem dX1_tallyOf_76 : decode cX1_tallyOf 76 = .ok (.invokevirtual 52, 3) := by decide +kernel
theorem dX1_tallyOf_79 : decode cX1_tallyOf 79 = .ok (.ifCond .eq 43, 3) := by decide +kernel
theorem dX1_tallyOf_82 : decode cX1_tallyOf 82 = .ok (.iload_n 2, 1) := by decide +kernel
theorem dX1_tallyOf_83 : decode cX1_tallyOf 83 = .ok (.iconst 2, 1) := by decide +kernel
theorem dX1_tallyOf_84 : decode cX1_tallyOf 84 = .ok (.if_icmp .lt 35, 3) := by decide +kernel
theorem dX1_tallyOf_87 : decode cX1_tallyOf 87 = .ok (.aload_n 0, 1) := by decide +kernel
theorem dX1_tallyOf_88 : decode cX1_tallyOf 88 = .ok (.getfield 34, 3) := by decide +kernel
theorem dX1_tallyOf_91 : decode cX1_tallyOf 91 = .ok (.aload_n 0, 1) := by decide +kernel
theorem dX1_tallyOf_92 : decode cX1_tallyOf 92 = .ok (.getfield 24, 3) := by decide +kernel
theorem dX1_tallyOf_95 : decode cX1_tallyOf 95 = .ok (.iload 4, 2) := by decide +kernel
theorem dX1_tallyOf_97 : decode cX1_tallyOf 97 = .ok (.iaload, 1) := by decide +kernel
theorem dX1_tallyOf_98 : decode cX1_tallyOf 98 = .ok (.aload_n 0, 1) := by decide +kernel
theorem dX1_tallyOf_99 : decode cX1_tallyOf 99 = .ok (.getfield 15, 3) := by decide +kernel
theorem dX1_tallyOf_102 : decode cX1_tallyOf 102 = .ok (.iload 5, 2) := by decide +kernel
theorem dX1_tallyOf_104 : decode cX1_tallyOf 104 = .ok (.iaload, 1) := by decide +kernel
theorem dX1_tallyOf_105 : decode cX1_tallyOf 105 = .ok (.aload_n 0, 1) := by decide +kernel
theorem dX1_tallyOf_106 : decode cX1_tallyOf 106 = .ok (.getfield 18, 3) := by decide +kernel
theorem dX1_tallyOf_109 : decode cX1_tallyOf 109 = .ok (.iload 5, 2) := by decide +kernel
theorem dX1_tallyOf_111 : decode cX1_tallyOf 111 = .ok (.iaload, 1) := by decide +kernel
theorem dX1_tallyOf_112 : decode cX1_tallyOf 112 = .ok (.iload_n 1, 1) := by decide +kernel
theorem dX1_tallyOf_113 : decode cX1_tallyOf 113 = .ok (.invokevirtual 65, 3) := by decide +kernel
theorem dX1_tallyOf_116 : decode cX1_tallyOf 116 = .ok (.ifCond .eq 6, 3) := by decide +kernel
theorem dX1_tallyOf_119 : decode cX1_tallyOf 119 = .ok (.iinc 3 1, 3) := by decide +kernel
theorem dX1_tallyOf_122 : decode cX1_tallyOf 122 = .ok (.iinc 4 1, 3) := by decide +kernel
theorem dX1_tallyOf_125 : decode cX1_tallyOf 125 = .ok (.goto (-120), 3) := by decide +kernel
theorem dX1_tallyOf_128 : decode cX1_tallyOf 128 = .ok (.iload_n 3, 1) := by decide +kernel
theorem dX1_tallyOf_129 : decode cX1_tallyOf 129 = .ok (.ireturn, 1) := by decide +kernel
theorem dX1_chanceOf_0 : decode cX1_chanceOf 0 = .ok (.aload_n 0, 1) := by decide +kernel
theorem dX1_chanceOf_1 : decode cX1_chanceOf 1 = .ok (.iload_n 1, 1) := by decide +kernel
theorem dX1_chanceOf_2 : decode cX1_chanceOf 2 = .ok (.iconst 0, 1) := by decide +kernel
theorem dX1_chanceOf_3 : decode cX1_chanceOf 3 = .ok (.invokevirtual 69, 3) := by decide +kernel
theorem dX1_chanceOf_6 : decode cX1_chanceOf 6 = .ok (.istore_n 3, 1) := by decide +kernel
theorem dX1_chanceOf_7 : decode cX1_chanceOf 7 = .ok (.aload_n 0, 1) := by decide +kernel
theorem dX1_chanceOf_8 : decode cX1_chanceOf 8 = .ok (.iload_n 1, 1) := by decide +kernel
theorem dX1_chanceOf_9 : decode cX1_chanceOf 9 = .ok (.iconst 1, 1) := by decide +kernel
theorem dX1_chanceOf_10 : decode cX1_chanceOf 10 = .ok (.invokevirtual 69, 3) := by decide +kernel
theorem dX1_chanceOf_13 : decode cX1_chanceOf 13 = .ok (.istore 4, 2) := by decide +kernel
theorem dX1_chanceOf_15 : decode cX1_chanceOf 15 = .ok (.aload_n 0, 1) := by decide +kernel
theorem dX1_chanceOf_16 : decode cX1_chanceOf 16 = .ok (.iload_n 1, 1) := by decide +kernel
theorem dX1_chanceOf_17 : decode cX1_chanceOf 17 = .ok (.iconst 2, 1) := by decide +kernel
theorem dX1_chanceOf_18 : decode cX1_chanceOf 18 = .ok (.invokevirtual 69, 3) := by decide +kernel
theorem dX1_chanceOf_21 : decode cX1_chanceOf 21 = .ok (.istore 5, 2) := by decide +kernel
theorem dX1_chanceOf_23 : decode cX1_chanceOf 23 = .ok (.lconst 0, 1) := by decide +kernel
theorem dX1_chanceOf_24 : decode cX1_chanceOf 24 = .ok (.lstore 6, 2) := by decide +kernel
theorem dX1_chanceOf_26 : decode cX1_chanceOf 26 = .ok (.aload_n 0, 1) := by decide +kernel
theorem dX1_chanceOf_27 : decode cX1_chanceOf 27 = .ok (.iload_n 1, 1) := by decide +kernel
theorem dX1_chanceOf_28 : decode cX1_chanceOf 28 = .ok (.iconst 3, 1) := by decide +kernel
theorem dX1_chanceOf_29 : decode cX1_chanceOf 29 = .ok (.invokevirtual 69, 3) := by decide +kernel
theorem dX1_chanceOf_32 : decode cX1_chanceOf 32 = .ok (.istore 8, 2) := by decide +kernel
theorem dX1_chanceOf_34 : decode cX1_chanceOf 34 = .ok (.iload 8, 2) := by decide +kernel
theorem dX1_chanceOf_36 : decode cX1_chanceOf 36 = .ok (.iload 5, 2) := by decide +kernel
theorem dX1_chanceOf_38 : decode cX1_chanceOf 38 = .ok (.if_icmp .gt 41, 3) := by decide +kernel
theorem dX1_chanceOf_41 : decode cX1_chanceOf 41 = .ok (.iload 8, 2) := by decide +kernel
theorem dX1_chanceOf_43 : decode cX1_chanceOf 43 = .ok (.iload 4, 2) := by decide +kernel
theorem dX1_chanceOf_45 : decode cX1_chanceOf 45 = .ok (.if_icmp .gt 34, 3) := by decide +kernel
theorem dX1_chanceOf_48 : decode cX1_chanceOf 48 = .ok (.lload 6, 2) := by decide +kernel
theorem dX1_chanceOf_50 : decode cX1_chanceOf 50 = .ok (.iload 8, 2) := by decide +kernel
theorem dX1_chanceOf_52 : decode cX1_chanceOf 52 = .ok (.iload 5, 2) := by decide +kernel
theorem dX1_chanceOf_54 : decode cX1_chanceOf 54 = .ok (.invokestatic 72, 3) := by decide +kernel
theorem dX1_chanceOf_57 : decode cX1_chanceOf 57 = .ok (.iload 4, 2) := by decide +kernel
theorem dX1_chanceOf_59 : decode cX1_chanceOf 59 = .ok (.iload 8, 2) := by decide +kernel
theorem dX1_chanceOf_61 : decode cX1_chanceOf 61 = .ok (.isub, 1) := by decide +kernel
theorem dX1_chanceOf_62 : decode cX1_chanceOf 62 = .ok (.iload_n 3, 1) := by decide +kernel
theorem dX1_chanceOf_63 : decode cX1_chanceOf 63 = .ok (.iload 5, 2) := by decide +kernel
theorem dX1_chanceOf_65 : decode cX1_chanceOf 65 = .ok (.isub, 1) := by decide +kernel
theorem dX1_chanceOf_66 : decode cX1_chanceOf 66 = .ok (.invokestatic 72, 3) := by decide +kernel
theorem dX1_chanceOf_69 : decode cX1_chanceOf 69 = .ok (.lmul, 1) := by decide +kernel
theorem dX1_chanceOf_70 : decode cX1_chanceOf 70 = .ok (.ladd, 1) := by decide +kernel
theorem dX1_chanceOf_71 : decode cX1_chanceOf 71 = .ok (.lstore 6, 2) := by decide +kernel
theorem dX1_chanceOf_73 : decode cX1_chanceOf 73 = .ok (.iinc 8 1, 3) := by decide +kernel
theorem dX1_chanceOf_76 : decode cX1_chanceOf 76 = .ok (.goto (-42), 3) := by decide +kernel
theorem dX1_chanceOf_79 : decode cX1_chanceOf 79 = .ok (.iload 4, 2) := by decide +kernel
theorem dX1_chanceOf_81 : decode cX1_chanceOf 81 = .ok (.iload_n 3, 1) := by decide +kernel
theorem dX1_chanceOf_82 : decode cX1_chanceOf 82 = .ok (.invokestatic 72, 3) := by decide +kernel
theorem dX1_chanceOf_85 : decode cX1_chanceOf 85 = .ok (.lstore 8, 2) := by decide +kernel
theorem dX1_chanceOf_87 : decode cX1_chanceOf 87 = .ok (.lload 6, 2) := by decide +kernel
theorem dX1_chanceOf_89 : decode cX1_chanceOf 89 = .ok (.lload 8, 2) := by decide +kernel
theorem dX1_chanceOf_91 : decode cX1_chanceOf 91 = .ok (.invokestatic 76, 3) := by decide +kernel
theorem dX1_chanceOf_94 : decode cX1_chanceOf 94 = .ok (.lstore 10, 2) := by decide +kernel
theorem dX1_chanceOf_96 : decode cX1_chanceOf 96 = .ok (.lload 10, 2) := by decide +kernel
theorem dX1_chanceOf_98 : decode cX1_chanceOf 98 = .ok (.lconst 0, 1) := by decide +kernel
theorem dX1_chanceOf_99 : decode cX1_chanceOf 99 = .ok (.lcmp, 1) := by decide +kernel
theorem dX1_chanceOf_100 : decode cX1_chanceOf 100 = .ok (.ifCond .ne 6, 3) := by decide +kernel
theorem dX1_chanceOf_103 : decode cX1_chanceOf 103 = .ok (.iload_n 2, 1) := by decide +kernel
theorem dX1_chanceOf_104 : decode cX1_chanceOf 104 = .ok (.i2l, 1) := by decide +kernel
theorem dX1_chanceOf_105 : decode cX1_chanceOf 105 = .ok (.lreturn, 1) := by decide +kernel
theorem dX1_chanceOf_106 : decode cX1_chanceOf 106 = .ok (.iload_n 2, 1) := by decide +kernel
theorem dX1_chanceOf_107 : decode cX1_chanceOf 107 = .ok (.ifCond .ne 8, 3) := by decide +kernel
theorem dX1_chanceOf_110 : decode cX1_chanceOf 110 = .ok (.lload 6, 2) := by decide +kernel
theorem dX1_chanceOf_112 : decode cX1_chanceOf 112 = .ok (.goto 5, 3) := by decide +kernel
theorem dX1_chanceOf_115 : decode cX1_chanceOf 115 = .ok (.lload 8, 2) := by decide +kernel
theorem dX1_chanceOf_117 : decode cX1_chanceOf 117 = .ok (.lload 10, 2) := by decide +kernel
theorem dX1_chanceOf_119 : decode cX1_chanceOf 119 = .ok (.ldiv, 1) := by decide +kernel
theorem dX1_chanceOf_120 : decode cX1_chanceOf 120 = .ok (.lreturn, 1) := by decide +kernel
theorem dX1_waysToTake_0 : decode cX1_waysToTake 0 = .ok (.iload_n 0, 1) := by decide +kernel
theorem dX1_waysToTake_1 : decode cX1_waysToTake 1 = .ok (.ifCond .lt 14, 3) := by decide +kernel
theorem dX1_waysToTake_4 : decode cX1_waysToTake 4 = .ok (.iload_n 0, 1) := by decide +kernel
theorem dX1_waysToTake_5 : decode cX1_waysToTake 5 = .ok (.iload_n 1, 1) := by decide +kernel
theorem dX1_waysToTake_6 : decode cX1_waysToTake 6 = .ok (.if_icmp .gt 9, 3) := by decide +kernel
theorem dX1_waysToTake_9 : decode cX1_waysToTake 9 = .ok (.iload_n 1, 1) := by decide +kernel
theorem dX1_waysToTake_10 : decode cX1_waysToTake 10 = .ok (.bipush 60, 2) := by decide +kernel
theorem dX1_waysToTake_12 : decode cX1_waysToTake 12 = .ok (.if_icmp .le 5, 3) := by decide +kernel
theorem dX1_waysToTake_15 : decode cX1_waysToTake 15 = .ok (.lconst 0, 1) := by decide +kernel
theorem dX1_waysToTake_16 : decode cX1_waysToTake 16 = .ok (.lreturn, 1) := by decide +kernel
theorem dX1_waysToTake_17 : decode cX1_waysToTake 17 = .ok (.lconst 1, 1) := by decide +kernel
theorem dX1_waysToTake_18 : decode cX1_waysToTake 18 = .ok (.lstore_n 2, 1) := by decide +kernel
theorem dX1_waysToTake_19 : decode cX1_waysToTake 19 = .ok (.iconst 1, 1) := by decide +kernel
theorem dX1_waysToTake_20 : decode cX1_waysToTake 20 = .ok (.istore 4, 2) := by decide +kernel
theorem dX1_waysToTake_22 : decode cX1_waysToTake 22 = .ok (.iload 4, 2) := by decide +kernel
theorem dX1_waysToTake_24 : decode cX1_waysToTake 24 = .ok (.iload_n 0, 1) := by decide +kernel
theorem dX1_waysToTake_25 : decode cX1_waysToTake 25 = .ok (.if_icmp .gt 23, 3) := by decide +kernel
theorem dX1_waysToTake_28 : decode cX1_waysToTake 28 = .ok (.lload_n 2, 1) := by decide +kernel
theorem dX1_waysToTake_29 : decode cX1_waysToTake 29 = .ok (.iload_n 1, 1) := by decide +kernel
theorem dX1_waysToTake_30 : decode cX1_waysToTake 30 = .ok (.iload_n 0, 1) := by decide +kernel
theorem dX1_waysToTake_31 : decode cX1_waysToTake 31 = .ok (.isub, 1) := by decide +kernel
theorem dX1_waysToTake_32 : decode cX1_waysToTake 32 = .ok (.iload 4, 2) := by decide +kernel
theorem dX1_waysToTake_34 : decode cX1_waysToTake 34 = .ok (.iadd, 1) := by decide +kernel
theorem dX1_waysToTake_35 : decode cX1_waysToTake 35 = .ok (.i2l, 1) := by decide +kernel
theorem dX1_waysToTake_36 : decode cX1_waysToTake 36 = .ok (.lmul, 1) := by decide +kernel
theorem dX1_waysToTake_37 : decode cX1_waysToTake 37 = .ok (.iload 4, 2) := by decide +kernel
theorem dX1_waysToTake_39 : decode cX1_waysToTake 39 = .ok (.i2l, 1) := by decide +kernel
theorem dX1_waysToTake_40 : decode cX1_waysToTake 40 = .ok (.ldiv, 1) := by decide +kernel
theorem dX1_waysToTake_41 : decode cX1_waysToTake 41 = .ok (.lstore_n 2, 1) := by decide +kernel
theorem dX1_waysToTake_42 : decode cX1_waysToTake 42 = .ok (.iinc 4 1, 3) := by decide +kernel
theorem dX1_waysToTake_45 : decode cX1_waysToTake 45 = .ok (.goto (-23), 3) := by decide +kernel
theorem dX1_waysToTake_48 : decode cX1_waysToTake 48 = .ok (.lload_n 2, 1) := by decide +kernel
theorem dX1_waysToTake_49 : decode cX1_waysToTake 49 = .ok (.lreturn, 1) := by decide +kernel
theorem dX1_commonDivisor_0 : decode cX1_commonDivisor 0 = .ok (.lload_n 0, 1) := by decide +kernel
theorem dX1_commonDivisor_1 : decode cX1_commonDivisor 1 = .ok (.lstore 4, 2) := by decide +kernel
theorem dX1_commonDivisor_3 : decode cX1_commonDivisor 3 = .ok (.lload_n 2, 1) := by decide +kernel
theorem dX1_commonDivisor_4 : decode cX1_commonDivisor 4 = .ok (.lstore 6, 2) := by decide +kernel
theorem dX1_commonDivisor_6 : decode cX1_commonDivisor 6 = .ok (.iconst 0, 1) := by decide +kernel
theorem dX1_commonDivisor_7 : decode cX1_commonDivisor 7 = .ok (.istore 8, 2) := by decide +kernel
theorem dX1_commonDivisor_9 : decode cX1_commonDivisor 9 = .ok (.iload 8, 2) := by decide +kernel
theorem dX1_commonDivisor_11 : decode cX1_commonDivisor 11 = .ok (.sipush 200, 3) := by decide +kernel
theorem dX1_commonDivisor_14 : decode cX1_commonDivisor 14 = .ok (.if_icmp .ge 31, 3) := by decide +kernel
theorem dX1_commonDivisor_17 : decode cX1_commonDivisor 17 = .ok (.lload 6, 2) := by decide +kernel
theorem dX1_commonDivisor_19 : decode cX1_commonDivisor 19 = .ok (.lconst 0, 1) := by decide +kernel
theorem dX1_commonDivisor_20 : decode cX1_commonDivisor 20 = .ok (.lcmp, 1) := by decide +kernel
theorem dX1_commonDivisor_21 : decode cX1_commonDivisor 21 = .ok (.ifCond .eq 24, 3) := by decide +kernel
theorem dX1_commonDivisor_24 : decode cX1_commonDivisor 24 = .ok (.lload 4, 2) := by decide +kernel
theorem dX1_commonDivisor_26 : decode cX1_commonDivisor 26 = .ok (.lload 6, 2) := by decide +kernel
theorem dX1_commonDivisor_28 : decode cX1_commonDivisor 28 = .ok (.lrem, 1) := by decide +kernel
theorem dX1_commonDivisor_29 : decode cX1_commonDivisor 29 = .ok (.lstore 9, 2) := by decide +kernel
theorem dX1_commonDivisor_31 : decode cX1_commonDivisor 31 = .ok (.lload 6, 2) := by decide +kernel
theorem dX1_commonDivisor_33 : decode cX1_commonDivisor 33 = .ok (.lstore 4, 2) := by decide +kernel
theorem dX1_commonDivisor_35 : decode cX1_commonDivisor 35 = .ok (.lload 9, 2) := by decide +kernel
theorem dX1_commonDivisor_37 : decode cX1_commonDivisor 37 = .ok (.lstore 6, 2) := by decide +kernel
theorem dX1_commonDivisor_39 : decode cX1_commonDivisor 39 = .ok (.iinc 8 1, 3) := by decide +kernel
theorem dX1_commonDivisor_42 : decode cX1_commonDivisor 42 = .ok (.goto (-33), 3) := by decide +kernel
theorem dX1_commonDivisor_45 : decode cX1_commonDivisor 45 = .ok (.lload 4, 2) := by decide +kernel
theorem dX1_commonDivisor_47 : decode cX1_commonDivisor 47 = .ok (.lreturn, 1) := by decide +kernel
theorem dX2_init_0 : decode cX2_init 0 = .ok (.aload_n 0, 1) := by decide +kernel
theorem dX2_init_1 : decode cX2_init 1 = .ok (.invokespecial 3, 3) := by decide +kernel
theorem dX2_init_4 : decode cX2_init 4 = .ok (.aload_n 0, 1) := by decide +kernel
theorem dX2_init_5 : decode cX2_init 5 = .ok (.bipush 120, 2) := by decide +kernel
theorem dX2_init_7 : decode cX2_init 7 = .ok (.newarray .int, 2) := by decide +kernel
theorem dX2_init_9 : decode cX2_init 9 = .ok (.putfield 9, 3) := by decide +kernel
theorem dX2_init_12 : decode cX2_init 12 = .ok (.aload_n 0, 1) := by decide +kernel
theorem dX2_init_13 : decode cX2_init 13 = .ok (.bipush 120, 2) := by decide +kernel
theorem dX2_init_15 : decode cX2_init 15 = .ok (.newarray .int, 2) := by decide +kernel
theorem dX2_init_17 : decode cX2_init 17 = .ok (.putfield 15, 3) := by decide +kernel
theorem dX2_init_20 : decode cX2_init 20 = .ok (.aload_n 0, 1) := by decide +kernel
theorem dX2_init_21 : decode cX2_init 21 = .ok (.bipush 120, 2) := by decide +kernel
theorem dX2_init_23 : decode cX2_init 23 = .ok (.newarray .int, 2) := by decide +kernel
theorem dX2_init_25 : decode cX2_init 25 = .ok (.putfield 18, 3) := by decide +kernel
theorem dX2_init_28 : decode cX2_init 28 = .ok (.aload_n 0, 1) := by decide +kernel
theorem dX2_init_29 : decode cX2_init 29 = .ok (.bipush 120, 2) := by decide +kernel
theorem dX2_init_31 : decode cX2_init 31 = .ok (.newarray .int, 2) := by decide +kernel
theorem dX2_init_33 : decode cX2_init 33 = .ok (.putfield 21, 3) := by decide +kernel
theorem dX2_init_36 : decode cX2_init 36 = .ok (.aload_n 0, 1) := by decide +kernel
theorem dX2_init_37 : decode cX2_init 37 = .ok (.bipush 120, 2) := by decide +kernel
theorem dX2_init_39 : decode cX2_init 39 = .ok (.newarray .boolean, 2) := by decide +kernel
theorem dX2_init_41 : decode cX2_init 41 = .ok (.putfield 24, 3) := by decide +kernel
theorem dX2_init_44 : decode cX2_init 44 = .ok (.aload_n 0, 1) := by decide +kernel
theorem dX2_init_45 : decode cX2_init 45 = .ok (.bipush 120, 2) := by decide +kernel
theorem dX2_init_47 : decode cX2_init 47 = .ok (.newarray .int, 2) := by decide +kernel
theorem dX2_init_49 : decode cX2_init 49 = .ok (.putfield 28, 3) := by decide +kernel
theorem dX2_init_52 : decode cX2_init 52 = .ok (.aload_n 0, 1) := by decide +kernel
theorem dX2_init_53 : decode cX2_init 53 = .ok (.bipush 120, 2) := by decide +kernel
theorem dX2_init_55 : decode cX2_init 55 = .ok (.newarray .int, 2) := by decide +kernel
theorem dX2_init_57 : decode cX2_init 57 = .ok (.putfield 31, 3) := by decide +kernel
theorem dX2_init_60 : decode cX2_init 60 = .ok (.aload_n 0, 1) := by decide +kernel
theorem dX2_init_61 : decode cX2_init 61 = .ok (.bipush 120, 2) := by decide +kernel
theorem dX2_init_63 : decode cX2_init 63 = .ok (.newarray .int, 2) := by decide +kernel
theorem dX2_init_65 : decode cX2_init 65 = .ok (.putfield 34, 3) := by decide +kernel
theorem dX2_init_68 : decode cX2_init 68 = .ok (.aload_n 0, 1) := by decide +kernel
theorem dX2_init_69 : decode cX2_init 69 = .ok (.bipush 120, 2) := by decide +kernel
theorem dX2_init_71 : decode cX2_init 71 = .ok (.newarray .int, 2) := by decide +kernel
theorem dX2_init_73 : decode cX2_init 73 = .ok (.putfield 37, 3) := by decide +kernel
theorem dX2_init_76 : decode cX2_init 76 = .ok (.aload_n 0, 1) := by decide +kernel
theorem dX2_init_77 : decode cX2_init 77 = .ok (.bipush 120, 2) := by decide +kernel
theorem dX2_init_79 : decode cX2_init 79 = .ok (.newarray .int, 2) := by decide +kernel
theorem dX2_init_81 : decode cX2_init 81 = .ok (.putfield 40, 3) := by decide +kernel
theorem dX2_init_84 : decode cX2_init 84 = .ok (.aload_n 0, 1) := by decide +kernel
theorem dX2_init_85 : decode cX2_init 85 = .ok (.bipush 120, 2) := by decide +kernel
theorem dX2_init_87 : decode cX2_init 87 = .ok (.newarray .int, 2) := by decide +kernel
theorem dX2_init_89 : decode cX2_init 89 = .ok (.putfield 43, 3) := by decide +kernel
theorem dX2_init_92 : decode cX2_init 92 = .ok (.aload_n 0, 1) := by decide +kernel
theorem dX2_init_93 : decode cX2_init 93 = .ok (.sipush 200, 3) := by decide +kernel
theorem dX2_init_96 : decode cX2_init 96 = .ok (.newarray .int, 2) := by decide +kernel
theorem dX2_init_98 : decode cX2_init 98 = .ok (.putfield 46, 3) := by decide +kernel
theorem dX2_init_101 : decode cX2_init 101 = .ok (.aload_n 0, 1) := by decide +kernel
theorem dX2_init_102 : decode cX2_init 102 = .ok (.sipush 200, 3) := by decide +kernel
theorem dX2_init_105 : decode cX2_init 105 = .ok (.newarray .int, 2) := by decide +kernel
theorem dX2_init_107 : decode cX2_init 107 = .ok (.putfield 49, 3) := by decide +kernel
theorem dX2_init_110 : decode cX2_init 110 = .ok (.aload_n 0, 1) := by decide +kernel
theorem dX2_init_111 : decode cX2_init 111 = .ok (.sipush 200, 3) := by decide +kernel
theorem dX2_init_114 : decode cX2_init 114 = .ok (.newarray .int, 2) := by decide +kernel
theorem dX2_init_116 : decode cX2_init 116 = .ok (.putfield 52, 3) := by decide +kernel
theorem dX2_init_119 : decode cX2_init 119 = .ok (.aload_n 0, 1) := by decide +kernel
theorem dX2_init_120 : decode cX2_init 120 = .ok (.sipush 200, 3) := by decide +kernel
theorem dX2_init_123 : decode cX2_init 123 = .ok (.newarray .int, 2) := by decide +kernel
theorem dX2_init_125 : decode cX2_init 125 = .ok (.putfield 55, 3) := by decide +kernel
theorem dX2_init_128 : decode cX2_init 128 = .ok (.return_, 1) := by decide +kernel
theorem dX2_add_0 : decode cX2_add 0 = .ok (.aload_n 0, 1) := by decide +kernel
theorem dX2_add_1 : decode cX2_add 1 = .ok (.getfield 58, 3) := by decide +kernel
theorem dX2_add_4 : decode cX2_add 4 = .ok (.ifCond .lt 12, 3) := by decide +kernel
theorem dX2_add_7 : decode cX2_add 7 = .ok (.aload_n 0, 1) := by decide +kernel
theorem dX2_add_8 : decode cX2_add 8 = .ok (.getfield 58, 3) := by decide +kernel
theorem dX2_add_11 : decode cX2_add 11 = .ok (.bipush 120, 2) := by decide +kernel
theorem dX2_add_13 : decode cX2_add 13 = .ok (.if_icmp .lt 5, 3) := by decide +kernel
theorem dX2_add_16 : decode cX2_add 16 = .ok (.iconst (-1), 1) := by decide +kernel
theorem dX2_add_17 : decode cX2_add 17 = .ok (.ireturn, 1) := by decide +kernel
theorem dX2_add_18 : decode cX2_add 18 = .ok (.aload_n 0, 1) := by decide +kernel
theorem dX2_add_19 : decode cX2_add 19 = .ok (.getfield 9, 3) := by decide +kernel
theorem dX2_add_22 : decode cX2_add 22 = .ok (.aload_n 0, 1) := by decide +kernel
theorem dX2_add_23 : decode cX2_add 23 = .ok (.getfield 58, 3) := by decide +kernel
theorem dX2_add_26 : decode cX2_add 26 = .ok (.iload_n 1, 1) := by decide +kernel
theorem dX2_add_27 : decode cX2_add 27 = .ok (.iastore, 1) := by decide +kernel
theorem dX2_add_28 : decode cX2_add 28 = .ok (.aload_n 0, 1) := by decide +kernel
theorem dX2_add_29 : decode cX2_add 29 = .ok (.getfield 15, 3) := by decide +kernel
theorem dX2_add_32 : decode cX2_add 32 = .ok (.aload_n 0, 1) := by decide +kernel
theorem dX2_add_33 : decode cX2_add 33 = .ok (.getfield 58, 3) := by decide +kernel
theorem dX2_add_36 : decode cX2_add 36 = .ok (.iload_n 2, 1) := by decide +kernel
theorem dX2_add_37 : decode cX2_add 37 = .ok (.iastore, 1) := by decide +kernel
theorem dX2_add_38 : decode cX2_add 38 = .ok (.aload_n 0, 1) := by decide +kernel
theorem dX2_add_39 : decode cX2_add 39 = .ok (.getfield 18, 3) := by decide +kernel
theorem dX2_add_42 : decode cX2_add 42 = .ok (.aload_n 0, 1) := by decide +kernel
theorem dX2_add_43 : decode cX2_add 43 = .ok (.getfield 58, 3) := by decide +kernel
theorem dX2_add_46 : decode cX2_add 46 = .ok (.iload_n 3, 1) := by decide +kernel
theorem dX2_add_47 : decode cX2_add 47 = .ok (.iastore, 1) := by decide +kernel
theorem dX2_add_48 : decode cX2_add 48 = .ok (.aload_n 0, 1) := by decide +kernel
theorem dX2_add_49 : decode cX2_add 49 = .ok (.getfield 21, 3) := by decide +kernel
theorem dX2_add_52 : decode cX2_add 52 = .ok (.aload_n 0, 1) := by decide +kernel
theorem dX2_add_53 : decode cX2_add 53 = .ok (.getfield 58, 3) := by decide +kernel
theorem dX2_add_56 : decode cX2_add 56 = .ok (.iload 4, 2) := by decide +kernel
theorem dX2_add_58 : decode cX2_add 58 = .ok (.iastore, 1) := by decide +kernel
theorem dX2_add_59 : decode cX2_add 59 = .ok (.aload_n 0, 1) := by decide +kernel
theorem dX2_add_60 : decode cX2_add 60 = .ok (.getfield 34, 3) := by decide +kernel
theorem dX2_add_63 : decode cX2_add 63 = .ok (.aload_n 0, 1) := by decide +kernel
theorem dX2_add_64 : decode cX2_add 64 = .ok (.getfield 58, 3) := by decide +kernel
theorem dX2_add_67 : decode cX2_add 67 = .ok (.iload 5, 2) := by decide +kernel
theorem dX2_add_69 : decode cX2_add 69 = .ok (.iastore, 1) := by decide +kernel
theorem dX2_add_70 : decode cX2_add 70 = .ok (.aload_n 0, 1) := by decide +kernel
theorem dX2_add_71 : decode cX2_add 71 = .ok (.getfield 37, 3) := by decide +kernel
theorem dX2_add_74 : decode cX2_add 74 = .ok (.aload_n 0, 1) := by decide +kernel
theorem dX2_add_75 : decode cX2_add 75 = .ok (.getfield 58, 3) := by decide +kernel
theorem dX2_add_78 : decode cX2_add 78 = .ok (.iconst (-1), 1) := by decide +kernel
theorem dX2_add_79 : decode cX2_add 79 = .ok (.iastore, 1) := by decide +kernel
theorem dX2_add_80 : decode cX2_add 80 = .ok (.aload_n 0, 1) := by decide +kernel
theorem dX2_add_81 : decode cX2_add 81 = .ok (.getfield 43, 3) := by decide +kernel
theorem dX2_add_84 : decode cX2_add 84 = .ok (.aload_n 0, 1) := by decide +kernel
theorem dX2_add_85 : decode cX2_add 85 = .ok (.getfield 58, 3) := by decide +kernel
theorem dX2_add_88 : decode cX2_add 88 = .ok (.iconst (-1), 1) := by decide +kernel
theorem dX2_add_89 : decode cX2_add 89 = .ok (.iastore, 1) := by decide +kernel
theorem dX2_add_90 : decode cX2_add 90 = .ok (.aload_n 0, 1) := by decide +kernel
theorem dX2_add_91 : decode cX2_add 91 = .ok (.dup, 1) := by decide +kernel
theorem dX2_add_92 : decode cX2_add 92 = .ok (.getfield 58, 3) := by decide +kernel
theorem dX2_add_95 : decode cX2_add 95 = .ok (.iconst 1, 1) := by decide +kernel
theorem dX2_add_96 : decode cX2_add 96 = .ok (.iadd, 1) := by decide +kernel
theorem dX2_add_97 : decode cX2_add 97 = .ok (.putfield 58, 3) := by decide +kernel
theorem dX2_add_100 : decode cX2_add 100 = .ok (.aload_n 0, 1) := by decide +kernel
theorem dX2_add_101 : decode cX2_add 101 = .ok (.getfield 58, 3) := by decide +kernel
theorem dX2_add_104 : decode cX2_add 104 = .ok (.iconst 1, 1) := by decide +kernel
theorem dX2_add_105 : decode cX2_add 105 = .ok (.isub, 1) := by decide +kernel
theorem dX2_add_106 : decode cX2_add 106 = .ok (.ireturn, 1) := by decide +kernel
theorem dX2_describe_0 : decode cX2_describe 0 = .ok (.aload_n 0, 1) := by decide +kernel
theorem dX2_describe_1 : decode cX2_describe 1 = .ok (.iload_n 1, 1) := by decide +kernel
theorem dX2_describe_2 : decode cX2_describe 2 = .ok (.invokevirtual 62, 3) := by decide +kernel
theorem dX2_describe_5 : decode cX2_describe 5 = .ok (.ifCond .eq 25, 3) := by decide +kernel
theorem dX2_describe_8 : decode cX2_describe 8 = .ok (.aload_n 0, 1) := by decide +kernel
theorem dX2_describe_9 : decode cX2_describe 9 = .ok (.getfield 24, 3) := by decide +kernel
theorem dX2_describe_12 : decode cX2_describe 12 = .ok (.iload_n 1, 1) := by decide +kernel
theorem dX2_describe_13 : decode cX2_describe 13 = .ok (.iload_n 2, 1) := by decide +kernel
theorem dX2_describe_14 : decode cX2_describe 14 = .ok (.bastore, 1) := by decide +kernel
theorem dX2_describe_15 : decode cX2_describe 15 = .ok (.aload_n 0, 1) := by decide +kernel
theorem dX2_describe_16 : decode cX2_describe 16 = .ok (.getfield 28, 3) := by decide +kernel
theorem dX2_describe_19 : decode cX2_describe 19 = .ok (.iload_n 1, 1) := by decide +kernel
theorem dX2_describe_20 : decode cX2_describe 20 = .ok (.iload_n 3, 1) := by decide +kernel
theorem dX2_describe_21 : decode cX2_describe 21 = .ok (.iastore, 1) := by decide +kernel
theorem dX2_describe_22 : decode cX2_describe 22 = .ok (.aload_n 0, 1) := by decide +kernel
theorem dX2_describe_23 : decode cX2_describe 23 = .ok (.getfield 31, 3) := by decide +kernel
theorem dX2_describe_26 : decode cX2_describe 26 = .ok (.iload_n 1, 1) := by decide +kernel
theorem dX2_describe_27 : decode cX2_describe 27 = .ok (.iload 4, 2) := by decide +kernel
theorem dX2_describe_29 : decode cX2_describe 29 = .ok (.iastore, 1) := by decide +kernel
theorem dX2_describe_30 : decode cX2_describe 30 = .ok (.return_, 1) := by decide +kernel
theorem dX2_total_0 : decode cX2_total 0 = .ok (.aload_n 0, 1) := by decide +kernel
theorem dX2_total_1 : decode cX2_total 1 = .ok (.getfield 58, 3) := by decide +kernel
theorem dX2_total_4 : decode cX2_total 4 = .ok (.ireturn, 1) := by decide +kernel
theorem dX2_has_0 : decode cX2_has 0 = .ok (.iload_n 1, 1) := by decide +kernel
theorem dX2_has_1 : decode cX2_has 1 = .ok (.ifCond .lt 21, 3) := by decide +kernel
theorem dX2_has_4 : decode cX2_has 4 = .ok (.iload_n 1, 1) := by decide +kernel
theorem dX2_has_5 : decode cX2_has 5 = .ok (.aload_n 0, 1) := by decide +kernel
theorem dX2_has_6 : decode cX2_has 6 = .ok (.getfield 58, 3) := by decide +kernel
theorem dX2_has_9 : decode cX2_has 9 = .ok (.if_icmp .ge 13, 3) := by decide +kernel
theorem dX2_has_12 : decode cX2_has 12 = .ok (.iload_n 1, 1) := by decide +kernel
theorem dX2_has_13 : decode cX2_has 13 = .ok (.bipush 120, 2) := by decide +kernel
theorem dX2_has_15 : decode cX2_has 15 = .ok (.if_icmp .ge 7, 3) := by decide +kernel
theorem dX2_has_18 : decode cX2_has 18 = .ok (.iconst 1, 1) := by decide +kernel
theorem dX2_has_19 : decode cX2_has 19 = .ok (.goto 4, 3) := by decide +kernel
theorem dX2_has_22 : decode cX2_has 22 = .ok (.iconst 0, 1) := by decide +kernel
theorem dX2_has_23 : decode cX2_has 23 = .ok (.ireturn, 1) := by decide +kernel
theorem dX2_isKnown_0 : decode cX2_isKnown 0 = .ok (.aload_n 0, 1) := by decide +kernel
theorem dX2_isKnown_1 : decode cX2_isKnown 1 = .ok (.iload_n 1, 1) := by decide +kernel
theorem dX2_isKnown_2 : decode cX2_isKnown 2 = .ok (.invokevirtual 62, 3) := by decide +kernel
theorem dX2_isKnown_5 : decode cX2_isKnown 5 = .ok (.ifCond .eq 17, 3) := by decide +kernel
theorem dX2_isKnown_8 : decode cX2_isKnown 8 = .ok (.aload_n 0, 1) := by decide +kernel
theorem dX2_isKnown_9 : decode cX2_isKnown 9 = .ok (.getfield 34, 3) := by decide +kernel
theorem dX2_isKnown_12 : decode cX2_isKnown 12 = .ok (.iload_n 1, 1) := by decide +kernel
theorem dX2_isKnown_13 : decode cX2_isKnown 13 = .ok (.iaload, 1) := by decide +kernel
theorem dX2_isKnown_14 : decode cX2_isKnown 14 = .ok (.iload_n 2, 1) := by decide +kernel
theorem dX2_isKnown_15 : decode cX2_isKnown 15 = .ok (.if_icmp .gt 7, 3) := by decide +kernel
theorem dX2_isKnown_18 : decode cX2_isKnown 18 = .ok (.iconst 1, 1) := by decide +kernel
theorem dX2_isKnown_19 : decode cX2_isKnown 19 = .ok (.goto 4, 3) := by decide +kernel
theorem dX2_isKnown_22 : decode cX2_isKnown 22 = .ok (.iconst 0, 1) := by decide +kernel
theorem dX2_isKnown_23 : decode cX2_isKnown 23 = .ok (.ireturn, 1) := by decide +kernel
theorem dX2_giver_0 : decode cX2_giver 0 = .ok (.aload_n 0, 1) := by decide +kernel
theorem dX2_giver_1 : decode cX2_giver 1 = .ok (.iload_n 1, 1) := by decide +kernel
theorem dX2_giver_2 : decode cX2_giver 2 = .ok (.invokevirtual 62, 3) := by decide +kernel
theorem dX2_giver_5 : decode cX2_giver 5 = .ok (.ifCond .eq 12, 3) := by decide +kernel
theorem dX2_giver_8 : decode cX2_giver 8 = .ok (.aload_n 0, 1) := by decide +kernel
theorem dX2_giver_9 : decode cX2_giver 9 = .ok (.getfield 9, 3) := by decide +kernel
theorem dX2_giver_12 : decode cX2_giver 12 = .ok (.iload_n 1, 1) := by decide +kernel
theorem dX2_giver_13 : decode cX2_giver 13 = .ok (.iaload, 1) := by decide +kernel
theorem dX2_giver_14 : decode cX2_giver 14 = .ok (.goto 4, 3) := by decide +kernel
theorem dX2_giver_17 : decode cX2_giver 17 = .ok (.iconst (-1), 1) := by decide +kernel
theorem dX2_giver_18 : decode cX2_giver 18 = .ok (.ireturn, 1) := by decide +kernel
theorem dX2_receiver_0 : decode cX2_receiver 0 = .ok (.aload_n 0, 1) := by decide +kernel
theorem dX2_receiver_1 : decode cX2_receiver 1 = .ok (.iload_n 1, 1) := by decide +kernel
theorem dX2_receiver_2 : decode cX2_receiver 2 = .ok (.invokevirtual 62, 3) := by decide +kernel
theorem dX2_receiver_5 : decode cX2_receiver 5 = .ok (.ifCond .eq 12, 3) := by decide +kernel
theorem dX2_receiver_8 : decode cX2_receiver 8 = .ok (.aload_n 0, 1) := by decide +kernel
theorem dX2_receiver_9 : decode cX2_receiver 9 = .ok (.getfield 15, 3) := by decide +kernel
theorem dX2_receiver_12 : decode cX2_receiver 12 = .ok (.iload_n 1, 1) := by decide +kernel
theorem dX2_receiver_13 : decode cX2_receiver 13 = .ok (.iaload, 1) := by decide +kernel
theorem dX2_receiver_14 : decode cX2_receiver 14 = .ok (.goto 4, 3) := by decide +kernel
theorem dX2_receiver_17 : decode cX2_receiver 17 = .ok (.iconst (-1), 1) := by decide +kernel
theorem dX2_receiver_18 : decode cX2_receiver 18 = .ok (.ireturn, 1) := by decide +kernel
theorem dX2_sortOf_0 : decode cX2_sortOf 0 = .ok (.aload_n 0, 1) := by decide +kernel
theorem dX2_sortOf_1 : decode cX2_sortOf 1 = .ok (.iload_n 1, 1) := by decide +kernel
theorem dX2_sortOf_2 : decode cX2_sortOf 2 = .ok (.invokevirtual 62, 3) := by decide +kernel
theorem dX2_sortOf_5 : decode cX2_sortOf 5 = .ok (.ifCond .eq 12, 3) := by decide +kernel
theorem dX2_sortOf_8 : decode cX2_sortOf 8 = .ok (.aload_n 0, 1) := by decide +kernel
theorem dX2_sortOf_9 : decode cX2_sortOf 9 = .ok (.getfield 18, 3) := by decide +kernel
theorem dX2_sortOf_12 : decode cX2_sortOf 12 = .ok (.iload_n 1, 1) := by decide +kernel
theorem dX2_sortOf_13 : decode cX2_sortOf 13 = .ok (.iaload, 1) := by decide +kernel
theorem dX2_sortOf_14 : decode cX2_sortOf 14 = .ok (.goto 4, 3) := by decide +kernel
theorem dX2_sortOf_17 : decode cX2_sortOf 17 = .ok (.iconst (-1), 1) := by decide +kernel
theorem dX2_sortOf_18 : decode cX2_sortOf 18 = .ok (.ireturn, 1) := by decide +kernel
theorem dX2_dayOf_0 : decode cX2_dayOf 0 = .ok (.aload_n 0, 1) := by decide +kernel
theorem dX2_dayOf_1 : decode cX2_dayOf 1 = .ok (.iload_n 1, 1) := by decide +kernel
theorem dX2_dayOf_2 : decode cX2_dayOf 2 = .ok (.invokevirtual 62, 3) := by decide +kernel
theorem dX2_dayOf_5 : decode cX2_dayOf 5 = .ok (.ifCond .eq 12, 3) := by decide +kernel
theorem dX2_dayOf_8 : decode cX2_dayOf 8 = .ok (.aload_n 0, 1) := by decide +kernel
theorem dX2_dayOf_9 : decode cX2_dayOf 9 = .ok (.getfield 21, 3) := by decide +kernel
theorem dX2_dayOf_12 : decode cX2_dayOf 12 = .ok (.iload_n 1, 1) := by decide +kernel
theorem dX2_dayOf_13 : decode cX2_dayOf 13 = .ok (.iaload, 1) := by decide +kernel
theorem dX2_dayOf_14 : decode cX2_dayOf 14 = .ok (.goto 4, 3) := by decide +kernel
theorem dX2_dayOf_17 : decode cX2_dayOf 17 = .ok (.iconst (-1), 1) := by decide +kernel
theorem dX2_dayOf_18 : decode cX2_dayOf 18 = .ok (.ireturn, 1) := by decide +kernel
theorem dX2_isForeign_0 : decode cX2_isForeign 0 = .ok (.aload_n 0, 1) := by decide +kernel
theorem dX2_isForeign_1 : decode cX2_isForeign 1 = .ok (.iload_n 1, 1) := by decide +kernel
theorem dX2_isForeign_2 : decode cX2_isForeign 2 = .ok (.invokevirtual 62, 3) := by decide +kernel
theorem dX2_isForeign_5 : decode cX2_isForeign 5 = .ok (.ifCond .eq 16, 3) := by decide +kernel
theorem dX2_isForeign_8 : decode cX2_isForeign 8 = .ok (.aload_n 0, 1) := by decide +kernel
theorem dX2_isForeign_9 : decode cX2_isForeign 9 = .ok (.getfield 24, 3) := by decide +kernel
theorem dX2_isForeign_12 : decode cX2_isForeign 12 = .ok (.iload_n 1, 1) := by decide +kernel
theorem dX2_isForeign_13 : decode cX2_isForeign 13 = .ok (.baload, 1) := by decide +kernel
theorem dX2_isForeign_14 : decode cX2_isForeign 14 = .ok (.ifCond .eq 7, 3) := by decide +kernel
theorem dX2_isForeign_17 : decode cX2_isForeign 17 = .ok (.iconst 1, 1) := by decide +kernel
theorem dX2_isForeign_18 : decode cX2_isForeign 18 = .ok (.goto 4, 3) := by decide +kernel
theorem dX2_isForeign_21 : decode cX2_isForeign 21 = .ok (.iconst 0, 1) := by decide +kernel
theorem dX2_isForeign_22 : decode cX2_isForeign 22 = .ok (.ireturn, 1) := by decide +kernel
theorem dX2_addWorth_0 : decode cX2_addWorth 0 = .ok (.aload_n 0, 1) := by decide +kernel
theorem dX2_addWorth_1 : decode cX2_addWorth 1 = .ok (.iload_n 1, 1) := by decide +kernel
theorem dX2_addWorth_2 : decode cX2_addWorth 2 = .ok (.invokevirtual 62, 3) := by decide +kernel
theorem dX2_addWorth_5 : decode cX2_addWorth 5 = .ok (.ifCond .eq 20, 3) := by decide +kernel
theorem dX2_addWorth_8 : decode cX2_addWorth 8 = .ok (.aload_n 0, 1) := by decide +kernel
theorem dX2_addWorth_9 : decode cX2_addWorth 9 = .ok (.getfield 66, 3) := by decide +kernel
theorem dX2_addWorth_12 : decode cX2_addWorth 12 = .ok (.ifCond .lt 13, 3) := by decide +kernel
theorem dX2_addWorth_15 : decode cX2_addWorth 15 = .ok (.aload_n 0, 1) := by decide +kernel
theorem dX2_addWorth_16 : decode cX2_addWorth 16 = .ok (.getfield 66, 3) := by decide +kernel
theorem dX2_addWorth_19 : decode cX2_addWorth 19 = .ok (.sipush 200, 3) := by decide +kernel
theorem dX2_addWorth_22 : decode cX2_addWorth 22 = .ok (.if_icmp .lt 5, 3) := by decide +kernel
theorem dX2_addWorth_25 : decode cX2_addWorth 25 = .ok (.iconst 0, 1) := by decide +kernel
theorem dX2_addWorth_26 : decode cX2_addWorth 26 = .ok (.ireturn, 1) := by decide +kernel
theorem dX2_addWorth_27 : decode cX2_addWorth 27 = .ok (.aload_n 0, 1) := by decide +kernel
theorem dX2_addWorth_28 : decode cX2_addWorth 28 = .ok (.getfield 46, 3) := by decide +kernel
theorem dX2_addWorth_31 : decode cX2_addWorth 31 = .ok (.aload_n 0, 1) := by decide +kernel
theorem dX2_addWorth_32 : decode cX2_addWorth 32 = .ok (.getfield 66, 3) := by decide +kernel
theorem dX2_addWorth_35 : decode cX2_addWorth 35 = .ok (.iload_n 1, 1) := by decide +kernel
theorem dX2_addWorth_36 : decode cX2_addWorth 36 = .ok (.iastore, 1) := by decide +kernel
theorem dX2_addWorth_37 : decode cX2_addWorth 37 = .ok (.aload_n 0, 1) := by decide +kernel
theorem dX2_addWorth_38 : decode cX2_addWorth 38 = .ok (.getfield 49, 3) := by decide +kernel
theorem dX2_addWorth_41 : decode cX2_addWorth 41 = .ok (.aload_n 0, 1) := by decide +kernel
theorem dX2_addWorth_42 : decode cX2_addWorth 42 = .ok (.getfield 66, 3) := by decide +kernel
theorem dX2_addWorth_45 : decode cX2_addWorth 45 = .ok (.iload_n 2, 1) := by decide +kernel
theorem dX2_addWorth_46 : decode cX2_addWorth 46 = .ok (.iastore, 1) := by decide +kernel
theorem dX2_addWorth_47 : decode cX2_addWorth 47 = .ok (.aload_n 0, 1) := by decide +kernel
theorem dX2_addWorth_48 : decode cX2_addWorth 48 = .ok (.getfield 52, 3) := by decide +kernel
theorem dX2_addWorth_51 : decode cX2_addWorth 51 = .ok (.aload_n 0, 1) := by decide +kernel
theorem dX2_addWorth_52 : decode cX2_addWorth 52 = .ok (.getfield 66, 3) := by decide +kernel
theorem dX2_addWorth_55 : decode cX2_addWorth 55 = .ok (.iload_n 3, 1) := by decide +kernel
theorem dX2_addWorth_56 : decode cX2_addWorth 56 = .ok (.iastore, 1) := by decide +kernel
theorem dX2_addWorth_57 : decode cX2_addWorth 57 = .ok (.aload_n 0, 1) := by decide +kernel
theorem dX2_addWorth_58 : decode cX2_addWorth 58 = .ok (.getfield 55, 3) := by decide +kernel
theorem dX2_addWorth_61 : decode cX2_addWorth 61 = .ok (.aload_n 0, 1) := by decide +kernel
theorem dX2_addWorth_62 : decode cX2_addWorth 62 = .ok (.getfield 66, 3) := by decide +kernel
theorem dX2_addWorth_65 : decode cX2_addWorth 65 = .ok (.iload 4, 2) := by decide +kernel
theorem dX2_addWorth_67 : decode cX2_addWorth 67 = .ok (.iastore, 1) := by decide +kernel
theorem dX2_addWorth_68 : decode cX2_addWorth 68 = .ok (.aload_n 0, 1) := by decide +kernel
theorem dX2_addWorth_69 : decode cX2_addWorth 69 = .ok (.dup, 1) := by decide +kernel
theorem dX2_addWorth_70 : decode cX2_addWorth 70 = .ok (.getfield 66, 3) := by decide +kernel
theorem dX2_addWorth_73 : decode cX2_addWorth 73 = .ok (.iconst 1, 1) := by decide +kernel
theorem dX2_addWorth_74 : decode cX2_addWorth 74 = .ok (.iadd, 1) := by decide +kernel
theorem dX2_addWorth_75 : decode cX2_addWorth 75 = .ok (.putfield 66, 3) := by decide +kernel
theorem dX2_addWorth_78 : decode cX2_addWorth 78 = .ok (.iconst 1, 1) := by decide +kernel
theorem dX2_addWorth_79 : decode cX2_addWorth 79 = .ok (.ireturn, 1) := by decide +kernel
theorem dX2_latestWorth_0 : decode cX2_latestWorth 0 = .ok (.aload_n 0, 1) := by decide +kernel
theorem dX2_latestWorth_1 : decode cX2_latestWorth 1 = .ok (.getfield 66, 3) := by decide +kernel
theorem dX2_latestWorth_4 : decode cX2_latestWorth 4 = .ok (.sipush 200, 3) := by decide +kernel
theorem dX2_latestWorth_7 : decode cX2_latestWorth 7 = .ok (.invokestatic 69, 3) := by decide +kernel
theorem dX2_latestWorth_10 : decode cX2_latestWorth 10 = .ok (.iconst 1, 1) := by decide +kernel
theorem dX2_latestWorth_11 : decode cX2_latestWorth 11 = .ok (.isub, 1) := by decide +kernel
theorem dX2_latestWorth_12 : decode cX2_latestWorth 12 = .ok (.istore_n 3, 1) := by decide +kernel
theorem dX2_latestWorth_13 : decode cX2_latestWorth 13 = .ok (.iload_n 3, 1) := by decide +kernel
theorem dX2_latestWorth_14 : decode cX2_latestWorth 14 = .ok (.ifCond .lt 31, 3) := by decide +kernel
theorem dX2_latestWorth_17 : decode cX2_latestWorth 17 = .ok (.aload_n 0, 1) := by decide +kernel
theorem dX2_latestWorth_18 : decode cX2_latestWorth 18 = .ok (.getfield 46, 3) := by decide +kernel
theorem dX2_latestWorth_21 : decode cX2_latestWorth 21 = .ok (.iload_n 3, 1) := by decide +kernel
theorem dX2_latestWorth_22 : decode cX2_latestWorth 22 = .ok (.iaload, 1) := by decide +kernel
theorem dX2_latestWorth_23 : decode cX2_latestWorth 23 = .ok (.iload_n 1, 1) := by decide +kernel
theorem dX2_latestWorth_24 : decode cX2_latestWorth 24 = .ok (.if_icmp .ne 15, 3) := by decide +kernel
theorem dX2_latestWorth_27 : decode cX2_latestWorth 27 = .ok (.aload_n 0, 1) := by decide +kernel
theorem dX2_latestWorth_28 : decode cX2_latestWorth 28 = .ok (.getfield 55, 3) := by decide +kernel
theorem dX2_latestWorth_31 : decode cX2_latestWorth 31 = .ok (.iload_n 3, 1) := by decide +kernel
theorem dX2_latestWorth_32 : decode cX2_latestWorth 32 = .ok (.iaload, 1) := by decide +kernel
theorem dX2_latestWorth_33 : decode cX2_latestWorth 33 = .ok (.iload_n 2, 1) := by decide +kernel
theorem dX2_latestWorth_34 : decode cX2_latestWorth 34 = .ok (.if_icmp .gt 5, 3) := by decide +kernel
theorem dX2_latestWorth_37 : decode cX2_latestWorth 37 = .ok (.iload_n 3, 1) := by decide +kernel
theorem dX2_latestWorth_38 : decode cX2_latestWorth 38 = .ok (.ireturn, 1) := by decide +kernel
theorem dX2_latestWorth_39 : decode cX2_latestWorth 39 = .ok (.iinc 3 (-1), 3) := by decide +kernel
theorem dX2_latestWorth_42 : decode cX2_latestWorth 42 = .ok (.goto (-29), 3) := by decide +kernel
theorem dX2_latestWorth_45 : decode cX2_latestWorth 45 = .ok (.iconst (-1), 1) := by decide +kernel
theorem dX2_latestWorth_46 : decode cX2_latestWorth 46 = .ok (.ireturn, 1) := by decide +kernel
theorem dX2_leastOf_0 : decode cX2_leastOf 0 = .ok (.aload_n 0, 1) := by decide +kernel
theorem dX2_leastOf_1 : decode cX2_leastOf 1 = .ok (.iload_n 1, 1) := by decide +kernel
theorem dX2_leastOf_2 : decode cX2_leastOf 2 = .ok (.iload_n 2, 1) := by decide +kernel
theorem dX2_leastOf_3 : decode cX2_leastOf 3 = .ok (.invokevirtual 75, 3) := by decide +kernel
theorem dX2_leastOf_6 : decode cX2_leastOf 6 = .ok (.istore_n 3, 1) := by decide +kernel
theorem dX2_leastOf_7 : decode cX2_leastOf 7 = .ok (.iload_n 3, 1) := by decide +kernel
theorem dX2_leastOf_8 : decode cX2_leastOf 8 = .ok (.ifCond .lt 10, 3) := by decide +kernel
theorem dX2_leastOf_11 : decode cX2_leastOf 11 = .ok (.aload_n 0, 1) := by decide +kernel
theorem dX2_leastOf_12 : decode cX2_leastOf 12 = .ok (.getfield 49, 3) := by decide +kernel
theorem dX2_leastOf_15 : decode cX2_leastOf 15 = .ok (.iload_n 3, 1) := by decide +kernel
theorem dX2_leastOf_16 : decode cX2_leastOf 16 = .ok (.iaload, 1) := by decide +kernel
theorem dX2_leastOf_17 : decode cX2_leastOf 17 = .ok (.ireturn, 1) := by decide +kernel
theorem dX2_leastOf_18 : decode cX2_leastOf 18 = .ok (.aload_n 0, 1) := by decide +kernel
theorem dX2_leastOf_19 : decode cX2_leastOf 19 = .ok (.iload_n 1, 1) := by decide +kernel
theorem dX2_leastOf_20 : decode cX2_leastOf 20 = .ok (.invokevirtual 62, 3) := by decide +kernel
theorem dX2_leastOf_23 : decode cX2_leastOf 23 = .ok (.ifCond .eq 12, 3) := by decide +kernel
theorem dX2_leastOf_26 : decode cX2_leastOf 26 = .ok (.aload_n 0, 1) := by decide +kernel
theorem dX2_leastOf_27 : decode cX2_leastOf 27 = .ok (.getfield 28, 3) := by decide +kernel
theorem dX2_leastOf_30 : decode cX2_leastOf 30 = .ok (.iload_n 1, 1) := by decide +kernel
theorem dX2_leastOf_31 : decode cX2_leastOf 31 = .ok (.iaload, 1) := by decide +kernel
theorem dX2_leastOf_32 : decode cX2_leastOf 32 = .ok (.goto 4, 3) := by decide +kernel
theorem dX2_leastOf_35 : decode cX2_leastOf 35 = .ok (.iconst 0, 1) := by decide +kernel
theorem dX2_leastOf_36 : decode cX2_leastOf 36 = .ok (.ireturn, 1) := by decide +kernel
theorem dX2_mostOf_0 : decode cX2_mostOf 0 = .ok (.aload_n 0, 1) := by decide +kernel
theorem dX2_mostOf_1 : decode cX2_mostOf 1 = .ok (.iload_n 1, 1) := by decide +kernel
theorem dX2_mostOf_2 : decode cX2_mostOf 2 = .ok (.iload_n 2, 1) := by decide +kernel
theorem dX2_mostOf_3 : decode cX2_mostOf 3 = .ok (.invokevirtual 75, 3) := by decide +kernel
theorem dX2_mostOf_6 : decode cX2_mostOf 6 = .ok (.istore_n 3, 1) := by decide +kernel
theorem dX2_mostOf_7 : decode cX2_mostOf 7 = .ok (.iload_n 3, 1) := by decide +kernel
theorem dX2_mostOf_8 : decode cX2_mostOf 8 = .ok (.ifCond .lt 10, 3) := by decide +kernel
theorem dX2_mostOf_11 : decode cX2_mostOf 11 = .ok (.aload_n 0, 1) := by decide +kernel
theorem dX2_mostOf_12 : decode cX2_mostOf 12 = .ok (.getfield 52, 3) := by decide +kernel
theorem dX2_mostOf_15 : decode cX2_mostOf 15 = .ok (.iload_n 3, 1) := by decide +kernel
theorem dX2_mostOf_16 : decode cX2_mostOf 16 = .ok (.iaload, 1) := by decide +kernel
theorem dX2_mostOf_17 : decode cX2_mostOf 17 = .ok (.ireturn, 1) := by decide +kernel
theorem dX2_mostOf_18 : decode cX2_mostOf 18 = .ok (.aload_n 0, 1) := by decide +kernel
theorem dX2_mostOf_19 : decode cX2_mostOf 19 = .ok (.iload_n 1, 1) := by decide +kernel
theorem dX2_mostOf_20 : decode cX2_mostOf 20 = .ok (.invokevirtual 62, 3) := by decide +kernel
theorem dX2_mostOf_23 : decode cX2_mostOf 23 = .ok (.ifCond .eq 12, 3) := by decide +kernel
theorem dX2_mostOf_26 : decode cX2_mostOf 26 = .ok (.aload_n 0, 1) := by decide +kernel
theorem dX2_mostOf_27 : decode cX2_mostOf 27 = .ok (.getfield 31, 3) := by decide +kernel
theorem dX2_mostOf_30 : decode cX2_mostOf 30 = .ok (.iload_n 1, 1) := by decide +kernel
theorem dX2_mostOf_31 : decode cX2_mostOf 31 = .ok (.iaload, 1) := by decide +kernel
theorem dX2_mostOf_32 : decode cX2_mostOf 32 = .ok (.goto 4, 3) := by decide +kernel
theorem dX2_mostOf_35 : decode cX2_mostOf 35 = .ok (.iconst 0, 1) := by decide +kernel
theorem dX2_mostOf_36 : decode cX2_mostOf 36 = .ok (.ireturn, 1) := by decide +kernel
theorem dX2_giveBack_0 : decode cX2_giveBack 0 = .ok (.aload_n 0, 1) := by decide +kernel
theorem dX2_giveBack_1 : decode cX2_giveBack 1 = .ok (.iload_n 1, 1) := by decide +kernel
theorem dX2_giveBack_2 : decode cX2_giveBack 2 = .ok (.invokevirtual 62, 3) := by decide +kernel
theorem dX2_giveBack_5 : decode cX2_giveBack 5 = .ok (.ifCond .eq 23, 3) := by decide +kernel
theorem dX2_giveBack_8 : decode cX2_giveBack 8 = .ok (.iload_n 2, 1) := by decide +kernel
theorem dX2_giveBack_9 : decode cX2_giveBack 9 = .ok (.aload_n 0, 1) := by decide +kernel
theorem dX2_giveBack_10 : decode cX2_giveBack 10 = .ok (.getfield 21, 3) := by decide +kernel
theorem dX2_giveBack_13 : decode cX2_giveBack 13 = .ok (.iload_n 1, 1) := by decide +kernel
theorem dX2_giveBack_14 : decode cX2_giveBack 14 = .ok (.iaload, 1) := by decide +kernel
theorem dX2_giveBack_15 : decode cX2_giveBack 15 = .ok (.if_icmp .lt 13, 3) := by decide +kernel
theorem dX2_giveBack_18 : decode cX2_giveBack 18 = .ok (.aload_n 0, 1) := by decide +kernel
theorem dX2_giveBack_19 : decode cX2_giveBack 19 = .ok (.getfield 37, 3) := by decide +kernel
theorem dX2_giveBack_22 : decode cX2_giveBack 22 = .ok (.iload_n 1, 1) := by decide +kernel
theorem dX2_giveBack_23 : decode cX2_giveBack 23 = .ok (.iaload, 1) := by decide +kernel
theorem dX2_giveBack_24 : decode cX2_giveBack 24 = .ok (.iconst (-1), 1) := by decide +kernel
theorem dX2_giveBack_25 : decode cX2_giveBack 25 = .ok (.if_icmp .eq 5, 3) := by decide +kernel
theorem dX2_giveBack_28 : decode cX2_giveBack 28 = .ok (.iconst 0, 1) := by decide +kernel
theorem dX2_giveBack_29 : decode cX2_giveBack 29 = .ok (.ireturn, 1) := by decide +kernel
theorem dX2_giveBack_30 : decode cX2_giveBack 30 = .ok (.aload_n 0, 1) := by decide +kernel
theorem dX2_giveBack_31 : decode cX2_giveBack 31 = .ok (.getfield 37, 3) := by decide +kernel
theorem dX2_giveBack_34 : decode cX2_giveBack 34 = .ok (.iload_n 1, 1) := by decide +kernel
theorem dX2_giveBack_35 : decode cX2_giveBack 35 = .ok (.iload_n 2, 1) := by decide +kernel
theorem dX2_giveBack_36 : decode cX2_giveBack 36 = .ok (.iastore, 1) := by decide +kernel
theorem dX2_giveBack_37 : decode cX2_giveBack 37 = .ok (.aload_n 0, 1) := by decide +kernel
theorem dX2_giveBack_38 : decode cX2_giveBack 38 = .ok (.getfield 40, 3) := by decide +kernel
theorem dX2_giveBack_41 : decode cX2_giveBack 41 = .ok (.iload_n 1, 1) := by decide +kernel
theorem dX2_giveBack_42 : decode cX2_giveBack 42 = .ok (.iload_n 3, 1) := by decide +kernel
theorem dX2_giveBack_43 : decode cX2_giveBack 43 = .ok (.iastore, 1) := by decide +kernel
theorem dX2_giveBack_44 : decode cX2_giveBack 44 = .ok (.iconst 1, 1) := by decide +kernel
theorem dX2_giveBack_45 : decode cX2_giveBack 45 = .ok (.ireturn, 1) := by decide +kernel
theorem dX2_backOn_0 : decode cX2_backOn 0 = .ok (.aload_n 0, 1) := by decide +kernel
theorem dX2_backOn_1 : decode cX2_backOn 1 = .ok (.iload_n 1, 1) := by decide +kernel
theorem dX2_backOn_2 : decode cX2_backOn 2 = .ok (.invokevirtual 62, 3) := by decide +kernel
theorem dX2_backOn_5 : decode cX2_backOn 5 = .ok (.ifCond .eq 32, 3) := by decide +kernel
theorem dX2_backOn_8 : decode cX2_backOn 8 = .ok (.aload_n 0, 1) := by decide +kernel
theorem dX2_backOn_9 : decode cX2_backOn 9 = .ok (.getfield 37, 3) := by decide +kernel
theorem dX2_backOn_12 : decode cX2_backOn 12 = .ok (.iload_n 1, 1) := by decide +kernel
theorem dX2_backOn_13 : decode cX2_backOn 13 = .ok (.iaload, 1) := by decide +kernel
theorem dX2_backOn_14 : decode cX2_backOn 14 = .ok (.iconst (-1), 1) := by decide +kernel
theorem dX2_backOn_15 : decode cX2_backOn 15 = .ok (.if_icmp .eq 22, 3) := by decide +kernel
theorem dX2_backOn_18 : decode cX2_backOn 18 = .ok (.aload_n 0, 1) := by decide +kernel
theorem dX2_backOn_19 : decode cX2_backOn 19 = .ok (.getfield 40, 3) := by decide +kernel
theorem dX2_backOn_22 : decode cX2_backOn 22 = .ok (.iload_n 1, 1) := by decide +kernel
theorem dX2_backOn_23 : decode cX2_backOn 23 = .ok (.iaload, 1) := by decide +kernel
theorem dX2_backOn_24 : decode cX2_backOn 24 = .ok (.iload_n 2, 1) := by decide +kernel
theorem dX2_backOn_25 : decode cX2_backOn 25 = .ok (.if_icmp .gt 12, 3) := by decide +kernel
theorem dX2_backOn_28 : decode cX2_backOn 28 = .ok (.aload_n 0, 1) := by decide +kernel
theorem dX2_backOn_29 : decode cX2_backOn 29 = .ok (.getfield 37, 3) := by decide +kernel
theorem dX2_backOn_32 : decode cX2_backOn 32 = .ok (.iload_n 1, 1) := by decide +kernel
theorem dX2_backOn_33 : decode cX2_backOn 33 = .ok (.iaload, 1) := by decide +kernel
theorem dX2_backOn_34 : decode cX2_backOn 34 = .ok (.goto 4, 3) := by decide +kernel
theorem dX2_backOn_37 : decode cX2_backOn 37 = .ok (.iconst (-1), 1) := by decide +kernel
theorem dX2_backOn_38 : decode cX2_backOn 38 = .ok (.ireturn, 1) := by decide +kernel
theorem dX2_isBackBy_0 : decode cX2_isBackBy 0 = .ok (.aload_n 0, 1) := by decide +kernel
theorem dX2_isBackBy_1 : decode cX2_isBackBy 1 = .ok (.iload_n 1, 1) := by decide +kernel
theorem dX2_isBackBy_2 : decode cX2_isBackBy 2 = .ok (.iload_n 3, 1) := by decide +kernel
theorem dX2_isBackBy_3 : decode cX2_isBackBy 3 = .ok (.invokevirtual 78, 3) := by decide +kernel
theorem dX2_isBackBy_6 : decode cX2_isBackBy 6 = .ok (.istore 4, 2) := by decide +kernel
theorem dX2_isBackBy_8 : decode cX2_isBackBy 8 = .ok (.iload 4, 2) := by decide +kernel
theorem dX2_isBackBy_10 : decode cX2_isBackBy 10 = .ok (.iconst (-1), 1) := by decide +kernel
theorem dX2_isBackBy_11 : decode cX2_isBackBy 11 = .ok (.if_icmp .eq 13, 3) := by decide +kernel
theorem dX2_isBackBy_14 : decode cX2_isBackBy 14 = .ok (.iload 4, 2) := by decide +kernel
theorem dX2_isBackBy_16 : decode cX2_isBackBy 16 = .ok (.iload_n 2, 1) := by decide +kernel
theorem dX2_isBackBy_17 : decode cX2_isBackBy 17 = .ok (.if_icmp .gt 7, 3) := by decide +kernel
theorem dX2_isBackBy_20 : decode cX2_isBackBy 20 = .ok (.iconst 1, 1) := by decide +kernel
theorem dX2_isBackBy_21 : decode cX2_isBackBy 21 = .ok (.goto 4, 3) := by decide +kernel
theorem dX2_isBackBy_24 : decode cX2_isBackBy 24 = .ok (.iconst 0, 1) := by decide +kernel
theorem dX2_isBackBy_25 : decode cX2_isBackBy 25 = .ok (.ireturn, 1) := by decide +kernel
theorem dX2_noteTold_0 : decode cX2_noteTold 0 = .ok (.aload_n 0, 1) := by decide +kernel
theorem dX2_noteTold_1 : decode cX2_noteTold 1 = .ok (.iload_n 1, 1) := by decide +kernel
theorem dX2_noteTold_2 : decode cX2_noteTold 2 = .ok (.invokevirtual 62, 3) := by decide +kernel
theorem dX2_noteTold_5 : decode cX2_noteTold 5 = .ok (.ifCond .eq 13, 3) := by decide +kernel
theorem dX2_noteTold_8 : decode cX2_noteTold 8 = .ok (.aload_n 0, 1) := by decide +kernel
theorem dX2_noteTold_9 : decode cX2_noteTold 9 = .ok (.getfield 43, 3) := by decide +kernel
theorem dX2_noteTold_12 : decode cX2_noteTold 12 = .ok (.iload_n 1, 1) := by decide +kernel
theorem dX2_noteTold_13 : decode cX2_noteTold 13 = .ok (.iaload, 1) := by decide +kernel
theorem dX2_noteTold_14 : decode cX2_noteTold 14 = .ok (.iconst (-1), 1) := by decide +kernel
theorem dX2_noteTold_15 : decode cX2_noteTold 15 = .ok (.if_icmp .eq 5, 3) := by decide +kernel
theorem dX2_noteTold_18 : decode cX2_noteTold 18 = .ok (.iconst 0, 1) := by decide +kernel
theorem dX2_noteTold_19 : decode cX2_noteTold 19 = .ok (.ireturn, 1) := by decide +kernel
theorem dX2_noteTold_20 : decode cX2_noteTold 20 = .ok (.aload_n 0, 1) := by decide +kernel
theorem dX2_noteTold_21 : decode cX2_noteTold 21 = .ok (.getfield 43, 3) := by decide +kernel
theorem dX2_noteTold_24 : decode cX2_noteTold 24 = .ok (.iload_n 1, 1) := by decide +kernel
theorem dX2_noteTold_25 : decode cX2_noteTold 25 = .ok (.iload_n 2, 1) := by decide +kernel
theorem dX2_noteTold_26 : decode cX2_noteTold 26 = .ok (.iastore, 1) := by decide +kernel
theorem dX2_noteTold_27 : decode cX2_noteTold 27 = .ok (.iconst 1, 1) := by decide +kernel
theorem dX2_noteTold_28 : decode cX2_noteTold 28 = .ok (.ireturn, 1) := by decide +kernel
theorem dX2_toldOn_0 : decode cX2_toldOn 0 = .ok (.aload_n 0, 1) := by decide +kernel
theorem dX2_toldOn_1 : decode cX2_toldOn 1 = .ok (.iload_n 1, 1) := by decide +kernel
theorem dX2_toldOn_2 : decode cX2_toldOn 2 = .ok (.invokevirtual 62, 3) := by decide +kernel
theorem dX2_toldOn_5 : decode cX2_toldOn 5 = .ok (.ifCond .eq 22, 3) := by decide +kernel
theorem dX2_toldOn_8 : decode cX2_toldOn 8 = .ok (.aload_n 0, 1) := by decide +kernel
theorem dX2_toldOn_9 : decode cX2_toldOn 9 = .ok (.getfield 43, 3) := by decide +kernel
theorem dX2_toldOn_12 : decode cX2_toldOn 12 = .ok (.iload_n 1, 1) := by decide +kernel
theorem dX2_toldOn_13 : decode cX2_toldOn 13 = .ok (.iaload, 1) := by decide +kernel
theorem dX2_toldOn_14 : decode cX2_toldOn 14 = .ok (.iload_n 2, 1) := by decide +kernel
theorem dX2_toldOn_15 : decode cX2_toldOn 15 = .ok (.if_icmp .gt 12, 3) := by decide +kernel
theorem dX2_toldOn_18 : decode cX2_toldOn 18 = .ok (.aload_n 0, 1) := by decide +kernel
theorem dX2_toldOn_19 : decode cX2_toldOn 19 = .ok (.getfield 43, 3) := by decide +kernel
theorem dX2_toldOn_22 : decode cX2_toldOn 22 = .ok (.iload_n 1, 1) := by decide +kernel
theorem dX2_toldOn_23 : decode cX2_toldOn 23 = .ok (.iaload, 1) := by decide +kernel
theorem dX2_toldOn_24 : decode cX2_toldOn 24 = .ok (.goto 4, 3) := by decide +kernel
theorem dX2_toldOn_27 : decode cX2_toldOn 27 = .ok (.iconst (-1), 1) := by decide +kernel
theorem dX2_toldOn_28 : decode cX2_toldOn 28 = .ok (.ireturn, 1) := by decide +kernel
theorem dX3_init_0 : decode cX3_init 0 = .ok (.aload_n 0, 1) := by decide +kernel
theorem dX3_init_1 : decode cX3_init 1 = .ok (.invokespecial 3, 3) := by decide +kernel
theorem dX3_init_4 : decode cX3_init 4 = .ok (.aload_n 0, 1) := by decide +kernel
theorem dX3_init_5 : decode cX3_init 5 = .ok (.bipush 14, 2) := by decide +kernel
theorem dX3_init_7 : decode cX3_init 7 = .ok (.newarray .int, 2) := by decide +kernel
theorem dX3_init_9 : decode cX3_init 9 = .ok (.putfield 9, 3) := by decide +kernel
theorem dX3_init_12 : decode cX3_init 12 = .ok (.aload_n 0, 1) := by decide +kernel
theorem dX3_init_13 : decode cX3_init 13 = .ok (.aload_n 1, 1) := by decide +kernel
theorem dX3_init_14 : decode cX3_init 14 = .ok (.putfield 15, 3) := by decide +kernel
theorem dX3_init_17 : decode cX3_init 17 = .ok (.aload_n 0, 1) := by decide +kernel
theorem dX3_init_18 : decode cX3_init 18 = .ok (.aload_n 2, 1) := by decide +kernel
theorem dX3_init_19 : decode cX3_init 19 = .ok (.putfield 19, 3) := by decide +kernel
theorem dX3_init_22 : decode cX3_init 22 = .ok (.aload_n 0, 1) := by decide +kernel
theorem dX3_init_23 : decode cX3_init 23 = .ok (.aload_n 3, 1) := by decide +kernel
theorem dX3_init_24 : decode cX3_init 24 = .ok (.putfield 23, 3) := by decide +kernel
theorem dX3_init_27 : decode cX3_init 27 = .ok (.aload_n 0, 1) := by decide +kernel
theorem dX3_init_28 : decode cX3_init 28 = .ok (.aload 4, 2) := by decide +kernel
theorem dX3_init_30 : decode cX3_init 30 = .ok (.putfield 27, 3) := by decide +kernel
theorem dX3_init_33 : decode cX3_init 33 = .ok (.aload_n 0, 1) := by decide +kernel
theorem dX3_init_34 : decode cX3_init 34 = .ok (.aload 5, 2) := by decide +kernel
theorem dX3_init_36 : decode cX3_init 36 = .ok (.putfield 31, 3) := by decide +kernel
theorem dX3_init_39 : decode cX3_init 39 = .ok (.aload_n 0, 1) := by decide +kernel
theorem dX3_init_40 : decode cX3_init 40 = .ok (.aload 6, 2) := by decide +kernel
theorem dX3_init_42 : decode cX3_init 42 = .ok (.putfield 35, 3) := by decide +kernel
theorem dX3_init_45 : decode cX3_init 45 = .ok (.return_, 1) := by decide +kernel
theorem dX3_answerFor_0 : decode cX3_answerFor 0 = .ok (.aload_n 0, 1) := by decide +kernel
theorem dX3_answerFor_1 : decode cX3_answerFor 1 = .ok (.iload_n 1, 1) := by decide +kernel
theorem dX3_answerFor_2 : decode cX3_answerFor 2 = .ok (.iload_n 2, 1) := by decide +kernel
theorem dX3_answerFor_3 : decode cX3_answerFor 3 = .ok (.invokevirtual 39, 3) := by decide +kernel
theorem dX3_answerFor_6 : decode cX3_answerFor 6 = .ok (.iload_n 3, 1) := by decide +kernel
theorem dX3_answerFor_7 : decode cX3_answerFor 7 = .ok (.tableswitch 70 0 7 #[45, 52, 57, 70, 70, 70, 70, 62], 45) := by decide +kernel
theorem dX3_answerFor_52 : decode cX3_answerFor 52 = .ok (.aload_n 0, 1) := by decide +kernel
theorem dX3_answerFor_53 : decode cX3_answerFor 53 = .ok (.iload_n 1, 1) := by decide +kernel
theorem dX3_answerFor_54 : decode cX3_answerFor 54 = .ok (.iload_n 2, 1) := by decide +kernel
theorem dX3_answerFor_55 : decode cX3_answerFor 55 = .ok (.invokevirtual 43, 3) := by decide +kernel
theorem dX3_answerFor_58 : decode cX3_answerFor 58 = .ok (.ireturn, 1) := by decide +kernel
theorem dX3_answerFor_59 : decode cX3_answerFor 59 = .ok (.aload_n 0, 1) := by decide +kernel
theorem dX3_answerFor_60 : decode cX3_answerFor 60 = .ok (.getfield 47, 3) := by decide +kernel
theorem dX3_answerFor_63 : decode cX3_answerFor 63 = .ok (.ireturn, 1) := by decide +kernel
theorem dX3_answerFor_64 : decode cX3_answerFor 64 = .ok (.aload_n 0, 1) := by decide +kernel
theorem dX3_answerFor_65 : decode cX3_answerFor 65 = .ok (.getfield 51, 3) := by decide +kernel
theorem dX3_answerFor_68 : decode cX3_answerFor 68 = .ok (.ireturn, 1) := by decide +kernel
theorem dX3_answerFor_69 : decode cX3_answerFor 69 = .ok (.aload_n 0, 1) := by decide +kernel
theorem dX3_answerFor_70 : decode cX3_answerFor 70 = .ok (.getfield 9, 3) := by decide +kernel
theorem dX3_answerFor_73 : decode cX3_answerFor 73 = .ok (.bipush 9, 2) := by decide +kernel
theorem dX3_answerFor_75 : decode cX3_answerFor 75 = .ok (.iaload, 1) := by decide +kernel
theorem dX3_answerFor_76 : decode cX3_answerFor 76 = .ok (.ireturn, 1) := by decide +kernel
theorem dX3_answerFor_77 : decode cX3_answerFor 77 = .ok (.aload_n 0, 1) := by decide +kernel
theorem dX3_answerFor_78 : decode cX3_answerFor 78 = .ok (.getfield 9, 3) := by decide +kernel
theorem dX3_answerFor_81 : decode cX3_answerFor 81 = .ok (.bipush 10, 2) := by decide +kernel
theorem dX3_answerFor_83 : decode cX3_answerFor 83 = .ok (.iaload, 1) := by decide +kernel
theorem dX3_answerFor_84 : decode cX3_answerFor 84 = .ok (.ireturn, 1) := by decide +kernel
theorem dX3_recordOf_0 : decode cX3_recordOf 0 = .ok (.iconst 0, 1) := by decide +kernel
theorem dX3_recordOf_1 : decode cX3_recordOf 1 = .ok (.istore 4, 2) := by decide +kernel
theorem dX3_recordOf_3 : decode cX3_recordOf 3 = .ok (.iconst 0, 1) := by decide +kernel
theorem dX3_recordOf_4 : decode cX3_recordOf 4 = .ok (.istore 5, 2) := by decide +kernel
theorem dX3_recordOf_6 : decode cX3_recordOf 6 = .ok (.iload 5, 2) := by decide +kernel
theorem dX3_recordOf_8 : decode cX3_recordOf 8 = .ok (.aload_n 0, 1) := by decide +kernel
theorem dX3_recordOf_9 : decode cX3_recordOf 9 = .ok (.getfield 31, 3) := by decide +kernel
theorem dX3_recordOf_12 : decode cX3_recordOf 12 = .ok (.invokevirtual 54, 3) := by decide +kernel
theorem dX3_recordOf_15 : decode cX3_recordOf 15 = .ok (.if_icmp .ge 154, 3) := by decide +kernel
theorem dX3_recordOf_18 : decode cX3_recordOf 18 = .ok (.aload_n 0, 1) := by decide +kernel
theorem dX3_recordOf_19 : decode cX3_recordOf 19 = .ok (.getfield 31, 3) := by decide +kernel
theorem dX3_recordOf_22 : decode cX3_recordOf 22 = .ok (.iload 5, 2) := by decide +kernel
theorem dX3_recordOf_24 : decode cX3_recordOf 24 = .ok (.iload_n 2, 1) := by decide +kernel
theorem dX3_recordOf_25 : decode cX3_recordOf 25 = .ok (.invokevirtual 60, 3) := by decide +kernel
theorem dX3_recordOf_28 : decode cX3_recordOf 28 = .ok (.ifCond .eq 135, 3) := by decide +kernel
theorem dX3_recordOf_31 : decode cX3_recordOf 31 = .ok (.aload_n 0, 1) := by decide +kernel
theorem dX3_recordOf_32 : decode cX3_recordOf 32 = .ok (.getfield 31, 3) := by decide +kernel
theorem dX3_recordOf_35 : decode cX3_recordOf 35 = .ok (.iload 5, 2) := by decide +kernel
theorem dX3_recordOf_37 : decode cX3_recordOf 37 = .ok (.invokevirtual 64, 3) := by decide +kernel
theorem dX3_recordOf_40 : decode cX3_recordOf 40 = .ok (.iload_n 1, 1) := by decide +kernel
theorem dX3_recordOf_41 : decode cX3_recordOf 41 = .ok (.if_icmp .eq 6, 3) := by decide +kernel
theorem dX3_recordOf_44 : decode cX3_recordOf 44 = .ok (.goto 119, 3) := by decide +kernel
theorem dX3_recordOf_47 : decode cX3_recordOf 47 = .ok (.aload_n 0, 1) := by decide +kernel
theorem dX3_recordOf_48 : decode cX3_recordOf 48 = .ok (.getfield 31, 3) := by decide +kernel
theorem dX3_recordOf_51 : decode cX3_recordOf 51 = .ok (.iload 5, 2) := by decide +kernel
theorem dX3_recordOf_53 : decode cX3_recordOf 53 = .ok (.iload_n 2, 1) := by decide +kernel
theorem dX3_recordOf_54 : decode cX3_recordOf 54 = .ok (.invokevirtual 68, 3) := by decide +kernel
theorem dX3_recordOf_57 : decode cX3_recordOf 57 = .ok (.iconst (-1), 1) := by decide +kernel
theorem dX3_recordOf_58 : decode cX3_recordOf 58 = .ok (.if_icmp .eq 7, 3) := by decide +kernel
theorem dX3_recordOf_61 : decode cX3_recordOf 61 = .ok (.iconst 1, 1) := by decide +kernel
theorem dX3_recordOf_62 : decode cX3_recordOf 62 = .ok (.goto 4, 3) := by decide +kernel
theorem dX3_recordOf_65 : decode cX3_recordOf 65 = .ok (.iconst 0, 1) := by decide +kernel
theorem dX3_recordOf_66 : decode cX3_recordOf 66 = .ok (.istore 6, 2) := by decide +kernel
theorem dX3_recordOf_68 : decode cX3_recordOf 68 = .ok (.iload_n 3, 1) := by decide +kernel
theorem dX3_recordOf_69 : decode cX3_recordOf 69 = .ok (.ifCond .eq 13, 3) := by decide +kernel
theorem dX3_recordOf_72 : decode cX3_recordOf 72 = .ok (.iload_n 3, 1) := by decide +kernel
theorem dX3_recordOf_73 : decode cX3_recordOf 73 = .ok (.iconst 1, 1) := by decide +kernel
theorem dX3_recordOf_74 : decode cX3_recordOf 74 = .ok (.if_icmp .ne 14, 3) := by decide +kernel
theorem dX3_recordOf_77 : decode cX3_recordOf 77 = .ok (.iload 6, 2) := by decide +kernel
theorem dX3_recordOf_79 : decode cX3_recordOf 79 = .ok (.ifCond .eq 9, 3) := by decide +kernel
theorem dX3_recordOf_82 : decode cX3_recordOf 82 = .ok (.iinc 4 1, 3) := by decide +kernel
theorem dX3_recordOf_85 : decode cX3_recordOf 85 = .ok (.goto 78, 3) := by decide +kernel
theorem dX3_recordOf_88 : decode cX3_recordOf 88 = .ok (.iload_n 3, 1) := by decide +kernel
theorem dX3_recordOf_89 : decode cX3_recordOf 89 = .ok (.iconst 4, 1) := by decide +kernel
theorem dX3_recordOf_90 : decode cX3_recordOf 90 = .ok (.if_icmp .ne 26, 3) := by decide +kernel
theorem dX3_recordOf_93 : decode cX3_recordOf 93 = .ok (.iload 6, 2) := by decide +kernel
theorem dX3_recordOf_95 : decode cX3_recordOf 95 = .ok (.ifCond .eq 21, 3) := by decide +kernel
theorem dX3_recordOf_98 : decode cX3_recordOf 98 = .ok (.iload 4, 2) := by decide +kernel
theorem dX3_recordOf_100 : decode cX3_recordOf 100 = .ok (.aload_n 0, 1) := by decide +kernel
theorem dX3_recordOf_101 : decode cX3_recordOf 101 = .ok (.getfield 31, 3) := by decide +kernel
theorem dX3_recordOf_104 : decode cX3_recordOf 104 = .ok (.iload 5, 2) := by decide +kernel
theorem dX3_recordOf_106 : decode cX3_recordOf 106 = .ok (.iload_n 2, 1) := by decide +kernel
theorem dX3_recordOf_107 : decode cX3_recordOf 107 = .ok (.invokevirtual 71, 3) := by decide +kernel
theorem dX3_recordOf_110 : decode cX3_recordOf 110 = .ok (.iadd, 1) := by decide +kernel
theorem dX3_recordOf_111 : decode cX3_recordOf 111 = .ok (.istore 4, 2) := by decide +kernel
theorem dX3_recordOf_113 : decode cX3_recordOf 113 = .ok (.goto 50, 3) := by decide +kernel
theorem dX3_recordOf_116 : decode cX3_recordOf 116 = .ok (.iload_n 3, 1) := by decide +kernel
theorem dX3_recordOf_117 : decode cX3_recordOf 117 = .ok (.iconst 2, 1) := by decide +kernel
theorem dX3_recordOf_118 : decode cX3_recordOf 118 = .ok (.if_icmp .eq 8, 3) := by decide +kernel
theorem dX3_recordOf_121 : decode cX3_recordOf 121 = .ok (.iload_n 3, 1) := by decide +kernel
theorem dX3_recordOf_122 : decode cX3_recordOf 122 = .ok (.iconst 3, 1) := by decide +kernel
theorem dX3_recordOf_123 : decode cX3_recordOf 123 = .ok (.if_icmp .ne 40, 3) := by decide +kernel
theorem dX3_recordOf_126 : decode cX3_recordOf 126 = .ok (.aload_n 0, 1) := by decide +kernel
theorem dX3_recordOf_127 : decode cX3_recordOf 127 = .ok (.iload 5, 2) := by decide +kernel
theorem dX3_recordOf_129 : decode cX3_recordOf 129 = .ok (.iload_n 2, 1) := by decide +kernel
theorem dX3_recordOf_130 : decode cX3_recordOf 130 = .ok (.invokevirtual 39, 3) := by decide +kernel
theorem dX3_recordOf_133 : decode cX3_recordOf 133 = .ok (.iload 4, 2) := by decide +kernel
theorem dX3_recordOf_135 : decode cX3_recordOf 135 = .ok (.aload_n 0, 1) := by decide +kernel
theorem dX3_recordOf_136 : decode cX3_recordOf 136 = .ok (.iload 5, 2) := by decide +kernel
theorem dX3_recordOf_138 : decode cX3_recordOf 138 = .ok (.iload_n 2, 1) := by decide +kernel
theorem dX3_recordOf_139 : decode cX3_recordOf 139 = .ok (.invokevirtual 43, 3) := by decide +kernel
theorem dX3_recordOf_142 : decode cX3_recordOf 142 = .ok (.iload_n 3, 1) := by decide +kernel
theorem dX3_recordOf_143 : decode cX3_recordOf 143 = .ok (.iconst 2, 1) := by decide +kernel
theorem dX3_recordOf_144 : decode cX3_recordOf 144 = .ok (.if_icmp .ne 7, 3) := by decide +kernel
theorem dX3_recordOf_147 : decode cX3_recordOf 147 = .ok (.iconst 2, 1) := by decide +kernel
theorem dX3_recordOf_148 : decode cX3_recordOf 148 = .ok (.goto 4, 3) := by decide +kernel
theorem dX3_recordOf_151 : decode cX3_recordOf 151 = .ok (.iconst 4, 1) := by decide +kernel
theorem dX3_recordOf_152 : decode cX3_recordOf 152 = .ok (.if_icmp .ne 7, 3) := by decide +kernel
theorem dX3_recordOf_155 : decode cX3_recordOf 155 = .ok (.iconst 1, 1) := by decide +kernel
theorem dX3_recordOf_156 : decode cX3_recordOf 156 = .ok (.goto 4, 3) := by decide +kernel
theorem dX3_recordOf_159 : decode cX3_recordOf 159 = .ok (.iconst 0, 1) := by decide +kernel
theorem dX3_recordOf_160 : decode cX3_recordOf 160 = .ok (.iadd, 1) := by decide +kernel
theorem dX3_recordOf_161 : decode cX3_recordOf 161 = .ok (.istore 4, 2) := by decide +kernel
theorem dX3_recordOf_163 : decode cX3_recordOf 163 = .ok (.iinc 5 1, 3) := by decide +kernel
theorem dX3_recordOf_166 : decode cX3_recordOf 166 = .ok (.goto (-160), 3) := by decide +kernel
theorem dX3_recordOf_169 : decode cX3_recordOf 169 = .ok (.iload 4, 2) := by decide +kernel
theorem dX3_recordOf_171 : decode cX3_recordOf 171 = .ok (.ireturn, 1) := by decide +kernel
theorem dX3_stateOf_0 : decode cX3_stateOf 0 = .ok (.aload_n 0, 1) := by decide +kernel
theorem dX3_stateOf_1 : decode cX3_stateOf 1 = .ok (.getfield 47, 3) := by decide +kernel
theorem dX3_stateOf_4 : decode cX3_stateOf 4 = .ok (.iconst (-1), 1) := by decide +kernel
theorem dX3_stateOf_5 : decode cX3_stateOf 5 = .ok (.if_icmp .ne 5, 3) := by decide +kernel
theorem dX3_stateOf_8 : decode cX3_stateOf 8 = .ok (.iconst 0, 1) := by decide +kernel
theorem dX3_stateOf_9 : decode cX3_stateOf 9 = .ok (.ireturn, 1) := by decide +kernel
theorem dX3_stateOf_10 : decode cX3_stateOf 10 = .ok (.aload_n 0, 1) := by decide +kernel
theorem dX3_stateOf_11 : decode cX3_stateOf 11 = .ok (.getfield 31, 3) := by decide +kernel
theorem dX3_stateOf_14 : decode cX3_stateOf 14 = .ok (.iload_n 1, 1) := by decide +kernel
theorem dX3_stateOf_15 : decode cX3_stateOf 15 = .ok (.iload_n 2, 1) := by decide +kernel
theorem dX3_stateOf_16 : decode cX3_stateOf 16 = .ok (.invokevirtual 68, 3) := by decide +kernel
theorem dX3_stateOf_19 : decode cX3_stateOf 19 = .ok (.istore_n 3, 1) := by decide +kernel
theorem dX3_stateOf_20 : decode cX3_stateOf 20 = .ok (.iload_n 3, 1) := by decide +kernel
theorem dX3_stateOf_21 : decode cX3_stateOf 21 = .ok (.iconst (-1), 1) := by decide +kernel
theorem dX3_stateOf_22 : decode cX3_stateOf 22 = .ok (.if_icmp .eq 17, 3) := by decide +kernel
theorem dX3_stateOf_25 : decode cX3_stateOf 25 = .ok (.iload_n 3, 1) := by decide +kernel
theorem dX3_stateOf_26 : decode cX3_stateOf 26 = .ok (.aload_n 0, 1) := by decide +kernel
theorem dX3_stateOf_27 : decode cX3_stateOf 27 = .ok (.getfield 51, 3) := by decide +kernel
theorem dX3_stateOf_30 : decode cX3_stateOf 30 = .ok (.if_icmp .gt 7, 3) := by decide +kernel
theorem dX3_stateOf_33 : decode cX3_stateOf 33 = .ok (.iconst 1, 1) := by decide +kernel
theorem dX3_stateOf_34 : decode cX3_stateOf 34 = .ok (.goto 4, 3) := by decide +kernel
theorem dX3_stateOf_37 : decode cX3_stateOf 37 = .ok (.iconst 2, 1) := by decide +kernel
theorem dX3_stateOf_38 : decode cX3_stateOf 38 = .ok (.ireturn, 1) := by decide +kernel
theorem dX3_stateOf_39 : decode cX3_stateOf 39 = .ok (.iload_n 2, 1) := by decide +kernel
theorem dX3_stateOf_40 : decode cX3_stateOf 40 = .ok (.aload_n 0, 1) := by decide +kernel
theorem dX3_stateOf_41 : decode cX3_stateOf 41 = .ok (.getfield 51, 3) := by decide +kernel
theorem dX3_stateOf_44 : decode cX3_stateOf 44 = .ok (.if_icmp .gt 7, 3) := by decide +kernel
theorem dX3_stateOf_47 : decode cX3_stateOf 47 = .ok (.iconst 3, 1) := by decide +kernel
theorem dX3_stateOf_48 : decode cX3_stateOf 48 = .ok (.goto 4, 3) := by decide +kernel
theorem dX3_stateOf_51 : decode cX3_stateOf 51 = .ok (.iconst 4, 1) := by decide +kernel
theorem dX3_stateOf_52 : decode cX3_stateOf 52 = .ok (.ireturn, 1) := by decide +kernel
theorem dX3_decide_0 : decode cX3_decide 0 = .ok (.aload_n 0, 1) := by decide +kernel
theorem dX3_decide_1 : decode cX3_decide 1 = .ok (.getfield 31, 3) := by decide +kernel
theorem dX3_decide_4 : decode cX3_decide 4 = .ok (.iload_n 1, 1) := by decide +kernel
theorem dX3_decide_5 : decode cX3_decide 5 = .ok (.invokevirtual 74, 3) := by decide +kernel
theorem dX3_decide_8 : decode cX3_decide 8 = .ok (.istore_n 3, 1) := by decide +kernel
theorem dX3_decide_9 : decode cX3_decide 9 = .ok (.aload_n 0, 1) := by decide +kernel
theorem dX3_decide_10 : decode cX3_decide 10 = .ok (.getfield 31, 3) := by decide +kernel
theorem dX3_decide_13 : decode cX3_decide 13 = .ok (.iload_n 1, 1) := by decide +kernel
theorem dX3_decide_14 : decode cX3_decide 14 = .ok (.invokevirtual 64, 3) := by decide +kernel
theorem dX3_decide_17 : decode cX3_decide 17 = .ok (.istore 4, 2) := by decide +kernel
theorem dX3_decide_19 : decode cX3_decide 19 = .ok (.aload_n 0, 1) := by decide +kernel
theorem dX3_decide_20 : decode cX3_decide 20 = .ok (.getfield 31, 3) := by decide +kernel
theorem dX3_decide_23 : decode cX3_decide 23 = .ok (.iload_n 1, 1) := by decide +kernel
theorem dX3_decide_24 : decode cX3_decide 24 = .ok (.invokevirtual 77, 3) := by decide +kernel
theorem dX3_decide_27 : decode cX3_decide 27 = .ok (.istore 5, 2) := by decide +kernel
theorem dX3_decide_29 : decode cX3_decide 29 = .ok (.aload_n 0, 1) := by decide +kernel
theorem dX3_decide_30 : decode cX3_decide 30 = .ok (.getfield 35, 3) := by decide +kernel
theorem dX3_decide_33 : decode cX3_decide 33 = .ok (.iload_n 3, 1) := by decide +kernel
theorem dX3_decide_34 : decode cX3_decide 34 = .ok (.iload_n 2, 1) := by decide +kernel
theorem dX3_decide_35 : decode cX3_decide 35 = .ok (.invokevirtual 80, 3) := by decide +kernel
theorem dX3_decide_38 : decode cX3_decide 38 = .ok (.astore 6, 2) := by decide +kernel
theorem dX3_decide_40 : decode cX3_decide 40 = .ok (.aload_n 0, 1) := by decide +kernel
theorem dX3_decide_41 : decode cX3_decide 41 = .ok (.getfield 9, 3) := by decide +kernel
theorem dX3_decide_44 : decode cX3_decide 44 = .ok (.iconst 0, 1) := by decide +kernel
theorem dX3_decide_45 : decode cX3_decide 45 = .ok (.invokestatic 86, 3) := by decide +kernel
theorem dX3_decide_48 : decode cX3_decide 48 = .ok (.aload_n 0, 1) := by decide +kernel
theorem dX3_decide_49 : decode cX3_decide 49 = .ok (.iload 4, 2) := by decide +kernel
theorem dX3_decide_51 : decode cX3_decide 51 = .ok (.iload 5, 2) := by decide +kernel
theorem dX3_decide_53 : decode cX3_decide 53 = .ok (.iload_n 3, 1) := by decide +kernel
theorem dX3_decide_54 : decode cX3_decide 54 = .ok (.iload_n 2, 1) := by decide +kernel
theorem dX3_decide_55 : decode cX3_decide 55 = .ok (.aload 6, 2) := by decide +kernel
theorem dX3_decide_57 : decode cX3_decide 57 = .ok (.invokevirtual 92, 3) := by decide +kernel
theorem dX3_decide_60 : decode cX3_decide 60 = .ok (.aload_n 0, 1) := by decide +kernel
theorem dX3_decide_61 : decode cX3_decide 61 = .ok (.getfield 31, 3) := by decide +kernel
theorem dX3_decide_64 : decode cX3_decide 64 = .ok (.iload_n 1, 1) := by decide +kernel
theorem dX3_decide_65 : decode cX3_decide 65 = .ok (.invokevirtual 96, 3) := by decide +kernel
theorem dX3_decide_68 : decode cX3_decide 68 = .ok (.istore 7, 2) := by decide +kernel
theorem dX3_decide_70 : decode cX3_decide 70 = .ok (.iload 7, 2) := by decide +kernel
theorem dX3_decide_72 : decode cX3_decide 72 = .ok (.ifCond .lt 17, 3) := by decide +kernel
theorem dX3_decide_75 : decode cX3_decide 75 = .ok (.iload 7, 2) := by decide +kernel
theorem dX3_decide_77 : decode cX3_decide 77 = .ok (.iconst 4, 1) := by decide +kernel
theorem dX3_decide_78 : decode cX3_decide 78 = .ok (.if_icmp .ge 11, 3) := by decide +kernel
theorem dX3_decide_81 : decode cX3_decide 81 = .ok (.aload_n 0, 1) := by decide +kernel
theorem dX3_decide_82 : decode cX3_decide 82 = .ok (.getfield 9, 3) := by decide +kernel
theorem dX3_decide_85 : decode cX3_decide 85 = .ok (.iload 7, 2) := by decide +kernel
theorem dX3_decide_87 : decode cX3_decide 87 = .ok (.iconst 1, 1) := by decide +kernel
theorem dX3_decide_88 : decode cX3_decide 88 = .ok (.iastore, 1) := by decide +kernel
theorem dX3_decide_89 : decode cX3_decide 89 = .ok (.aload_n 0, 1) := by decide +kernel
theorem dX3_decide_90 : decode cX3_decide 90 = .ok (.getfield 9, 3) := by decide +kernel
theorem dX3_decide_93 : decode cX3_decide 93 = .ok (.iconst 4, 1) := by decide +kernel
theorem dX3_decide_94 : decode cX3_decide 94 = .ok (.aload_n 0, 1) := by decide +kernel
theorem dX3_decide_95 : decode cX3_decide 95 = .ok (.getfield 31, 3) := by decide +kernel
theorem dX3_decide_98 : decode cX3_decide 98 = .ok (.iload_n 1, 1) := by decide +kernel
theorem dX3_decide_99 : decode cX3_decide 99 = .ok (.invokevirtual 99, 3) := by decide +kernel
theorem dX3_decide_102 : decode cX3_decide 102 = .ok (.ifCond .eq 7, 3) := by decide +kernel
theorem dX3_decide_105 : decode cX3_decide 105 = .ok (.iconst 1, 1) := by decide +kernel
theorem dX3_decide_106 : decode cX3_decide 106 = .ok (.goto 4, 3) := by decide +kernel
theorem dX3_decide_109 : decode cX3_decide 109 = .ok (.iconst 0, 1) := by decide +kernel
theorem dX3_decide_110 : decode cX3_decide 110 = .ok (.iastore, 1) := by decide +kernel
theorem dX3_decide_111 : decode cX3_decide 111 = .ok (.aload_n 0, 1) := by decide +kernel
theorem dX3_decide_112 : decode cX3_decide 112 = .ok (.getfield 15, 3) := by decide +kernel
theorem dX3_decide_115 : decode cX3_decide 115 = .ok (.iload 5, 2) := by decide +kernel
theorem dX3_decide_117 : decode cX3_decide 117 = .ok (.invokevirtual 103, 3) := by decide +kernel
theorem dX3_decide_120 : decode cX3_decide 120 = .ok (.ifCond .eq 28, 3) := by decide +kernel
theorem dX3_decide_123 : decode cX3_decide 123 = .ok (.aload_n 0, 1) := by decide +kernel
theorem dX3_decide_124 : decode cX3_decide 124 = .ok (.getfield 15, 3) := by decide +kernel
theorem dX3_decide_127 : decode cX3_decide 127 = .ok (.iload 4, 2) := by decide +kernel
theorem dX3_decide_129 : decode cX3_decide 129 = .ok (.iload 5, 2) := by decide +kernel
theorem dX3_decide_131 : decode cX3_decide 131 = .ok (.iload_n 3, 1) := by decide +kernel
theorem dX3_decide_132 : decode cX3_decide 132 = .ok (.iload_n 2, 1) := by decide +kernel
theorem dX3_decide_133 : decode cX3_decide 133 = .ok (.invokevirtual 108, 3) := by decide +kernel
theorem dX3_decide_136 : decode cX3_decide 136 = .ok (.aload 6, 2) := by decide +kernel
theorem dX3_decide_138 : decode cX3_decide 138 = .ok (.invokevirtual 112, 3) := by decide +kernel
theorem dX3_decide_141 : decode cX3_decide 141 = .ok (.if_icmp .gt 7, 3) := by decide +kernel
theorem dX3_decide_144 : decode cX3_decide 144 = .ok (.iconst 1, 1) := by decide +kernel
theorem dX3_decide_145 : decode cX3_decide 145 = .ok (.goto 4, 3) := by decide +kernel
theorem dX3_decide_148 : decode cX3_decide 148 = .ok (.iconst 0, 1) := by decide +kernel
theorem dX3_decide_149 : decode cX3_decide 149 = .ok (.istore 8, 2) := by decide +kernel
theorem dX3_decide_151 : decode cX3_decide 151 = .ok (.aload_n 0, 1) := by decide +kernel
theorem dX3_decide_152 : decode cX3_decide 152 = .ok (.getfield 9, 3) := by decide +kernel
theorem dX3_decide_155 : decode cX3_decide 155 = .ok (.bipush 8, 2) := by decide +kernel
theorem dX3_decide_157 : decode cX3_decide 157 = .ok (.iload 8, 2) := by decide +kernel
theorem dX3_decide_159 : decode cX3_decide 159 = .ok (.ifCond .eq 7, 3) := by decide +kernel
theorem dX3_decide_162 : decode cX3_decide 162 = .ok (.iconst 1, 1) := by decide +kernel
theorem dX3_decide_163 : decode cX3_decide 163 = .ok (.goto 4, 3) := by decide +kernel
theorem dX3_decide_166 : decode cX3_decide 166 = .ok (.iconst 0, 1) := by decide +kernel
theorem dX3_decide_167 : decode cX3_decide 167 = .ok (.iastore, 1) := by decide +kernel
theorem dX3_decide_168 : decode cX3_decide 168 = .ok (.aload_n 0, 1) := by decide +kernel
theorem dX3_decide_169 : decode cX3_decide 169 = .ok (.getfield 9, 3) := by decide +kernel
theorem dX3_decide_172 : decode cX3_decide 172 = .ok (.bipush 6, 2) := by decide +kernel
theorem dX3_decide_174 : decode cX3_decide 174 = .ok (.aload_n 0, 1) := by decide +kernel
theorem dX3_decide_175 : decode cX3_decide 175 = .ok (.getfield 31, 3) := by decide +kernel
theorem dX3_decide_178 : decode cX3_decide 178 = .ok (.iload_n 1, 1) := by decide +kernel
theorem dX3_decide_179 : decode cX3_decide 179 = .ok (.iload_n 2, 1) := by decide +kernel
theorem dX3_decide_180 : decode cX3_decide 180 = .ok (.invokevirtual 71, 3) := by decide +kernel
theorem dX3_decide_183 : decode cX3_decide 183 = .ok (.iastore, 1) := by decide +kernel
theorem dX3_decide_184 : decode cX3_decide 184 = .ok (.aload_n 0, 1) := by decide +kernel
theorem dX3_decide_185 : decode cX3_decide 185 = .ok (.getfield 9, 3) := by decide +kernel
theorem dX3_decide_188 : decode cX3_decide 188 = .ok (.bipush 7, 2) := by decide +kernel
theorem dX3_decide_190 : decode cX3_decide 190 = .ok (.aload_n 0, 1) := by decide +kernel
theorem dX3_decide_191 : decode cX3_decide 191 = .ok (.getfield 31, 3) := by decide +kernel
theorem dX3_decide_194 : decode cX3_decide 194 = .ok (.iload_n 1, 1) := by decide +kernel
theorem dX3_decide_195 : decode cX3_decide 195 = .ok (.iload_n 2, 1) := by decide +kernel
theorem dX3_decide_196 : decode cX3_decide 196 = .ok (.invokevirtual 117, 3) := by decide +kernel
theorem dX3_decide_199 : decode cX3_decide 199 = .ok (.iastore, 1) := by decide +kernel
theorem dX3_decide_200 : decode cX3_decide 200 = .ok (.aload_n 0, 1) := by decide +kernel
theorem dX3_decide_201 : decode cX3_decide 201 = .ok (.iconst (-1), 1) := by decide +kernel
theorem dX3_decide_202 : decode cX3_decide 202 = .ok (.putfield 47, 3) := by decide +kernel
theorem dX3_decide_205 : decode cX3_decide 205 = .ok (.aload_n 0, 1) := by decide +kernel
theorem dX3_decide_206 : decode cX3_decide 206 = .ok (.iconst (-1), 1) := by decide +kernel
theorem dX3_decide_207 : decode cX3_decide 207 = .ok (.putfield 51, 3) := by decide +kernel
theorem dX3_decide_210 : decode cX3_decide 210 = .ok (.iconst 0, 1) := by decide +kernel
theorem dX3_decide_211 : decode cX3_decide 211 = .ok (.istore 9, 2) := by decide +kernel
theorem dX3_decide_213 : decode cX3_decide 213 = .ok (.iload 9, 2) := by decide +kernel
theorem dX3_decide_215 : decode cX3_decide 215 = .ok (.aload 6, 2) := by decide +kernel
theorem dX3_decide_217 : decode cX3_decide 217 = .ok (.invokevirtual 120, 3) := by decide +kernel
theorem dX3_decide_220 : decode cX3_decide 220 = .ok (.if_icmp .ge 79, 3) := by decide +kernel
theorem dX3_decide_223 : decode cX3_decide 223 = .ok (.aload_n 0, 1) := by decide +kernel
theorem dX3_decide_224 : decode cX3_decide 224 = .ok (.getfield 47, 3) := by decide +kernel
theorem dX3_decide_227 : decode cX3_decide 227 = .ok (.iconst (-1), 1) := by decide +kernel
theorem dX3_decide_228 : decode cX3_decide 228 = .ok (.if_icmp .ne 71, 3) := by decide +kernel
theorem dX3_decide_231 : decode cX3_decide 231 = .ok (.iload_n 3, 1) := by decide +kernel
theorem dX3_decide_232 : decode cX3_decide 232 = .ok (.aload 6, 2) := by decide +kernel
theorem dX3_decide_234 : decode cX3_decide 234 = .ok (.iload 9, 2) := by decide +kernel
theorem dX3_decide_236 : decode cX3_decide 236 = .ok (.invokevirtual 123, 3) := by decide +kernel
theorem dX3_decide_239 : decode cX3_decide 239 = .ok (.iadd, 1) := by decide +kernel
theorem dX3_decide_240 : decode cX3_decide 240 = .ok (.istore 10, 2) := by decide +kernel
theorem dX3_decide_242 : decode cX3_decide 242 = .ok (.aload_n 0, 1) := by decide +kernel
theorem dX3_decide_243 : decode cX3_decide 243 = .ok (.getfield 9, 3) := by decide +kernel
theorem dX3_decide_246 : decode cX3_decide 246 = .ok (.iconst 5, 1) := by decide +kernel
theorem dX3_decide_247 : decode cX3_decide 247 = .ok (.aload_n 0, 1) := by decide +kernel
theorem dX3_decide_248 : decode cX3_decide 248 = .ok (.getfield 31, 3) := by decide +kernel
theorem dX3_decide_251 : decode cX3_decide 251 = .ok (.iload_n 1, 1) := by decide +kernel
theorem dX3_decide_252 : decode cX3_decide 252 = .ok (.iload 10, 2) := by decide +kernel
theorem dX3_decide_254 : decode cX3_decide 254 = .ok (.iload_n 2, 1) := by decide +kernel
theorem dX3_decide_255 : decode cX3_decide 255 = .ok (.invokevirtual 126, 3) := by decide +kernel
theorem dX3_decide_258 : decode cX3_decide 258 = .ok (.ifCond .eq 7, 3) := by decide +kernel
theorem dX3_decide_261 : decode cX3_decide 261 = .ok (.iconst 1, 1) := by decide +kernel
theorem dX3_decide_262 : decode cX3_decide 262 = .ok (.goto 4, 3) := by decide +kernel
theorem dX3_decide_265 : decode cX3_decide 265 = .ok (.iconst 0, 1) := by decide +kernel
theorem dX3_decide_266 : decode cX3_decide 266 = .ok (.iastore, 1) := by decide +kernel
theorem dX3_decide_267 : decode cX3_decide 267 = .ok (.aload 6, 2) := by decide +kernel
theorem dX3_decide_269 : decode cX3_decide 269 = .ok (.iload 9, 2) := by decide +kernel
theorem dX3_decide_271 : decode cX3_decide 271 = .ok (.aload_n 0, 1) := by decide +kernel
theorem dX3_decide_272 : decode cX3_decide 272 = .ok (.getfield 9, 3) := by decide +kernel
theorem dX3_decide_275 : decode cX3_decide 275 = .ok (.invokevirtual 130, 3) := by decide +kernel
theorem dX3_decide_278 : decode cX3_decide 278 = .ok (.ifCond .eq 15, 3) := by decide +kernel
theorem dX3_decide_281 : decode cX3_decide 281 = .ok (.aload_n 0, 1) := by decide +kernel
theorem dX3_decide_282 : decode cX3_decide 282 = .ok (.iload 9, 2) := by decide +kernel
theorem dX3_decide_284 : decode cX3_decide 284 = .ok (.putfield 47, 3) := by decide +kernel
theorem dX3_decide_287 : decode cX3_decide 287 = .ok (.aload_n 0, 1) := by decide +kernel
theorem dX3_decide_288 : decode cX3_decide 288 = .ok (.iload 10, 2) := by decide +kernel
theorem dX3_decide_290 : decode cX3_decide 290 = .ok (.putfield 51, 3) := by decide +kernel
theorem dX3_decide_293 : decode cX3_decide 293 = .ok (.iinc 9 1, 3) := by decide +kernel
theorem dX3_decide_296 : decode cX3_decide 296 = .ok (.goto (-83), 3) := by decide +kernel
theorem dX3_decide_299 : decode cX3_decide 299 = .ok (.return_, 1) := by decide +kernel
theorem dX3_weigh_0 : decode cX3_weigh 0 = .ok (.aload_n 0, 1) := by decide +kernel
theorem dX3_weigh_1 : decode cX3_weigh 1 = .ok (.getfield 19, 3) := by decide +kernel
theorem dX3_weigh_4 : decode cX3_weigh 4 = .ok (.iload_n 2, 1) := by decide +kernel
theorem dX3_weigh_5 : decode cX3_weigh 5 = .ok (.iload_n 3, 1) := by decide +kernel
theorem dX3_weigh_6 : decode cX3_weigh 6 = .ok (.iload 4, 2) := by decide +kernel
theorem dX3_weigh_8 : decode cX3_weigh 8 = .ok (.invokevirtual 134, 3) := by decide +kernel
theorem dX3_weigh_11 : decode cX3_weigh 11 = .ok (.istore 6, 2) := by decide +kernel
theorem dX3_weigh_13 : decode cX3_weigh 13 = .ok (.iconst 0, 1) := by decide +kernel
theorem dX3_weigh_14 : decode cX3_weigh 14 = .ok (.istore 7, 2) := by decide +kernel
theorem dX3_weigh_16 : decode cX3_weigh 16 = .ok (.iconst 0, 1) := by decide +kernel
theorem dX3_weigh_17 : decode cX3_weigh 17 = .ok (.istore 8, 2) := by decide +kernel
theorem dX3_weigh_19 : decode cX3_weigh 19 = .ok (.iconst 0, 1) := by decide +kernel
theorem dX3_weigh_20 : decode cX3_weigh 20 = .ok (.istore 9, 2) := by decide +kernel
theorem dX3_weigh_22 : decode cX3_weigh 22 = .ok (.iload 9, 2) := by decide +kernel
theorem dX3_weigh_24 : decode cX3_weigh 24 = .ok (.aload_n 0, 1) := by decide +kernel
theorem dX3_weigh_25 : decode cX3_weigh 25 = .ok (.getfield 31, 3) := by decide +kernel
theorem dX3_weigh_28 : decode cX3_weigh 28 = .ok (.invokevirtual 54, 3) := by decide +kernel
theorem dX3_weigh_31 : decode cX3_weigh 31 = .ok (.if_icmp .ge 138, 3) := by decide +kernel
theorem dX3_weigh_34 : decode cX3_weigh 34 = .ok (.aload_n 0, 1) := by decide +kernel
theorem dX3_weigh_35 : decode cX3_weigh 35 = .ok (.getfield 31, 3) := by decide +kernel
theorem dX3_weigh_38 : decode cX3_weigh 38 = .ok (.iload 9, 2) := by decide +kernel
theorem dX3_weigh_40 : decode cX3_weigh 40 = .ok (.invokevirtual 74, 3) := by decide +kernel
theorem dX3_weigh_43 : decode cX3_weigh 43 = .ok (.istore 10, 2) := by decide +kernel
theorem dX3_weigh_45 : decode cX3_weigh 45 = .ok (.aload_n 0, 1) := by decide +kernel
theorem dX3_weigh_46 : decode cX3_weigh 46 = .ok (.getfield 31, 3) := by decide +kernel
theorem dX3_weigh_49 : decode cX3_weigh 49 = .ok (.iload 9, 2) := by decide +kernel
theorem dX3_weigh_51 : decode cX3_weigh 51 = .ok (.iload 4, 2) := by decide +kernel
theorem dX3_weigh_53 : decode cX3_weigh 53 = .ok (.invokevirtual 60, 3) := by decide +kernel
theorem dX3_weigh_56 : decode cX3_weigh 56 = .ok (.ifCond .eq 107, 3) := by decide +kernel
theorem dX3_weigh_59 : decode cX3_weigh 59 = .ok (.iload 10, 2) := by decide +kernel
theorem dX3_weigh_61 : decode cX3_weigh 61 = .ok (.iload_n 3, 1) := by decide +kernel
theorem dX3_weigh_62 : decode cX3_weigh 62 = .ok (.if_icmp .gt 101, 3) := by decide +kernel
theorem dX3_weigh_65 : decode cX3_weigh 65 = .ok (.iload 10, 2) := by decide +kernel
theorem dX3_weigh_67 : decode cX3_weigh 67 = .ok (.iload_n 3, 1) := by decide +kernel
theorem dX3_weigh_68 : decode cX3_weigh 68 = .ok (.aload 5, 2) := by decide +kernel
theorem dX3_weigh_70 : decode cX3_weigh 70 = .ok (.invokevirtual 140, 3) := by decide +kernel
theorem dX3_weigh_73 : decode cX3_weigh 73 = .ok (.isub, 1) := by decide +kernel
theorem dX3_weigh_74 : decode cX3_weigh 74 = .ok (.if_icmp .le 89, 3) := by decide +kernel
theorem dX3_weigh_77 : decode cX3_weigh 77 = .ok (.aload_n 0, 1) := by decide +kernel
theorem dX3_weigh_78 : decode cX3_weigh 78 = .ok (.getfield 15, 3) := by decide +kernel
theorem dX3_weigh_81 : decode cX3_weigh 81 = .ok (.iload_n 1, 1) := by decide +kernel
theorem dX3_weigh_82 : decode cX3_weigh 82 = .ok (.aload_n 0, 1) := by decide +kernel
theorem dX3_weigh_83 : decode cX3_weigh 83 = .ok (.getfield 31, 3) := by decide +kernel
theorem dX3_weigh_86 : decode cX3_weigh 86 = .ok (.iload 9, 2) := by decide +kernel
theorem dX3_weigh_88 : decode cX3_weigh 88 = .ok (.invokevirtual 64, 3) := by decide +kernel
theorem dX3_weigh_91 : decode cX3_weigh 91 = .ok (.iload_n 3, 1) := by decide +kernel
theorem dX3_weigh_92 : decode cX3_weigh 92 = .ok (.iload 4, 2) := by decide +kernel
theorem dX3_weigh_94 : decode cX3_weigh 94 = .ok (.invokevirtual 108, 3) := by decide +kernel
theorem dX3_weigh_97 : decode cX3_weigh 97 = .ok (.aload 5, 2) := by decide +kernel
theorem dX3_weigh_99 : decode cX3_weigh 99 = .ok (.invokevirtual 112, 3) := by decide +kernel
theorem dX3_weigh_102 : decode cX3_weigh 102 = .ok (.if_icmp .gt 61, 3) := by decide +kernel
theorem dX3_weigh_105 : decode cX3_weigh 105 = .ok (.aload_n 0, 1) := by decide +kernel
theorem dX3_weigh_106 : decode cX3_weigh 106 = .ok (.getfield 19, 3) := by decide +kernel
theorem dX3_weigh_109 : decode cX3_weigh 109 = .ok (.aload_n 0, 1) := by decide +kernel
theorem dX3_weigh_110 : decode cX3_weigh 110 = .ok (.getfield 31, 3) := by decide +kernel
theorem dX3_weigh_113 : decode cX3_weigh 113 = .ok (.iload 9, 2) := by decide +kernel
theorem dX3_weigh_115 : decode cX3_weigh 115 = .ok (.invokevirtual 77, 3) := by decide +kernel
theorem dX3_weigh_118 : decode cX3_weigh 118 = .ok (.iload_n 3, 1) := by decide +kernel
theorem dX3_weigh_119 : decode cX3_weigh 119 = .ok (.iload 4, 2) := by decide +kernel
theorem dX3_weigh_121 : decode cX3_weigh 121 = .ok (.invokevirtual 134, 3) := by decide +kernel
theorem dX3_weigh_124 : decode cX3_weigh 124 = .ok (.iload 6, 2) := by decide +kernel
theorem dX3_weigh_126 : decode cX3_weigh 126 = .ok (.if_icmp .ne 37, 3) := by decide +kernel
theorem dX3_weigh_129 : decode cX3_weigh 129 = .ok (.aload_n 0, 1) := by decide +kernel
theorem dX3_weigh_130 : decode cX3_weigh 130 = .ok (.getfield 31, 3) := by decide +kernel
theorem dX3_weigh_133 : decode cX3_weigh 133 = .ok (.iload 9, 2) := by decide +kernel
theorem dX3_weigh_135 : decode cX3_weigh 135 = .ok (.iload_n 3, 1) := by decide +kernel
theorem dX3_weigh_136 : decode cX3_weigh 136 = .ok (.iload 4, 2) := by decide +kernel
theorem dX3_weigh_138 : decode cX3_weigh 138 = .ok (.invokevirtual 126, 3) := by decide +kernel
theorem dX3_weigh_141 : decode cX3_weigh 141 = .ok (.ifCond .ne 22, 3) := by decide +kernel
theorem dX3_weigh_144 : decode cX3_weigh 144 = .ok (.iload 7, 2) := by decide +kernel
theorem dX3_weigh_146 : decode cX3_weigh 146 = .ok (.aload_n 0, 1) := by decide +kernel
theorem dX3_weigh_147 : decode cX3_weigh 147 = .ok (.getfield 31, 3) := by decide +kernel
theorem dX3_weigh_150 : decode cX3_weigh 150 = .ok (.iload 9, 2) := by decide +kernel
theorem dX3_weigh_152 : decode cX3_weigh 152 = .ok (.iload 4, 2) := by decide +kernel
theorem dX3_weigh_154 : decode cX3_weigh 154 = .ok (.invokevirtual 71, 3) := by decide +kernel
theorem dX3_weigh_157 : decode cX3_weigh 157 = .ok (.iadd, 1) := by decide +kernel
theorem dX3_weigh_158 : decode cX3_weigh 158 = .ok (.istore 7, 2) := by decide +kernel
theorem dX3_weigh_160 : decode cX3_weigh 160 = .ok (.iinc 8 1, 3) := by decide +kernel
theorem dX3_weigh_163 : decode cX3_weigh 163 = .ok (.iinc 9 1, 3) := by decide +kernel
theorem dX3_weigh_166 : decode cX3_weigh 166 = .ok (.goto (-144), 3) := by decide +kernel
theorem dX3_weigh_169 : decode cX3_weigh 169 = .ok (.aload_n 0, 1) := by decide +kernel
theorem dX3_weigh_170 : decode cX3_weigh 170 = .ok (.getfield 9, 3) := by decide +kernel
theorem dX3_weigh_173 : decode cX3_weigh 173 = .ok (.bipush 9, 2) := by decide +kernel
theorem dX3_weigh_175 : decode cX3_weigh 175 = .ok (.iload 7, 2) := by decide +kernel
theorem dX3_weigh_177 : decode cX3_weigh 177 = .ok (.iastore, 1) := by decide +kernel
theorem dX3_weigh_178 : decode cX3_weigh 178 = .ok (.aload_n 0, 1) := by decide +kernel
theorem dX3_weigh_179 : decode cX3_weigh 179 = .ok (.getfield 9, 3) := by decide +kernel
theorem dX3_weigh_182 : decode cX3_weigh 182 = .ok (.bipush 10, 2) := by decide +kernel
theorem dX3_weigh_184 : decode cX3_weigh 184 = .ok (.iload 8, 2) := by decide +kernel
theorem dX3_weigh_186 : decode cX3_weigh 186 = .ok (.iastore, 1) := by decide +kernel
theorem dX3_weigh_187 : decode cX3_weigh 187 = .ok (.return_, 1) := by decide +kernel
theorem dX3_dutyFor_0 : decode cX3_dutyFor 0 = .ok (.aload_n 0, 1) := by decide +kernel
theorem dX3_dutyFor_1 : decode cX3_dutyFor 1 = .ok (.getfield 35, 3) := by decide +kernel
theorem dX3_dutyFor_4 : decode cX3_dutyFor 4 = .ok (.iload_n 3, 1) := by decide +kernel
theorem dX3_dutyFor_5 : decode cX3_dutyFor 5 = .ok (.iload 4, 2) := by decide +kernel
theorem dX3_dutyFor_7 : decode cX3_dutyFor 7 = .ok (.invokevirtual 80, 3) := by decide +kernel
theorem dX3_dutyFor_10 : decode cX3_dutyFor 10 = .ok (.astore 5, 2) := by decide +kernel
theorem dX3_dutyFor_12 : decode cX3_dutyFor 12 = .ok (.aload_n 0, 1) := by decide +kernel
theorem dX3_dutyFor_13 : decode cX3_dutyFor 13 = .ok (.getfield 9, 3) := by decide +kernel
theorem dX3_dutyFor_16 : decode cX3_dutyFor 16 = .ok (.iconst 0, 1) := by decide +kernel
theorem dX3_dutyFor_17 : decode cX3_dutyFor 17 = .ok (.invokestatic 86, 3) := by decide +kernel
theorem dX3_dutyFor_20 : decode cX3_dutyFor 20 = .ok (.aload_n 0, 1) := by decide +kernel
theorem dX3_dutyFor_21 : decode cX3_dutyFor 21 = .ok (.iload_n 1, 1) := by decide +kernel
theorem dX3_dutyFor_22 : decode cX3_dutyFor 22 = .ok (.iload_n 2, 1) := by decide +kernel
theorem dX3_dutyFor_23 : decode cX3_dutyFor 23 = .ok (.iload_n 3, 1) := by decide +kernel
theorem dX3_dutyFor_24 : decode cX3_dutyFor 24 = .ok (.iload 4, 2) := by decide +kernel
theorem dX3_dutyFor_26 : decode cX3_dutyFor 26 = .ok (.aload 5, 2) := by decide +kernel
theorem dX3_dutyFor_28 : decode cX3_dutyFor 28 = .ok (.invokevirtual 92, 3) := by decide +kernel
theorem dX3_dutyFor_31 : decode cX3_dutyFor 31 = .ok (.aload_n 0, 1) := by decide +kernel
theorem dX3_dutyFor_32 : decode cX3_dutyFor 32 = .ok (.getfield 19, 3) := by decide +kernel
theorem dX3_dutyFor_35 : decode cX3_dutyFor 35 = .ok (.iload_n 2, 1) := by decide +kernel
theorem dX3_dutyFor_36 : decode cX3_dutyFor 36 = .ok (.iload_n 3, 1) := by decide +kernel
theorem dX3_dutyFor_37 : decode cX3_dutyFor 37 = .ok (.iload 4, 2) := by decide +kernel
theorem dX3_dutyFor_39 : decode cX3_dutyFor 39 = .ok (.invokevirtual 134, 3) := by decide +kernel
theorem dX3_dutyFor_42 : decode cX3_dutyFor 42 = .ok (.istore 6, 2) := by decide +kernel
theorem dX3_dutyFor_44 : decode cX3_dutyFor 44 = .ok (.aload_n 0, 1) := by decide +kernel
theorem dX3_dutyFor_45 : decode cX3_dutyFor 45 = .ok (.getfield 9, 3) := by decide +kernel
theorem dX3_dutyFor_48 : decode cX3_dutyFor 48 = .ok (.bipush 8, 2) := by decide +kernel
theorem dX3_dutyFor_50 : decode cX3_dutyFor 50 = .ok (.aload_n 0, 1) := by decide +kernel
theorem dX3_dutyFor_51 : decode cX3_dutyFor 51 = .ok (.getfield 15, 3) := by decide +kernel
theorem dX3_dutyFor_54 : decode cX3_dutyFor 54 = .ok (.iload 6, 2) := by decide +kernel
theorem dX3_dutyFor_56 : decode cX3_dutyFor 56 = .ok (.invokevirtual 103, 3) := by decide +kernel
theorem dX3_dutyFor_59 : decode cX3_dutyFor 59 = .ok (.ifCond .eq 28, 3) := by decide +kernel
theorem dX3_dutyFor_62 : decode cX3_dutyFor 62 = .ok (.aload_n 0, 1) := by decide +kernel
theorem dX3_dutyFor_63 : decode cX3_dutyFor 63 = .ok (.getfield 15, 3) := by decide +kernel
theorem dX3_dutyFor_66 : decode cX3_dutyFor 66 = .ok (.iload_n 1, 1) := by decide +kernel
theorem dX3_dutyFor_67 : decode cX3_dutyFor 67 = .ok (.iload 6, 2) := by decide +kernel
theorem dX3_dutyFor_69 : decode cX3_dutyFor 69 = .ok (.iload_n 3, 1) := by decide +kernel
theorem dX3_dutyFor_70 : decode cX3_dutyFor 70 = .ok (.iload 4, 2) := by decide +kernel
theorem dX3_dutyFor_72 : decode cX3_dutyFor 72 = .ok (.invokevirtual 108, 3) := by decide +kernel
theorem dX3_dutyFor_75 : decode cX3_dutyFor 75 = .ok (.aload 5, 2) := by decide +kernel
theorem dX3_dutyFor_77 : decode cX3_dutyFor 77 = .ok (.invokevirtual 112, 3) := by decide +kernel
theorem dX3_dutyFor_80 : decode cX3_dutyFor 80 = .ok (.if_icmp .gt 7, 3) := by decide +kernel
theorem dX3_dutyFor_83 : decode cX3_dutyFor 83 = .ok (.iconst 1, 1) := by decide +kernel
theorem dX3_dutyFor_84 : decode cX3_dutyFor 84 = .ok (.goto 4, 3) := by decide +kernel
theorem dX3_dutyFor_87 : decode cX3_dutyFor 87 = .ok (.iconst 0, 1) := by decide +kernel
theorem dX3_dutyFor_88 : decode cX3_dutyFor 88 = .ok (.iastore, 1) := by decide +kernel
theorem dX3_dutyFor_89 : decode cX3_dutyFor 89 = .ok (.aload_n 0, 1) := by decide +kernel
theorem dX3_dutyFor_90 : decode cX3_dutyFor 90 = .ok (.getfield 9, 3) := by decide +kernel
theorem dX3_dutyFor_93 : decode cX3_dutyFor 93 = .ok (.bipush 11, 2) := by decide +kernel
theorem dX3_dutyFor_95 : decode cX3_dutyFor 95 = .ok (.aload_n 0, 1) := by decide +kernel
theorem dX3_dutyFor_96 : decode cX3_dutyFor 96 = .ok (.iload_n 1, 1) := by decide +kernel
theorem dX3_dutyFor_97 : decode cX3_dutyFor 97 = .ok (.iload 6, 2) := by decide +kernel
theorem dX3_dutyFor_99 : decode cX3_dutyFor 99 = .ok (.iload_n 3, 1) := by decide +kernel
theorem dX3_dutyFor_100 : decode cX3_dutyFor 100 = .ok (.iload 4, 2) := by decide +kernel
theorem dX3_dutyFor_102 : decode cX3_dutyFor 102 = .ok (.aload 5, 2) := by decide +kernel
theorem dX3_dutyFor_104 : decode cX3_dutyFor 104 = .ok (.invokevirtual 143, 3) := by decide +kernel
theorem dX3_dutyFor_107 : decode cX3_dutyFor 107 = .ok (.invokevirtual 146, 3) := by decide +kernel
theorem dX3_dutyFor_110 : decode cX3_dutyFor 110 = .ok (.ifCond .eq 7, 3) := by decide +kernel
theorem dX3_dutyFor_113 : decode cX3_dutyFor 113 = .ok (.iconst 1, 1) := by decide +kernel
theorem dX3_dutyFor_114 : decode cX3_dutyFor 114 = .ok (.goto 4, 3) := by decide +kernel
theorem dX3_dutyFor_117 : decode cX3_dutyFor 117 = .ok (.iconst 0, 1) := by decide +kernel
theorem dX3_dutyFor_118 : decode cX3_dutyFor 118 = .ok (.iastore, 1) := by decide +kernel
theorem dX3_dutyFor_119 : decode cX3_dutyFor 119 = .ok (.aload 5, 2) := by decide +kernel
theorem dX3_dutyFor_121 : decode cX3_dutyFor 121 = .ok (.bipush 12, 2) := by decide +kernel
theorem dX3_dutyFor_123 : decode cX3_dutyFor 123 = .ok (.invokevirtual 150, 3) := by decide +kernel
theorem dX3_dutyFor_126 : decode cX3_dutyFor 126 = .ok (.ifCond .eq 22, 3) := by decide +kernel
theorem dX3_dutyFor_129 : decode cX3_dutyFor 129 = .ok (.aload_n 0, 1) := by decide +kernel
theorem dX3_dutyFor_130 : decode cX3_dutyFor 130 = .ok (.getfield 9, 3) := by decide +kernel
theorem dX3_dutyFor_133 : decode cX3_dutyFor 133 = .ok (.bipush 12, 2) := by decide +kernel
theorem dX3_dutyFor_135 : decode cX3_dutyFor 135 = .ok (.aload_n 0, 1) := by decide +kernel
theorem dX3_dutyFor_136 : decode cX3_dutyFor 136 = .ok (.getfield 23, 3) := by decide +kernel
theorem dX3_dutyFor_139 : decode cX3_dutyFor 139 = .ok (.iload_n 1, 1) := by decide +kernel
theorem dX3_dutyFor_140 : decode cX3_dutyFor 140 = .ok (.iload_n 2, 1) := by decide +kernel
theorem dX3_dutyFor_141 : decode cX3_dutyFor 141 = .ok (.iload_n 3, 1) := by decide +kernel
theorem dX3_dutyFor_142 : decode cX3_dutyFor 142 = .ok (.iload 4, 2) := by decide +kernel
theorem dX3_dutyFor_144 : decode cX3_dutyFor 144 = .ok (.invokevirtual 153, 3) := by decide +kernel
theorem dX3_dutyFor_147 : decode cX3_dutyFor 147 = .ok (.iastore, 1) := by decide +kernel
theorem dX3_dutyFor_148 : decode cX3_dutyFor 148 = .ok (.aload 5, 2) := by decide +kernel
theorem dX3_dutyFor_150 : decode cX3_dutyFor 150 = .ok (.bipush 13, 2) := by decide +kernel
theorem dX3_dutyFor_152 : decode cX3_dutyFor 152 = .ok (.invokevirtual 150, 3) := by decide +kernel
theorem dX3_dutyFor_155 : decode cX3_dutyFor 155 = .ok (.ifCond .eq 24, 3) := by decide +kernel
theorem dX3_dutyFor_158 : decode cX3_dutyFor 158 = .ok (.aload_n 0, 1) := by decide +kernel
theorem dX3_dutyFor_159 : decode cX3_dutyFor 159 = .ok (.getfield 9, 3) := by decide +kernel
theorem dX3_dutyFor_162 : decode cX3_dutyFor 162 = .ok (.bipush 13, 2) := by decide +kernel
theorem dX3_dutyFor_164 : decode cX3_dutyFor 164 = .ok (.aload_n 0, 1) := by decide +kernel
theorem dX3_dutyFor_165 : decode cX3_dutyFor 165 = .ok (.iload_n 1, 1) := by decide +kernel
theorem dX3_dutyFor_166 : decode cX3_dutyFor 166 = .ok (.iload_n 2, 1) := by decide +kernel
theorem dX3_dutyFor_167 : decode cX3_dutyFor 167 = .ok (.iload_n 3, 1) := by decide +kernel
theorem dX3_dutyFor_168 : decode cX3_dutyFor 168 = .ok (.iload 4, 2) := by decide +kernel
theorem dX3_dutyFor_170 : decode cX3_dutyFor 170 = .ok (.aload 5, 2) := by decide +kernel
theorem dX3_dutyFor_172 : decode cX3_dutyFor 172 = .ok (.invokevirtual 112, 3) := by decide +kernel
theorem dX3_dutyFor_175 : decode cX3_dutyFor 175 = .ok (.invokevirtual 158, 3) := by decide +kernel
theorem dX3_dutyFor_178 : decode cX3_dutyFor 178 = .ok (.iastore, 1) := by decide +kernel
theorem dX3_dutyFor_179 : decode cX3_dutyFor 179 = .ok (.aload 5, 2) := by decide +kernel
theorem dX3_dutyFor_181 : decode cX3_dutyFor 181 = .ok (.bipush 8, 2) := by decide +kernel
theorem dX3_dutyFor_183 : decode cX3_dutyFor 183 = .ok (.aload_n 0, 1) := by decide +kernel
theorem dX3_dutyFor_184 : decode cX3_dutyFor 184 = .ok (.getfield 9, 3) := by decide +kernel
theorem dX3_dutyFor_187 : decode cX3_dutyFor 187 = .ok (.invokevirtual 130, 3) := by decide +kernel
theorem dX3_dutyFor_190 : decode cX3_dutyFor 190 = .ok (.ifCond .eq 5, 3) := by decide +kernel
theorem dX3_dutyFor_193 : decode cX3_dutyFor 193 = .ok (.iconst 2, 1) := by decide +kernel
theorem dX3_dutyFor_194 : decode cX3_dutyFor 194 = .ok (.ireturn, 1) := by decide +kernel
theorem dX3_dutyFor_195 : decode cX3_dutyFor 195 = .ok (.aload 5, 2) := by decide +kernel
theorem dX3_dutyFor_197 : decode cX3_dutyFor 197 = .ok (.bipush 9, 2) := by decide +kernel
theorem dX3_dutyFor_199 : decode cX3_dutyFor 199 = .ok (.aload_n 0, 1) := by decide +kernel
theorem dX3_dutyFor_200 : decode cX3_dutyFor 200 = .ok (.getfield 9, 3) := by decide +kernel
theorem dX3_dutyFor_203 : decode cX3_dutyFor 203 = .ok (.invokevirtual 130, 3) := by decide +kernel
theorem dX3_dutyFor_206 : decode cX3_dutyFor 206 = .ok (.ifCond .eq 7, 3) := by decide +kernel
theorem dX3_dutyFor_209 : decode cX3_dutyFor 209 = .ok (.iconst 1, 1) := by decide +kernel
theorem dX3_dutyFor_210 : decode cX3_dutyFor 210 = .ok (.goto 4, 3) := by decide +kernel
theorem dX3_dutyFor_213 : decode cX3_dutyFor 213 = .ok (.iconst 0, 1) := by decide +kernel
theorem dX3_dutyFor_214 : decode cX3_dutyFor 214 = .ok (.ireturn, 1) := by decide +kernel
theorem dX3_hasPost_0 : decode cX3_hasPost 0 = .ok (.iconst 0, 1) := by decide +kernel
theorem dX3_hasPost_1 : decode cX3_hasPost 1 = .ok (.istore 6, 2) := by decide +kernel
theorem dX3_hasPost_3 : decode cX3_hasPost 3 = .ok (.iload 6, 2) := by decide +kernel
theorem dX3_hasPost_5 : decode cX3_hasPost 5 = .ok (.aload_n 0, 1) := by decide +kernel
theorem dX3_hasPost_6 : decode cX3_hasPost 6 = .ok (.getfield 27, 3) := by decide +kernel
theorem dX3_hasPost_9 : decode cX3_hasPost 9 = .ok (.invokevirtual 162, 3) := by decide +kernel
theorem dX3_hasPost_12 : decode cX3_hasPost 12 = .ok (.if_icmp .ge 103, 3) := by decide +kernel
theorem dX3_hasPost_15 : decode cX3_hasPost 15 = .ok (.aload_n 0, 1) := by decide +kernel
theorem dX3_hasPost_16 : decode cX3_hasPost 16 = .ok (.getfield 27, 3) := by decide +kernel
theorem dX3_hasPost_19 : decode cX3_hasPost 19 = .ok (.iload 6, 2) := by decide +kernel
theorem dX3_hasPost_21 : decode cX3_hasPost 21 = .ok (.invokevirtual 165, 3) := by decide +kernel
theorem dX3_hasPost_24 : decode cX3_hasPost 24 = .ok (.iload_n 1, 1) := by decide +kernel
theorem dX3_hasPost_25 : decode cX3_hasPost 25 = .ok (.if_icmp .ne 84, 3) := by decide +kernel
theorem dX3_hasPost_28 : decode cX3_hasPost 28 = .ok (.aload_n 0, 1) := by decide +kernel
theorem dX3_hasPost_29 : decode cX3_hasPost 29 = .ok (.getfield 27, 3) := by decide +kernel
theorem dX3_hasPost_32 : decode cX3_hasPost 32 = .ok (.iload 6, 2) := by decide +kernel
theorem dX3_hasPost_34 : decode cX3_hasPost 34 = .ok (.iload 4, 2) := by decide +kernel
theorem dX3_hasPost_36 : decode cX3_hasPost 36 = .ok (.invokevirtual 168, 3) := by decide +kernel
theorem dX3_hasPost_39 : decode cX3_hasPost 39 = .ok (.ifCond .eq 70, 3) := by decide +kernel
theorem dX3_hasPost_42 : decode cX3_hasPost 42 = .ok (.aload_n 0, 1) := by decide +kernel
theorem dX3_hasPost_43 : decode cX3_hasPost 43 = .ok (.getfield 27, 3) := by decide +kernel
theorem dX3_hasPost_46 : decode cX3_hasPost 46 = .ok (.iload 6, 2) := by decide +kernel
theorem dX3_hasPost_48 : decode cX3_hasPost 48 = .ok (.invokevirtual 169, 3) := by decide +kernel
theorem dX3_hasPost_51 : decode cX3_hasPost 51 = .ok (.iload_n 3, 1) := by decide +kernel
theorem dX3_hasPost_52 : decode cX3_hasPost 52 = .ok (.if_icmp .gt 57, 3) := by decide +kernel
theorem dX3_hasPost_55 : decode cX3_hasPost 55 = .ok (.aload_n 0, 1) := by decide +kernel
theorem dX3_hasPost_56 : decode cX3_hasPost 56 = .ok (.getfield 27, 3) := by decide +kernel
theorem dX3_hasPost_59 : decode cX3_hasPost 59 = .ok (.iload 6, 2) := by decide +kernel
theorem dX3_hasPost_61 : decode cX3_hasPost 61 = .ok (.invokevirtual 172, 3) := by decide +kernel
theorem dX3_hasPost_64 : decode cX3_hasPost 64 = .ok (.iconst (-1), 1) := by decide +kernel
theorem dX3_hasPost_65 : decode cX3_hasPost 65 = .ok (.if_icmp .eq 19, 3) := by decide +kernel
theorem dX3_hasPost_68 : decode cX3_hasPost 68 = .ok (.aload_n 0, 1) := by decide +kernel
theorem dX3_hasPost_69 : decode cX3_hasPost 69 = .ok (.getfield 27, 3) := by decide +kernel
theorem dX3_hasPost_72 : decode cX3_hasPost 72 = .ok (.iload 6, 2) := by decide +kernel
theorem dX3_hasPost_74 : decode cX3_hasPost 74 = .ok (.invokevirtual 172, 3) := by decide +kernel
theorem dX3_hasPost_77 : decode cX3_hasPost 77 = .ok (.iload_n 3, 1) := by decide +kernel
theorem dX3_hasPost_78 : decode cX3_hasPost 78 = .ok (.iload 5, 2) := by decide +kernel
theorem dX3_hasPost_80 : decode cX3_hasPost 80 = .ok (.isub, 1) := by decide +kernel
theorem dX3_hasPost_81 : decode cX3_hasPost 81 = .ok (.if_icmp .lt 28, 3) := by decide +kernel
theorem dX3_hasPost_84 : decode cX3_hasPost 84 = .ok (.aload_n 0, 1) := by decide +kernel
theorem dX3_hasPost_85 : decode cX3_hasPost 85 = .ok (.getfield 19, 3) := by decide +kernel
theorem dX3_hasPost_88 : decode cX3_hasPost 88 = .ok (.aload_n 0, 1) := by decide +kernel
theorem dX3_hasPost_89 : decode cX3_hasPost 89 = .ok (.getfield 27, 3) := by decide +kernel
theorem dX3_hasPost_92 : decode cX3_hasPost 92 = .ok (.iload 6, 2) := by decide +kernel
theorem dX3_hasPost_94 : decode cX3_hasPost 94 = .ok (.invokevirtual 175, 3) := by decide +kernel
theorem dX3_hasPost_97 : decode cX3_hasPost 97 = .ok (.iload_n 3, 1) := by decide +kernel
theorem dX3_hasPost_98 : decode cX3_hasPost 98 = .ok (.iload 4, 2) := by decide +kernel
theorem dX3_hasPost_100 : decode cX3_hasPost 100 = .ok (.invokevirtual 134, 3) := by decide +kernel
theorem dX3_hasPost_103 : decode cX3_hasPost 103 = .ok (.iload_n 2, 1) := by decide +kernel
theorem dX3_hasPost_104 : decode cX3_hasPost 104 = .ok (.if_icmp .ne 5, 3) := by decide +kernel
theorem dX3_hasPost_107 : decode cX3_hasPost 107 = .ok (.iconst 1, 1) := by decide +kernel
theorem dX3_hasPost_108 : decode cX3_hasPost 108 = .ok (.ireturn, 1) := by decide +kernel
theorem dX3_hasPost_109 : decode cX3_hasPost 109 = .ok (.iinc 6 1, 3) := by decide +kernel
theorem dX3_hasPost_112 : decode cX3_hasPost 112 = .ok (.goto (-109), 3) := by decide +kernel
theorem dX3_hasPost_115 : decode cX3_hasPost 115 = .ok (.iconst 0, 1) := by decide +kernel
theorem dX3_hasPost_116 : decode cX3_hasPost 116 = .ok (.ireturn, 1) := by decide +kernel
theorem dX3_greatestOfKin_0 : decode cX3_greatestOfKin 0 = .ok (.iconst 0, 1) := by decide +kernel
theorem dX3_greatestOfKin_1 : decode cX3_greatestOfKin 1 = .ok (.istore 6, 2) := by decide +kernel
theorem dX3_greatestOfKin_3 : decode cX3_greatestOfKin 3 = .ok (.iconst 0, 1) := by decide +kernel
theorem dX3_greatestOfKin_4 : decode cX3_greatestOfKin 4 = .ok (.istore 7, 2) := by decide +kernel
theorem dX3_greatestOfKin_6 : decode cX3_greatestOfKin 6 = .ok (.iload 7, 2) := by decide +kernel
theorem dX3_greatestOfKin_8 : decode cX3_greatestOfKin 8 = .ok (.aload_n 0, 1) := by decide +kernel
theorem dX3_greatestOfKin_9 : decode cX3_greatestOfKin 9 = .ok (.getfield 15, 3) := by decide +kernel
theorem dX3_greatestOfKin_12 : decode cX3_greatestOfKin 12 = .ok (.invokevirtual 178, 3) := by decide +kernel
theorem dX3_greatestOfKin_15 : decode cX3_greatestOfKin 15 = .ok (.if_icmp .ge 65, 3) := by decide +kernel
theorem dX3_greatestOfKin_18 : decode cX3_greatestOfKin 18 = .ok (.iload 7, 2) := by decide +kernel
theorem dX3_greatestOfKin_20 : decode cX3_greatestOfKin 20 = .ok (.iload_n 1, 1) := by decide +kernel
theorem dX3_greatestOfKin_21 : decode cX3_greatestOfKin 21 = .ok (.if_icmp .eq 53, 3) := by decide +kernel
theorem dX3_greatestOfKin_24 : decode cX3_greatestOfKin 24 = .ok (.aload_n 0, 1) := by decide +kernel
theorem dX3_greatestOfKin_25 : decode cX3_greatestOfKin 25 = .ok (.getfield 15, 3) := by decide +kernel
theorem dX3_greatestOfKin_28 : decode cX3_greatestOfKin 28 = .ok (.iload 7, 2) := by decide +kernel
theorem dX3_greatestOfKin_30 : decode cX3_greatestOfKin 30 = .ok (.invokevirtual 103, 3) := by decide +kernel
theorem dX3_greatestOfKin_33 : decode cX3_greatestOfKin 33 = .ok (.ifCond .eq 41, 3) := by decide +kernel
theorem dX3_greatestOfKin_36 : decode cX3_greatestOfKin 36 = .ok (.aload_n 0, 1) := by decide +kernel
theorem dX3_greatestOfKin_37 : decode cX3_greatestOfKin 37 = .ok (.getfield 15, 3) := by decide +kernel
theorem dX3_greatestOfKin_40 : decode cX3_greatestOfKin 40 = .ok (.iload_n 1, 1) := by decide +kernel
theorem dX3_greatestOfKin_41 : decode cX3_greatestOfKin 41 = .ok (.iload 7, 2) := by decide +kernel
theorem dX3_greatestOfKin_43 : decode cX3_greatestOfKin 43 = .ok (.iload_n 3, 1) := by decide +kernel
theorem dX3_greatestOfKin_44 : decode cX3_greatestOfKin 44 = .ok (.iload 4, 2) := by decide +kernel
theorem dX3_greatestOfKin_46 : decode cX3_greatestOfKin 46 = .ok (.invokevirtual 108, 3) := by decide +kernel
theorem dX3_greatestOfKin_49 : decode cX3_greatestOfKin 49 = .ok (.iload 5, 2) := by decide +kernel
theorem dX3_greatestOfKin_51 : decode cX3_greatestOfKin 51 = .ok (.if_icmp .gt 23, 3) := by decide +kernel
theorem dX3_greatestOfKin_54 : decode cX3_greatestOfKin 54 = .ok (.iload 6, 2) := by decide +kernel
theorem dX3_greatestOfKin_56 : decode cX3_greatestOfKin 56 = .ok (.aload_n 0, 1) := by decide +kernel
theorem dX3_greatestOfKin_57 : decode cX3_greatestOfKin 57 = .ok (.getfield 23, 3) := by decide +kernel
theorem dX3_greatestOfKin_60 : decode cX3_greatestOfKin 60 = .ok (.iload 7, 2) := by decide +kernel
theorem dX3_greatestOfKin_62 : decode cX3_greatestOfKin 62 = .ok (.iload_n 2, 1) := by decide +kernel
theorem dX3_greatestOfKin_63 : decode cX3_greatestOfKin 63 = .ok (.iload_n 3, 1) := by decide +kernel
theorem dX3_greatestOfKin_64 : decode cX3_greatestOfKin 64 = .ok (.iload 4, 2) := by decide +kernel
theorem dX3_greatestOfKin_66 : decode cX3_greatestOfKin 66 = .ok (.invokevirtual 153, 3) := by decide +kernel
theorem dX3_greatestOfKin_69 : decode cX3_greatestOfKin 69 = .ok (.invokestatic 179, 3) := by decide +kernel
theorem dX3_greatestOfKin_72 : decode cX3_greatestOfKin 72 = .ok (.istore 6, 2) := by decide +kernel
theorem dX3_greatestOfKin_74 : decode cX3_greatestOfKin 74 = .ok (.iinc 7 1, 3) := by decide +kernel
theorem dX3_greatestOfKin_77 : decode cX3_greatestOfKin 77 = .ok (.goto (-71), 3) := by decide +kernel
theorem dX3_greatestOfKin_80 : decode cX3_greatestOfKin 80 = .ok (.iload 6, 2) := by decide +kernel
theorem dX3_greatestOfKin_82 : decode cX3_greatestOfKin 82 = .ok (.ireturn, 1) := by decide +kernel
theorem dX3_seatsNeeded_0 : decode cX3_seatsNeeded 0 = .ok (.aload_n 0, 1) := by decide +kernel
theorem dX3_seatsNeeded_1 : decode cX3_seatsNeeded 1 = .ok (.getfield 35, 3) := by decide +kernel
theorem dX3_seatsNeeded_4 : decode cX3_seatsNeeded 4 = .ok (.iload_n 1, 1) := by decide +kernel
theorem dX3_seatsNeeded_5 : decode cX3_seatsNeeded 5 = .ok (.iload_n 2, 1) := by decide +kernel
theorem dX3_seatsNeeded_6 : decode cX3_seatsNeeded 6 = .ok (.invokevirtual 80, 3) := by decide +kernel
theorem dX3_seatsNeeded_9 : decode cX3_seatsNeeded 9 = .ok (.invokevirtual 184, 3) := by decide +kernel
theorem dX3_seatsNeeded_12 : decode cX3_seatsNeeded 12 = .ok (.ireturn, 1) := by decide +kernel
theorem dX3_isWarm_0 : decode cX3_isWarm 0 = .ok (.aload_n 0, 1) := by decide +kernel
theorem dX3_isWarm_1 : decode cX3_isWarm 1 = .ok (.getfield 35, 3) := by decide +kernel
theorem dX3_isWarm_4 : decode cX3_isWarm 4 = .ok (.iload_n 3, 1) := by decide +kernel
theorem dX3_isWarm_5 : decode cX3_isWarm 5 = .ok (.iload 4, 2) := by decide +kernel
theorem dX3_isWarm_7 : decode cX3_isWarm 7 = .ok (.invokevirtual 80, 3) := by decide +kernel
theorem dX3_isWarm_10 : decode cX3_isWarm 10 = .ok (.invokevirtual 187, 3) := by decide +kernel
theorem dX3_isWarm_13 : decode cX3_isWarm 13 = .ok (.istore 5, 2) := by decide +kernel
theorem dX3_isWarm_15 : decode cX3_isWarm 15 = .ok (.aload_n 0, 1) := by decide +kernel
theorem dX3_isWarm_16 : decode cX3_isWarm 16 = .ok (.getfield 19, 3) := by decide +kernel
theorem dX3_isWarm_19 : decode cX3_isWarm 19 = .ok (.iload_n 2, 1) := by decide +kernel
theorem dX3_isWarm_20 : decode cX3_isWarm 20 = .ok (.iload_n 3, 1) := by decide +kernel
theorem dX3_isWarm_21 : decode cX3_isWarm 21 = .ok (.iload 4, 2) := by decide +kernel
theorem dX3_isWarm_23 : decode cX3_isWarm 23 = .ok (.invokevirtual 134, 3) := by decide +kernel
theorem dX3_isWarm_26 : decode cX3_isWarm 26 = .ok (.istore 6, 2) := by decide +kernel
theorem dX3_isWarm_28 : decode cX3_isWarm 28 = .ok (.iconst 0, 1) := by decide +kernel
theorem dX3_isWarm_29 : decode cX3_isWarm 29 = .ok (.istore 7, 2) := by decide +kernel
theorem dX3_isWarm_31 : decode cX3_isWarm 31 = .ok (.iload 7, 2) := by decide +kernel
theorem dX3_isWarm_33 : decode cX3_isWarm 33 = .ok (.aload_n 0, 1) := by decide +kernel
theorem dX3_isWarm_34 : decode cX3_isWarm 34 = .ok (.getfield 31, 3) := by decide +kernel
theorem dX3_isWarm_37 : decode cX3_isWarm 37 = .ok (.invokevirtual 54, 3) := by decide +kernel
theorem dX3_isWarm_40 : decode cX3_isWarm 40 = .ok (.if_icmp .ge 105, 3) := by decide +kernel
theorem dX3_isWarm_43 : decode cX3_isWarm 43 = .ok (.aload_n 0, 1) := by decide +kernel
theorem dX3_isWarm_44 : decode cX3_isWarm 44 = .ok (.getfield 31, 3) := by decide +kernel
theorem dX3_isWarm_47 : decode cX3_isWarm 47 = .ok (.iload 7, 2) := by decide +kernel
theorem dX3_isWarm_49 : decode cX3_isWarm 49 = .ok (.invokevirtual 74, 3) := by decide +kernel
theorem dX3_isWarm_52 : decode cX3_isWarm 52 = .ok (.istore 8, 2) := by decide +kernel
theorem dX3_isWarm_54 : decode cX3_isWarm 54 = .ok (.aload_n 0, 1) := by decide +kernel
theorem dX3_isWarm_55 : decode cX3_isWarm 55 = .ok (.getfield 31, 3) := by decide +kernel
theorem dX3_isWarm_58 : decode cX3_isWarm 58 = .ok (.iload 7, 2) := by decide +kernel
theorem dX3_isWarm_60 : decode cX3_isWarm 60 = .ok (.iload 4, 2) := by decide +kernel
theorem dX3_isWarm_62 : decode cX3_isWarm 62 = .ok (.invokevirtual 60, 3) := by decide +kernel
theorem dX3_isWarm_65 : decode cX3_isWarm 65 = .ok (.ifCond .eq 74, 3) := by decide +kernel
theorem dX3_isWarm_68 : decode cX3_isWarm 68 = .ok (.aload_n 0, 1) := by decide +kernel
theorem dX3_isWarm_69 : decode cX3_isWarm 69 = .ok (.getfield 31, 3) := by decide +kernel
theorem dX3_isWarm_72 : decode cX3_isWarm 72 = .ok (.iload 7, 2) := by decide +kernel
theorem dX3_isWarm_74 : decode cX3_isWarm 74 = .ok (.invokevirtual 64, 3) := by decide +kernel
theorem dX3_isWarm_77 : decode cX3_isWarm 77 = .ok (.iload_n 1, 1) := by decide +kernel
theorem dX3_isWarm_78 : decode cX3_isWarm 78 = .ok (.if_icmp .ne 61, 3) := by decide +kernel
theorem dX3_isWarm_81 : decode cX3_isWarm 81 = .ok (.iload 8, 2) := by decide +kernel
theorem dX3_isWarm_83 : decode cX3_isWarm 83 = .ok (.iload_n 3, 1) := by decide +kernel
theorem dX3_isWarm_84 : decode cX3_isWarm 84 = .ok (.if_icmp .gt 55, 3) := by decide +kernel
theorem dX3_isWarm_87 : decode cX3_isWarm 87 = .ok (.iload 8, 2) := by decide +kernel
theorem dX3_isWarm_89 : decode cX3_isWarm 89 = .ok (.iload_n 3, 1) := by decide +kernel
theorem dX3_isWarm_90 : decode cX3_isWarm 90 = .ok (.iload 5, 2) := by decide +kernel
theorem dX3_isWarm_92 : decode cX3_isWarm 92 = .ok (.isub, 1) := by decide +kernel
theorem dX3_isWarm_93 : decode cX3_isWarm 93 = .ok (.if_icmp .le 46, 3) := by decide +kernel
theorem dX3_isWarm_96 : decode cX3_isWarm 96 = .ok (.aload_n 0, 1) := by decide +kernel
theorem dX3_isWarm_97 : decode cX3_isWarm 97 = .ok (.getfield 19, 3) := by decide +kernel
theorem dX3_isWarm_100 : decode cX3_isWarm 100 = .ok (.aload_n 0, 1) := by decide +kernel
theorem dX3_isWarm_101 : decode cX3_isWarm 101 = .ok (.getfield 31, 3) := by decide +kernel
theorem dX3_isWarm_104 : decode cX3_isWarm 104 = .ok (.iload 7, 2) := by decide +kernel
theorem dX3_isWarm_106 : decode cX3_isWarm 106 = .ok (.invokevirtual 77, 3) := by decide +kernel
theorem dX3_isWarm_109 : decode cX3_isWarm 109 = .ok (.iload_n 3, 1) := by decide +kernel
theorem dX3_isWarm_110 : decode cX3_isWarm 110 = .ok (.iload 4, 2) := by decide +kernel
theorem dX3_isWarm_112 : decode cX3_isWarm 112 = .ok (.invokevirtual 134, 3) := by decide +kernel
theorem dX3_isWarm_115 : decode cX3_isWarm 115 = .ok (.iload 6, 2) := by decide +kernel
theorem dX3_isWarm_117 : decode cX3_isWarm 117 = .ok (.if_icmp .ne 22, 3) := by decide +kernel
theorem dX3_isWarm_120 : decode cX3_isWarm 120 = .ok (.aload_n 0, 1) := by decide +kernel
theorem dX3_isWarm_121 : decode cX3_isWarm 121 = .ok (.getfield 31, 3) := by decide +kernel
theorem dX3_isWarm_124 : decode cX3_isWarm 124 = .ok (.iload 7, 2) := by decide +kernel
theorem dX3_isWarm_126 : decode cX3_isWarm 126 = .ok (.iload_n 3, 1) := by decide +kernel
theorem dX3_isWarm_127 : decode cX3_isWarm 127 = .ok (.iconst 1, 1) := by decide +kernel
theorem dX3_isWarm_128 : decode cX3_isWarm 128 = .ok (.isub, 1) := by decide +kernel
theorem dX3_isWarm_129 : decode cX3_isWarm 129 = .ok (.iload 4, 2) := by decide +kernel
theorem dX3_isWarm_131 : decode cX3_isWarm 131 = .ok (.invokevirtual 126, 3) := by decide +kernel
theorem dX3_isWarm_134 : decode cX3_isWarm 134 = .ok (.ifCond .ne 5, 3) := by decide +kernel
theorem dX3_isWarm_137 : decode cX3_isWarm 137 = .ok (.iconst 1, 1) := by decide +kernel
theorem dX3_isWarm_138 : decode cX3_isWarm 138 = .ok (.ireturn, 1) := by decide +kernel
theorem dX3_isWarm_139 : decode cX3_isWarm 139 = .ok (.iinc 7 1, 3) := by decide +kernel
theorem dX3_isWarm_142 : decode cX3_isWarm 142 = .ok (.goto (-111), 3) := by decide +kernel
theorem dX3_isWarm_145 : decode cX3_isWarm 145 = .ok (.iconst 0, 1) := by decide +kernel
theorem dX3_isWarm_146 : decode cX3_isWarm 146 = .ok (.ireturn, 1) := by decide +kernel
theorem dX4_init_0 : decode cX4_init 0 = .ok (.aload_n 0, 1) := by decide +kernel
theorem dX4_init_1 : decode cX4_init 1 = .ok (.invokespecial 3, 3) := by decide +kernel
theorem dX4_init_4 : decode cX4_init 4 = .ok (.aload_n 0, 1) := by decide +kernel
theorem dX4_init_5 : decode cX4_init 5 = .ok (.iconst 1, 1) := by decide +kernel
theorem dX4_init_6 : decode cX4_init 6 = .ok (.putfield 11, 3) := by decide +kernel
theorem dX4_init_9 : decode cX4_init 9 = .ok (.aload_n 0, 1) := by decide +kernel
theorem dX4_init_10 : decode cX4_init 10 = .ok (.sipush 365, 3) := by decide +kernel
theorem dX4_init_13 : decode cX4_init 13 = .ok (.putfield 15, 3) := by decide +kernel
theorem dX4_init_16 : decode cX4_init 16 = .ok (.aload_n 0, 1) := by decide +kernel
theorem dX4_init_17 : decode cX4_init 17 = .ok (.sipush 365, 3) := by decide +kernel
theorem dX4_init_20 : decode cX4_init 20 = .ok (.putfield 18, 3) := by decide +kernel
theorem dX4_init_23 : decode cX4_init 23 = .ok (.aload_n 0, 1) := by decide +kernel
theorem dX4_init_24 : decode cX4_init 24 = .ok (.bipush 90, 2) := by decide +kernel
theorem dX4_init_26 : decode cX4_init 26 = .ok (.putfield 21, 3) := by decide +kernel
theorem dX4_init_29 : decode cX4_init 29 = .ok (.aload_n 0, 1) := by decide +kernel
theorem dX4_init_30 : decode cX4_init 30 = .ok (.bipush 8, 2) := by decide +kernel
theorem dX4_init_32 : decode cX4_init 32 = .ok (.newarray .int, 2) := by decide +kernel
theorem dX4_init_34 : decode cX4_init 34 = .ok (.putfield 24, 3) := by decide +kernel
theorem dX4_init_37 : decode cX4_init 37 = .ok (.aload_n 0, 1) := by decide +kernel
theorem dX4_init_38 : decode cX4_init 38 = .ok (.bipush 10, 2) := by decide +kernel
theorem dX4_init_40 : decode cX4_init 40 = .ok (.newarray .int, 2) := by decide +kernel
theorem dX4_init_42 : decode cX4_init 42 = .ok (.putfield 28, 3) := by decide +kernel
theorem dX4_init_45 : decode cX4_init 45 = .ok (.aload_n 0, 1) := by decide +kernel
theorem dX4_init_46 : decode cX4_init 46 = .ok (.bipush 10, 2) := by decide +kernel
theorem dX4_init_48 : decode cX4_init 48 = .ok (.newarray .int, 2) := by decide +kernel
theorem dX4_init_50 : decode cX4_init 50 = .ok (.putfield 31, 3) := by decide +kernel
theorem dX4_init_53 : decode cX4_init 53 = .ok (.aload_n 0, 1) := by decide +kernel
theorem dX4_init_54 : decode cX4_init 54 = .ok (.bipush 120, 2) := by decide +kernel
theorem dX4_init_56 : decode cX4_init 56 = .ok (.newarray .int, 2) := by decide +kernel
theorem dX4_init_58 : decode cX4_init 58 = .ok (.putfield 34, 3) := by decide +kernel
theorem dX4_init_61 : decode cX4_init 61 = .ok (.aload_n 0, 1) := by decide +kernel
theorem dX4_init_62 : decode cX4_init 62 = .ok (.bipush 120, 2) := by decide +kernel
theorem dX4_init_64 : decode cX4_init 64 = .ok (.newarray .int, 2) := by decide +kernel
theorem dX4_init_66 : decode cX4_init 66 = .ok (.putfield 37, 3) := by decide +kernel
theorem dX4_init_69 : decode cX4_init 69 = .ok (.aload_n 0, 1) := by decide +kernel
theorem dX4_init_70 : decode cX4_init 70 = .ok (.bipush 120, 2) := by decide +kernel
theorem dX4_init_72 : decode cX4_init 72 = .ok (.newarray .int, 2) := by decide +kernel
theorem dX4_init_74 : decode cX4_init 74 = .ok (.putfield 40, 3) := by decide +kernel
theorem dX4_init_77 : decode cX4_init 77 = .ok (.return_, 1) := by decide +kernel
theorem dX4_clear_0 : decode cX4_clear 0 = .ok (.aload_n 0, 1) := by decide +kernel
theorem dX4_clear_1 : decode cX4_clear 1 = .ok (.iload_n 1, 1) := by decide +kernel
theorem dX4_clear_2 : decode cX4_clear 2 = .ok (.putfield 43, 3) := by decide +kernel
theorem dX4_clear_5 : decode cX4_clear 5 = .ok (.aload_n 0, 1) := by decide +kernel
theorem dX4_clear_6 : decode cX4_clear 6 = .ok (.iload_n 2, 1) := by decide +kernel
theorem dX4_clear_7 : decode cX4_clear 7 = .ok (.putfield 46, 3) := by decide +kernel
theorem dX4_clear_10 : decode cX4_clear 10 = .ok (.aload_n 0, 1) := by decide +kernel
theorem dX4_clear_11 : decode cX4_clear 11 = .ok (.iconst 0, 1) := by decide +kernel
theorem dX4_clear_12 : decode cX4_clear 12 = .ok (.putfield 49, 3) := by decide +kernel
theorem dX4_clear_15 : decode cX4_clear 15 = .ok (.aload_n 0, 1) := by decide +kernel
theorem dX4_clear_16 : decode cX4_clear 16 = .ok (.iconst 0, 1) := by decide +kernel
theorem dX4_clear_17 : decode cX4_clear 17 = .ok (.putfield 52, 3) := by decide +kernel
theorem dX4_clear_20 : decode cX4_clear 20 = .ok (.aload_n 0, 1) := by decide +kernel
theorem dX4_clear_21 : decode cX4_clear 21 = .ok (.iconst 1, 1) := by decide +kernel
theorem dX4_clear_22 : decode cX4_clear 22 = .ok (.putfield 11, 3) := by decide +kernel
theorem dX4_clear_25 : decode cX4_clear 25 = .ok (.aload_n 0, 1) := by decide +kernel
theorem dX4_clear_26 : decode cX4_clear 26 = .ok (.sipush 365, 3) := by decide +kernel
theorem dX4_clear_29 : decode cX4_clear 29 = .ok (.putfield 15, 3) := by decide +kernel
theorem dX4_clear_32 : decode cX4_clear 32 = .ok (.aload_n 0, 1) := by decide +kernel
theorem dX4_clear_33 : decode cX4_clear 33 = .ok (.sipush 365, 3) := by decide +kernel
theorem dX4_clear_36 : decode cX4_clear 36 = .ok (.putfield 18, 3) := by decide +kernel
theorem dX4_clear_39 : decode cX4_clear 39 = .ok (.aload_n 0, 1) := by decide +kernel
theorem dX4_clear_40 : decode cX4_clear 40 = .ok (.bipush 90, 2) := by decide +kernel
theorem dX4_clear_42 : decode cX4_clear 42 = .ok (.putfield 21, 3) := by decide +kernel
theorem dX4_clear_45 : decode cX4_clear 45 = .ok (.aload_n 0, 1) := by decide +kernel
theorem dX4_clear_46 : decode cX4_clear 46 = .ok (.iconst 0, 1) := by decide +kernel
theorem dX4_clear_47 : decode cX4_clear 47 = .ok (.putfield 55, 3) := by decide +kernel
theorem dX4_clear_50 : decode cX4_clear 50 = .ok (.aload_n 0, 1) := by decide +kernel
theorem dX4_clear_51 : decode cX4_clear 51 = .ok (.iconst 0, 1) := by decide +kernel
theorem dX4_clear_52 : decode cX4_clear 52 = .ok (.putfield 58, 3) := by decide +kernel
theorem dX4_clear_55 : decode cX4_clear 55 = .ok (.aload_n 0, 1) := by decide +kernel
theorem dX4_clear_56 : decode cX4_clear 56 = .ok (.getfield 28, 3) := by decide +kernel
theorem dX4_clear_59 : decode cX4_clear 59 = .ok (.iconst 0, 1) := by decide +kernel
theorem dX4_clear_60 : decode cX4_clear 60 = .ok (.invokestatic 61, 3) := by decide +kernel
theorem dX4_clear_63 : decode cX4_clear 63 = .ok (.aload_n 0, 1) := by decide +kernel
theorem dX4_clear_64 : decode cX4_clear 64 = .ok (.getfield 31, 3) := by decide +kernel
theorem dX4_clear_67 : decode cX4_clear 67 = .ok (.iconst 0, 1) := by decide +kernel
theorem dX4_clear_68 : decode cX4_clear 68 = .ok (.invokestatic 61, 3) := by decide +kernel
theorem dX4_clear_71 : decode cX4_clear 71 = .ok (.return_, 1) := by decide +kernel
theorem dX4_isInForce_0 : decode cX4_isInForce 0 = .ok (.aload_n 0, 1) := by decide +kernel
theorem dX4_isInForce_1 : decode cX4_isInForce 1 = .ok (.getfield 46, 3) := by decide +kernel
theorem dX4_isInForce_4 : decode cX4_isInForce 4 = .ok (.iload_n 2, 1) := by decide +kernel
theorem dX4_isInForce_5 : decode cX4_isInForce 5 = .ok (.if_icmp .gt 15, 3) := by decide +kernel
theorem dX4_isInForce_8 : decode cX4_isInForce 8 = .ok (.aload_n 0, 1) := by decide +kernel
theorem dX4_isInForce_9 : decode cX4_isInForce 9 = .ok (.getfield 43, 3) := by decide +kernel
theorem dX4_isInForce_12 : decode cX4_isInForce 12 = .ok (.iload_n 1, 1) := by decide +kernel
theorem dX4_isInForce_13 : decode cX4_isInForce 13 = .ok (.if_icmp .gt 7, 3) := by decide +kernel
theorem dX4_isInForce_16 : decode cX4_isInForce 16 = .ok (.iconst 1, 1) := by decide +kernel
theorem dX4_isInForce_17 : decode cX4_isInForce 17 = .ok (.goto 4, 3) := by decide +kernel
theorem dX4_isInForce_20 : decode cX4_isInForce 20 = .ok (.iconst 0, 1) := by decide +kernel
theorem dX4_isInForce_21 : decode cX4_isInForce 21 = .ok (.ireturn, 1) := by decide +kernel
theorem dX4_since_0 : decode cX4_since 0 = .ok (.aload_n 0, 1) := by decide +kernel
theorem dX4_since_1 : decode cX4_since 1 = .ok (.getfield 43, 3) := by decide +kernel
theorem dX4_since_4 : decode cX4_since 4 = .ok (.ireturn, 1) := by decide +kernel
theorem dX4_countRule_0 : decode cX4_countRule 0 = .ok (.aload_n 0, 1) := by decide +kernel
theorem dX4_countRule_1 : decode cX4_countRule 1 = .ok (.dup, 1) := by decide +kernel
theorem dX4_countRule_2 : decode cX4_countRule 2 = .ok (.getfield 49, 3) := by decide +kernel
theorem dX4_countRule_5 : decode cX4_countRule 5 = .ok (.iconst 1, 1) := by decide +kernel
theorem dX4_countRule_6 : decode cX4_countRule 6 = .ok (.iadd, 1) := by decide +kernel
theorem dX4_countRule_7 : decode cX4_countRule 7 = .ok (.putfield 49, 3) := by decide +kernel
theorem dX4_countRule_10 : decode cX4_countRule 10 = .ok (.return_, 1) := by decide +kernel
theorem dX4_totalRules_0 : decode cX4_totalRules 0 = .ok (.aload_n 0, 1) := by decide +kernel
theorem dX4_totalRules_1 : decode cX4_totalRules 1 = .ok (.getfield 49, 3) := by decide +kernel
theorem dX4_totalRules_4 : decode cX4_totalRules 4 = .ok (.ireturn, 1) := by decide +kernel
theorem dX4_totalTells_0 : decode cX4_totalTells 0 = .ok (.aload_n 0, 1) := by decide +kernel
theorem dX4_totalTells_1 : decode cX4_totalTells 1 = .ok (.getfield 52, 3) := by decide +kernel
theorem dX4_totalTells_4 : decode cX4_totalTells 4 = .ok (.ireturn, 1) := by decide +kernel
theorem dX4_kinLimit_0 : decode cX4_kinLimit 0 = .ok (.aload_n 0, 1) := by decide +kernel
theorem dX4_kinLimit_1 : decode cX4_kinLimit 1 = .ok (.getfield 11, 3) := by decide +kernel
theorem dX4_kinLimit_4 : decode cX4_kinLimit 4 = .ok (.ireturn, 1) := by decide +kernel
theorem dX4_year_0 : decode cX4_year 0 = .ok (.aload_n 0, 1) := by decide +kernel
theorem dX4_year_1 : decode cX4_year 1 = .ok (.getfield 15, 3) := by decide +kernel
theorem dX4_year_4 : decode cX4_year 4 = .ok (.ireturn, 1) := by decide +kernel
theorem dX4_old_0 : decode cX4_old 0 = .ok (.aload_n 0, 1) := by decide +kernel
theorem dX4_old_1 : decode cX4_old 1 = .ok (.getfield 18, 3) := by decide +kernel
theorem dX4_old_4 : decode cX4_old 4 = .ok (.ireturn, 1) := by decide +kernel
theorem dX4_link_0 : decode cX4_link 0 = .ok (.aload_n 0, 1) := by decide +kernel
theorem dX4_link_1 : decode cX4_link 1 = .ok (.getfield 21, 3) := by decide +kernel
theorem dX4_link_4 : decode cX4_link 4 = .ok (.ireturn, 1) := by decide +kernel
theorem dX4_seatsNeeded_0 : decode cX4_seatsNeeded 0 = .ok (.aload_n 0, 1) := by decide +kernel
theorem dX4_seatsNeeded_1 : decode cX4_seatsNeeded 1 = .ok (.getfield 55, 3) := by decide +kernel
theorem dX4_seatsNeeded_4 : decode cX4_seatsNeeded 4 = .ok (.ireturn, 1) := by decide +kernel
theorem dX4_set_0 : decode cX4_set 0 = .ok (.iload_n 1, 1) := by decide +kernel
theorem dX4_set_1 : decode cX4_set 1 = .ok (.lookupswitch 75 #[(8, 43), (22, 51), (23, 59), (24, 67)], 43) := by decide +kernel
theorem dX4_set_44 : decode cX4_set 44 = .ok (.aload_n 0, 1) := by decide +kernel
theorem dX4_set_45 : decode cX4_set 45 = .ok (.iload_n 2, 1) := by decide +kernel
theorem dX4_set_46 : decode cX4_set 46 = .ok (.putfield 11, 3) := by decide +kernel
theorem dX4_set_49 : decode cX4_set 49 = .ok (.goto 32, 3) := by decide +kernel
theorem dX4_set_52 : decode cX4_set 52 = .ok (.aload_n 0, 1) := by decide +kernel
theorem dX4_set_53 : decode cX4_set 53 = .ok (.iload_n 2, 1) := by decide +kernel
theorem dX4_set_54 : decode cX4_set 54 = .ok (.putfield 15, 3) := by decide +kernel
theorem dX4_set_57 : decode cX4_set 57 = .ok (.goto 24, 3) := by decide +kernel
theorem dX4_set_60 : decode cX4_set 60 = .ok (.aload_n 0, 1) := by decide +kernel
theorem dX4_set_61 : decode cX4_set 61 = .ok (.iload_n 2, 1) := by decide +kernel
theorem dX4_set_62 : decode cX4_set 62 = .ok (.putfield 18, 3) := by decide +kernel
theorem dX4_set_65 : decode cX4_set 65 = .ok (.goto 16, 3) := by decide +kernel
theorem dX4_set_68 : decode cX4_set 68 = .ok (.aload_n 0, 1) := by decide +kernel
theorem dX4_set_69 : decode cX4_set 69 = .ok (.iload_n 2, 1) := by decide +kernel
theorem dX4_set_70 : decode cX4_set 70 = .ok (.putfield 21, 3) := by decide +kernel
theorem dX4_set_73 : decode cX4_set 73 = .ok (.goto 8, 3) := by decide +kernel
theorem dX4_set_76 : decode cX4_set 76 = .ok (.aload_n 0, 1) := by decide +kernel
theorem dX4_set_77 : decode cX4_set 77 = .ok (.iload_n 2, 1) := by decide +kernel
theorem dX4_set_78 : decode cX4_set 78 = .ok (.putfield 55, 3) := by decide +kernel
theorem dX4_set_81 : decode cX4_set 81 = .ok (.return_, 1) := by decide +kernel
theorem dX4_addTell_0 : decode cX4_addTell 0 = .ok (.aload_n 0, 1) := by decide +kernel
theorem dX4_addTell_1 : decode cX4_addTell 1 = .ok (.getfield 52, 3) := by decide +kernel
theorem dX4_addTell_4 : decode cX4_addTell 4 = .ok (.ifCond .lt 12, 3) := by decide +kernel
theorem dX4_addTell_7 : decode cX4_addTell 7 = .ok (.aload_n 0, 1) := by decide +kernel
theorem dX4_addTell_8 : decode cX4_addTell 8 = .ok (.getfield 52, 3) := by decide +kernel
theorem dX4_addTell_11 : decode cX4_addTell 11 = .ok (.bipush 8, 2) := by decide +kernel
theorem dX4_addTell_13 : decode cX4_addTell 13 = .ok (.if_icmp .lt 5, 3) := by decide +kernel
theorem dX4_addTell_16 : decode cX4_addTell 16 = .ok (.iconst (-1), 1) := by decide +kernel
theorem dX4_addTell_17 : decode cX4_addTell 17 = .ok (.ireturn, 1) := by decide +kernel
theorem dX4_addTell_18 : decode cX4_addTell 18 = .ok (.aload_n 0, 1) := by decide +kernel
theorem dX4_addTell_19 : decode cX4_addTell 19 = .ok (.getfield 24, 3) := by decide +kernel
theorem dX4_addTell_22 : decode cX4_addTell 22 = .ok (.aload_n 0, 1) := by decide +kernel
theorem dX4_addTell_23 : decode cX4_addTell 23 = .ok (.getfield 52, 3) := by decide +kernel
theorem dX4_addTell_26 : decode cX4_addTell 26 = .ok (.iload_n 1, 1) := by decide +kernel
theorem dX4_addTell_27 : decode cX4_addTell 27 = .ok (.iastore, 1) := by decide +kernel
theorem dX4_addTell_28 : decode cX4_addTell 28 = .ok (.aload_n 0, 1) := by decide +kernel
theorem dX4_addTell_29 : decode cX4_addTell 29 = .ok (.dup, 1) := by decide +kernel
theorem dX4_addTell_30 : decode cX4_addTell 30 = .ok (.getfield 52, 3) := by decide +kernel
theorem dX4_addTell_33 : decode cX4_addTell 33 = .ok (.iconst 1, 1) := by decide +kernel
theorem dX4_addTell_34 : decode cX4_addTell 34 = .ok (.iadd, 1) := by decide +kernel
theorem dX4_addTell_35 : decode cX4_addTell 35 = .ok (.putfield 52, 3) := by decide +kernel
theorem dX4_addTell_38 : decode cX4_addTell 38 = .ok (.aload_n 0, 1) := by decide +kernel
theorem dX4_addTell_39 : decode cX4_addTell 39 = .ok (.getfield 52, 3) := by decide +kernel
theorem dX4_addTell_42 : decode cX4_addTell 42 = .ok (.iconst 1, 1) := by decide +kernel
theorem dX4_addTell_43 : decode cX4_addTell 43 = .ok (.isub, 1) := by decide +kernel
theorem dX4_addTell_44 : decode cX4_addTell 44 = .ok (.ireturn, 1) := by decide +kernel
theorem dX4_within_0 : decode cX4_within 0 = .ok (.iload_n 1, 1) := by decide +kernel
theorem dX4_within_1 : decode cX4_within 1 = .ok (.ifCond .lt 18, 3) := by decide +kernel
theorem dX4_within_4 : decode cX4_within 4 = .ok (.iload_n 1, 1) := by decide +kernel
theorem dX4_within_5 : decode cX4_within 5 = .ok (.bipush 8, 2) := by decide +kernel
theorem dX4_within_7 : decode cX4_within 7 = .ok (.if_icmp .ge 12, 3) := by decide +kernel
theorem dX4_within_10 : decode cX4_within 10 = .ok (.aload_n 0, 1) := by decide +kernel
theorem dX4_within_11 : decode cX4_within 11 = .ok (.getfield 24, 3) := by decide +kernel
theorem dX4_within_14 : decode cX4_within 14 = .ok (.iload_n 1, 1) := by decide +kernel
theorem dX4_within_15 : decode cX4_within 15 = .ok (.iaload, 1) := by decide +kernel
theorem dX4_within_16 : decode cX4_within 16 = .ok (.goto 5, 3) := by decide +kernel
theorem dX4_within_19 : decode cX4_within 19 = .ok (.bipush 30, 2) := by decide +kernel
theorem dX4_within_21 : decode cX4_within 21 = .ok (.ireturn, 1) := by decide +kernel
theorem dX4_begin_0 : decode cX4_begin 0 = .ok (.iload_n 1, 1) := by decide +kernel
theorem dX4_begin_1 : decode cX4_begin 1 = .ok (.ifCond .lt 29, 3) := by decide +kernel
theorem dX4_begin_4 : decode cX4_begin 4 = .ok (.iload_n 1, 1) := by decide +kernel
theorem dX4_begin_5 : decode cX4_begin 5 = .ok (.bipush 10, 2) := by decide +kernel
theorem dX4_begin_7 : decode cX4_begin 7 = .ok (.if_icmp .ge 23, 3) := by decide +kernel
theorem dX4_begin_10 : decode cX4_begin 10 = .ok (.aload_n 0, 1) := by decide +kernel
theorem dX4_begin_11 : decode cX4_begin 11 = .ok (.getfield 28, 3) := by decide +kernel
theorem dX4_begin_14 : decode cX4_begin 14 = .ok (.iload_n 1, 1) := by decide +kernel
theorem dX4_begin_15 : decode cX4_begin 15 = .ok (.aload_n 0, 1) := by decide +kernel
theorem dX4_begin_16 : decode cX4_begin 16 = .ok (.getfield 58, 3) := by decide +kernel
theorem dX4_begin_19 : decode cX4_begin 19 = .ok (.iastore, 1) := by decide +kernel
