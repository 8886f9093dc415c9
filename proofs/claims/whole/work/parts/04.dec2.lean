theorem dX11_isSpan_32 : decode cX11_isSpan 32 = .ok (.iconst 0, 1) := by decide +kernel
theorem dX11_isSpan_33 : decode cX11_isSpan 33 = .ok (.ireturn, 1) := by decide +kernel
theorem dX11_isDay_0 : decode cX11_isDay 0 = .ok (.iload_n 0, 1) := by decide +kernel
theorem dX11_isDay_1 : decode cX11_isDay 1 = .ok (.ifCond .lt 14, 3) := by decide +kernel
theorem dX11_isDay_4 : decode cX11_isDay 4 = .ok (.iload_n 0, 1) := by decide +kernel
theorem dX11_isDay_5 : decode cX11_isDay 5 = .ok (.sipush 9999, 3) := by decide +kernel
theorem dX11_isDay_8 : decode cX11_isDay 8 = .ok (.if_icmp .gt 7, 3) := by decide +kernel
theorem dX11_isDay_11 : decode cX11_isDay 11 = .ok (.iconst 1, 1) := by decide +kernel
theorem dX11_isDay_12 : decode cX11_isDay 12 = .ok (.goto 4, 3) := by decide +kernel
theorem dX11_isDay_15 : decode cX11_isDay 15 = .ok (.iconst 0, 1) := by decide +kernel
theorem dX11_isDay_16 : decode cX11_isDay 16 = .ok (.ireturn, 1) := by decide +kernel
theorem dX11_kin_0 : decode cX11_kin 0 = .ok (.aload_n 0, 1) := by decide +kernel
theorem dX11_kin_1 : decode cX11_kin 1 = .ok (.getfield 21, 3) := by decide +kernel
theorem dX11_kin_4 : decode cX11_kin 4 = .ok (.iload_n 1, 1) := by decide +kernel
theorem dX11_kin_5 : decode cX11_kin 5 = .ok (.invokevirtual 132, 3) := by decide +kernel
theorem dX11_kin_8 : decode cX11_kin 8 = .ok (.ifCond .eq 19, 3) := by decide +kernel
theorem dX11_kin_11 : decode cX11_kin 11 = .ok (.aload_n 0, 1) := by decide +kernel
theorem dX11_kin_12 : decode cX11_kin 12 = .ok (.getfield 21, 3) := by decide +kernel
theorem dX11_kin_15 : decode cX11_kin 15 = .ok (.iload_n 2, 1) := by decide +kernel
theorem dX11_kin_16 : decode cX11_kin 16 = .ok (.invokevirtual 132, 3) := by decide +kernel
theorem dX11_kin_19 : decode cX11_kin 19 = .ok (.ifCond .eq 8, 3) := by decide +kernel
theorem dX11_kin_22 : decode cX11_kin 22 = .ok (.iload_n 1, 1) := by decide +kernel
theorem dX11_kin_23 : decode cX11_kin 23 = .ok (.iload_n 2, 1) := by decide +kernel
theorem dX11_kin_24 : decode cX11_kin 24 = .ok (.if_icmp .ne 6, 3) := by decide +kernel
theorem dX11_kin_27 : decode cX11_kin 27 = .ok (.bipush (-2), 2) := by decide +kernel
theorem dX11_kin_29 : decode cX11_kin 29 = .ok (.ireturn, 1) := by decide +kernel
theorem dX11_kin_30 : decode cX11_kin 30 = .ok (.iload_n 3, 1) := by decide +kernel
theorem dX11_kin_31 : decode cX11_kin 31 = .ok (.iload 4, 2) := by decide +kernel
theorem dX11_kin_33 : decode cX11_kin 33 = .ok (.iconst 1, 1) := by decide +kernel
theorem dX11_kin_34 : decode cX11_kin 34 = .ok (.invokestatic 118, 3) := by decide +kernel
theorem dX11_kin_37 : decode cX11_kin 37 = .ok (.ifCond .ne 6, 3) := by decide +kernel
theorem dX11_kin_40 : decode cX11_kin 40 = .ok (.bipush (-3), 2) := by decide +kernel
theorem dX11_kin_42 : decode cX11_kin 42 = .ok (.ireturn, 1) := by decide +kernel
theorem dX11_kin_43 : decode cX11_kin 43 = .ok (.aload_n 0, 1) := by decide +kernel
theorem dX11_kin_44 : decode cX11_kin 44 = .ok (.getfield 21, 3) := by decide +kernel
theorem dX11_kin_47 : decode cX11_kin 47 = .ok (.iload_n 1, 1) := by decide +kernel
theorem dX11_kin_48 : decode cX11_kin 48 = .ok (.iload_n 2, 1) := by decide +kernel
theorem dX11_kin_49 : decode cX11_kin 49 = .ok (.iload_n 3, 1) := by decide +kernel
theorem dX11_kin_50 : decode cX11_kin 50 = .ok (.iload 4, 2) := by decide +kernel
theorem dX11_kin_52 : decode cX11_kin 52 = .ok (.aload_n 0, 1) := by decide +kernel
theorem dX11_kin_53 : decode cX11_kin 53 = .ok (.getfield 96, 3) := by decide +kernel
theorem dX11_kin_56 : decode cX11_kin 56 = .ok (.invokevirtual 135, 3) := by decide +kernel
theorem dX11_kin_59 : decode cX11_kin 59 = .ok (.ireturn, 1) := by decide +kernel
theorem dX11_post_0 : decode cX11_post 0 = .ok (.aload_n 0, 1) := by decide +kernel
theorem dX11_post_1 : decode cX11_post 1 = .ok (.getfield 21, 3) := by decide +kernel
theorem dX11_post_4 : decode cX11_post 4 = .ok (.iload_n 1, 1) := by decide +kernel
theorem dX11_post_5 : decode cX11_post 5 = .ok (.invokevirtual 132, 3) := by decide +kernel
theorem dX11_post_8 : decode cX11_post 8 = .ok (.ifCond .eq 14, 3) := by decide +kernel
theorem dX11_post_11 : decode cX11_post 11 = .ok (.aload_n 0, 1) := by decide +kernel
theorem dX11_post_12 : decode cX11_post 12 = .ok (.getfield 21, 3) := by decide +kernel
theorem dX11_post_15 : decode cX11_post 15 = .ok (.iload_n 2, 1) := by decide +kernel
theorem dX11_post_16 : decode cX11_post 16 = .ok (.invokevirtual 115, 3) := by decide +kernel
theorem dX11_post_19 : decode cX11_post 19 = .ok (.ifCond .ne 6, 3) := by decide +kernel
theorem dX11_post_22 : decode cX11_post 22 = .ok (.bipush (-2), 2) := by decide +kernel
theorem dX11_post_24 : decode cX11_post 24 = .ok (.ireturn, 1) := by decide +kernel
theorem dX11_post_25 : decode cX11_post 25 = .ok (.iload_n 3, 1) := by decide +kernel
theorem dX11_post_26 : decode cX11_post 26 = .ok (.iload 4, 2) := by decide +kernel
theorem dX11_post_28 : decode cX11_post 28 = .ok (.iconst 0, 1) := by decide +kernel
theorem dX11_post_29 : decode cX11_post 29 = .ok (.invokestatic 118, 3) := by decide +kernel
theorem dX11_post_32 : decode cX11_post 32 = .ok (.ifCond .ne 6, 3) := by decide +kernel
theorem dX11_post_35 : decode cX11_post 35 = .ok (.bipush (-3), 2) := by decide +kernel
theorem dX11_post_37 : decode cX11_post 37 = .ok (.ireturn, 1) := by decide +kernel
theorem dX11_post_38 : decode cX11_post 38 = .ok (.aload_n 0, 1) := by decide +kernel
theorem dX11_post_39 : decode cX11_post 39 = .ok (.getfield 44, 3) := by decide +kernel
theorem dX11_post_42 : decode cX11_post 42 = .ok (.iload_n 1, 1) := by decide +kernel
theorem dX11_post_43 : decode cX11_post 43 = .ok (.iload_n 2, 1) := by decide +kernel
theorem dX11_post_44 : decode cX11_post 44 = .ok (.iconst 0, 1) := by decide +kernel
theorem dX11_post_45 : decode cX11_post 45 = .ok (.iload_n 3, 1) := by decide +kernel
theorem dX11_post_46 : decode cX11_post 46 = .ok (.iload 4, 2) := by decide +kernel
theorem dX11_post_48 : decode cX11_post 48 = .ok (.aload_n 0, 1) := by decide +kernel
theorem dX11_post_49 : decode cX11_post 49 = .ok (.getfield 96, 3) := by decide +kernel
theorem dX11_post_52 : decode cX11_post 52 = .ok (.invokevirtual 139, 3) := by decide +kernel
theorem dX11_post_55 : decode cX11_post 55 = .ok (.ireturn, 1) := by decide +kernel
theorem dX11_gift_0 : decode cX11_gift 0 = .ok (.aload_n 0, 1) := by decide +kernel
theorem dX11_gift_1 : decode cX11_gift 1 = .ok (.getfield 21, 3) := by decide +kernel
theorem dX11_gift_4 : decode cX11_gift 4 = .ok (.iload_n 1, 1) := by decide +kernel
theorem dX11_gift_5 : decode cX11_gift 5 = .ok (.invokevirtual 111, 3) := by decide +kernel
theorem dX11_gift_8 : decode cX11_gift 8 = .ok (.ifCond .eq 19, 3) := by decide +kernel
theorem dX11_gift_11 : decode cX11_gift 11 = .ok (.aload_n 0, 1) := by decide +kernel
theorem dX11_gift_12 : decode cX11_gift 12 = .ok (.getfield 21, 3) := by decide +kernel
theorem dX11_gift_15 : decode cX11_gift 15 = .ok (.iload_n 2, 1) := by decide +kernel
theorem dX11_gift_16 : decode cX11_gift 16 = .ok (.invokevirtual 132, 3) := by decide +kernel
theorem dX11_gift_19 : decode cX11_gift 19 = .ok (.ifCond .eq 8, 3) := by decide +kernel
theorem dX11_gift_22 : decode cX11_gift 22 = .ok (.iload_n 1, 1) := by decide +kernel
theorem dX11_gift_23 : decode cX11_gift 23 = .ok (.iload_n 2, 1) := by decide +kernel
theorem dX11_gift_24 : decode cX11_gift 24 = .ok (.if_icmp .ne 6, 3) := by decide +kernel
theorem dX11_gift_27 : decode cX11_gift 27 = .ok (.bipush (-2), 2) := by decide +kernel
theorem dX11_gift_29 : decode cX11_gift 29 = .ok (.ireturn, 1) := by decide +kernel
theorem dX11_gift_30 : decode cX11_gift 30 = .ok (.iload_n 3, 1) := by decide +kernel
theorem dX11_gift_31 : decode cX11_gift 31 = .ok (.ifCond .lt 16, 3) := by decide +kernel
theorem dX11_gift_34 : decode cX11_gift 34 = .ok (.iload_n 3, 1) := by decide +kernel
theorem dX11_gift_35 : decode cX11_gift 35 = .ok (.iconst 3, 1) := by decide +kernel
theorem dX11_gift_36 : decode cX11_gift 36 = .ok (.if_icmp .gt 11, 3) := by decide +kernel
theorem dX11_gift_39 : decode cX11_gift 39 = .ok (.iload 4, 2) := by decide +kernel
theorem dX11_gift_41 : decode cX11_gift 41 = .ok (.invokestatic 129, 3) := by decide +kernel
theorem dX11_gift_44 : decode cX11_gift 44 = .ok (.ifCond .ne 6, 3) := by decide +kernel
theorem dX11_gift_47 : decode cX11_gift 47 = .ok (.bipush (-3), 2) := by decide +kernel
theorem dX11_gift_49 : decode cX11_gift 49 = .ok (.ireturn, 1) := by decide +kernel
theorem dX11_gift_50 : decode cX11_gift 50 = .ok (.iload 6, 2) := by decide +kernel
theorem dX11_gift_52 : decode cX11_gift 52 = .ok (.iload 7, 2) := by decide +kernel
theorem dX11_gift_54 : decode cX11_gift 54 = .ok (.invokestatic 140, 3) := by decide +kernel
theorem dX11_gift_57 : decode cX11_gift 57 = .ok (.ifCond .ne 6, 3) := by decide +kernel
theorem dX11_gift_60 : decode cX11_gift 60 = .ok (.bipush (-4), 2) := by decide +kernel
theorem dX11_gift_62 : decode cX11_gift 62 = .ok (.ireturn, 1) := by decide +kernel
theorem dX11_gift_63 : decode cX11_gift 63 = .ok (.aload_n 0, 1) := by decide +kernel
theorem dX11_gift_64 : decode cX11_gift 64 = .ok (.getfield 51, 3) := by decide +kernel
theorem dX11_gift_67 : decode cX11_gift 67 = .ok (.iload_n 1, 1) := by decide +kernel
theorem dX11_gift_68 : decode cX11_gift 68 = .ok (.iload_n 2, 1) := by decide +kernel
theorem dX11_gift_69 : decode cX11_gift 69 = .ok (.iload_n 3, 1) := by decide +kernel
theorem dX11_gift_70 : decode cX11_gift 70 = .ok (.iload 4, 2) := by decide +kernel
theorem dX11_gift_72 : decode cX11_gift 72 = .ok (.aload_n 0, 1) := by decide +kernel
theorem dX11_gift_73 : decode cX11_gift 73 = .ok (.getfield 96, 3) := by decide +kernel
theorem dX11_gift_76 : decode cX11_gift 76 = .ok (.invokevirtual 144, 3) := by decide +kernel
theorem dX11_gift_79 : decode cX11_gift 79 = .ok (.istore 8, 2) := by decide +kernel
theorem dX11_gift_81 : decode cX11_gift 81 = .ok (.iload 8, 2) := by decide +kernel
theorem dX11_gift_83 : decode cX11_gift 83 = .ok (.iconst (-1), 1) := by decide +kernel
theorem dX11_gift_84 : decode cX11_gift 84 = .ok (.if_icmp .ne 6, 3) := by decide +kernel
theorem dX11_gift_87 : decode cX11_gift 87 = .ok (.bipush (-5), 2) := by decide +kernel
theorem dX11_gift_89 : decode cX11_gift 89 = .ok (.ireturn, 1) := by decide +kernel
theorem dX11_gift_90 : decode cX11_gift 90 = .ok (.aload_n 0, 1) := by decide +kernel
theorem dX11_gift_91 : decode cX11_gift 91 = .ok (.getfield 51, 3) := by decide +kernel
theorem dX11_gift_94 : decode cX11_gift 94 = .ok (.iload 8, 2) := by decide +kernel
theorem dX11_gift_96 : decode cX11_gift 96 = .ok (.iload 5, 2) := by decide +kernel
theorem dX11_gift_98 : decode cX11_gift 98 = .ok (.iload 6, 2) := by decide +kernel
theorem dX11_gift_100 : decode cX11_gift 100 = .ok (.iload 7, 2) := by decide +kernel
theorem dX11_gift_102 : decode cX11_gift 102 = .ok (.invokevirtual 146, 3) := by decide +kernel
theorem dX11_gift_105 : decode cX11_gift 105 = .ok (.iload 8, 2) := by decide +kernel
theorem dX11_gift_107 : decode cX11_gift 107 = .ok (.ireturn, 1) := by decide +kernel
theorem dX11_isRange_0 : decode cX11_isRange 0 = .ok (.iconst 0, 1) := by decide +kernel
theorem dX11_isRange_1 : decode cX11_isRange 1 = .ok (.iload_n 0, 1) := by decide +kernel
theorem dX11_isRange_2 : decode cX11_isRange 2 = .ok (.if_icmp .gt 18, 3) := by decide +kernel
theorem dX11_isRange_5 : decode cX11_isRange 5 = .ok (.iload_n 0, 1) := by decide +kernel
theorem dX11_isRange_6 : decode cX11_isRange 6 = .ok (.iload_n 1, 1) := by decide +kernel
theorem dX11_isRange_7 : decode cX11_isRange 7 = .ok (.if_icmp .gt 13, 3) := by decide +kernel
theorem dX11_isRange_10 : decode cX11_isRange 10 = .ok (.iload_n 1, 1) := by decide +kernel
theorem dX11_isRange_11 : decode cX11_isRange 11 = .ok (.ldc 150, 2) := by decide +kernel
theorem dX11_isRange_13 : decode cX11_isRange 13 = .ok (.if_icmp .gt 7, 3) := by decide +kernel
theorem dX11_isRange_16 : decode cX11_isRange 16 = .ok (.iconst 1, 1) := by decide +kernel
theorem dX11_isRange_17 : decode cX11_isRange 17 = .ok (.goto 4, 3) := by decide +kernel
theorem dX11_isRange_20 : decode cX11_isRange 20 = .ok (.iconst 0, 1) := by decide +kernel
theorem dX11_isRange_21 : decode cX11_isRange 21 = .ok (.ireturn, 1) := by decide +kernel
theorem dX11_worth_0 : decode cX11_worth 0 = .ok (.aload_n 0, 1) := by decide +kernel
theorem dX11_worth_1 : decode cX11_worth 1 = .ok (.getfield 51, 3) := by decide +kernel
theorem dX11_worth_4 : decode cX11_worth 4 = .ok (.iload_n 1, 1) := by decide +kernel
theorem dX11_worth_5 : decode cX11_worth 5 = .ok (.invokevirtual 151, 3) := by decide +kernel
theorem dX11_worth_8 : decode cX11_worth 8 = .ok (.ifCond .eq 32, 3) := by decide +kernel
theorem dX11_worth_11 : decode cX11_worth 11 = .ok (.iload_n 2, 1) := by decide +kernel
theorem dX11_worth_12 : decode cX11_worth 12 = .ok (.iload_n 3, 1) := by decide +kernel
theorem dX11_worth_13 : decode cX11_worth 13 = .ok (.invokestatic 140, 3) := by decide +kernel
theorem dX11_worth_16 : decode cX11_worth 16 = .ok (.ifCond .eq 24, 3) := by decide +kernel
theorem dX11_worth_19 : decode cX11_worth 19 = .ok (.aload_n 0, 1) := by decide +kernel
theorem dX11_worth_20 : decode cX11_worth 20 = .ok (.getfield 51, 3) := by decide +kernel
theorem dX11_worth_23 : decode cX11_worth 23 = .ok (.iload_n 1, 1) := by decide +kernel
theorem dX11_worth_24 : decode cX11_worth 24 = .ok (.iload_n 2, 1) := by decide +kernel
theorem dX11_worth_25 : decode cX11_worth 25 = .ok (.iload_n 3, 1) := by decide +kernel
theorem dX11_worth_26 : decode cX11_worth 26 = .ok (.aload_n 0, 1) := by decide +kernel
theorem dX11_worth_27 : decode cX11_worth 27 = .ok (.getfield 96, 3) := by decide +kernel
theorem dX11_worth_30 : decode cX11_worth 30 = .ok (.invokevirtual 152, 3) := by decide +kernel
theorem dX11_worth_33 : decode cX11_worth 33 = .ok (.ifCond .eq 7, 3) := by decide +kernel
theorem dX11_worth_36 : decode cX11_worth 36 = .ok (.iconst 1, 1) := by decide +kernel
theorem dX11_worth_37 : decode cX11_worth 37 = .ok (.goto 4, 3) := by decide +kernel
theorem dX11_worth_40 : decode cX11_worth 40 = .ok (.iconst 0, 1) := by decide +kernel
theorem dX11_worth_41 : decode cX11_worth 41 = .ok (.ireturn, 1) := by decide +kernel
theorem dX11_back_0 : decode cX11_back 0 = .ok (.iload_n 2, 1) := by decide +kernel
theorem dX11_back_1 : decode cX11_back 1 = .ok (.invokestatic 129, 3) := by decide +kernel
theorem dX11_back_4 : decode cX11_back 4 = .ok (.ifCond .eq 23, 3) := by decide +kernel
theorem dX11_back_7 : decode cX11_back 7 = .ok (.aload_n 0, 1) := by decide +kernel
theorem dX11_back_8 : decode cX11_back 8 = .ok (.getfield 51, 3) := by decide +kernel
theorem dX11_back_11 : decode cX11_back 11 = .ok (.iload_n 1, 1) := by decide +kernel
theorem dX11_back_12 : decode cX11_back 12 = .ok (.iload_n 2, 1) := by decide +kernel
theorem dX11_back_13 : decode cX11_back 13 = .ok (.aload_n 0, 1) := by decide +kernel
theorem dX11_back_14 : decode cX11_back 14 = .ok (.getfield 96, 3) := by decide +kernel
theorem dX11_back_17 : decode cX11_back 17 = .ok (.invokevirtual 155, 3) := by decide +kernel
theorem dX11_back_20 : decode cX11_back 20 = .ok (.ifCond .eq 7, 3) := by decide +kernel
theorem dX11_back_23 : decode cX11_back 23 = .ok (.iconst 1, 1) := by decide +kernel
theorem dX11_back_24 : decode cX11_back 24 = .ok (.goto 4, 3) := by decide +kernel
theorem dX11_back_27 : decode cX11_back 27 = .ok (.iconst 0, 1) := by decide +kernel
theorem dX11_back_28 : decode cX11_back 28 = .ok (.ireturn, 1) := by decide +kernel
theorem dX11_tell_0 : decode cX11_tell 0 = .ok (.aload_n 0, 1) := by decide +kernel
theorem dX11_tell_1 : decode cX11_tell 1 = .ok (.getfield 51, 3) := by decide +kernel
theorem dX11_tell_4 : decode cX11_tell 4 = .ok (.iload_n 1, 1) := by decide +kernel
theorem dX11_tell_5 : decode cX11_tell 5 = .ok (.aload_n 0, 1) := by decide +kernel
theorem dX11_tell_6 : decode cX11_tell 6 = .ok (.getfield 96, 3) := by decide +kernel
theorem dX11_tell_9 : decode cX11_tell 9 = .ok (.invokevirtual 158, 3) := by decide +kernel
theorem dX11_tell_12 : decode cX11_tell 12 = .ok (.ireturn, 1) := by decide +kernel
theorem dX11_law_0 : decode cX11_law 0 = .ok (.aload_n 0, 1) := by decide +kernel
theorem dX11_law_1 : decode cX11_law 1 = .ok (.getfield 89, 3) := by decide +kernel
theorem dX11_law_4 : decode cX11_law 4 = .ok (.istore_n 2, 1) := by decide +kernel
theorem dX11_law_5 : decode cX11_law 5 = .ok (.aload_n 0, 1) := by decide +kernel
theorem dX11_law_6 : decode cX11_law 6 = .ok (.iconst 0, 1) := by decide +kernel
theorem dX11_law_7 : decode cX11_law 7 = .ok (.putfield 89, 3) := by decide +kernel
theorem dX11_law_10 : decode cX11_law 10 = .ok (.aload_n 0, 1) := by decide +kernel
theorem dX11_law_11 : decode cX11_law 11 = .ok (.getfield 58, 3) := by decide +kernel
theorem dX11_law_14 : decode cX11_law 14 = .ok (.iload_n 1, 1) := by decide +kernel
theorem dX11_law_15 : decode cX11_law 15 = .ok (.aload_n 0, 1) := by decide +kernel
theorem dX11_law_16 : decode cX11_law 16 = .ok (.getfield 96, 3) := by decide +kernel
theorem dX11_law_19 : decode cX11_law 19 = .ok (.aload_n 0, 1) := by decide +kernel
theorem dX11_law_20 : decode cX11_law 20 = .ok (.getfield 9, 3) := by decide +kernel
theorem dX11_law_23 : decode cX11_law 23 = .ok (.iload_n 2, 1) := by decide +kernel
theorem dX11_law_24 : decode cX11_law 24 = .ok (.invokevirtual 161, 3) := by decide +kernel
theorem dX11_law_27 : decode cX11_law 27 = .ok (.ireturn, 1) := by decide +kernel
theorem dX11_fault_0 : decode cX11_fault 0 = .ok (.aload_n 0, 1) := by decide +kernel
theorem dX11_fault_1 : decode cX11_fault 1 = .ok (.getfield 58, 3) := by decide +kernel
theorem dX11_fault_4 : decode cX11_fault 4 = .ok (.invokevirtual 164, 3) := by decide +kernel
theorem dX11_fault_7 : decode cX11_fault 7 = .ok (.ireturn, 1) := by decide +kernel
theorem dX11_part_0 : decode cX11_part 0 = .ok (.aload_n 0, 1) := by decide +kernel
theorem dX11_part_1 : decode cX11_part 1 = .ok (.getfield 21, 3) := by decide +kernel
theorem dX11_part_4 : decode cX11_part 4 = .ok (.iload_n 1, 1) := by decide +kernel
theorem dX11_part_5 : decode cX11_part 5 = .ok (.invokevirtual 111, 3) := by decide +kernel
theorem dX11_part_8 : decode cX11_part 8 = .ok (.ifCond .eq 21, 3) := by decide +kernel
theorem dX11_part_11 : decode cX11_part 11 = .ok (.aload_n 0, 1) := by decide +kernel
theorem dX11_part_12 : decode cX11_part 12 = .ok (.getfield 21, 3) := by decide +kernel
theorem dX11_part_15 : decode cX11_part 15 = .ok (.iload_n 2, 1) := by decide +kernel
theorem dX11_part_16 : decode cX11_part 16 = .ok (.invokevirtual 111, 3) := by decide +kernel
theorem dX11_part_19 : decode cX11_part 19 = .ok (.ifCond .eq 10, 3) := by decide +kernel
theorem dX11_part_22 : decode cX11_part 22 = .ok (.iload_n 3, 1) := by decide +kernel
theorem dX11_part_23 : decode cX11_part 23 = .ok (.invokestatic 129, 3) := by decide +kernel
theorem dX11_part_26 : decode cX11_part 26 = .ok (.ifCond .ne 7, 3) := by decide +kernel
theorem dX11_part_29 : decode cX11_part 29 = .ok (.ldc2_w 168, 3) := by decide +kernel
theorem dX11_part_32 : decode cX11_part 32 = .ok (.lreturn, 1) := by decide +kernel
theorem dX11_part_33 : decode cX11_part 33 = .ok (.aload_n 0, 1) := by decide +kernel
theorem dX11_part_34 : decode cX11_part 34 = .ok (.getfield 35, 3) := by decide +kernel
theorem dX11_part_37 : decode cX11_part 37 = .ok (.iload_n 1, 1) := by decide +kernel
theorem dX11_part_38 : decode cX11_part 38 = .ok (.iload_n 2, 1) := by decide +kernel
theorem dX11_part_39 : decode cX11_part 39 = .ok (.iload_n 3, 1) := by decide +kernel
theorem dX11_part_40 : decode cX11_part 40 = .ok (.iload 4, 2) := by decide +kernel
theorem dX11_part_42 : decode cX11_part 42 = .ok (.invokevirtual 170, 3) := by decide +kernel
theorem dX11_part_45 : decode cX11_part 45 = .ok (.lreturn, 1) := by decide +kernel
theorem dX11_chain_0 : decode cX11_chain 0 = .ok (.aload_n 0, 1) := by decide +kernel
theorem dX11_chain_1 : decode cX11_chain 1 = .ok (.getfield 21, 3) := by decide +kernel
theorem dX11_chain_4 : decode cX11_chain 4 = .ok (.iload_n 1, 1) := by decide +kernel
theorem dX11_chain_5 : decode cX11_chain 5 = .ok (.invokevirtual 111, 3) := by decide +kernel
theorem dX11_chain_8 : decode cX11_chain 8 = .ok (.ifCond .eq 21, 3) := by decide +kernel
theorem dX11_chain_11 : decode cX11_chain 11 = .ok (.aload_n 0, 1) := by decide +kernel
theorem dX11_chain_12 : decode cX11_chain 12 = .ok (.getfield 21, 3) := by decide +kernel
theorem dX11_chain_15 : decode cX11_chain 15 = .ok (.iload_n 2, 1) := by decide +kernel
theorem dX11_chain_16 : decode cX11_chain 16 = .ok (.invokevirtual 111, 3) := by decide +kernel
theorem dX11_chain_19 : decode cX11_chain 19 = .ok (.ifCond .eq 10, 3) := by decide +kernel
theorem dX11_chain_22 : decode cX11_chain 22 = .ok (.iload_n 3, 1) := by decide +kernel
theorem dX11_chain_23 : decode cX11_chain 23 = .ok (.invokestatic 129, 3) := by decide +kernel
theorem dX11_chain_26 : decode cX11_chain 26 = .ok (.ifCond .ne 5, 3) := by decide +kernel
theorem dX11_chain_29 : decode cX11_chain 29 = .ok (.iconst (-1), 1) := by decide +kernel
theorem dX11_chain_30 : decode cX11_chain 30 = .ok (.ireturn, 1) := by decide +kernel
theorem dX11_chain_31 : decode cX11_chain 31 = .ok (.aload_n 0, 1) := by decide +kernel
theorem dX11_chain_32 : decode cX11_chain 32 = .ok (.getfield 35, 3) := by decide +kernel
theorem dX11_chain_35 : decode cX11_chain 35 = .ok (.iload_n 1, 1) := by decide +kernel
theorem dX11_chain_36 : decode cX11_chain 36 = .ok (.iload_n 2, 1) := by decide +kernel
theorem dX11_chain_37 : decode cX11_chain 37 = .ok (.iload_n 3, 1) := by decide +kernel
theorem dX11_chain_38 : decode cX11_chain 38 = .ok (.iload 4, 2) := by decide +kernel
theorem dX11_chain_40 : decode cX11_chain 40 = .ok (.invokevirtual 174, 3) := by decide +kernel
theorem dX11_chain_43 : decode cX11_chain 43 = .ok (.istore 5, 2) := by decide +kernel
theorem dX11_chain_45 : decode cX11_chain 45 = .ok (.iload 5, 2) := by decide +kernel
theorem dX11_chain_47 : decode cX11_chain 47 = .ok (.ifCond .le 18, 3) := by decide +kernel
theorem dX11_chain_50 : decode cX11_chain 50 = .ok (.aload_n 0, 1) := by decide +kernel
theorem dX11_chain_51 : decode cX11_chain 51 = .ok (.aload_n 0, 1) := by decide +kernel
theorem dX11_chain_52 : decode cX11_chain 52 = .ok (.getfield 35, 3) := by decide +kernel
theorem dX11_chain_55 : decode cX11_chain 55 = .ok (.aload_n 0, 1) := by decide +kernel
theorem dX11_chain_56 : decode cX11_chain 56 = .ok (.getfield 15, 3) := by decide +kernel
theorem dX11_chain_59 : decode cX11_chain 59 = .ok (.invokevirtual 178, 3) := by decide +kernel
theorem dX11_chain_62 : decode cX11_chain 62 = .ok (.putfield 182, 3) := by decide +kernel
theorem dX11_chain_65 : decode cX11_chain 65 = .ok (.iload 5, 2) := by decide +kernel
theorem dX11_chain_67 : decode cX11_chain 67 = .ok (.ireturn, 1) := by decide +kernel
theorem dX11_octet_0 : decode cX11_octet 0 = .ok (.iload_n 1, 1) := by decide +kernel
theorem dX11_octet_1 : decode cX11_octet 1 = .ok (.ifCond .lt 20, 3) := by decide +kernel
theorem dX11_octet_4 : decode cX11_octet 4 = .ok (.iload_n 1, 1) := by decide +kernel
theorem dX11_octet_5 : decode cX11_octet 5 = .ok (.aload_n 0, 1) := by decide +kernel
theorem dX11_octet_6 : decode cX11_octet 6 = .ok (.getfield 182, 3) := by decide +kernel
theorem dX11_octet_9 : decode cX11_octet 9 = .ok (.if_icmp .ge 12, 3) := by decide +kernel
theorem dX11_octet_12 : decode cX11_octet 12 = .ok (.iload_n 1, 1) := by decide +kernel
theorem dX11_octet_13 : decode cX11_octet 13 = .ok (.aload_n 0, 1) := by decide +kernel
theorem dX11_octet_14 : decode cX11_octet 14 = .ok (.getfield 15, 3) := by decide +kernel
theorem dX11_octet_17 : decode cX11_octet 17 = .ok (.arraylength, 1) := by decide +kernel
theorem dX11_octet_18 : decode cX11_octet 18 = .ok (.if_icmp .lt 13, 3) := by decide +kernel
theorem dX11_octet_21 : decode cX11_octet 21 = .ok (.new 185, 3) := by decide +kernel
theorem dX11_octet_24 : decode cX11_octet 24 = .ok (.dup, 1) := by decide +kernel
theorem dX11_octet_25 : decode cX11_octet 25 = .ok (.ldc 187, 2) := by decide +kernel
theorem dX11_octet_27 : decode cX11_octet 27 = .ok (.invokespecial 189, 3) := by decide +kernel
theorem dX11_octet_30 : decode cX11_octet 30 = .ok (.athrow, 1) := by decide +kernel
theorem dX11_octet_31 : decode cX11_octet 31 = .ok (.aload_n 0, 1) := by decide +kernel
theorem dX11_octet_32 : decode cX11_octet 32 = .ok (.getfield 15, 3) := by decide +kernel
theorem dX11_octet_35 : decode cX11_octet 35 = .ok (.iload_n 1, 1) := by decide +kernel
theorem dX11_octet_36 : decode cX11_octet 36 = .ok (.iaload, 1) := by decide +kernel
theorem dX11_octet_37 : decode cX11_octet 37 = .ok (.ireturn, 1) := by decide +kernel
theorem dX11_head_0 : decode cX11_head 0 = .ok (.aload_n 0, 1) := by decide +kernel
theorem dX11_head_1 : decode cX11_head 1 = .ok (.getfield 21, 3) := by decide +kernel
theorem dX11_head_4 : decode cX11_head 4 = .ok (.iload_n 1, 1) := by decide +kernel
theorem dX11_head_5 : decode cX11_head 5 = .ok (.invokevirtual 111, 3) := by decide +kernel
theorem dX11_head_8 : decode cX11_head 8 = .ok (.ifCond .eq 10, 3) := by decide +kernel
theorem dX11_head_11 : decode cX11_head 11 = .ok (.iload_n 2, 1) := by decide +kernel
theorem dX11_head_12 : decode cX11_head 12 = .ok (.invokestatic 129, 3) := by decide +kernel
theorem dX11_head_15 : decode cX11_head 15 = .ok (.ifCond .ne 5, 3) := by decide +kernel
theorem dX11_head_18 : decode cX11_head 18 = .ok (.iconst (-1), 1) := by decide +kernel
theorem dX11_head_19 : decode cX11_head 19 = .ok (.ireturn, 1) := by decide +kernel
theorem dX11_head_20 : decode cX11_head 20 = .ok (.aload_n 0, 1) := by decide +kernel
theorem dX11_head_21 : decode cX11_head 21 = .ok (.getfield 28, 3) := by decide +kernel
theorem dX11_head_24 : decode cX11_head 24 = .ok (.iload_n 1, 1) := by decide +kernel
theorem dX11_head_25 : decode cX11_head 25 = .ok (.iload_n 2, 1) := by decide +kernel
theorem dX11_head_26 : decode cX11_head 26 = .ok (.iload_n 3, 1) := by decide +kernel
theorem dX11_head_27 : decode cX11_head 27 = .ok (.invokevirtual 192, 3) := by decide +kernel
theorem dX11_head_30 : decode cX11_head 30 = .ok (.ireturn, 1) := by decide +kernel
theorem dX11_degree_0 : decode cX11_degree 0 = .ok (.aload_n 0, 1) := by decide +kernel
theorem dX11_degree_1 : decode cX11_degree 1 = .ok (.getfield 21, 3) := by decide +kernel
theorem dX11_degree_4 : decode cX11_degree 4 = .ok (.iload_n 1, 1) := by decide +kernel
theorem dX11_degree_5 : decode cX11_degree 5 = .ok (.invokevirtual 132, 3) := by decide +kernel
theorem dX11_degree_8 : decode cX11_degree 8 = .ok (.ifCond .eq 21, 3) := by decide +kernel
theorem dX11_degree_11 : decode cX11_degree 11 = .ok (.aload_n 0, 1) := by decide +kernel
theorem dX11_degree_12 : decode cX11_degree 12 = .ok (.getfield 21, 3) := by decide +kernel
theorem dX11_degree_15 : decode cX11_degree 15 = .ok (.iload_n 2, 1) := by decide +kernel
theorem dX11_degree_16 : decode cX11_degree 16 = .ok (.invokevirtual 132, 3) := by decide +kernel
theorem dX11_degree_19 : decode cX11_degree 19 = .ok (.ifCond .eq 10, 3) := by decide +kernel
theorem dX11_degree_22 : decode cX11_degree 22 = .ok (.iload_n 3, 1) := by decide +kernel
theorem dX11_degree_23 : decode cX11_degree 23 = .ok (.invokestatic 129, 3) := by decide +kernel
theorem dX11_degree_26 : decode cX11_degree 26 = .ok (.ifCond .ne 5, 3) := by decide +kernel
theorem dX11_degree_29 : decode cX11_degree 29 = .ok (.iconst (-1), 1) := by decide +kernel
theorem dX11_degree_30 : decode cX11_degree 30 = .ok (.ireturn, 1) := by decide +kernel
theorem dX11_degree_31 : decode cX11_degree 31 = .ok (.aload_n 0, 1) := by decide +kernel
theorem dX11_degree_32 : decode cX11_degree 32 = .ok (.getfield 21, 3) := by decide +kernel
theorem dX11_degree_35 : decode cX11_degree 35 = .ok (.iload_n 1, 1) := by decide +kernel
theorem dX11_degree_36 : decode cX11_degree 36 = .ok (.iload_n 2, 1) := by decide +kernel
theorem dX11_degree_37 : decode cX11_degree 37 = .ok (.iload_n 3, 1) := by decide +kernel
theorem dX11_degree_38 : decode cX11_degree 38 = .ok (.iload 4, 2) := by decide +kernel
theorem dX11_degree_40 : decode cX11_degree 40 = .ok (.invokevirtual 196, 3) := by decide +kernel
theorem dX11_degree_43 : decode cX11_degree 43 = .ok (.ireturn, 1) := by decide +kernel
theorem dX11_judged_0 : decode cX11_judged 0 = .ok (.aload_n 0, 1) := by decide +kernel
theorem dX11_judged_1 : decode cX11_judged 1 = .ok (.getfield 51, 3) := by decide +kernel
theorem dX11_judged_4 : decode cX11_judged 4 = .ok (.iload_n 1, 1) := by decide +kernel
theorem dX11_judged_5 : decode cX11_judged 5 = .ok (.iload_n 2, 1) := by decide +kernel
theorem dX11_judged_6 : decode cX11_judged 6 = .ok (.invokevirtual 199, 3) := by decide +kernel
theorem dX11_judged_9 : decode cX11_judged 9 = .ok (.ifCond .eq 13, 3) := by decide +kernel
theorem dX11_judged_12 : decode cX11_judged 12 = .ok (.iload_n 3, 1) := by decide +kernel
theorem dX11_judged_13 : decode cX11_judged 13 = .ok (.ifCond .lt 9, 3) := by decide +kernel
theorem dX11_judged_16 : decode cX11_judged 16 = .ok (.iload_n 3, 1) := by decide +kernel
theorem dX11_judged_17 : decode cX11_judged 17 = .ok (.bipush 8, 2) := by decide +kernel
theorem dX11_judged_19 : decode cX11_judged 19 = .ok (.if_icmp .le 13, 3) := by decide +kernel
theorem dX11_judged_22 : decode cX11_judged 22 = .ok (.new 185, 3) := by decide +kernel
theorem dX11_judged_25 : decode cX11_judged 25 = .ok (.dup, 1) := by decide +kernel
theorem dX11_judged_26 : decode cX11_judged 26 = .ok (.ldc 202, 2) := by decide +kernel
theorem dX11_judged_28 : decode cX11_judged 28 = .ok (.invokespecial 189, 3) := by decide +kernel
theorem dX11_judged_31 : decode cX11_judged 31 = .ok (.athrow, 1) := by decide +kernel
theorem dX11_judged_32 : decode cX11_judged 32 = .ok (.iload_n 3, 1) := by decide +kernel
theorem dX11_judged_33 : decode cX11_judged 33 = .ok (.tableswitch 71 3 6 #[31, 41, 51, 61], 31) := by decide +kernel
theorem dX11_judged_64 : decode cX11_judged 64 = .ok (.aload_n 0, 1) := by decide +kernel
theorem dX11_judged_65 : decode cX11_judged 65 = .ok (.getfield 51, 3) := by decide +kernel
theorem dX11_judged_68 : decode cX11_judged 68 = .ok (.iload_n 1, 1) := by decide +kernel
theorem dX11_judged_69 : decode cX11_judged 69 = .ok (.iload_n 2, 1) := by decide +kernel
theorem dX11_judged_70 : decode cX11_judged 70 = .ok (.invokevirtual 204, 3) := by decide +kernel
theorem dX11_judged_73 : decode cX11_judged 73 = .ok (.ireturn, 1) := by decide +kernel
theorem dX11_judged_74 : decode cX11_judged 74 = .ok (.aload_n 0, 1) := by decide +kernel
theorem dX11_judged_75 : decode cX11_judged 75 = .ok (.getfield 51, 3) := by decide +kernel
theorem dX11_judged_78 : decode cX11_judged 78 = .ok (.iload_n 1, 1) := by decide +kernel
theorem dX11_judged_79 : decode cX11_judged 79 = .ok (.iload_n 2, 1) := by decide +kernel
theorem dX11_judged_80 : decode cX11_judged 80 = .ok (.invokevirtual 208, 3) := by decide +kernel
theorem dX11_judged_83 : decode cX11_judged 83 = .ok (.ireturn, 1) := by decide +kernel
theorem dX11_judged_84 : decode cX11_judged 84 = .ok (.aload_n 0, 1) := by decide +kernel
theorem dX11_judged_85 : decode cX11_judged 85 = .ok (.getfield 51, 3) := by decide +kernel
theorem dX11_judged_88 : decode cX11_judged 88 = .ok (.iload_n 1, 1) := by decide +kernel
theorem dX11_judged_89 : decode cX11_judged 89 = .ok (.iload_n 2, 1) := by decide +kernel
theorem dX11_judged_90 : decode cX11_judged 90 = .ok (.invokevirtual 211, 3) := by decide +kernel
theorem dX11_judged_93 : decode cX11_judged 93 = .ok (.ireturn, 1) := by decide +kernel
theorem dX11_judged_94 : decode cX11_judged 94 = .ok (.aload_n 0, 1) := by decide +kernel
theorem dX11_judged_95 : decode cX11_judged 95 = .ok (.getfield 51, 3) := by decide +kernel
theorem dX11_judged_98 : decode cX11_judged 98 = .ok (.iload_n 1, 1) := by decide +kernel
theorem dX11_judged_99 : decode cX11_judged 99 = .ok (.iload_n 2, 1) := by decide +kernel
theorem dX11_judged_100 : decode cX11_judged 100 = .ok (.invokevirtual 214, 3) := by decide +kernel
theorem dX11_judged_103 : decode cX11_judged 103 = .ok (.ireturn, 1) := by decide +kernel
theorem dX11_judged_104 : decode cX11_judged 104 = .ok (.aload_n 0, 1) := by decide +kernel
theorem dX11_judged_105 : decode cX11_judged 105 = .ok (.getfield 67, 3) := by decide +kernel
theorem dX11_judged_108 : decode cX11_judged 108 = .ok (.iload_n 1, 1) := by decide +kernel
theorem dX11_judged_109 : decode cX11_judged 109 = .ok (.iload_n 2, 1) := by decide +kernel
theorem dX11_judged_110 : decode cX11_judged 110 = .ok (.iload_n 3, 1) := by decide +kernel
theorem dX11_judged_111 : decode cX11_judged 111 = .ok (.invokevirtual 217, 3) := by decide +kernel
theorem dX11_judged_114 : decode cX11_judged 114 = .ok (.ireturn, 1) := by decide +kernel
theorem dX11_member_0 : decode cX11_member 0 = .ok (.aload_n 0, 1) := by decide +kernel
theorem dX11_member_1 : decode cX11_member 1 = .ok (.getfield 21, 3) := by decide +kernel
theorem dX11_member_4 : decode cX11_member 4 = .ok (.iload_n 1, 1) := by decide +kernel
theorem dX11_member_5 : decode cX11_member 5 = .ok (.invokevirtual 132, 3) := by decide +kernel
theorem dX11_member_8 : decode cX11_member 8 = .ok (.ifCond .eq 14, 3) := by decide +kernel
theorem dX11_member_11 : decode cX11_member 11 = .ok (.aload_n 0, 1) := by decide +kernel
theorem dX11_member_12 : decode cX11_member 12 = .ok (.getfield 85, 3) := by decide +kernel
theorem dX11_member_15 : decode cX11_member 15 = .ok (.iload_n 1, 1) := by decide +kernel
theorem dX11_member_16 : decode cX11_member 16 = .ok (.invokevirtual 220, 3) := by decide +kernel
theorem dX11_member_19 : decode cX11_member 19 = .ok (.goto 4, 3) := by decide +kernel
theorem dX11_member_22 : decode cX11_member 22 = .ok (.iconst (-1), 1) := by decide +kernel
theorem dX11_member_23 : decode cX11_member 23 = .ok (.ireturn, 1) := by decide +kernel
theorem dX11_matter_0 : decode cX11_matter 0 = .ok (.aload_n 0, 1) := by decide +kernel
theorem dX11_matter_1 : decode cX11_matter 1 = .ok (.getfield 21, 3) := by decide +kernel
theorem dX11_matter_4 : decode cX11_matter 4 = .ok (.iload_n 1, 1) := by decide +kernel
theorem dX11_matter_5 : decode cX11_matter 5 = .ok (.invokevirtual 111, 3) := by decide +kernel
theorem dX11_matter_8 : decode cX11_matter 8 = .ok (.ifCond .eq 22, 3) := by decide +kernel
theorem dX11_matter_11 : decode cX11_matter 11 = .ok (.iload_n 2, 1) := by decide +kernel
theorem dX11_matter_12 : decode cX11_matter 12 = .ok (.invokestatic 129, 3) := by decide +kernel
theorem dX11_matter_15 : decode cX11_matter 15 = .ok (.ifCond .eq 15, 3) := by decide +kernel
theorem dX11_matter_18 : decode cX11_matter 18 = .ok (.aload_n 0, 1) := by decide +kernel
theorem dX11_matter_19 : decode cX11_matter 19 = .ok (.getfield 85, 3) := by decide +kernel
theorem dX11_matter_22 : decode cX11_matter 22 = .ok (.iload_n 1, 1) := by decide +kernel
theorem dX11_matter_23 : decode cX11_matter 23 = .ok (.iload_n 2, 1) := by decide +kernel
theorem dX11_matter_24 : decode cX11_matter 24 = .ok (.invokevirtual 224, 3) := by decide +kernel
theorem dX11_matter_27 : decode cX11_matter 27 = .ok (.goto 4, 3) := by decide +kernel
theorem dX11_matter_30 : decode cX11_matter 30 = .ok (.iconst (-1), 1) := by decide +kernel
theorem dX11_matter_31 : decode cX11_matter 31 = .ok (.ireturn, 1) := by decide +kernel
theorem dX11_sits_0 : decode cX11_sits 0 = .ok (.aload_n 0, 1) := by decide +kernel
theorem dX11_sits_1 : decode cX11_sits 1 = .ok (.getfield 85, 3) := by decide +kernel
theorem dX11_sits_4 : decode cX11_sits 4 = .ok (.iload_n 1, 1) := by decide +kernel
theorem dX11_sits_5 : decode cX11_sits 5 = .ok (.invokevirtual 227, 3) := by decide +kernel
theorem dX11_sits_8 : decode cX11_sits 8 = .ok (.ifCond .eq 14, 3) := by decide +kernel
theorem dX11_sits_11 : decode cX11_sits 11 = .ok (.aload_n 0, 1) := by decide +kernel
theorem dX11_sits_12 : decode cX11_sits 12 = .ok (.getfield 21, 3) := by decide +kernel
theorem dX11_sits_15 : decode cX11_sits 15 = .ok (.iload_n 2, 1) := by decide +kernel
theorem dX11_sits_16 : decode cX11_sits 16 = .ok (.invokevirtual 132, 3) := by decide +kernel
theorem dX11_sits_19 : decode cX11_sits 19 = .ok (.ifCond .ne 5, 3) := by decide +kernel
theorem dX11_sits_22 : decode cX11_sits 22 = .ok (.iconst (-1), 1) := by decide +kernel
theorem dX11_sits_23 : decode cX11_sits 23 = .ok (.ireturn, 1) := by decide +kernel
theorem dX11_sits_24 : decode cX11_sits 24 = .ok (.aload_n 0, 1) := by decide +kernel
theorem dX11_sits_25 : decode cX11_sits 25 = .ok (.getfield 85, 3) := by decide +kernel
theorem dX11_sits_28 : decode cX11_sits 28 = .ok (.iload_n 1, 1) := by decide +kernel
theorem dX11_sits_29 : decode cX11_sits 29 = .ok (.iload_n 2, 1) := by decide +kernel
theorem dX11_sits_30 : decode cX11_sits 30 = .ok (.iload_n 3, 1) := by decide +kernel
theorem dX11_sits_31 : decode cX11_sits 31 = .ok (.invokevirtual 230, 3) := by decide +kernel
theorem dX11_sits_34 : decode cX11_sits 34 = .ok (.ireturn, 1) := by decide +kernel
theorem dX11_quorum_0 : decode cX11_quorum 0 = .ok (.aload_n 0, 1) := by decide +kernel
theorem dX11_quorum_1 : decode cX11_quorum 1 = .ok (.getfield 85, 3) := by decide +kernel
theorem dX11_quorum_4 : decode cX11_quorum 4 = .ok (.iload_n 1, 1) := by decide +kernel
theorem dX11_quorum_5 : decode cX11_quorum 5 = .ok (.invokevirtual 227, 3) := by decide +kernel
theorem dX11_quorum_8 : decode cX11_quorum 8 = .ok (.ifCond .eq 15, 3) := by decide +kernel
theorem dX11_quorum_11 : decode cX11_quorum 11 = .ok (.aload_n 0, 1) := by decide +kernel
theorem dX11_quorum_12 : decode cX11_quorum 12 = .ok (.getfield 85, 3) := by decide +kernel
theorem dX11_quorum_15 : decode cX11_quorum 15 = .ok (.iload_n 1, 1) := by decide +kernel
theorem dX11_quorum_16 : decode cX11_quorum 16 = .ok (.iload_n 2, 1) := by decide +kernel
theorem dX11_quorum_17 : decode cX11_quorum 17 = .ok (.invokevirtual 233, 3) := by decide +kernel
theorem dX11_quorum_20 : decode cX11_quorum 20 = .ok (.goto 5, 3) := by decide +kernel
theorem dX11_quorum_23 : decode cX11_quorum 23 = .ok (.bipush (-100), 2) := by decide +kernel
theorem dX11_quorum_25 : decode cX11_quorum 25 = .ok (.ireturn, 1) := by decide +kernel
theorem dX11_entry_0 : decode cX11_entry 0 = .ok (.aload_n 0, 1) := by decide +kernel
theorem dX11_entry_1 : decode cX11_entry 1 = .ok (.invokevirtual 99, 3) := by decide +kernel
theorem dX11_entry_4 : decode cX11_entry 4 = .ok (.lstore 4, 2) := by decide +kernel
theorem dX11_entry_6 : decode cX11_entry 6 = .ok (.aload_n 0, 1) := by decide +kernel
theorem dX11_entry_7 : decode cX11_entry 7 = .ok (.getfield 21, 3) := by decide +kernel
theorem dX11_entry_10 : decode cX11_entry 10 = .ok (.iload_n 1, 1) := by decide +kernel
theorem dX11_entry_11 : decode cX11_entry 11 = .ok (.invokevirtual 111, 3) := by decide +kernel
theorem dX11_entry_14 : decode cX11_entry 14 = .ok (.ifCond .eq 29, 3) := by decide +kernel
theorem dX11_entry_17 : decode cX11_entry 17 = .ok (.lload 4, 2) := by decide +kernel
theorem dX11_entry_19 : decode cX11_entry 19 = .ok (.ldc2_w 168, 3) := by decide +kernel
theorem dX11_entry_22 : decode cX11_entry 22 = .ok (.lcmp, 1) := by decide +kernel
theorem dX11_entry_23 : decode cX11_entry 23 = .ok (.ifCond .eq 20, 3) := by decide +kernel
theorem dX11_entry_26 : decode cX11_entry 26 = .ok (.iload_n 2, 1) := by decide +kernel
theorem dX11_entry_27 : decode cX11_entry 27 = .ok (.invokestatic 129, 3) := by decide +kernel
theorem dX11_entry_30 : decode cX11_entry 30 = .ok (.ifCond .eq 13, 3) := by decide +kernel
theorem dX11_entry_33 : decode cX11_entry 33 = .ok (.iload_n 3, 1) := by decide +kernel
theorem dX11_entry_34 : decode cX11_entry 34 = .ok (.ifCond .lt 9, 3) := by decide +kernel
theorem dX11_entry_37 : decode cX11_entry 37 = .ok (.iload_n 3, 1) := by decide +kernel
theorem dX11_entry_38 : decode cX11_entry 38 = .ok (.ldc 150, 2) := by decide +kernel
theorem dX11_entry_40 : decode cX11_entry 40 = .ok (.if_icmp .le 5, 3) := by decide +kernel
theorem dX11_entry_43 : decode cX11_entry 43 = .ok (.iconst (-1), 1) := by decide +kernel
theorem dX11_entry_44 : decode cX11_entry 44 = .ok (.ireturn, 1) := by decide +kernel
theorem dX11_entry_45 : decode cX11_entry 45 = .ok (.aload_n 0, 1) := by decide +kernel
theorem dX11_entry_46 : decode cX11_entry 46 = .ok (.getfield 76, 3) := by decide +kernel
theorem dX11_entry_49 : decode cX11_entry 49 = .ok (.iload_n 1, 1) := by decide +kernel
theorem dX11_entry_50 : decode cX11_entry 50 = .ok (.lload 4, 2) := by decide +kernel
theorem dX11_entry_52 : decode cX11_entry 52 = .ok (.iload_n 2, 1) := by decide +kernel
theorem dX11_entry_53 : decode cX11_entry 53 = .ok (.iload_n 3, 1) := by decide +kernel
theorem dX11_entry_54 : decode cX11_entry 54 = .ok (.aload_n 0, 1) := by decide +kernel
theorem dX11_entry_55 : decode cX11_entry 55 = .ok (.getfield 96, 3) := by decide +kernel
theorem dX11_entry_58 : decode cX11_entry 58 = .ok (.invokevirtual 236, 3) := by decide +kernel
theorem dX11_entry_61 : decode cX11_entry 61 = .ok (.ireturn, 1) := by decide +kernel
theorem dX11_joined_0 : decode cX11_joined 0 = .ok (.aload_n 0, 1) := by decide +kernel
theorem dX11_joined_1 : decode cX11_joined 1 = .ok (.getfield 76, 3) := by decide +kernel
theorem dX11_joined_4 : decode cX11_joined 4 = .ok (.iload_n 1, 1) := by decide +kernel
theorem dX11_joined_5 : decode cX11_joined 5 = .ok (.invokevirtual 239, 3) := by decide +kernel
theorem dX11_joined_8 : decode cX11_joined 8 = .ok (.ireturn, 1) := by decide +kernel
theorem dX11_entered_0 : decode cX11_entered 0 = .ok (.aload_n 0, 1) := by decide +kernel
theorem dX11_entered_1 : decode cX11_entered 1 = .ok (.getfield 76, 3) := by decide +kernel
theorem dX11_entered_4 : decode cX11_entered 4 = .ok (.iload_n 1, 1) := by decide +kernel
theorem dX11_entered_5 : decode cX11_entered 5 = .ok (.iload_n 2, 1) := by decide +kernel
theorem dX11_entered_6 : decode cX11_entered 6 = .ok (.invokevirtual 242, 3) := by decide +kernel
theorem dX11_entered_9 : decode cX11_entered 9 = .ok (.ifCond .eq 12, 3) := by decide +kernel
theorem dX11_entered_12 : decode cX11_entered 12 = .ok (.iload_n 3, 1) := by decide +kernel
theorem dX11_entered_13 : decode cX11_entered 13 = .ok (.ifCond .lt 8, 3) := by decide +kernel
theorem dX11_entered_16 : decode cX11_entered 16 = .ok (.iload_n 3, 1) := by decide +kernel
theorem dX11_entered_17 : decode cX11_entered 17 = .ok (.iconst 2, 1) := by decide +kernel
theorem dX11_entered_18 : decode cX11_entered 18 = .ok (.if_icmp .le 13, 3) := by decide +kernel
theorem dX11_entered_21 : decode cX11_entered 21 = .ok (.new 185, 3) := by decide +kernel
theorem dX11_entered_24 : decode cX11_entered 24 = .ok (.dup, 1) := by decide +kernel
theorem dX11_entered_25 : decode cX11_entered 25 = .ok (.ldc 243, 2) := by decide +kernel
theorem dX11_entered_27 : decode cX11_entered 27 = .ok (.invokespecial 189, 3) := by decide +kernel
theorem dX11_entered_30 : decode cX11_entered 30 = .ok (.athrow, 1) := by decide +kernel
theorem dX11_entered_31 : decode cX11_entered 31 = .ok (.iload_n 3, 1) := by decide +kernel
theorem dX11_entered_32 : decode cX11_entered 32 = .ok (.ifCond .ne 21, 3) := by decide +kernel
theorem dX11_entered_35 : decode cX11_entered 35 = .ok (.aload_n 0, 1) := by decide +kernel
theorem dX11_entered_36 : decode cX11_entered 36 = .ok (.getfield 76, 3) := by decide +kernel
theorem dX11_entered_39 : decode cX11_entered 39 = .ok (.iload_n 2, 1) := by decide +kernel
theorem dX11_entered_40 : decode cX11_entered 40 = .ok (.invokevirtual 239, 3) := by decide +kernel
theorem dX11_entered_43 : decode cX11_entered 43 = .ok (.pop, 1) := by decide +kernel
theorem dX11_entered_44 : decode cX11_entered 44 = .ok (.aload_n 0, 1) := by decide +kernel
theorem dX11_entered_45 : decode cX11_entered 45 = .ok (.getfield 76, 3) := by decide +kernel
theorem dX11_entered_48 : decode cX11_entered 48 = .ok (.iload_n 1, 1) := by decide +kernel
theorem dX11_entered_49 : decode cX11_entered 49 = .ok (.invokevirtual 245, 3) := by decide +kernel
theorem dX11_entered_52 : decode cX11_entered 52 = .ok (.ireturn, 1) := by decide +kernel
theorem dX11_entered_53 : decode cX11_entered 53 = .ok (.aload_n 0, 1) := by decide +kernel
theorem dX11_entered_54 : decode cX11_entered 54 = .ok (.getfield 76, 3) := by decide +kernel
theorem dX11_entered_57 : decode cX11_entered 57 = .ok (.iload_n 1, 1) := by decide +kernel
theorem dX11_entered_58 : decode cX11_entered 58 = .ok (.invokevirtual 248, 3) := by decide +kernel
theorem dX11_entered_61 : decode cX11_entered 61 = .ok (.istore 4, 2) := by decide +kernel
theorem dX11_entered_63 : decode cX11_entered 63 = .ok (.iload_n 3, 1) := by decide +kernel
theorem dX11_entered_64 : decode cX11_entered 64 = .ok (.iconst 2, 1) := by decide +kernel
theorem dX11_entered_65 : decode cX11_entered 65 = .ok (.if_icmp .ne 6, 3) := by decide +kernel
theorem dX11_entered_68 : decode cX11_entered 68 = .ok (.iload 4, 2) := by decide +kernel
theorem dX11_entered_70 : decode cX11_entered 70 = .ok (.ireturn, 1) := by decide +kernel
theorem dX11_entered_71 : decode cX11_entered 71 = .ok (.iload 4, 2) := by decide +kernel
theorem dX11_entered_73 : decode cX11_entered 73 = .ok (.iconst 1, 1) := by decide +kernel
theorem dX11_entered_74 : decode cX11_entered 74 = .ok (.if_icmp .ne 7, 3) := by decide +kernel
theorem dX11_entered_77 : decode cX11_entered 77 = .ok (.iconst 0, 1) := by decide +kernel
theorem dX11_entered_78 : decode cX11_entered 78 = .ok (.goto 4, 3) := by decide +kernel
theorem dX11_entered_81 : decode cX11_entered 81 = .ok (.iconst 1, 1) := by decide +kernel
theorem dX11_entered_82 : decode cX11_entered 82 = .ok (.ireturn, 1) := by decide +kernel
theorem dX11_vote_0 : decode cX11_vote 0 = .ok (.aload_n 0, 1) := by decide +kernel
theorem dX11_vote_1 : decode cX11_vote 1 = .ok (.getfield 85, 3) := by decide +kernel
theorem dX11_vote_4 : decode cX11_vote 4 = .ok (.iload_n 1, 1) := by decide +kernel
theorem dX11_vote_5 : decode cX11_vote 5 = .ok (.iload_n 2, 1) := by decide +kernel
theorem dX11_vote_6 : decode cX11_vote 6 = .ok (.iload_n 3, 1) := by decide +kernel
theorem dX11_vote_7 : decode cX11_vote 7 = .ok (.aload_n 0, 1) := by decide +kernel
theorem dX11_vote_8 : decode cX11_vote 8 = .ok (.getfield 96, 3) := by decide +kernel
theorem dX11_vote_11 : decode cX11_vote 11 = .ok (.invokevirtual 251, 3) := by decide +kernel
theorem dX11_vote_14 : decode cX11_vote 14 = .ok (.ireturn, 1) := by decide +kernel
theorem dX11_links_0 : decode cX11_links 0 = .ok (.iload_n 2, 1) := by decide +kernel
theorem dX11_links_1 : decode cX11_links 1 = .ok (.ifCond .lt 8, 3) := by decide +kernel
theorem dX11_links_4 : decode cX11_links 4 = .ok (.iload_n 2, 1) := by decide +kernel
theorem dX11_links_5 : decode cX11_links 5 = .ok (.iconst 3, 1) := by decide +kernel
theorem dX11_links_6 : decode cX11_links 6 = .ok (.if_icmp .le 7, 3) := by decide +kernel
theorem dX11_links_9 : decode cX11_links 9 = .ok (.iconst (-1), 1) := by decide +kernel
theorem dX11_links_10 : decode cX11_links 10 = .ok (.goto 12, 3) := by decide +kernel
theorem dX11_links_13 : decode cX11_links 13 = .ok (.aload_n 0, 1) := by decide +kernel
theorem dX11_links_14 : decode cX11_links 14 = .ok (.getfield 85, 3) := by decide +kernel
theorem dX11_links_17 : decode cX11_links 17 = .ok (.iload_n 1, 1) := by decide +kernel
theorem dX11_links_18 : decode cX11_links 18 = .ok (.iload_n 2, 1) := by decide +kernel
theorem dX11_links_19 : decode cX11_links 19 = .ok (.invokevirtual 255, 3) := by decide +kernel
theorem dX11_links_22 : decode cX11_links 22 = .ok (.ireturn, 1) := by decide +kernel
theorem dX11_chance_0 : decode cX11_chance 0 = .ok (.iload_n 2, 1) := by decide +kernel
theorem dX11_chance_1 : decode cX11_chance 1 = .ok (.ifCond .lt 22, 3) := by decide +kernel
theorem dX11_chance_4 : decode cX11_chance 4 = .ok (.iload_n 2, 1) := by decide +kernel
theorem dX11_chance_5 : decode cX11_chance 5 = .ok (.iconst 1, 1) := by decide +kernel
theorem dX11_chance_6 : decode cX11_chance 6 = .ok (.if_icmp .gt 17, 3) := by decide +kernel
theorem dX11_chance_9 : decode cX11_chance 9 = .ok (.aload_n 0, 1) := by decide +kernel
theorem dX11_chance_10 : decode cX11_chance 10 = .ok (.getfield 85, 3) := by decide +kernel
theorem dX11_chance_13 : decode cX11_chance 13 = .ok (.iload_n 1, 1) := by decide +kernel
theorem dX11_chance_14 : decode cX11_chance 14 = .ok (.iconst 0, 1) := by decide +kernel
theorem dX11_chance_15 : decode cX11_chance 15 = .ok (.invokevirtual 255, 3) := by decide +kernel
theorem dX11_chance_18 : decode cX11_chance 18 = .ok (.bipush 60, 2) := by decide +kernel
theorem dX11_chance_20 : decode cX11_chance 20 = .ok (.if_icmp .le 14, 3) := by decide +kernel
theorem dX11_chance_23 : decode cX11_chance 23 = .ok (.new 185, 3) := by decide +kernel
theorem dX11_chance_26 : decode cX11_chance 26 = .ok (.dup, 1) := by decide +kernel
theorem dX11_chance_27 : decode cX11_chance 27 = .ok (.ldc_w 258, 3) := by decide +kernel
theorem dX11_chance_30 : decode cX11_chance 30 = .ok (.invokespecial 189, 3) := by decide +kernel
theorem dX11_chance_33 : decode cX11_chance 33 = .ok (.athrow, 1) := by decide +kernel
theorem dX11_chance_34 : decode cX11_chance 34 = .ok (.aload_n 0, 1) := by decide +kernel
theorem dX11_chance_35 : decode cX11_chance 35 = .ok (.getfield 85, 3) := by decide +kernel
theorem dX11_chance_38 : decode cX11_chance 38 = .ok (.iload_n 1, 1) := by decide +kernel
theorem dX11_chance_39 : decode cX11_chance 39 = .ok (.iload_n 2, 1) := by decide +kernel
theorem dX11_chance_40 : decode cX11_chance 40 = .ok (.invokevirtual 260, 3) := by decide +kernel
theorem dX11_chance_43 : decode cX11_chance 43 = .ok (.lreturn, 1) := by decide +kernel
theorem dX11_asked_0 : decode cX11_asked 0 = .ok (.aload_n 0, 1) := by decide +kernel
theorem dX11_asked_1 : decode cX11_asked 1 = .ok (.getfield 21, 3) := by decide +kernel
theorem dX11_asked_4 : decode cX11_asked 4 = .ok (.iload_n 1, 1) := by decide +kernel
theorem dX11_asked_5 : decode cX11_asked 5 = .ok (.invokevirtual 132, 3) := by decide +kernel
theorem dX11_asked_8 : decode cX11_asked 8 = .ok (.ifCond .eq 12, 3) := by decide +kernel
theorem dX11_asked_11 : decode cX11_asked 11 = .ok (.iload_n 3, 1) := by decide +kernel
theorem dX11_asked_12 : decode cX11_asked 12 = .ok (.ifCond .lt 8, 3) := by decide +kernel
theorem dX11_asked_15 : decode cX11_asked 15 = .ok (.iload_n 3, 1) := by decide +kernel
theorem dX11_asked_16 : decode cX11_asked 16 = .ok (.iconst 5, 1) := by decide +kernel
theorem dX11_asked_17 : decode cX11_asked 17 = .ok (.if_icmp .le 5, 3) := by decide +kernel
theorem dX11_asked_20 : decode cX11_asked 20 = .ok (.iconst (-1), 1) := by decide +kernel
theorem dX11_asked_21 : decode cX11_asked 21 = .ok (.ireturn, 1) := by decide +kernel
theorem dX11_asked_22 : decode cX11_asked 22 = .ok (.iload_n 3, 1) := by decide +kernel
theorem dX11_asked_23 : decode cX11_asked 23 = .ok (.iconst 5, 1) := by decide +kernel
theorem dX11_asked_24 : decode cX11_asked 24 = .ok (.if_icmp .ne 15, 3) := by decide +kernel
theorem dX11_asked_27 : decode cX11_asked 27 = .ok (.aload_n 0, 1) := by decide +kernel
theorem dX11_asked_28 : decode cX11_asked 28 = .ok (.getfield 35, 3) := by decide +kernel
theorem dX11_asked_31 : decode cX11_asked 31 = .ok (.iload_n 1, 1) := by decide +kernel
theorem dX11_asked_32 : decode cX11_asked 32 = .ok (.iload_n 2, 1) := by decide +kernel
theorem dX11_asked_33 : decode cX11_asked 33 = .ok (.invokevirtual 264, 3) := by decide +kernel
theorem dX11_asked_36 : decode cX11_asked 36 = .ok (.goto 13, 3) := by decide +kernel
theorem dX11_asked_39 : decode cX11_asked 39 = .ok (.aload_n 0, 1) := by decide +kernel
theorem dX11_asked_40 : decode cX11_asked 40 = .ok (.getfield 67, 3) := by decide +kernel
theorem dX11_asked_43 : decode cX11_asked 43 = .ok (.iload_n 1, 1) := by decide +kernel
theorem dX11_asked_44 : decode cX11_asked 44 = .ok (.iload_n 2, 1) := by decide +kernel
theorem dX11_asked_45 : decode cX11_asked 45 = .ok (.iload_n 3, 1) := by decide +kernel
theorem dX11_asked_46 : decode cX11_asked 46 = .ok (.invokevirtual 267, 3) := by decide +kernel
theorem dX11_asked_49 : decode cX11_asked 49 = .ok (.ireturn, 1) := by decide +kernel
theorem dX11_count_0 : decode cX11_count 0 = .ok (.iload_n 1, 1) := by decide +kernel
theorem dX11_count_1 : decode cX11_count 1 = .ok (.tableswitch 162 0 12 #[67, 72, 80, 88, 96, 104, 112, 120, 128, 136, 144, 152, 157], 67) := by decide +kernel
theorem dX11_count_68 : decode cX11_count 68 = .ok (.aload_n 0, 1) := by decide +kernel
theorem dX11_count_69 : decode cX11_count 69 = .ok (.getfield 96, 3) := by decide +kernel
theorem dX11_count_72 : decode cX11_count 72 = .ok (.ireturn, 1) := by decide +kernel
theorem dX11_count_73 : decode cX11_count 73 = .ok (.aload_n 0, 1) := by decide +kernel
theorem dX11_count_74 : decode cX11_count 74 = .ok (.getfield 21, 3) := by decide +kernel
theorem dX11_count_77 : decode cX11_count 77 = .ok (.invokevirtual 270, 3) := by decide +kernel
theorem dX11_count_80 : decode cX11_count 80 = .ok (.ireturn, 1) := by decide +kernel
theorem dX11_count_81 : decode cX11_count 81 = .ok (.aload_n 0, 1) := by decide +kernel
theorem dX11_count_82 : decode cX11_count 82 = .ok (.getfield 28, 3) := by decide +kernel
theorem dX11_count_85 : decode cX11_count 85 = .ok (.invokevirtual 273, 3) := by decide +kernel
theorem dX11_count_88 : decode cX11_count 88 = .ok (.ireturn, 1) := by decide +kernel
theorem dX11_count_89 : decode cX11_count 89 = .ok (.aload_n 0, 1) := by decide +kernel
theorem dX11_count_90 : decode cX11_count 90 = .ok (.getfield 21, 3) := by decide +kernel
theorem dX11_count_93 : decode cX11_count 93 = .ok (.invokevirtual 274, 3) := by decide +kernel
theorem dX11_count_96 : decode cX11_count 96 = .ok (.ireturn, 1) := by decide +kernel
theorem dX11_count_97 : decode cX11_count 97 = .ok (.aload_n 0, 1) := by decide +kernel
theorem dX11_count_98 : decode cX11_count 98 = .ok (.getfield 44, 3) := by decide +kernel
theorem dX11_count_101 : decode cX11_count 101 = .ok (.invokevirtual 277, 3) := by decide +kernel
theorem dX11_count_104 : decode cX11_count 104 = .ok (.ireturn, 1) := by decide +kernel
theorem dX11_count_105 : decode cX11_count 105 = .ok (.aload_n 0, 1) := by decide +kernel
theorem dX11_count_106 : decode cX11_count 106 = .ok (.getfield 51, 3) := by decide +kernel
theorem dX11_count_109 : decode cX11_count 109 = .ok (.invokevirtual 278, 3) := by decide +kernel
theorem dX11_count_112 : decode cX11_count 112 = .ok (.ireturn, 1) := by decide +kernel
theorem dX11_count_113 : decode cX11_count 113 = .ok (.aload_n 0, 1) := by decide +kernel
theorem dX11_count_114 : decode cX11_count 114 = .ok (.getfield 58, 3) := by decide +kernel
theorem dX11_count_117 : decode cX11_count 117 = .ok (.invokevirtual 279, 3) := by decide +kernel
theorem dX11_count_120 : decode cX11_count 120 = .ok (.ireturn, 1) := by decide +kernel
theorem dX11_count_121 : decode cX11_count 121 = .ok (.aload_n 0, 1) := by decide +kernel
theorem dX11_count_122 : decode cX11_count 122 = .ok (.getfield 85, 3) := by decide +kernel
theorem dX11_count_125 : decode cX11_count 125 = .ok (.invokevirtual 280, 3) := by decide +kernel
theorem dX11_count_128 : decode cX11_count 128 = .ok (.ireturn, 1) := by decide +kernel
theorem dX11_count_129 : decode cX11_count 129 = .ok (.aload_n 0, 1) := by decide +kernel
theorem dX11_count_130 : decode cX11_count 130 = .ok (.getfield 76, 3) := by decide +kernel
theorem dX11_count_133 : decode cX11_count 133 = .ok (.invokevirtual 283, 3) := by decide +kernel
theorem dX11_count_136 : decode cX11_count 136 = .ok (.ireturn, 1) := by decide +kernel
theorem dX11_count_137 : decode cX11_count 137 = .ok (.aload_n 0, 1) := by decide +kernel
theorem dX11_count_138 : decode cX11_count 138 = .ok (.getfield 85, 3) := by decide +kernel
theorem dX11_count_141 : decode cX11_count 141 = .ok (.invokevirtual 284, 3) := by decide +kernel
theorem dX11_count_144 : decode cX11_count 144 = .ok (.ireturn, 1) := by decide +kernel
theorem dX11_count_145 : decode cX11_count 145 = .ok (.aload_n 0, 1) := by decide +kernel
theorem dX11_count_146 : decode cX11_count 146 = .ok (.getfield 85, 3) := by decide +kernel
theorem dX11_count_149 : decode cX11_count 149 = .ok (.invokevirtual 287, 3) := by decide +kernel
theorem dX11_count_152 : decode cX11_count 152 = .ok (.ireturn, 1) := by decide +kernel
theorem dX11_count_153 : decode cX11_count 153 = .ok (.aload_n 0, 1) := by decide +kernel
theorem dX11_count_154 : decode cX11_count 154 = .ok (.getfield 89, 3) := by decide +kernel
theorem dX11_count_157 : decode cX11_count 157 = .ok (.ireturn, 1) := by decide +kernel
theorem dX11_count_158 : decode cX11_count 158 = .ok (.aload_n 0, 1) := by decide +kernel
theorem dX11_count_159 : decode cX11_count 159 = .ok (.getfield 182, 3) := by decide +kernel
theorem dX11_count_162 : decode cX11_count 162 = .ok (.ireturn, 1) := by decide +kernel
theorem dX11_count_163 : decode cX11_count 163 = .ok (.iconst (-1), 1) := by decide +kernel
theorem dX11_count_164 : decode cX11_count 164 = .ok (.ireturn, 1) := by decide +kernel
theorem dX12_init_0 : decode cX12_init 0 = .ok (.aload_n 0, 1) := by decide +kernel
theorem dX12_init_1 : decode cX12_init 1 = .ok (.invokespecial 1, 3) := by decide +kernel
theorem dX12_init_4 : decode cX12_init 4 = .ok (.aload_n 0, 1) := by decide +kernel
theorem dX12_init_5 : decode cX12_init 5 = .ok (.sipush 540, 3) := by decide +kernel
theorem dX12_init_8 : decode cX12_init 8 = .ok (.newarray .int, 2) := by decide +kernel
theorem dX12_init_10 : decode cX12_init 10 = .ok (.putfield 7, 3) := by decide +kernel
theorem dX12_init_13 : decode cX12_init 13 = .ok (.aload_n 0, 1) := by decide +kernel
theorem dX12_init_14 : decode cX12_init 14 = .ok (.bipush 60, 2) := by decide +kernel
theorem dX12_init_16 : decode cX12_init 16 = .ok (.newarray .int, 2) := by decide +kernel
theorem dX12_init_18 : decode cX12_init 18 = .ok (.putfield 13, 3) := by decide +kernel
theorem dX12_init_21 : decode cX12_init 21 = .ok (.aload_n 0, 1) := by decide +kernel
theorem dX12_init_22 : decode cX12_init 22 = .ok (.bipush 60, 2) := by decide +kernel
theorem dX12_init_24 : decode cX12_init 24 = .ok (.newarray .long, 2) := by decide +kernel
theorem dX12_init_26 : decode cX12_init 26 = .ok (.putfield 16, 3) := by decide +kernel
theorem dX12_init_29 : decode cX12_init 29 = .ok (.aload_n 0, 1) := by decide +kernel
theorem dX12_init_30 : decode cX12_init 30 = .ok (.iconst 1, 1) := by decide +kernel
theorem dX12_init_31 : decode cX12_init 31 = .ok (.putfield 20, 3) := by decide +kernel
theorem dX12_init_34 : decode cX12_init 34 = .ok (.aload_n 0, 1) := by decide +kernel
theorem dX12_init_35 : decode cX12_init 35 = .ok (.sipush 200, 3) := by decide +kernel
theorem dX12_init_38 : decode cX12_init 38 = .ok (.newarray .int, 2) := by decide +kernel
theorem dX12_init_40 : decode cX12_init 40 = .ok (.putfield 24, 3) := by decide +kernel
theorem dX12_init_43 : decode cX12_init 43 = .ok (.aload_n 0, 1) := by decide +kernel
theorem dX12_init_44 : decode cX12_init 44 = .ok (.sipush 200, 3) := by decide +kernel
theorem dX12_init_47 : decode cX12_init 47 = .ok (.newarray .int, 2) := by decide +kernel
theorem dX12_init_49 : decode cX12_init 49 = .ok (.putfield 27, 3) := by decide +kernel
theorem dX12_init_52 : decode cX12_init 52 = .ok (.aload_n 0, 1) := by decide +kernel
theorem dX12_init_53 : decode cX12_init 53 = .ok (.sipush 200, 3) := by decide +kernel
theorem dX12_init_56 : decode cX12_init 56 = .ok (.newarray .int, 2) := by decide +kernel
theorem dX12_init_58 : decode cX12_init 58 = .ok (.putfield 30, 3) := by decide +kernel
theorem dX12_init_61 : decode cX12_init 61 = .ok (.aload_n 0, 1) := by decide +kernel
theorem dX12_init_62 : decode cX12_init 62 = .ok (.sipush 200, 3) := by decide +kernel
theorem dX12_init_65 : decode cX12_init 65 = .ok (.newarray .int, 2) := by decide +kernel
theorem dX12_init_67 : decode cX12_init 67 = .ok (.putfield 33, 3) := by decide +kernel
theorem dX12_init_70 : decode cX12_init 70 = .ok (.aload_n 0, 1) := by decide +kernel
theorem dX12_init_71 : decode cX12_init 71 = .ok (.sipush 200, 3) := by decide +kernel
theorem dX12_init_74 : decode cX12_init 74 = .ok (.newarray .int, 2) := by decide +kernel
theorem dX12_init_76 : decode cX12_init 76 = .ok (.putfield 36, 3) := by decide +kernel
theorem dX12_init_79 : decode cX12_init 79 = .ok (.aload_n 0, 1) := by decide +kernel
theorem dX12_init_80 : decode cX12_init 80 = .ok (.sipush 200, 3) := by decide +kernel
theorem dX12_init_83 : decode cX12_init 83 = .ok (.newarray .int, 2) := by decide +kernel
theorem dX12_init_85 : decode cX12_init 85 = .ok (.putfield 39, 3) := by decide +kernel
theorem dX12_init_88 : decode cX12_init 88 = .ok (.aload_n 0, 1) := by decide +kernel
theorem dX12_init_89 : decode cX12_init 89 = .ok (.bipush 100, 2) := by decide +kernel
theorem dX12_init_91 : decode cX12_init 91 = .ok (.newarray .int, 2) := by decide +kernel
theorem dX12_init_93 : decode cX12_init 93 = .ok (.putfield 42, 3) := by decide +kernel
theorem dX12_init_96 : decode cX12_init 96 = .ok (.aload_n 0, 1) := by decide +kernel
theorem dX12_init_97 : decode cX12_init 97 = .ok (.bipush 100, 2) := by decide +kernel
theorem dX12_init_99 : decode cX12_init 99 = .ok (.newarray .int, 2) := by decide +kernel
theorem dX12_init_101 : decode cX12_init 101 = .ok (.putfield 45, 3) := by decide +kernel
theorem dX12_init_104 : decode cX12_init 104 = .ok (.aload_n 0, 1) := by decide +kernel
theorem dX12_init_105 : decode cX12_init 105 = .ok (.bipush 100, 2) := by decide +kernel
theorem dX12_init_107 : decode cX12_init 107 = .ok (.newarray .int, 2) := by decide +kernel
theorem dX12_init_109 : decode cX12_init 109 = .ok (.putfield 48, 3) := by decide +kernel
theorem dX12_init_112 : decode cX12_init 112 = .ok (.aload_n 0, 1) := by decide +kernel
theorem dX12_init_113 : decode cX12_init 113 = .ok (.bipush 100, 2) := by decide +kernel
theorem dX12_init_115 : decode cX12_init 115 = .ok (.newarray .int, 2) := by decide +kernel
theorem dX12_init_117 : decode cX12_init 117 = .ok (.putfield 51, 3) := by decide +kernel
theorem dX12_init_120 : decode cX12_init 120 = .ok (.aload_n 0, 1) := by decide +kernel
theorem dX12_init_121 : decode cX12_init 121 = .ok (.bipush 100, 2) := by decide +kernel
theorem dX12_init_123 : decode cX12_init 123 = .ok (.newarray .int, 2) := by decide +kernel
theorem dX12_init_125 : decode cX12_init 125 = .ok (.putfield 54, 3) := by decide +kernel
theorem dX12_init_128 : decode cX12_init 128 = .ok (.aload_n 0, 1) := by decide +kernel
theorem dX12_init_129 : decode cX12_init 129 = .ok (.bipush 60, 2) := by decide +kernel
theorem dX12_init_131 : decode cX12_init 131 = .ok (.newarray .int, 2) := by decide +kernel
theorem dX12_init_133 : decode cX12_init 133 = .ok (.putfield 57, 3) := by decide +kernel
theorem dX12_init_136 : decode cX12_init 136 = .ok (.aload_n 0, 1) := by decide +kernel
theorem dX12_init_137 : decode cX12_init 137 = .ok (.bipush 60, 2) := by decide +kernel
theorem dX12_init_139 : decode cX12_init 139 = .ok (.newarray .int, 2) := by decide +kernel
theorem dX12_init_141 : decode cX12_init 141 = .ok (.putfield 60, 3) := by decide +kernel
theorem dX12_init_144 : decode cX12_init 144 = .ok (.aload_n 0, 1) := by decide +kernel
theorem dX12_init_145 : decode cX12_init 145 = .ok (.bipush 60, 2) := by decide +kernel
theorem dX12_init_147 : decode cX12_init 147 = .ok (.newarray .int, 2) := by decide +kernel
theorem dX12_init_149 : decode cX12_init 149 = .ok (.putfield 63, 3) := by decide +kernel
theorem dX12_init_152 : decode cX12_init 152 = .ok (.aload_n 0, 1) := by decide +kernel
theorem dX12_init_153 : decode cX12_init 153 = .ok (.bipush 60, 2) := by decide +kernel
theorem dX12_init_155 : decode cX12_init 155 = .ok (.newarray .int, 2) := by decide +kernel
theorem dX12_init_157 : decode cX12_init 157 = .ok (.putfield 66, 3) := by decide +kernel
theorem dX12_init_160 : decode cX12_init 160 = .ok (.aload_n 0, 1) := by decide +kernel
theorem dX12_init_161 : decode cX12_init 161 = .ok (.bipush 60, 2) := by decide +kernel
theorem dX12_init_163 : decode cX12_init 163 = .ok (.newarray .int, 2) := by decide +kernel
theorem dX12_init_165 : decode cX12_init 165 = .ok (.putfield 69, 3) := by decide +kernel
theorem dX12_init_168 : decode cX12_init 168 = .ok (.aload_n 0, 1) := by decide +kernel
theorem dX12_init_169 : decode cX12_init 169 = .ok (.bipush 120, 2) := by decide +kernel
theorem dX12_init_171 : decode cX12_init 171 = .ok (.newarray .int, 2) := by decide +kernel
theorem dX12_init_173 : decode cX12_init 173 = .ok (.putfield 72, 3) := by decide +kernel
theorem dX12_init_176 : decode cX12_init 176 = .ok (.aload_n 0, 1) := by decide +kernel
theorem dX12_init_177 : decode cX12_init 177 = .ok (.bipush 120, 2) := by decide +kernel
theorem dX12_init_179 : decode cX12_init 179 = .ok (.newarray .int, 2) := by decide +kernel
theorem dX12_init_181 : decode cX12_init 181 = .ok (.putfield 75, 3) := by decide +kernel
theorem dX12_init_184 : decode cX12_init 184 = .ok (.aload_n 0, 1) := by decide +kernel
theorem dX12_init_185 : decode cX12_init 185 = .ok (.bipush 120, 2) := by decide +kernel
theorem dX12_init_187 : decode cX12_init 187 = .ok (.newarray .int, 2) := by decide +kernel
theorem dX12_init_189 : decode cX12_init 189 = .ok (.putfield 78, 3) := by decide +kernel
theorem dX12_init_192 : decode cX12_init 192 = .ok (.aload_n 0, 1) := by decide +kernel
theorem dX12_init_193 : decode cX12_init 193 = .ok (.bipush 120, 2) := by decide +kernel
theorem dX12_init_195 : decode cX12_init 195 = .ok (.newarray .int, 2) := by decide +kernel
theorem dX12_init_197 : decode cX12_init 197 = .ok (.putfield 81, 3) := by decide +kernel
theorem dX12_init_200 : decode cX12_init 200 = .ok (.aload_n 0, 1) := by decide +kernel
theorem dX12_init_201 : decode cX12_init 201 = .ok (.bipush 120, 2) := by decide +kernel
theorem dX12_init_203 : decode cX12_init 203 = .ok (.newarray .int, 2) := by decide +kernel
theorem dX12_init_205 : decode cX12_init 205 = .ok (.putfield 84, 3) := by decide +kernel
theorem dX12_init_208 : decode cX12_init 208 = .ok (.aload_n 0, 1) := by decide +kernel
theorem dX12_init_209 : decode cX12_init 209 = .ok (.bipush 120, 2) := by decide +kernel
theorem dX12_init_211 : decode cX12_init 211 = .ok (.newarray .int, 2) := by decide +kernel
theorem dX12_init_213 : decode cX12_init 213 = .ok (.putfield 87, 3) := by decide +kernel
theorem dX12_init_216 : decode cX12_init 216 = .ok (.aload_n 0, 1) := by decide +kernel
theorem dX12_init_217 : decode cX12_init 217 = .ok (.bipush 120, 2) := by decide +kernel
theorem dX12_init_219 : decode cX12_init 219 = .ok (.newarray .int, 2) := by decide +kernel
theorem dX12_init_221 : decode cX12_init 221 = .ok (.putfield 90, 3) := by decide +kernel
theorem dX12_init_224 : decode cX12_init 224 = .ok (.aload_n 0, 1) := by decide +kernel
theorem dX12_init_225 : decode cX12_init 225 = .ok (.bipush 120, 2) := by decide +kernel
theorem dX12_init_227 : decode cX12_init 227 = .ok (.newarray .int, 2) := by decide +kernel
theorem dX12_init_229 : decode cX12_init 229 = .ok (.putfield 93, 3) := by decide +kernel
theorem dX12_init_232 : decode cX12_init 232 = .ok (.aload_n 0, 1) := by decide +kernel
theorem dX12_init_233 : decode cX12_init 233 = .ok (.bipush 120, 2) := by decide +kernel
theorem dX12_init_235 : decode cX12_init 235 = .ok (.newarray .int, 2) := by decide +kernel
theorem dX12_init_237 : decode cX12_init 237 = .ok (.putfield 96, 3) := by decide +kernel
theorem dX12_init_240 : decode cX12_init 240 = .ok (.aload_n 0, 1) := by decide +kernel
theorem dX12_init_241 : decode cX12_init 241 = .ok (.bipush 120, 2) := by decide +kernel
theorem dX12_init_243 : decode cX12_init 243 = .ok (.newarray .int, 2) := by decide +kernel
theorem dX12_init_245 : decode cX12_init 245 = .ok (.putfield 99, 3) := by decide +kernel
theorem dX12_init_248 : decode cX12_init 248 = .ok (.aload_n 0, 1) := by decide +kernel
theorem dX12_init_249 : decode cX12_init 249 = .ok (.bipush 120, 2) := by decide +kernel
theorem dX12_init_251 : decode cX12_init 251 = .ok (.newarray .boolean, 2) := by decide +kernel
theorem dX12_init_253 : decode cX12_init 253 = .ok (.putfield 102, 3) := by decide +kernel
theorem dX12_init_256 : decode cX12_init 256 = .ok (.aload_n 0, 1) := by decide +kernel
theorem dX12_init_257 : decode cX12_init 257 = .ok (.sipush 200, 3) := by decide +kernel
theorem dX12_init_260 : decode cX12_init 260 = .ok (.newarray .int, 2) := by decide +kernel
theorem dX12_init_262 : decode cX12_init 262 = .ok (.putfield 106, 3) := by decide +kernel
theorem dX12_init_265 : decode cX12_init 265 = .ok (.aload_n 0, 1) := by decide +kernel
theorem dX12_init_266 : decode cX12_init 266 = .ok (.sipush 200, 3) := by decide +kernel
theorem dX12_init_269 : decode cX12_init 269 = .ok (.newarray .int, 2) := by decide +kernel
theorem dX12_init_271 : decode cX12_init 271 = .ok (.putfield 109, 3) := by decide +kernel
theorem dX12_init_274 : decode cX12_init 274 = .ok (.aload_n 0, 1) := by decide +kernel
theorem dX12_init_275 : decode cX12_init 275 = .ok (.sipush 200, 3) := by decide +kernel
theorem dX12_init_278 : decode cX12_init 278 = .ok (.newarray .int, 2) := by decide +kernel
theorem dX12_init_280 : decode cX12_init 280 = .ok (.putfield 112, 3) := by decide +kernel
theorem dX12_init_283 : decode cX12_init 283 = .ok (.aload_n 0, 1) := by decide +kernel
theorem dX12_init_284 : decode cX12_init 284 = .ok (.sipush 200, 3) := by decide +kernel
theorem dX12_init_287 : decode cX12_init 287 = .ok (.newarray .int, 2) := by decide +kernel
theorem dX12_init_289 : decode cX12_init 289 = .ok (.putfield 115, 3) := by decide +kernel
theorem dX12_init_292 : decode cX12_init 292 = .ok (.aload_n 0, 1) := by decide +kernel
theorem dX12_init_293 : decode cX12_init 293 = .ok (.sipush 3600, 3) := by decide +kernel
theorem dX12_init_296 : decode cX12_init 296 = .ok (.newarray .int, 2) := by decide +kernel
theorem dX12_init_298 : decode cX12_init 298 = .ok (.putfield 118, 3) := by decide +kernel
theorem dX12_init_301 : decode cX12_init 301 = .ok (.aload_n 0, 1) := by decide +kernel
theorem dX12_init_302 : decode cX12_init 302 = .ok (.bipush 60, 2) := by decide +kernel
theorem dX12_init_304 : decode cX12_init 304 = .ok (.newarray .int, 2) := by decide +kernel
theorem dX12_init_306 : decode cX12_init 306 = .ok (.putfield 121, 3) := by decide +kernel
theorem dX12_init_309 : decode cX12_init 309 = .ok (.aload_n 0, 1) := by decide +kernel
theorem dX12_init_310 : decode cX12_init 310 = .ok (.sipush 3600, 3) := by decide +kernel
theorem dX12_init_313 : decode cX12_init 313 = .ok (.newarray .boolean, 2) := by decide +kernel
theorem dX12_init_315 : decode cX12_init 315 = .ok (.putfield 124, 3) := by decide +kernel
theorem dX12_init_318 : decode cX12_init 318 = .ok (.aload_n 0, 1) := by decide +kernel
theorem dX12_init_319 : decode cX12_init 319 = .ok (.iconst (-1), 1) := by decide +kernel
theorem dX12_init_320 : decode cX12_init 320 = .ok (.putfield 127, 3) := by decide +kernel
theorem dX12_init_323 : decode cX12_init 323 = .ok (.aload_n 0, 1) := by decide +kernel
theorem dX12_init_324 : decode cX12_init 324 = .ok (.iconst (-1), 1) := by decide +kernel
theorem dX12_init_325 : decode cX12_init 325 = .ok (.putfield 130, 3) := by decide +kernel
theorem dX12_init_328 : decode cX12_init 328 = .ok (.aload_n 0, 1) := by decide +kernel
theorem dX12_init_329 : decode cX12_init 329 = .ok (.iconst 5, 1) := by decide +kernel
theorem dX12_init_330 : decode cX12_init 330 = .ok (.newarray .int, 2) := by decide +kernel
theorem dX12_init_332 : decode cX12_init 332 = .ok (.putfield 133, 3) := by decide +kernel
theorem dX12_init_335 : decode cX12_init 335 = .ok (.aload_n 0, 1) := by decide +kernel
theorem dX12_init_336 : decode cX12_init 336 = .ok (.bipush 60, 2) := by decide +kernel
theorem dX12_init_338 : decode cX12_init 338 = .ok (.newarray .int, 2) := by decide +kernel
theorem dX12_init_340 : decode cX12_init 340 = .ok (.putfield 136, 3) := by decide +kernel
theorem dX12_init_343 : decode cX12_init 343 = .ok (.aload_n 0, 1) := by decide +kernel
theorem dX12_init_344 : decode cX12_init 344 = .ok (.bipush 6, 2) := by decide +kernel
theorem dX12_init_346 : decode cX12_init 346 = .ok (.newarray .int, 2) := by decide +kernel
theorem dX12_init_348 : decode cX12_init 348 = .ok (.putfield 139, 3) := by decide +kernel
theorem dX12_init_351 : decode cX12_init 351 = .ok (.aload_n 0, 1) := by decide +kernel
theorem dX12_init_352 : decode cX12_init 352 = .ok (.bipush 6, 2) := by decide +kernel
theorem dX12_init_354 : decode cX12_init 354 = .ok (.newarray .int, 2) := by decide +kernel
theorem dX12_init_356 : decode cX12_init 356 = .ok (.putfield 142, 3) := by decide +kernel
theorem dX12_init_359 : decode cX12_init 359 = .ok (.aload_n 0, 1) := by decide +kernel
theorem dX12_init_360 : decode cX12_init 360 = .ok (.bipush 7, 2) := by decide +kernel
theorem dX12_init_362 : decode cX12_init 362 = .ok (.newarray .int, 2) := by decide +kernel
theorem dX12_init_364 : decode cX12_init 364 = .ok (.putfield 145, 3) := by decide +kernel
theorem dX12_init_367 : decode cX12_init 367 = .ok (.aload_n 0, 1) := by decide +kernel
theorem dX12_init_368 : decode cX12_init 368 = .ok (.bipush 56, 2) := by decide +kernel
theorem dX12_init_370 : decode cX12_init 370 = .ok (.newarray .int, 2) := by decide +kernel
theorem dX12_init_372 : decode cX12_init 372 = .ok (.putfield 148, 3) := by decide +kernel
theorem dX12_init_375 : decode cX12_init 375 = .ok (.aload_n 0, 1) := by decide +kernel
theorem dX12_init_376 : decode cX12_init 376 = .ok (.bipush 35, 2) := by decide +kernel
theorem dX12_init_378 : decode cX12_init 378 = .ok (.newarray .int, 2) := by decide +kernel
theorem dX12_init_380 : decode cX12_init 380 = .ok (.putfield 151, 3) := by decide +kernel
theorem dX12_init_383 : decode cX12_init 383 = .ok (.aload_n 0, 1) := by decide +kernel
theorem dX12_init_384 : decode cX12_init 384 = .ok (.bipush 70, 2) := by decide +kernel
theorem dX12_init_386 : decode cX12_init 386 = .ok (.newarray .int, 2) := by decide +kernel
theorem dX12_init_388 : decode cX12_init 388 = .ok (.putfield 154, 3) := by decide +kernel
theorem dX12_init_391 : decode cX12_init 391 = .ok (.aload_n 0, 1) := by decide +kernel
theorem dX12_init_392 : decode cX12_init 392 = .ok (.bipush 70, 2) := by decide +kernel
theorem dX12_init_394 : decode cX12_init 394 = .ok (.newarray .int, 2) := by decide +kernel
theorem dX12_init_396 : decode cX12_init 396 = .ok (.putfield 157, 3) := by decide +kernel
theorem dX12_init_399 : decode cX12_init 399 = .ok (.aload_n 0, 1) := by decide +kernel
theorem dX12_init_400 : decode cX12_init 400 = .ok (.sipush 1400, 3) := by decide +kernel
theorem dX12_init_403 : decode cX12_init 403 = .ok (.newarray .int, 2) := by decide +kernel
theorem dX12_init_405 : decode cX12_init 405 = .ok (.putfield 160, 3) := by decide +kernel
theorem dX12_init_408 : decode cX12_init 408 = .ok (.aload_n 0, 1) := by decide +kernel
theorem dX12_init_409 : decode cX12_init 409 = .ok (.sipush 1400, 3) := by decide +kernel
theorem dX12_init_412 : decode cX12_init 412 = .ok (.newarray .int, 2) := by decide +kernel
theorem dX12_init_414 : decode cX12_init 414 = .ok (.putfield 163, 3) := by decide +kernel
theorem dX12_init_417 : decode cX12_init 417 = .ok (.aload_n 0, 1) := by decide +kernel
theorem dX12_init_418 : decode cX12_init 418 = .ok (.sipush 1400, 3) := by decide +kernel
theorem dX12_init_421 : decode cX12_init 421 = .ok (.newarray .int, 2) := by decide +kernel
theorem dX12_init_423 : decode cX12_init 423 = .ok (.putfield 166, 3) := by decide +kernel
theorem dX12_init_426 : decode cX12_init 426 = .ok (.aload_n 0, 1) := by decide +kernel
theorem dX12_init_427 : decode cX12_init 427 = .ok (.iconst 5, 1) := by decide +kernel
theorem dX12_init_428 : decode cX12_init 428 = .ok (.newarray .int, 2) := by decide +kernel
theorem dX12_init_430 : decode cX12_init 430 = .ok (.dup, 1) := by decide +kernel
theorem dX12_init_431 : decode cX12_init 431 = .ok (.iconst 0, 1) := by decide +kernel
theorem dX12_init_432 : decode cX12_init 432 = .ok (.iconst 1, 1) := by decide +kernel
theorem dX12_init_433 : decode cX12_init 433 = .ok (.iastore, 1) := by decide +kernel
theorem dX12_init_434 : decode cX12_init 434 = .ok (.dup, 1) := by decide +kernel
theorem dX12_init_435 : decode cX12_init 435 = .ok (.iconst 1, 1) := by decide +kernel
theorem dX12_init_436 : decode cX12_init 436 = .ok (.sipush 365, 3) := by decide +kernel
theorem dX12_init_439 : decode cX12_init 439 = .ok (.iastore, 1) := by decide +kernel
theorem dX12_init_440 : decode cX12_init 440 = .ok (.dup, 1) := by decide +kernel
theorem dX12_init_441 : decode cX12_init 441 = .ok (.iconst 2, 1) := by decide +kernel
theorem dX12_init_442 : decode cX12_init 442 = .ok (.sipush 365, 3) := by decide +kernel
theorem dX12_init_445 : decode cX12_init 445 = .ok (.iastore, 1) := by decide +kernel
theorem dX12_init_446 : decode cX12_init 446 = .ok (.dup, 1) := by decide +kernel
theorem dX12_init_447 : decode cX12_init 447 = .ok (.iconst 3, 1) := by decide +kernel
theorem dX12_init_448 : decode cX12_init 448 = .ok (.bipush 90, 2) := by decide +kernel
theorem dX12_init_450 : decode cX12_init 450 = .ok (.iastore, 1) := by decide +kernel
theorem dX12_init_451 : decode cX12_init 451 = .ok (.dup, 1) := by decide +kernel
theorem dX12_init_452 : decode cX12_init 452 = .ok (.iconst 4, 1) := by decide +kernel
theorem dX12_init_453 : decode cX12_init 453 = .ok (.iconst 0, 1) := by decide +kernel
theorem dX12_init_454 : decode cX12_init 454 = .ok (.iastore, 1) := by decide +kernel
theorem dX12_init_455 : decode cX12_init 455 = .ok (.putfield 169, 3) := by decide +kernel
theorem dX12_init_458 : decode cX12_init 458 = .ok (.aload_n 0, 1) := by decide +kernel
theorem dX12_init_459 : decode cX12_init 459 = .ok (.iconst 5, 1) := by decide +kernel
theorem dX12_init_460 : decode cX12_init 460 = .ok (.newarray .int, 2) := by decide +kernel
theorem dX12_init_462 : decode cX12_init 462 = .ok (.dup, 1) := by decide +kernel
theorem dX12_init_463 : decode cX12_init 463 = .ok (.iconst 0, 1) := by decide +kernel
theorem dX12_init_464 : decode cX12_init 464 = .ok (.iconst 0, 1) := by decide +kernel
theorem dX12_init_465 : decode cX12_init 465 = .ok (.iastore, 1) := by decide +kernel
theorem dX12_init_466 : decode cX12_init 466 = .ok (.dup, 1) := by decide +kernel
theorem dX12_init_467 : decode cX12_init 467 = .ok (.iconst 1, 1) := by decide +kernel
theorem dX12_init_468 : decode cX12_init 468 = .ok (.iconst 1, 1) := by decide +kernel
theorem dX12_init_469 : decode cX12_init 469 = .ok (.iastore, 1) := by decide +kernel
theorem dX12_init_470 : decode cX12_init 470 = .ok (.dup, 1) := by decide +kernel
theorem dX12_init_471 : decode cX12_init 471 = .ok (.iconst 2, 1) := by decide +kernel
theorem dX12_init_472 : decode cX12_init 472 = .ok (.iconst 0, 1) := by decide +kernel
theorem dX12_init_473 : decode cX12_init 473 = .ok (.iastore, 1) := by decide +kernel
theorem dX12_init_474 : decode cX12_init 474 = .ok (.dup, 1) := by decide +kernel
theorem dX12_init_475 : decode cX12_init 475 = .ok (.iconst 3, 1) := by decide +kernel
theorem dX12_init_476 : decode cX12_init 476 = .ok (.iconst 1, 1) := by decide +kernel
theorem dX12_init_477 : decode cX12_init 477 = .ok (.iastore, 1) := by decide +kernel
theorem dX12_init_478 : decode cX12_init 478 = .ok (.dup, 1) := by decide +kernel
theorem dX12_init_479 : decode cX12_init 479 = .ok (.iconst 4, 1) := by decide +kernel
theorem dX12_init_480 : decode cX12_init 480 = .ok (.iconst 0, 1) := by decide +kernel
theorem dX12_init_481 : decode cX12_init 481 = .ok (.iastore, 1) := by decide +kernel
theorem dX12_init_482 : decode cX12_init 482 = .ok (.putfield 172, 3) := by decide +kernel
theorem dX12_init_485 : decode cX12_init 485 = .ok (.aload_n 0, 1) := by decide +kernel
theorem dX12_init_486 : decode cX12_init 486 = .ok (.iconst 5, 1) := by decide +kernel
theorem dX12_init_487 : decode cX12_init 487 = .ok (.newarray .int, 2) := by decide +kernel
theorem dX12_init_489 : decode cX12_init 489 = .ok (.dup, 1) := by decide +kernel
theorem dX12_init_490 : decode cX12_init 490 = .ok (.iconst 0, 1) := by decide +kernel
theorem dX12_init_491 : decode cX12_init 491 = .ok (.iconst 4, 1) := by decide +kernel
theorem dX12_init_492 : decode cX12_init 492 = .ok (.iastore, 1) := by decide +kernel
theorem dX12_init_493 : decode cX12_init 493 = .ok (.dup, 1) := by decide +kernel
theorem dX12_init_494 : decode cX12_init 494 = .ok (.iconst 1, 1) := by decide +kernel
theorem dX12_init_495 : decode cX12_init 495 = .ok (.sipush 999, 3) := by decide +kernel
theorem dX12_init_498 : decode cX12_init 498 = .ok (.iastore, 1) := by decide +kernel
theorem dX12_init_499 : decode cX12_init 499 = .ok (.dup, 1) := by decide +kernel
theorem dX12_init_500 : decode cX12_init 500 = .ok (.iconst 2, 1) := by decide +kernel
theorem dX12_init_501 : decode cX12_init 501 = .ok (.sipush 3650, 3) := by decide +kernel
theorem dX12_init_504 : decode cX12_init 504 = .ok (.iastore, 1) := by decide +kernel
theorem dX12_init_505 : decode cX12_init 505 = .ok (.dup, 1) := by decide +kernel
theorem dX12_init_506 : decode cX12_init 506 = .ok (.iconst 3, 1) := by decide +kernel
theorem dX12_init_507 : decode cX12_init 507 = .ok (.sipush 999, 3) := by decide +kernel
theorem dX12_init_510 : decode cX12_init 510 = .ok (.iastore, 1) := by decide +kernel
theorem dX12_init_511 : decode cX12_init 511 = .ok (.dup, 1) := by decide +kernel
theorem dX12_init_512 : decode cX12_init 512 = .ok (.iconst 4, 1) := by decide +kernel
theorem dX12_init_513 : decode cX12_init 513 = .ok (.bipush 12, 2) := by decide +kernel
theorem dX12_init_515 : decode cX12_init 515 = .ok (.iastore, 1) := by decide +kernel
theorem dX12_init_516 : decode cX12_init 516 = .ok (.putfield 175, 3) := by decide +kernel
theorem dX12_init_519 : decode cX12_init 519 = .ok (.aload_n 0, 1) := by decide +kernel
theorem dX12_init_520 : decode cX12_init 520 = .ok (.sipush 140, 3) := by decide +kernel
theorem dX12_init_523 : decode cX12_init 523 = .ok (.newarray .int, 2) := by decide +kernel
theorem dX12_init_525 : decode cX12_init 525 = .ok (.putfield 178, 3) := by decide +kernel
theorem dX12_init_528 : decode cX12_init 528 = .ok (.aload_n 0, 1) := by decide +kernel
theorem dX12_init_529 : decode cX12_init 529 = .ok (.bipush 14, 2) := by decide +kernel
theorem dX12_init_531 : decode cX12_init 531 = .ok (.newarray .int, 2) := by decide +kernel
theorem dX12_init_533 : decode cX12_init 533 = .ok (.putfield 181, 3) := by decide +kernel
theorem dX12_init_536 : decode cX12_init 536 = .ok (.aload_n 0, 1) := by decide +kernel
theorem dX12_init_537 : decode cX12_init 537 = .ok (.sipush 140, 3) := by decide +kernel
theorem dX12_init_540 : decode cX12_init 540 = .ok (.newarray .boolean, 2) := by decide +kernel
theorem dX12_init_542 : decode cX12_init 542 = .ok (.putfield 184, 3) := by decide +kernel
theorem dX12_init_545 : decode cX12_init 545 = .ok (.aload_n 0, 1) := by decide +kernel
theorem dX12_init_546 : decode cX12_init 546 = .ok (.bipush 12, 2) := by decide +kernel
theorem dX12_init_548 : decode cX12_init 548 = .ok (.newarray .int, 2) := by decide +kernel
theorem dX12_init_550 : decode cX12_init 550 = .ok (.putfield 187, 3) := by decide +kernel
theorem dX12_init_553 : decode cX12_init 553 = .ok (.aload_n 0, 1) := by decide +kernel
theorem dX12_init_554 : decode cX12_init 554 = .ok (.bipush 60, 2) := by decide +kernel
theorem dX12_init_556 : decode cX12_init 556 = .ok (.newarray .int, 2) := by decide +kernel
theorem dX12_init_558 : decode cX12_init 558 = .ok (.putfield 190, 3) := by decide +kernel
theorem dX12_init_561 : decode cX12_init 561 = .ok (.aload_n 0, 1) := by decide +kernel
theorem dX12_init_562 : decode cX12_init 562 = .ok (.bipush 60, 2) := by decide +kernel
theorem dX12_init_564 : decode cX12_init 564 = .ok (.newarray .int, 2) := by decide +kernel
theorem dX12_init_566 : decode cX12_init 566 = .ok (.putfield 193, 3) := by decide +kernel
theorem dX12_init_569 : decode cX12_init 569 = .ok (.aload_n 0, 1) := by decide +kernel
theorem dX12_init_570 : decode cX12_init 570 = .ok (.bipush 100, 2) := by decide +kernel
theorem dX12_init_572 : decode cX12_init 572 = .ok (.newarray .int, 2) := by decide +kernel
theorem dX12_init_574 : decode cX12_init 574 = .ok (.putfield 196, 3) := by decide +kernel
theorem dX12_init_577 : decode cX12_init 577 = .ok (.aload_n 0, 1) := by decide +kernel
theorem dX12_init_578 : decode cX12_init 578 = .ok (.bipush 100, 2) := by decide +kernel
theorem dX12_init_580 : decode cX12_init 580 = .ok (.newarray .int, 2) := by decide +kernel
theorem dX12_init_582 : decode cX12_init 582 = .ok (.putfield 199, 3) := by decide +kernel
theorem dX12_init_585 : decode cX12_init 585 = .ok (.aload_n 0, 1) := by decide +kernel
theorem dX12_init_586 : decode cX12_init 586 = .ok (.bipush 100, 2) := by decide +kernel
theorem dX12_init_588 : decode cX12_init 588 = .ok (.newarray .int, 2) := by decide +kernel
theorem dX12_init_590 : decode cX12_init 590 = .ok (.putfield 202, 3) := by decide +kernel
theorem dX12_init_593 : decode cX12_init 593 = .ok (.aload_n 0, 1) := by decide +kernel
theorem dX12_init_594 : decode cX12_init 594 = .ok (.bipush 100, 2) := by decide +kernel
theorem dX12_init_596 : decode cX12_init 596 = .ok (.newarray .int, 2) := by decide +kernel
theorem dX12_init_598 : decode cX12_init 598 = .ok (.putfield 205, 3) := by decide +kernel
theorem dX12_init_601 : decode cX12_init 601 = .ok (.aload_n 0, 1) := by decide +kernel
theorem dX12_init_602 : decode cX12_init 602 = .ok (.bipush 100, 2) := by decide +kernel
theorem dX12_init_604 : decode cX12_init 604 = .ok (.newarray .long, 2) := by decide +kernel
theorem dX12_init_606 : decode cX12_init 606 = .ok (.putfield 208, 3) := by decide +kernel
theorem dX12_init_609 : decode cX12_init 609 = .ok (.aload_n 0, 1) := by decide +kernel
theorem dX12_init_610 : decode cX12_init 610 = .ok (.sipush 12000, 3) := by decide +kernel
theorem dX12_init_613 : decode cX12_init 613 = .ok (.newarray .boolean, 2) := by decide +kernel
theorem dX12_init_615 : decode cX12_init 615 = .ok (.putfield 211, 3) := by decide +kernel
theorem dX12_init_618 : decode cX12_init 618 = .ok (.aload_n 0, 1) := by decide +kernel
theorem dX12_init_619 : decode cX12_init 619 = .ok (.bipush 120, 2) := by decide +kernel
theorem dX12_init_621 : decode cX12_init 621 = .ok (.newarray .boolean, 2) := by decide +kernel
theorem dX12_init_623 : decode cX12_init 623 = .ok (.putfield 214, 3) := by decide +kernel
theorem dX12_init_626 : decode cX12_init 626 = .ok (.aload_n 0, 1) := by decide +kernel
theorem dX12_init_627 : decode cX12_init 627 = .ok (.bipush 100, 2) := by decide +kernel
theorem dX12_init_629 : decode cX12_init 629 = .ok (.newarray .int, 2) := by decide +kernel
theorem dX12_init_631 : decode cX12_init 631 = .ok (.putfield 217, 3) := by decide +kernel
theorem dX12_init_634 : decode cX12_init 634 = .ok (.aload_n 0, 1) := by decide +kernel
theorem dX12_init_635 : decode cX12_init 635 = .ok (.bipush 120, 2) := by decide +kernel
theorem dX12_init_637 : decode cX12_init 637 = .ok (.newarray .int, 2) := by decide +kernel
theorem dX12_init_639 : decode cX12_init 639 = .ok (.putfield 220, 3) := by decide +kernel
theorem dX12_init_642 : decode cX12_init 642 = .ok (.aload_n 0, 1) := by decide +kernel
theorem dX12_init_643 : decode cX12_init 643 = .ok (.bipush 120, 2) := by decide +kernel
theorem dX12_init_645 : decode cX12_init 645 = .ok (.newarray .int, 2) := by decide +kernel
theorem dX12_init_647 : decode cX12_init 647 = .ok (.putfield 223, 3) := by decide +kernel
theorem dX12_init_650 : decode cX12_init 650 = .ok (.aload_n 0, 1) := by decide +kernel
theorem dX12_init_651 : decode cX12_init 651 = .ok (.bipush 100, 2) := by decide +kernel
theorem dX12_init_653 : decode cX12_init 653 = .ok (.newarray .int, 2) := by decide +kernel
theorem dX12_init_655 : decode cX12_init 655 = .ok (.putfield 226, 3) := by decide +kernel
theorem dX12_init_658 : decode cX12_init 658 = .ok (.aload_n 0, 1) := by decide +kernel
theorem dX12_init_659 : decode cX12_init 659 = .ok (.sipush 200, 3) := by decide +kernel
theorem dX12_init_662 : decode cX12_init 662 = .ok (.newarray .int, 2) := by decide +kernel
theorem dX12_init_664 : decode cX12_init 664 = .ok (.putfield 229, 3) := by decide +kernel
theorem dX12_init_667 : decode cX12_init 667 = .ok (.aload_n 0, 1) := by decide +kernel
theorem dX12_init_668 : decode cX12_init 668 = .ok (.sipush 200, 3) := by decide +kernel
theorem dX12_init_671 : decode cX12_init 671 = .ok (.newarray .int, 2) := by decide +kernel
theorem dX12_init_673 : decode cX12_init 673 = .ok (.putfield 232, 3) := by decide +kernel
theorem dX12_init_676 : decode cX12_init 676 = .ok (.aload_n 0, 1) := by decide +kernel
theorem dX12_init_677 : decode cX12_init 677 = .ok (.sipush 200, 3) := by decide +kernel
theorem dX12_init_680 : decode cX12_init 680 = .ok (.newarray .int, 2) := by decide +kernel
theorem dX12_init_682 : decode cX12_init 682 = .ok (.putfield 235, 3) := by decide +kernel
theorem dX12_init_685 : decode cX12_init 685 = .ok (.aload_n 0, 1) := by decide +kernel
theorem dX12_init_686 : decode cX12_init 686 = .ok (.sipush 200, 3) := by decide +kernel
theorem dX12_init_689 : decode cX12_init 689 = .ok (.newarray .boolean, 2) := by decide +kernel
theorem dX12_init_691 : decode cX12_init 691 = .ok (.putfield 238, 3) := by decide +kernel
theorem dX12_init_694 : decode cX12_init 694 = .ok (.aload_n 0, 1) := by decide +kernel
theorem dX12_init_695 : decode cX12_init 695 = .ok (.bipush 62, 2) := by decide +kernel
theorem dX12_init_697 : decode cX12_init 697 = .ok (.newarray .long, 2) := by decide +kernel
theorem dX12_init_699 : decode cX12_init 699 = .ok (.putfield 241, 3) := by decide +kernel
theorem dX12_init_702 : decode cX12_init 702 = .ok (.return_, 1) := by decide +kernel
theorem dX12_thrown_0 : decode cX12_thrown 0 = .ok (.aload_n 0, 1) := by decide +kernel
theorem dX12_thrown_1 : decode cX12_thrown 1 = .ok (.getfield 244, 3) := by decide +kernel
theorem dX12_thrown_4 : decode cX12_thrown 4 = .ok (.ireturn, 1) := by decide +kernel
theorem dX12_refuse_0 : decode cX12_refuse 0 = .ok (.aload_n 0, 1) := by decide +kernel
theorem dX12_refuse_1 : decode cX12_refuse 1 = .ok (.iconst 1, 1) := by decide +kernel
theorem dX12_refuse_2 : decode cX12_refuse 2 = .ok (.putfield 244, 3) := by decide +kernel
theorem dX12_refuse_5 : decode cX12_refuse 5 = .ok (.iconst 0, 1) := by decide +kernel
theorem dX12_refuse_6 : decode cX12_refuse 6 = .ok (.ireturn, 1) := by decide +kernel
theorem dX12_come_0 : decode cX12_come 0 = .ok (.bipush 24, 2) := by decide +kernel
theorem dX12_come_2 : decode cX12_come 2 = .ok (.istore_n 2, 1) := by decide +kernel
theorem dX12_come_3 : decode cX12_come 3 = .ok (.iload_n 2, 1) := by decide +kernel
theorem dX12_come_4 : decode cX12_come 4 = .ok (.ifCond .lt 35, 3) := by decide +kernel
theorem dX12_come_7 : decode cX12_come 7 = .ok (.aload_n 0, 1) := by decide +kernel
theorem dX12_come_8 : decode cX12_come 8 = .ok (.getfield 7, 3) := by decide +kernel
theorem dX12_come_11 : decode cX12_come 11 = .ok (.aload_n 0, 1) := by decide +kernel
theorem dX12_come_12 : decode cX12_come 12 = .ok (.getfield 247, 3) := by decide +kernel
theorem dX12_come_15 : decode cX12_come 15 = .ok (.iload_n 1, 1) := by decide +kernel
theorem dX12_come_16 : decode cX12_come 16 = .ok (.iload_n 2, 1) := by decide +kernel
theorem dX12_come_17 : decode cX12_come 17 = .ok (.iushr, 1) := by decide +kernel
theorem dX12_come_18 : decode cX12_come 18 = .ok (.sipush 255, 3) := by decide +kernel
theorem dX12_come_21 : decode cX12_come 21 = .ok (.iand, 1) := by decide +kernel
theorem dX12_come_22 : decode cX12_come 22 = .ok (.iastore, 1) := by decide +kernel
theorem dX12_come_23 : decode cX12_come 23 = .ok (.aload_n 0, 1) := by decide +kernel
theorem dX12_come_24 : decode cX12_come 24 = .ok (.dup, 1) := by decide +kernel
theorem dX12_come_25 : decode cX12_come 25 = .ok (.getfield 247, 3) := by decide +kernel
theorem dX12_come_28 : decode cX12_come 28 = .ok (.iconst 1, 1) := by decide +kernel
theorem dX12_come_29 : decode cX12_come 29 = .ok (.iadd, 1) := by decide +kernel
theorem dX12_come_30 : decode cX12_come 30 = .ok (.putfield 247, 3) := by decide +kernel
theorem dX12_come_33 : decode cX12_come 33 = .ok (.iinc 2 (-8), 3) := by decide +kernel
theorem dX12_come_36 : decode cX12_come 36 = .ok (.goto (-33), 3) := by decide +kernel
theorem dX12_come_39 : decode cX12_come 39 = .ok (.return_, 1) := by decide +kernel
theorem dX12_feed_0 : decode cX12_feed 0 = .ok (.aload_n 0, 1) := by decide +kernel
theorem dX12_feed_1 : decode cX12_feed 1 = .ok (.iconst 0, 1) := by decide +kernel
theorem dX12_feed_2 : decode cX12_feed 2 = .ok (.putfield 244, 3) := by decide +kernel
theorem dX12_feed_5 : decode cX12_feed 5 = .ok (.aload_n 0, 1) := by decide +kernel
theorem dX12_feed_6 : decode cX12_feed 6 = .ok (.getfield 247, 3) := by decide +kernel
theorem dX12_feed_9 : decode cX12_feed 9 = .ok (.bipush 20, 2) := by decide +kernel
theorem dX12_feed_11 : decode cX12_feed 11 = .ok (.iadd, 1) := by decide +kernel
theorem dX12_feed_12 : decode cX12_feed 12 = .ok (.sipush 540, 3) := by decide +kernel
theorem dX12_feed_15 : decode cX12_feed 15 = .ok (.if_icmp .le 5, 3) := by decide +kernel
theorem dX12_feed_18 : decode cX12_feed 18 = .ok (.iconst (-1), 1) := by decide +kernel
theorem dX12_feed_19 : decode cX12_feed 19 = .ok (.ireturn, 1) := by decide +kernel
theorem dX12_feed_20 : decode cX12_feed 20 = .ok (.aload_n 0, 1) := by decide +kernel
theorem dX12_feed_21 : decode cX12_feed 21 = .ok (.iload_n 1, 1) := by decide +kernel
theorem dX12_feed_22 : decode cX12_feed 22 = .ok (.invokevirtual 250, 3) := by decide +kernel
theorem dX12_feed_25 : decode cX12_feed 25 = .ok (.aload_n 0, 1) := by decide +kernel
theorem dX12_feed_26 : decode cX12_feed 26 = .ok (.iload_n 2, 1) := by decide +kernel
theorem dX12_feed_27 : decode cX12_feed 27 = .ok (.invokevirtual 250, 3) := by decide +kernel
theorem dX12_feed_30 : decode cX12_feed 30 = .ok (.aload_n 0, 1) := by decide +kernel
theorem dX12_feed_31 : decode cX12_feed 31 = .ok (.iload_n 3, 1) := by decide +kernel
theorem dX12_feed_32 : decode cX12_feed 32 = .ok (.invokevirtual 250, 3) := by decide +kernel
theorem dX12_feed_35 : decode cX12_feed 35 = .ok (.aload_n 0, 1) := by decide +kernel
theorem dX12_feed_36 : decode cX12_feed 36 = .ok (.iload 4, 2) := by decide +kernel
theorem dX12_feed_38 : decode cX12_feed 38 = .ok (.invokevirtual 250, 3) := by decide +kernel
theorem dX12_feed_41 : decode cX12_feed 41 = .ok (.aload_n 0, 1) := by decide +kernel
theorem dX12_feed_42 : decode cX12_feed 42 = .ok (.iload 5, 2) := by decide +kernel
theorem dX12_feed_44 : decode cX12_feed 44 = .ok (.invokevirtual 250, 3) := by decide +kernel
theorem dX12_feed_47 : decode cX12_feed 47 = .ok (.aload_n 0, 1) := by decide +kernel
theorem dX12_feed_48 : decode cX12_feed 48 = .ok (.getfield 247, 3) := by decide +kernel
theorem dX12_feed_51 : decode cX12_feed 51 = .ok (.ireturn, 1) := by decide +kernel
theorem dX12_end_0 : decode cX12_end 0 = .ok (.aload_n 0, 1) := by decide +kernel
theorem dX12_end_1 : decode cX12_end 1 = .ok (.iconst 0, 1) := by decide +kernel
theorem dX12_end_2 : decode cX12_end 2 = .ok (.putfield 244, 3) := by decide +kernel
theorem dX12_end_5 : decode cX12_end 5 = .ok (.iload_n 1, 1) := by decide +kernel
theorem dX12_end_6 : decode cX12_end 6 = .ok (.ifCond .lt 11, 3) := by decide +kernel
theorem dX12_end_9 : decode cX12_end 9 = .ok (.iload_n 1, 1) := by decide +kernel
theorem dX12_end_10 : decode cX12_end 10 = .ok (.aload_n 0, 1) := by decide +kernel
theorem dX12_end_11 : decode cX12_end 11 = .ok (.getfield 247, 3) := by decide +kernel
theorem dX12_end_14 : decode cX12_end 14 = .ok (.if_icmp .le 5, 3) := by decide +kernel
theorem dX12_end_17 : decode cX12_end 17 = .ok (.iconst 0, 1) := by decide +kernel
theorem dX12_end_18 : decode cX12_end 18 = .ok (.ireturn, 1) := by decide +kernel
theorem dX12_end_19 : decode cX12_end 19 = .ok (.aload_n 0, 1) := by decide +kernel
theorem dX12_end_20 : decode cX12_end 20 = .ok (.iload_n 1, 1) := by decide +kernel
theorem dX12_end_21 : decode cX12_end 21 = .ok (.putfield 247, 3) := by decide +kernel
theorem dX12_end_24 : decode cX12_end 24 = .ok (.iconst 1, 1) := by decide +kernel
theorem dX12_end_25 : decode cX12_end 25 = .ok (.ireturn, 1) := by decide +kernel
theorem dX12_isIn_0 : decode cX12_isIn 0 = .ok (.iload_n 0, 1) := by decide +kernel
theorem dX12_isIn_1 : decode cX12_isIn 1 = .ok (.iload_n 1, 1) := by decide +kernel
theorem dX12_isIn_2 : decode cX12_isIn 2 = .ok (.if_icmp .lt 12, 3) := by decide +kernel
theorem dX12_isIn_5 : decode cX12_isIn 5 = .ok (.iload_n 0, 1) := by decide +kernel
theorem dX12_isIn_6 : decode cX12_isIn 6 = .ok (.iload_n 2, 1) := by decide +kernel
theorem dX12_isIn_7 : decode cX12_isIn 7 = .ok (.if_icmp .gt 7, 3) := by decide +kernel
theorem dX12_isIn_10 : decode cX12_isIn 10 = .ok (.iconst 1, 1) := by decide +kernel
theorem dX12_isIn_11 : decode cX12_isIn 11 = .ok (.goto 4, 3) := by decide +kernel
theorem dX12_isIn_14 : decode cX12_isIn 14 = .ok (.iconst 0, 1) := by decide +kernel
theorem dX12_isIn_15 : decode cX12_isIn 15 = .ok (.ireturn, 1) := by decide +kernel
theorem dX12_next_0 : decode cX12_next 0 = .ok (.aload_n 0, 1) := by decide +kernel
theorem dX12_next_1 : decode cX12_next 1 = .ok (.iconst 0, 1) := by decide +kernel
theorem dX12_next_2 : decode cX12_next 2 = .ok (.putfield 244, 3) := by decide +kernel
theorem dX12_next_5 : decode cX12_next 5 = .ok (.iload_n 1, 1) := by decide +kernel
theorem dX12_next_6 : decode cX12_next 6 = .ok (.iconst 0, 1) := by decide +kernel
theorem dX12_next_7 : decode cX12_next 7 = .ok (.sipush 9999, 3) := by decide +kernel
theorem dX12_next_10 : decode cX12_next 10 = .ok (.invokestatic 254, 3) := by decide +kernel
theorem dX12_next_13 : decode cX12_next 13 = .ok (.ifCond .eq 15, 3) := by decide +kernel
theorem dX12_next_16 : decode cX12_next 16 = .ok (.aload_n 0, 1) := by decide +kernel
theorem dX12_next_17 : decode cX12_next 17 = .ok (.getfield 258, 3) := by decide +kernel
theorem dX12_next_20 : decode cX12_next 20 = .ok (.iload_n 1, 1) := by decide +kernel
theorem dX12_next_21 : decode cX12_next 21 = .ok (.iadd, 1) := by decide +kernel
theorem dX12_next_22 : decode cX12_next 22 = .ok (.sipush 9999, 3) := by decide +kernel
theorem dX12_next_25 : decode cX12_next 25 = .ok (.if_icmp .le 5, 3) := by decide +kernel
theorem dX12_next_28 : decode cX12_next 28 = .ok (.iconst (-1), 1) := by decide +kernel
theorem dX12_next_29 : decode cX12_next 29 = .ok (.ireturn, 1) := by decide +kernel
theorem dX12_next_30 : decode cX12_next 30 = .ok (.aload_n 0, 1) := by decide +kernel
theorem dX12_next_31 : decode cX12_next 31 = .ok (.dup, 1) := by decide +kernel
theorem dX12_next_32 : decode cX12_next 32 = .ok (.getfield 258, 3) := by decide +kernel
theorem dX12_next_35 : decode cX12_next 35 = .ok (.iload_n 1, 1) := by decide +kernel
theorem dX12_next_36 : decode cX12_next 36 = .ok (.iadd, 1) := by decide +kernel
theorem dX12_next_37 : decode cX12_next 37 = .ok (.putfield 258, 3) := by decide +kernel
theorem dX12_next_40 : decode cX12_next 40 = .ok (.aload_n 0, 1) := by decide +kernel
theorem dX12_next_41 : decode cX12_next 41 = .ok (.getfield 258, 3) := by decide +kernel
theorem dX12_next_44 : decode cX12_next 44 = .ok (.ireturn, 1) := by decide +kernel
theorem dX12_isLetter_0 : decode cX12_isLetter 0 = .ok (.iload_n 0, 1) := by decide +kernel
theorem dX12_isLetter_1 : decode cX12_isLetter 1 = .ok (.bipush 97, 2) := by decide +kernel
theorem dX12_isLetter_3 : decode cX12_isLetter 3 = .ok (.if_icmp .lt 13, 3) := by decide +kernel
theorem dX12_isLetter_6 : decode cX12_isLetter 6 = .ok (.iload_n 0, 1) := by decide +kernel
theorem dX12_isLetter_7 : decode cX12_isLetter 7 = .ok (.bipush 122, 2) := by decide +kernel
theorem dX12_isLetter_9 : decode cX12_isLetter 9 = .ok (.if_icmp .gt 7, 3) := by decide +kernel
theorem dX12_isLetter_12 : decode cX12_isLetter 12 = .ok (.iconst 1, 1) := by decide +kernel
theorem dX12_isLetter_13 : decode cX12_isLetter 13 = .ok (.goto 4, 3) := by decide +kernel
theorem dX12_isLetter_16 : decode cX12_isLetter 16 = .ok (.iconst 0, 1) := by decide +kernel
theorem dX12_isLetter_17 : decode cX12_isLetter 17 = .ok (.ireturn, 1) := by decide +kernel
theorem dX12_takeName_0 : decode cX12_takeName 0 = .ok (.aload_n 0, 1) := by decide +kernel
theorem dX12_takeName_1 : decode cX12_takeName 1 = .ok (.getfield 247, 3) := by decide +kernel
theorem dX12_takeName_4 : decode cX12_takeName 4 = .ok (.istore_n 1, 1) := by decide +kernel
theorem dX12_takeName_5 : decode cX12_takeName 5 = .ok (.aload_n 0, 1) := by decide +kernel
theorem dX12_takeName_6 : decode cX12_takeName 6 = .ok (.iconst 0, 1) := by decide +kernel
theorem dX12_takeName_7 : decode cX12_takeName 7 = .ok (.putfield 247, 3) := by decide +kernel
theorem dX12_takeName_10 : decode cX12_takeName 10 = .ok (.iload_n 1, 1) := by decide +kernel
theorem dX12_takeName_11 : decode cX12_takeName 11 = .ok (.iconst 1, 1) := by decide +kernel
theorem dX12_takeName_12 : decode cX12_takeName 12 = .ok (.bipush 12, 2) := by decide +kernel
theorem dX12_takeName_14 : decode cX12_takeName 14 = .ok (.invokestatic 254, 3) := by decide +kernel
theorem dX12_takeName_17 : decode cX12_takeName 17 = .ok (.ifCond .ne 5, 3) := by decide +kernel
theorem dX12_takeName_20 : decode cX12_takeName 20 = .ok (.lconst 0, 1) := by decide +kernel
theorem dX12_takeName_21 : decode cX12_takeName 21 = .ok (.lreturn, 1) := by decide +kernel
theorem dX12_takeName_22 : decode cX12_takeName 22 = .ok (.lconst 0, 1) := by decide +kernel
theorem dX12_takeName_23 : decode cX12_takeName 23 = .ok (.lstore_n 2, 1) := by decide +kernel
theorem dX12_takeName_24 : decode cX12_takeName 24 = .ok (.iconst 0, 1) := by decide +kernel
theorem dX12_takeName_25 : decode cX12_takeName 25 = .ok (.istore 4, 2) := by decide +kernel
theorem dX12_takeName_27 : decode cX12_takeName 27 = .ok (.iload 4, 2) := by decide +kernel
theorem dX12_takeName_29 : decode cX12_takeName 29 = .ok (.iload_n 1, 1) := by decide +kernel
theorem dX12_takeName_30 : decode cX12_takeName 30 = .ok (.if_icmp .ge 43, 3) := by decide +kernel
theorem dX12_takeName_33 : decode cX12_takeName 33 = .ok (.aload_n 0, 1) := by decide +kernel
theorem dX12_takeName_34 : decode cX12_takeName 34 = .ok (.getfield 7, 3) := by decide +kernel
theorem dX12_takeName_37 : decode cX12_takeName 37 = .ok (.iload 4, 2) := by decide +kernel
theorem dX12_takeName_39 : decode cX12_takeName 39 = .ok (.iaload, 1) := by decide +kernel
theorem dX12_takeName_40 : decode cX12_takeName 40 = .ok (.invokestatic 261, 3) := by decide +kernel
theorem dX12_takeName_43 : decode cX12_takeName 43 = .ok (.ifCond .ne 5, 3) := by decide +kernel
theorem dX12_takeName_46 : decode cX12_takeName 46 = .ok (.lconst 0, 1) := by decide +kernel
theorem dX12_takeName_47 : decode cX12_takeName 47 = .ok (.lreturn, 1) := by decide +kernel
theorem dX12_takeName_48 : decode cX12_takeName 48 = .ok (.ldc2_w 265, 3) := by decide +kernel
theorem dX12_takeName_51 : decode cX12_takeName 51 = .ok (.lload_n 2, 1) := by decide +kernel
theorem dX12_takeName_52 : decode cX12_takeName 52 = .ok (.lmul, 1) := by decide +kernel
theorem dX12_takeName_53 : decode cX12_takeName 53 = .ok (.aload_n 0, 1) := by decide +kernel
theorem dX12_takeName_54 : decode cX12_takeName 54 = .ok (.getfield 7, 3) := by decide +kernel
theorem dX12_takeName_57 : decode cX12_takeName 57 = .ok (.iload 4, 2) := by decide +kernel
theorem dX12_takeName_59 : decode cX12_takeName 59 = .ok (.iaload, 1) := by decide +kernel
theorem dX12_takeName_60 : decode cX12_takeName 60 = .ok (.i2l, 1) := by decide +kernel
theorem dX12_takeName_61 : decode cX12_takeName 61 = .ok (.ladd, 1) := by decide +kernel
theorem dX12_takeName_62 : decode cX12_takeName 62 = .ok (.ldc2_w 267, 3) := by decide +kernel
theorem dX12_takeName_65 : decode cX12_takeName 65 = .ok (.lsub, 1) := by decide +kernel
theorem dX12_takeName_66 : decode cX12_takeName 66 = .ok (.lstore_n 2, 1) := by decide +kernel
theorem dX12_takeName_67 : decode cX12_takeName 67 = .ok (.iinc 4 1, 3) := by decide +kernel
theorem dX12_takeName_70 : decode cX12_takeName 70 = .ok (.goto (-43), 3) := by decide +kernel
theorem dX12_takeName_73 : decode cX12_takeName 73 = .ok (.lload_n 2, 1) := by decide +kernel
theorem dX12_takeName_74 : decode cX12_takeName 74 = .ok (.lreturn, 1) := by decide +kernel
theorem dX12_party_0 : decode cX12_party 0 = .ok (.aload_n 0, 1) := by decide +kernel
theorem dX12_party_1 : decode cX12_party 1 = .ok (.iconst 0, 1) := by decide +kernel
theorem dX12_party_2 : decode cX12_party 2 = .ok (.putfield 244, 3) := by decide +kernel
theorem dX12_party_5 : decode cX12_party 5 = .ok (.aload_n 0, 1) := by decide +kernel
theorem dX12_party_6 : decode cX12_party 6 = .ok (.invokevirtual 269, 3) := by decide +kernel
theorem dX12_party_9 : decode cX12_party 9 = .ok (.lstore_n 2, 1) := by decide +kernel
theorem dX12_party_10 : decode cX12_party 10 = .ok (.aload_n 0, 1) := by decide +kernel
theorem dX12_party_11 : decode cX12_party 11 = .ok (.getfield 273, 3) := by decide +kernel
theorem dX12_party_14 : decode cX12_party 14 = .ok (.bipush 60, 2) := by decide +kernel
theorem dX12_party_16 : decode cX12_party 16 = .ok (.if_icmp .eq 18, 3) := by decide +kernel
theorem dX12_party_19 : decode cX12_party 19 = .ok (.iload_n 1, 1) := by decide +kernel
theorem dX12_party_20 : decode cX12_party 20 = .ok (.iconst 0, 1) := by decide +kernel
theorem dX12_party_21 : decode cX12_party 21 = .ok (.iconst 2, 1) := by decide +kernel
theorem dX12_party_22 : decode cX12_party 22 = .ok (.invokestatic 254, 3) := by decide +kernel
theorem dX12_party_25 : decode cX12_party 25 = .ok (.ifCond .eq 9, 3) := by decide +kernel
theorem dX12_party_28 : decode cX12_party 28 = .ok (.lload_n 2, 1) := by decide +kernel
theorem dX12_party_29 : decode cX12_party 29 = .ok (.lconst 0, 1) := by decide +kernel
theorem dX12_party_30 : decode cX12_party 30 = .ok (.lcmp, 1) := by decide +kernel
theorem dX12_party_31 : decode cX12_party 31 = .ok (.ifCond .ne 5, 3) := by decide +kernel
theorem dX12_party_34 : decode cX12_party 34 = .ok (.iconst (-1), 1) := by decide +kernel
theorem dX12_party_35 : decode cX12_party 35 = .ok (.ireturn, 1) := by decide +kernel
theorem dX12_party_36 : decode cX12_party 36 = .ok (.aload_n 0, 1) := by decide +kernel
theorem dX12_party_37 : decode cX12_party 37 = .ok (.getfield 13, 3) := by decide +kernel
theorem dX12_party_40 : decode cX12_party 40 = .ok (.aload_n 0, 1) := by decide +kernel
theorem dX12_party_41 : decode cX12_party 41 = .ok (.getfield 273, 3) := by decide +kernel
theorem dX12_party_44 : decode cX12_party 44 = .ok (.iload_n 1, 1) := by decide +kernel
theorem dX12_party_45 : decode cX12_party 45 = .ok (.iastore, 1) := by decide +kernel
theorem dX12_party_46 : decode cX12_party 46 = .ok (.aload_n 0, 1) := by decide +kernel
theorem dX12_party_47 : decode cX12_party 47 = .ok (.getfield 16, 3) := by decide +kernel
theorem dX12_party_50 : decode cX12_party 50 = .ok (.aload_n 0, 1) := by decide +kernel
theorem dX12_party_51 : decode cX12_party 51 = .ok (.getfield 273, 3) := by decide +kernel
theorem dX12_party_54 : decode cX12_party 54 = .ok (.lload_n 2, 1) := by decide +kernel
theorem dX12_party_55 : decode cX12_party 55 = .ok (.lastore, 1) := by decide +kernel
theorem dX12_party_56 : decode cX12_party 56 = .ok (.aload_n 0, 1) := by decide +kernel
theorem dX12_party_57 : decode cX12_party 57 = .ok (.dup, 1) := by decide +kernel
theorem dX12_party_58 : decode cX12_party 58 = .ok (.getfield 273, 3) := by decide +kernel
theorem dX12_party_61 : decode cX12_party 61 = .ok (.iconst 1, 1) := by decide +kernel
theorem dX12_party_62 : decode cX12_party 62 = .ok (.iadd, 1) := by decide +kernel
theorem dX12_party_63 : decode cX12_party 63 = .ok (.putfield 273, 3) := by decide +kernel
theorem dX12_party_66 : decode cX12_party 66 = .ok (.aload_n 0, 1) := by decide +kernel
theorem dX12_party_67 : decode cX12_party 67 = .ok (.dup, 1) := by decide +kernel
theorem dX12_party_68 : decode cX12_party 68 = .ok (.getfield 20, 3) := by decide +kernel
theorem dX12_party_71 : decode cX12_party 71 = .ok (.iconst 1, 1) := by decide +kernel
theorem dX12_party_72 : decode cX12_party 72 = .ok (.iadd, 1) := by decide +kernel
theorem dX12_party_73 : decode cX12_party 73 = .ok (.putfield 20, 3) := by decide +kernel
theorem dX12_party_76 : decode cX12_party 76 = .ok (.aload_n 0, 1) := by decide +kernel
theorem dX12_party_77 : decode cX12_party 77 = .ok (.getfield 273, 3) := by decide +kernel
theorem dX12_party_80 : decode cX12_party 80 = .ok (.iconst 1, 1) := by decide +kernel
theorem dX12_party_81 : decode cX12_party 81 = .ok (.isub, 1) := by decide +kernel
theorem dX12_party_82 : decode cX12_party 82 = .ok (.ireturn, 1) := by decide +kernel
theorem dX12_isParty_0 : decode cX12_isParty 0 = .ok (.iload_n 1, 1) := by decide +kernel
theorem dX12_isParty_1 : decode cX12_isParty 1 = .ok (.ifCond .lt 15, 3) := by decide +kernel
theorem dX12_isParty_4 : decode cX12_isParty 4 = .ok (.iload_n 1, 1) := by decide +kernel
theorem dX12_isParty_5 : decode cX12_isParty 5 = .ok (.aload_n 0, 1) := by decide +kernel
theorem dX12_isParty_6 : decode cX12_isParty 6 = .ok (.getfield 273, 3) := by decide +kernel
theorem dX12_isParty_9 : decode cX12_isParty 9 = .ok (.if_icmp .ge 7, 3) := by decide +kernel
theorem dX12_isParty_12 : decode cX12_isParty 12 = .ok (.iconst 1, 1) := by decide +kernel
theorem dX12_isParty_13 : decode cX12_isParty 13 = .ok (.goto 4, 3) := by decide +kernel
theorem dX12_isParty_16 : decode cX12_isParty 16 = .ok (.iconst 0, 1) := by decide +kernel
theorem dX12_isParty_17 : decode cX12_isParty 17 = .ok (.ireturn, 1) := by decide +kernel
theorem dX12_isPerson_0 : decode cX12_isPerson 0 = .ok (.aload_n 0, 1) := by decide +kernel
theorem dX12_isPerson_1 : decode cX12_isPerson 1 = .ok (.iload_n 1, 1) := by decide +kernel
theorem dX12_isPerson_2 : decode cX12_isPerson 2 = .ok (.invokevirtual 276, 3) := by decide +kernel
theorem dX12_isPerson_5 : decode cX12_isPerson 5 = .ok (.ifCond .eq 16, 3) := by decide +kernel
theorem dX12_isPerson_8 : decode cX12_isPerson 8 = .ok (.aload_n 0, 1) := by decide +kernel
theorem dX12_isPerson_9 : decode cX12_isPerson 9 = .ok (.getfield 13, 3) := by decide +kernel
theorem dX12_isPerson_12 : decode cX12_isPerson 12 = .ok (.iload_n 1, 1) := by decide +kernel
theorem dX12_isPerson_13 : decode cX12_isPerson 13 = .ok (.iaload, 1) := by decide +kernel
theorem dX12_isPerson_14 : decode cX12_isPerson 14 = .ok (.ifCond .ne 7, 3) := by decide +kernel
theorem dX12_isPerson_17 : decode cX12_isPerson 17 = .ok (.iconst 1, 1) := by decide +kernel
theorem dX12_isPerson_18 : decode cX12_isPerson 18 = .ok (.goto 4, 3) := by decide +kernel
theorem dX12_isPerson_21 : decode cX12_isPerson 21 = .ok (.iconst 0, 1) := by decide +kernel
theorem dX12_isPerson_22 : decode cX12_isPerson 22 = .ok (.ireturn, 1) := by decide +kernel
theorem dX12_isHouse_0 : decode cX12_isHouse 0 = .ok (.aload_n 0, 1) := by decide +kernel
theorem dX12_isHouse_1 : decode cX12_isHouse 1 = .ok (.iload_n 1, 1) := by decide +kernel
theorem dX12_isHouse_2 : decode cX12_isHouse 2 = .ok (.invokevirtual 276, 3) := by decide +kernel
theorem dX12_isHouse_5 : decode cX12_isHouse 5 = .ok (.ifCond .eq 16, 3) := by decide +kernel
theorem dX12_isHouse_8 : decode cX12_isHouse 8 = .ok (.aload_n 0, 1) := by decide +kernel
theorem dX12_isHouse_9 : decode cX12_isHouse 9 = .ok (.getfield 13, 3) := by decide +kernel
theorem dX12_isHouse_12 : decode cX12_isHouse 12 = .ok (.iload_n 1, 1) := by decide +kernel
theorem dX12_isHouse_13 : decode cX12_isHouse 13 = .ok (.iaload, 1) := by decide +kernel
theorem dX12_isHouse_14 : decode cX12_isHouse 14 = .ok (.ifCond .le 7, 3) := by decide +kernel
theorem dX12_isHouse_17 : decode cX12_isHouse 17 = .ok (.iconst 1, 1) := by decide +kernel
theorem dX12_isHouse_18 : decode cX12_isHouse 18 = .ok (.goto 4, 3) := by decide +kernel
theorem dX12_isHouse_21 : decode cX12_isHouse 21 = .ok (.iconst 0, 1) := by decide +kernel
theorem dX12_isHouse_22 : decode cX12_isHouse 22 = .ok (.ireturn, 1) := by decide +kernel
theorem dX12_isDay_0 : decode cX12_isDay 0 = .ok (.iload_n 0, 1) := by decide +kernel
theorem dX12_isDay_1 : decode cX12_isDay 1 = .ok (.ifCond .lt 14, 3) := by decide +kernel
theorem dX12_isDay_4 : decode cX12_isDay 4 = .ok (.iload_n 0, 1) := by decide +kernel
theorem dX12_isDay_5 : decode cX12_isDay 5 = .ok (.sipush 9999, 3) := by decide +kernel
theorem dX12_isDay_8 : decode cX12_isDay 8 = .ok (.if_icmp .gt 7, 3) := by decide +kernel
theorem dX12_isDay_11 : decode cX12_isDay 11 = .ok (.iconst 1, 1) := by decide +kernel
theorem dX12_isDay_12 : decode cX12_isDay 12 = .ok (.goto 4, 3) := by decide +kernel
theorem dX12_isDay_15 : decode cX12_isDay 15 = .ok (.iconst 0, 1) := by decide +kernel
theorem dX12_isDay_16 : decode cX12_isDay 16 = .ok (.ireturn, 1) := by decide +kernel
theorem dX12_areDays_0 : decode cX12_areDays 0 = .ok (.iload_n 0, 1) := by decide +kernel
theorem dX12_areDays_1 : decode cX12_areDays 1 = .ok (.invokestatic 279, 3) := by decide +kernel
theorem dX12_areDays_4 : decode cX12_areDays 4 = .ok (.ifCond .eq 26, 3) := by decide +kernel
theorem dX12_areDays_7 : decode cX12_areDays 7 = .ok (.iload_n 1, 1) := by decide +kernel
theorem dX12_areDays_8 : decode cX12_areDays 8 = .ok (.iconst (-1), 1) := by decide +kernel
theorem dX12_areDays_9 : decode cX12_areDays 9 = .ok (.if_icmp .eq 17, 3) := by decide +kernel
theorem dX12_areDays_12 : decode cX12_areDays 12 = .ok (.iload_n 1, 1) := by decide +kernel
theorem dX12_areDays_13 : decode cX12_areDays 13 = .ok (.invokestatic 279, 3) := by decide +kernel
theorem dX12_areDays_16 : decode cX12_areDays 16 = .ok (.ifCond .eq 14, 3) := by decide +kernel
theorem dX12_areDays_19 : decode cX12_areDays 19 = .ok (.iload_n 1, 1) := by decide +kernel
theorem dX12_areDays_20 : decode cX12_areDays 20 = .ok (.iload_n 0, 1) := by decide +kernel
theorem dX12_areDays_21 : decode cX12_areDays 21 = .ok (.iload_n 2, 1) := by decide +kernel
theorem dX12_areDays_22 : decode cX12_areDays 22 = .ok (.iadd, 1) := by decide +kernel
theorem dX12_areDays_23 : decode cX12_areDays 23 = .ok (.if_icmp .lt 7, 3) := by decide +kernel
theorem dX12_areDays_26 : decode cX12_areDays 26 = .ok (.iconst 1, 1) := by decide +kernel
theorem dX12_areDays_27 : decode cX12_areDays 27 = .ok (.goto 4, 3) := by decide +kernel
theorem dX12_areDays_30 : decode cX12_areDays 30 = .ok (.iconst 0, 1) := by decide +kernel
theorem dX12_areDays_31 : decode cX12_areDays 31 = .ok (.ireturn, 1) := by decide +kernel
theorem dX12_isOn_0 : decode cX12_isOn 0 = .ok (.iload_n 0, 1) := by decide +kernel
theorem dX12_isOn_1 : decode cX12_isOn 1 = .ok (.iload_n 2, 1) := by decide +kernel
theorem dX12_isOn_2 : decode cX12_isOn 2 = .ok (.if_icmp .gt 19, 3) := by decide +kernel
theorem dX12_isOn_5 : decode cX12_isOn 5 = .ok (.iload_n 1, 1) := by decide +kernel
theorem dX12_isOn_6 : decode cX12_isOn 6 = .ok (.ldc_w 282, 3) := by decide +kernel
theorem dX12_isOn_9 : decode cX12_isOn 9 = .ok (.if_icmp .eq 8, 3) := by decide +kernel
theorem dX12_isOn_12 : decode cX12_isOn 12 = .ok (.iload_n 2, 1) := by decide +kernel
theorem dX12_isOn_13 : decode cX12_isOn 13 = .ok (.iload_n 1, 1) := by decide +kernel
theorem dX12_isOn_14 : decode cX12_isOn 14 = .ok (.if_icmp .ge 7, 3) := by decide +kernel
theorem dX12_isOn_17 : decode cX12_isOn 17 = .ok (.iconst 1, 1) := by decide +kernel
theorem dX12_isOn_18 : decode cX12_isOn 18 = .ok (.goto 4, 3) := by decide +kernel
theorem dX12_isOn_21 : decode cX12_isOn 21 = .ok (.iconst 0, 1) := by decide +kernel
theorem dX12_isOn_22 : decode cX12_isOn 22 = .ok (.ireturn, 1) := by decide +kernel
theorem dX12_allOn_0 : decode cX12_allOn 0 = .ok (.iconst 0, 1) := by decide +kernel
theorem dX12_allOn_1 : decode cX12_allOn 1 = .ok (.istore_n 3, 1) := by decide +kernel
theorem dX12_allOn_2 : decode cX12_allOn 2 = .ok (.iconst 0, 1) := by decide +kernel
theorem dX12_allOn_3 : decode cX12_allOn 3 = .ok (.istore 4, 2) := by decide +kernel
theorem dX12_allOn_5 : decode cX12_allOn 5 = .ok (.iload 4, 2) := by decide +kernel
theorem dX12_allOn_7 : decode cX12_allOn 7 = .ok (.aload_n 0, 1) := by decide +kernel
theorem dX12_allOn_8 : decode cX12_allOn 8 = .ok (.getfield 283, 3) := by decide +kernel
theorem dX12_allOn_11 : decode cX12_allOn 11 = .ok (.if_icmp .ge 51, 3) := by decide +kernel
theorem dX12_allOn_14 : decode cX12_allOn 14 = .ok (.aload_n 0, 1) := by decide +kernel
theorem dX12_allOn_15 : decode cX12_allOn 15 = .ok (.getfield 27, 3) := by decide +kernel
theorem dX12_allOn_18 : decode cX12_allOn 18 = .ok (.iload 4, 2) := by decide +kernel
theorem dX12_allOn_20 : decode cX12_allOn 20 = .ok (.iaload, 1) := by decide +kernel
theorem dX12_allOn_21 : decode cX12_allOn 21 = .ok (.iload_n 1, 1) := by decide +kernel
theorem dX12_allOn_22 : decode cX12_allOn 22 = .ok (.if_icmp .ne 34, 3) := by decide +kernel
theorem dX12_allOn_25 : decode cX12_allOn 25 = .ok (.aload_n 0, 1) := by decide +kernel
theorem dX12_allOn_26 : decode cX12_allOn 26 = .ok (.getfield 33, 3) := by decide +kernel
theorem dX12_allOn_29 : decode cX12_allOn 29 = .ok (.iload 4, 2) := by decide +kernel
theorem dX12_allOn_31 : decode cX12_allOn 31 = .ok (.iaload, 1) := by decide +kernel
theorem dX12_allOn_32 : decode cX12_allOn 32 = .ok (.aload_n 0, 1) := by decide +kernel
theorem dX12_allOn_33 : decode cX12_allOn 33 = .ok (.getfield 36, 3) := by decide +kernel
theorem dX12_allOn_36 : decode cX12_allOn 36 = .ok (.iload 4, 2) := by decide +kernel
theorem dX12_allOn_38 : decode cX12_allOn 38 = .ok (.iaload, 1) := by decide +kernel
theorem dX12_allOn_39 : decode cX12_allOn 39 = .ok (.iload_n 2, 1) := by decide +kernel
theorem dX12_allOn_40 : decode cX12_allOn 40 = .ok (.invokestatic 286, 3) := by decide +kernel
theorem dX12_allOn_43 : decode cX12_allOn 43 = .ok (.ifCond .eq 13, 3) := by decide +kernel
theorem dX12_allOn_46 : decode cX12_allOn 46 = .ok (.iload_n 3, 1) := by decide +kernel
theorem dX12_allOn_47 : decode cX12_allOn 47 = .ok (.aload_n 0, 1) := by decide +kernel
theorem dX12_allOn_48 : decode cX12_allOn 48 = .ok (.getfield 30, 3) := by decide +kernel
theorem dX12_allOn_51 : decode cX12_allOn 51 = .ok (.iload 4, 2) := by decide +kernel
theorem dX12_allOn_53 : decode cX12_allOn 53 = .ok (.iaload, 1) := by decide +kernel
theorem dX12_allOn_54 : decode cX12_allOn 54 = .ok (.iadd, 1) := by decide +kernel
theorem dX12_allOn_55 : decode cX12_allOn 55 = .ok (.istore_n 3, 1) := by decide +kernel
theorem dX12_allOn_56 : decode cX12_allOn 56 = .ok (.iinc 4 1, 3) := by decide +kernel
theorem dX12_allOn_59 : decode cX12_allOn 59 = .ok (.goto (-54), 3) := by decide +kernel
theorem dX12_allOn_62 : decode cX12_allOn 62 = .ok (.iload_n 3, 1) := by decide +kernel
theorem dX12_allOn_63 : decode cX12_allOn 63 = .ok (.ireturn, 1) := by decide +kernel
theorem dX12_owns_0 : decode cX12_owns 0 = .ok (.aload_n 0, 1) := by decide +kernel
theorem dX12_owns_1 : decode cX12_owns 1 = .ok (.iconst 0, 1) := by decide +kernel
theorem dX12_owns_2 : decode cX12_owns 2 = .ok (.putfield 244, 3) := by decide +kernel
theorem dX12_owns_5 : decode cX12_owns 5 = .ok (.aload_n 0, 1) := by decide +kernel
theorem dX12_owns_6 : decode cX12_owns 6 = .ok (.iload_n 1, 1) := by decide +kernel
theorem dX12_owns_7 : decode cX12_owns 7 = .ok (.invokevirtual 276, 3) := by decide +kernel
theorem dX12_owns_10 : decode cX12_owns 10 = .ok (.ifCond .eq 27, 3) := by decide +kernel
theorem dX12_owns_13 : decode cX12_owns 13 = .ok (.aload_n 0, 1) := by decide +kernel
theorem dX12_owns_14 : decode cX12_owns 14 = .ok (.iload_n 2, 1) := by decide +kernel
theorem dX12_owns_15 : decode cX12_owns 15 = .ok (.invokevirtual 289, 3) := by decide +kernel
theorem dX12_owns_18 : decode cX12_owns 18 = .ok (.ifCond .eq 19, 3) := by decide +kernel
theorem dX12_owns_21 : decode cX12_owns 21 = .ok (.iload_n 1, 1) := by decide +kernel
theorem dX12_owns_22 : decode cX12_owns 22 = .ok (.iload_n 2, 1) := by decide +kernel
theorem dX12_owns_23 : decode cX12_owns 23 = .ok (.if_icmp .eq 14, 3) := by decide +kernel
theorem dX12_owns_26 : decode cX12_owns 26 = .ok (.iload_n 3, 1) := by decide +kernel
theorem dX12_owns_27 : decode cX12_owns 27 = .ok (.iconst 1, 1) := by decide +kernel
theorem dX12_owns_28 : decode cX12_owns 28 = .ok (.sipush 10000, 3) := by decide +kernel
theorem dX12_owns_31 : decode cX12_owns 31 = .ok (.invokestatic 254, 3) := by decide +kernel
theorem dX12_owns_34 : decode cX12_owns 34 = .ok (.ifCond .ne 6, 3) := by decide +kernel
theorem dX12_owns_37 : decode cX12_owns 37 = .ok (.bipush (-2), 2) := by decide +kernel
theorem dX12_owns_39 : decode cX12_owns 39 = .ok (.ireturn, 1) := by decide +kernel
theorem dX12_owns_40 : decode cX12_owns 40 = .ok (.iload 4, 2) := by decide +kernel
theorem dX12_owns_42 : decode cX12_owns 42 = .ok (.iload 5, 2) := by decide +kernel
theorem dX12_owns_44 : decode cX12_owns 44 = .ok (.iconst 1, 1) := by decide +kernel
theorem dX12_owns_45 : decode cX12_owns 45 = .ok (.invokestatic 292, 3) := by decide +kernel
theorem dX12_owns_48 : decode cX12_owns 48 = .ok (.ifCond .ne 6, 3) := by decide +kernel
theorem dX12_owns_51 : decode cX12_owns 51 = .ok (.bipush (-3), 2) := by decide +kernel
theorem dX12_owns_53 : decode cX12_owns 53 = .ok (.ireturn, 1) := by decide +kernel
theorem dX12_owns_54 : decode cX12_owns 54 = .ok (.iload 5, 2) := by decide +kernel
theorem dX12_owns_56 : decode cX12_owns 56 = .ok (.iconst (-1), 1) := by decide +kernel
theorem dX12_owns_57 : decode cX12_owns 57 = .ok (.if_icmp .ne 9, 3) := by decide +kernel
theorem dX12_owns_60 : decode cX12_owns 60 = .ok (.ldc_w 282, 3) := by decide +kernel
theorem dX12_owns_63 : decode cX12_owns 63 = .ok (.goto 5, 3) := by decide +kernel
theorem dX12_owns_66 : decode cX12_owns 66 = .ok (.iload 5, 2) := by decide +kernel
theorem dX12_owns_68 : decode cX12_owns 68 = .ok (.istore 6, 2) := by decide +kernel
theorem dX12_owns_70 : decode cX12_owns 70 = .ok (.aload_n 0, 1) := by decide +kernel
theorem dX12_owns_71 : decode cX12_owns 71 = .ok (.iload_n 2, 1) := by decide +kernel
theorem dX12_owns_72 : decode cX12_owns 72 = .ok (.iload 4, 2) := by decide +kernel
theorem dX12_owns_74 : decode cX12_owns 74 = .ok (.invokevirtual 295, 3) := by decide +kernel
theorem dX12_owns_77 : decode cX12_owns 77 = .ok (.istore 7, 2) := by decide +kernel
theorem dX12_owns_79 : decode cX12_owns 79 = .ok (.iconst 0, 1) := by decide +kernel
theorem dX12_owns_80 : decode cX12_owns 80 = .ok (.istore 8, 2) := by decide +kernel
theorem dX12_owns_82 : decode cX12_owns 82 = .ok (.iload 8, 2) := by decide +kernel
theorem dX12_owns_84 : decode cX12_owns 84 = .ok (.aload_n 0, 1) := by decide +kernel
theorem dX12_owns_85 : decode cX12_owns 85 = .ok (.getfield 283, 3) := by decide +kernel
theorem dX12_owns_88 : decode cX12_owns 88 = .ok (.if_icmp .ge 72, 3) := by decide +kernel
theorem dX12_owns_91 : decode cX12_owns 91 = .ok (.aload_n 0, 1) := by decide +kernel
theorem dX12_owns_92 : decode cX12_owns 92 = .ok (.getfield 27, 3) := by decide +kernel
theorem dX12_owns_95 : decode cX12_owns 95 = .ok (.iload 8, 2) := by decide +kernel
theorem dX12_owns_97 : decode cX12_owns 97 = .ok (.iaload, 1) := by decide +kernel
theorem dX12_owns_98 : decode cX12_owns 98 = .ok (.iload_n 2, 1) := by decide +kernel
theorem dX12_owns_99 : decode cX12_owns 99 = .ok (.if_icmp .ne 55, 3) := by decide +kernel
theorem dX12_owns_102 : decode cX12_owns 102 = .ok (.aload_n 0, 1) := by decide +kernel
theorem dX12_owns_103 : decode cX12_owns 103 = .ok (.getfield 33, 3) := by decide +kernel
theorem dX12_owns_106 : decode cX12_owns 106 = .ok (.iload 8, 2) := by decide +kernel
theorem dX12_owns_108 : decode cX12_owns 108 = .ok (.iaload, 1) := by decide +kernel
theorem dX12_owns_109 : decode cX12_owns 109 = .ok (.iload 4, 2) := by decide +kernel
theorem dX12_owns_111 : decode cX12_owns 111 = .ok (.if_icmp .le 43, 3) := by decide +kernel
theorem dX12_owns_114 : decode cX12_owns 114 = .ok (.aload_n 0, 1) := by decide +kernel
theorem dX12_owns_115 : decode cX12_owns 115 = .ok (.getfield 33, 3) := by decide +kernel
theorem dX12_owns_118 : decode cX12_owns 118 = .ok (.iload 8, 2) := by decide +kernel
theorem dX12_owns_120 : decode cX12_owns 120 = .ok (.iaload, 1) := by decide +kernel
theorem dX12_owns_121 : decode cX12_owns 121 = .ok (.iload 6, 2) := by decide +kernel
theorem dX12_owns_123 : decode cX12_owns 123 = .ok (.if_icmp .lt 6, 3) := by decide +kernel
theorem dX12_owns_126 : decode cX12_owns 126 = .ok (.goto 28, 3) := by decide +kernel
theorem dX12_owns_129 : decode cX12_owns 129 = .ok (.aload_n 0, 1) := by decide +kernel
theorem dX12_owns_130 : decode cX12_owns 130 = .ok (.iload_n 2, 1) := by decide +kernel
theorem dX12_owns_131 : decode cX12_owns 131 = .ok (.aload_n 0, 1) := by decide +kernel
theorem dX12_owns_132 : decode cX12_owns 132 = .ok (.getfield 33, 3) := by decide +kernel
theorem dX12_owns_135 : decode cX12_owns 135 = .ok (.iload 8, 2) := by decide +kernel
theorem dX12_owns_137 : decode cX12_owns 137 = .ok (.iaload, 1) := by decide +kernel
theorem dX12_owns_138 : decode cX12_owns 138 = .ok (.invokevirtual 295, 3) := by decide +kernel
theorem dX12_owns_141 : decode cX12_owns 141 = .ok (.istore 9, 2) := by decide +kernel
theorem dX12_owns_143 : decode cX12_owns 143 = .ok (.iload 9, 2) := by decide +kernel
theorem dX12_owns_145 : decode cX12_owns 145 = .ok (.iload 7, 2) := by decide +kernel
theorem dX12_owns_147 : decode cX12_owns 147 = .ok (.if_icmp .le 7, 3) := by decide +kernel
theorem dX12_owns_150 : decode cX12_owns 150 = .ok (.iload 9, 2) := by decide +kernel
theorem dX12_owns_152 : decode cX12_owns 152 = .ok (.istore 7, 2) := by decide +kernel
theorem dX12_owns_154 : decode cX12_owns 154 = .ok (.iinc 8 1, 3) := by decide +kernel
theorem dX12_owns_157 : decode cX12_owns 157 = .ok (.goto (-75), 3) := by decide +kernel
theorem dX12_owns_160 : decode cX12_owns 160 = .ok (.iload 7, 2) := by decide +kernel
theorem dX12_owns_162 : decode cX12_owns 162 = .ok (.iload_n 3, 1) := by decide +kernel
theorem dX12_owns_163 : decode cX12_owns 163 = .ok (.iadd, 1) := by decide +kernel
theorem dX12_owns_164 : decode cX12_owns 164 = .ok (.sipush 10000, 3) := by decide +kernel
theorem dX12_owns_167 : decode cX12_owns 167 = .ok (.if_icmp .le 6, 3) := by decide +kernel
theorem dX12_owns_170 : decode cX12_owns 170 = .ok (.bipush (-4), 2) := by decide +kernel
theorem dX12_owns_172 : decode cX12_owns 172 = .ok (.ireturn, 1) := by decide +kernel
theorem dX12_owns_173 : decode cX12_owns 173 = .ok (.aload_n 0, 1) := by decide +kernel
theorem dX12_owns_174 : decode cX12_owns 174 = .ok (.getfield 283, 3) := by decide +kernel
theorem dX12_owns_177 : decode cX12_owns 177 = .ok (.sipush 200, 3) := by decide +kernel
theorem dX12_owns_180 : decode cX12_owns 180 = .ok (.if_icmp .ne 6, 3) := by decide +kernel
theorem dX12_owns_183 : decode cX12_owns 183 = .ok (.bipush (-5), 2) := by decide +kernel
theorem dX12_owns_185 : decode cX12_owns 185 = .ok (.ireturn, 1) := by decide +kernel
theorem dX12_owns_186 : decode cX12_owns 186 = .ok (.aload_n 0, 1) := by decide +kernel
theorem dX12_owns_187 : decode cX12_owns 187 = .ok (.getfield 24, 3) := by decide +kernel
theorem dX12_owns_190 : decode cX12_owns 190 = .ok (.aload_n 0, 1) := by decide +kernel
theorem dX12_owns_191 : decode cX12_owns 191 = .ok (.getfield 283, 3) := by decide +kernel
theorem dX12_owns_194 : decode cX12_owns 194 = .ok (.iload_n 1, 1) := by decide +kernel
theorem dX12_owns_195 : decode cX12_owns 195 = .ok (.iastore, 1) := by decide +kernel
theorem dX12_owns_196 : decode cX12_owns 196 = .ok (.aload_n 0, 1) := by decide +kernel
theorem dX12_owns_197 : decode cX12_owns 197 = .ok (.getfield 27, 3) := by decide +kernel
theorem dX12_owns_200 : decode cX12_owns 200 = .ok (.aload_n 0, 1) := by decide +kernel
theorem dX12_owns_201 : decode cX12_owns 201 = .ok (.getfield 283, 3) := by decide +kernel
theorem dX12_owns_204 : decode cX12_owns 204 = .ok (.iload_n 2, 1) := by decide +kernel
theorem dX12_owns_205 : decode cX12_owns 205 = .ok (.iastore, 1) := by decide +kernel
theorem dX12_owns_206 : decode cX12_owns 206 = .ok (.aload_n 0, 1) := by decide +kernel
theorem dX12_owns_207 : decode cX12_owns 207 = .ok (.getfield 30, 3) := by decide +kernel
theorem dX12_owns_210 : decode cX12_owns 210 = .ok (.aload_n 0, 1) := by decide +kernel
theorem dX12_owns_211 : decode cX12_owns 211 = .ok (.getfield 283, 3) := by decide +kernel
theorem dX12_owns_214 : decode cX12_owns 214 = .ok (.iload_n 3, 1) := by decide +kernel
theorem dX12_owns_215 : decode cX12_owns 215 = .ok (.iastore, 1) := by decide +kernel
theorem dX12_owns_216 : decode cX12_owns 216 = .ok (.aload_n 0, 1) := by decide +kernel
theorem dX12_owns_217 : decode cX12_owns 217 = .ok (.getfield 33, 3) := by decide +kernel
theorem dX12_owns_220 : decode cX12_owns 220 = .ok (.aload_n 0, 1) := by decide +kernel
theorem dX12_owns_221 : decode cX12_owns 221 = .ok (.getfield 283, 3) := by decide +kernel
theorem dX12_owns_224 : decode cX12_owns 224 = .ok (.iload 4, 2) := by decide +kernel
theorem dX12_owns_226 : decode cX12_owns 226 = .ok (.iastore, 1) := by decide +kernel
theorem dX12_owns_227 : decode cX12_owns 227 = .ok (.aload_n 0, 1) := by decide +kernel
theorem dX12_owns_228 : decode cX12_owns 228 = .ok (.getfield 36, 3) := by decide +kernel
theorem dX12_owns_231 : decode cX12_owns 231 = .ok (.aload_n 0, 1) := by decide +kernel
theorem dX12_owns_232 : decode cX12_owns 232 = .ok (.getfield 283, 3) := by decide +kernel
theorem dX12_owns_235 : decode cX12_owns 235 = .ok (.iload 6, 2) := by decide +kernel
theorem dX12_owns_237 : decode cX12_owns 237 = .ok (.iastore, 1) := by decide +kernel
theorem dX12_owns_238 : decode cX12_owns 238 = .ok (.aload_n 0, 1) := by decide +kernel
theorem dX12_owns_239 : decode cX12_owns 239 = .ok (.getfield 39, 3) := by decide +kernel
theorem dX12_owns_242 : decode cX12_owns 242 = .ok (.aload_n 0, 1) := by decide +kernel
theorem dX12_owns_243 : decode cX12_owns 243 = .ok (.getfield 283, 3) := by decide +kernel
theorem dX12_owns_246 : decode cX12_owns 246 = .ok (.aload_n 0, 1) := by decide +kernel
theorem dX12_owns_247 : decode cX12_owns 247 = .ok (.getfield 258, 3) := by decide +kernel
theorem dX12_owns_250 : decode cX12_owns 250 = .ok (.iastore, 1) := by decide +kernel
theorem dX12_owns_251 : decode cX12_owns 251 = .ok (.aload_n 0, 1) := by decide +kernel
theorem dX12_owns_252 : decode cX12_owns 252 = .ok (.dup, 1) := by decide +kernel
theorem dX12_owns_253 : decode cX12_owns 253 = .ok (.getfield 283, 3) := by decide +kernel
theorem dX12_owns_256 : decode cX12_owns 256 = .ok (.iconst 1, 1) := by decide +kernel
theorem dX12_owns_257 : decode cX12_owns 257 = .ok (.iadd, 1) := by decide +kernel
theorem dX12_owns_258 : decode cX12_owns 258 = .ok (.putfield 283, 3) := by decide +kernel
theorem dX12_owns_261 : decode cX12_owns 261 = .ok (.aload_n 0, 1) := by decide +kernel
theorem dX12_owns_262 : decode cX12_owns 262 = .ok (.dup, 1) := by decide +kernel
theorem dX12_owns_263 : decode cX12_owns 263 = .ok (.getfield 20, 3) := by decide +kernel
theorem dX12_owns_266 : decode cX12_owns 266 = .ok (.iconst 1, 1) := by decide +kernel
theorem dX12_owns_267 : decode cX12_owns 267 = .ok (.iadd, 1) := by decide +kernel
theorem dX12_owns_268 : decode cX12_owns 268 = .ok (.putfield 20, 3) := by decide +kernel
theorem dX12_owns_271 : decode cX12_owns 271 = .ok (.aload_n 0, 1) := by decide +kernel
theorem dX12_owns_272 : decode cX12_owns 272 = .ok (.getfield 283, 3) := by decide +kernel
theorem dX12_owns_275 : decode cX12_owns 275 = .ok (.iconst 1, 1) := by decide +kernel
theorem dX12_owns_276 : decode cX12_owns 276 = .ok (.isub, 1) := by decide +kernel
theorem dX12_owns_277 : decode cX12_owns 277 = .ok (.ireturn, 1) := by decide +kernel
theorem dX12_kin_0 : decode cX12_kin 0 = .ok (.aload_n 0, 1) := by decide +kernel
theorem dX12_kin_1 : decode cX12_kin 1 = .ok (.iconst 0, 1) := by decide +kernel
theorem dX12_kin_2 : decode cX12_kin 2 = .ok (.putfield 244, 3) := by decide +kernel
theorem dX12_kin_5 : decode cX12_kin 5 = .ok (.aload_n 0, 1) := by decide +kernel
theorem dX12_kin_6 : decode cX12_kin 6 = .ok (.iload_n 1, 1) := by decide +kernel
theorem dX12_kin_7 : decode cX12_kin 7 = .ok (.invokevirtual 299, 3) := by decide +kernel
theorem dX12_kin_10 : decode cX12_kin 10 = .ok (.ifCond .eq 16, 3) := by decide +kernel
theorem dX12_kin_13 : decode cX12_kin 13 = .ok (.aload_n 0, 1) := by decide +kernel
theorem dX12_kin_14 : decode cX12_kin 14 = .ok (.iload_n 2, 1) := by decide +kernel
theorem dX12_kin_15 : decode cX12_kin 15 = .ok (.invokevirtual 299, 3) := by decide +kernel
theorem dX12_kin_18 : decode cX12_kin 18 = .ok (.ifCond .eq 8, 3) := by decide +kernel
theorem dX12_kin_21 : decode cX12_kin 21 = .ok (.iload_n 1, 1) := by decide +kernel
theorem dX12_kin_22 : decode cX12_kin 22 = .ok (.iload_n 2, 1) := by decide +kernel
theorem dX12_kin_23 : decode cX12_kin 23 = .ok (.if_icmp .ne 6, 3) := by decide +kernel
theorem dX12_kin_26 : decode cX12_kin 26 = .ok (.bipush (-2), 2) := by decide +kernel
theorem dX12_kin_28 : decode cX12_kin 28 = .ok (.ireturn, 1) := by decide +kernel
theorem dX12_kin_29 : decode cX12_kin 29 = .ok (.iload_n 3, 1) := by decide +kernel
theorem dX12_kin_30 : decode cX12_kin 30 = .ok (.iload 4, 2) := by decide +kernel
theorem dX12_kin_32 : decode cX12_kin 32 = .ok (.iconst 1, 1) := by decide +kernel
theorem dX12_kin_33 : decode cX12_kin 33 = .ok (.invokestatic 292, 3) := by decide +kernel
theorem dX12_kin_36 : decode cX12_kin 36 = .ok (.ifCond .ne 6, 3) := by decide +kernel
theorem dX12_kin_39 : decode cX12_kin 39 = .ok (.bipush (-3), 2) := by decide +kernel
theorem dX12_kin_41 : decode cX12_kin 41 = .ok (.ireturn, 1) := by decide +kernel
theorem dX12_kin_42 : decode cX12_kin 42 = .ok (.aload_n 0, 1) := by decide +kernel
theorem dX12_kin_43 : decode cX12_kin 43 = .ok (.getfield 302, 3) := by decide +kernel
theorem dX12_kin_46 : decode cX12_kin 46 = .ok (.bipush 100, 2) := by decide +kernel
theorem dX12_kin_48 : decode cX12_kin 48 = .ok (.if_icmp .ne 6, 3) := by decide +kernel
theorem dX12_kin_51 : decode cX12_kin 51 = .ok (.bipush (-5), 2) := by decide +kernel
theorem dX12_kin_53 : decode cX12_kin 53 = .ok (.ireturn, 1) := by decide +kernel
theorem dX12_kin_54 : decode cX12_kin 54 = .ok (.aload_n 0, 1) := by decide +kernel
theorem dX12_kin_55 : decode cX12_kin 55 = .ok (.getfield 42, 3) := by decide +kernel
theorem dX12_kin_58 : decode cX12_kin 58 = .ok (.aload_n 0, 1) := by decide +kernel
theorem dX12_kin_59 : decode cX12_kin 59 = .ok (.getfield 302, 3) := by decide +kernel
theorem dX12_kin_62 : decode cX12_kin 62 = .ok (.iload_n 1, 1) := by decide +kernel
theorem dX12_kin_63 : decode cX12_kin 63 = .ok (.iastore, 1) := by decide +kernel
theorem dX12_kin_64 : decode cX12_kin 64 = .ok (.aload_n 0, 1) := by decide +kernel
theorem dX12_kin_65 : decode cX12_kin 65 = .ok (.getfield 45, 3) := by decide +kernel
theorem dX12_kin_68 : decode cX12_kin 68 = .ok (.aload_n 0, 1) := by decide +kernel
theorem dX12_kin_69 : decode cX12_kin 69 = .ok (.getfield 302, 3) := by decide +kernel
theorem dX12_kin_72 : decode cX12_kin 72 = .ok (.iload_n 2, 1) := by decide +kernel
theorem dX12_kin_73 : decode cX12_kin 73 = .ok (.iastore, 1) := by decide +kernel
theorem dX12_kin_74 : decode cX12_kin 74 = .ok (.aload_n 0, 1) := by decide +kernel
theorem dX12_kin_75 : decode cX12_kin 75 = .ok (.getfield 48, 3) := by decide +kernel
theorem dX12_kin_78 : decode cX12_kin 78 = .ok (.aload_n 0, 1) := by decide +kernel
theorem dX12_kin_79 : decode cX12_kin 79 = .ok (.getfield 302, 3) := by decide +kernel
theorem dX12_kin_82 : decode cX12_kin 82 = .ok (.iload_n 3, 1) := by decide +kernel
theorem dX12_kin_83 : decode cX12_kin 83 = .ok (.iastore, 1) := by decide +kernel
theorem dX12_kin_84 : decode cX12_kin 84 = .ok (.aload_n 0, 1) := by decide +kernel
theorem dX12_kin_85 : decode cX12_kin 85 = .ok (.getfield 51, 3) := by decide +kernel
theorem dX12_kin_88 : decode cX12_kin 88 = .ok (.aload_n 0, 1) := by decide +kernel
theorem dX12_kin_89 : decode cX12_kin 89 = .ok (.getfield 302, 3) := by decide +kernel
theorem dX12_kin_92 : decode cX12_kin 92 = .ok (.iload 4, 2) := by decide +kernel
theorem dX12_kin_94 : decode cX12_kin 94 = .ok (.iconst (-1), 1) := by decide +kernel
theorem dX12_kin_95 : decode cX12_kin 95 = .ok (.if_icmp .ne 9, 3) := by decide +kernel
theorem dX12_kin_98 : decode cX12_kin 98 = .ok (.ldc_w 282, 3) := by decide +kernel
theorem dX12_kin_101 : decode cX12_kin 101 = .ok (.goto 5, 3) := by decide +kernel
theorem dX12_kin_104 : decode cX12_kin 104 = .ok (.iload 4, 2) := by decide +kernel
theorem dX12_kin_106 : decode cX12_kin 106 = .ok (.iastore, 1) := by decide +kernel
theorem dX12_kin_107 : decode cX12_kin 107 = .ok (.aload_n 0, 1) := by decide +kernel
theorem dX12_kin_108 : decode cX12_kin 108 = .ok (.getfield 54, 3) := by decide +kernel
theorem dX12_kin_111 : decode cX12_kin 111 = .ok (.aload_n 0, 1) := by decide +kernel
theorem dX12_kin_112 : decode cX12_kin 112 = .ok (.getfield 302, 3) := by decide +kernel
theorem dX12_kin_115 : decode cX12_kin 115 = .ok (.aload_n 0, 1) := by decide +kernel
theorem dX12_kin_116 : decode cX12_kin 116 = .ok (.getfield 258, 3) := by decide +kernel
theorem dX12_kin_119 : decode cX12_kin 119 = .ok (.iastore, 1) := by decide +kernel
theorem dX12_kin_120 : decode cX12_kin 120 = .ok (.aload_n 0, 1) := by decide +kernel
theorem dX12_kin_121 : decode cX12_kin 121 = .ok (.dup, 1) := by decide +kernel
theorem dX12_kin_122 : decode cX12_kin 122 = .ok (.getfield 302, 3) := by decide +kernel
theorem dX12_kin_125 : decode cX12_kin 125 = .ok (.iconst 1, 1) := by decide +kernel
theorem dX12_kin_126 : decode cX12_kin 126 = .ok (.iadd, 1) := by decide +kernel
theorem dX12_kin_127 : decode cX12_kin 127 = .ok (.putfield 302, 3) := by decide +kernel
theorem dX12_kin_130 : decode cX12_kin 130 = .ok (.aload_n 0, 1) := by decide +kernel
theorem dX12_kin_131 : decode cX12_kin 131 = .ok (.getfield 302, 3) := by decide +kernel
theorem dX12_kin_134 : decode cX12_kin 134 = .ok (.iconst 1, 1) := by decide +kernel
theorem dX12_kin_135 : decode cX12_kin 135 = .ok (.isub, 1) := by decide +kernel
theorem dX12_kin_136 : decode cX12_kin 136 = .ok (.ireturn, 1) := by decide +kernel
theorem dX12_post_0 : decode cX12_post 0 = .ok (.aload_n 0, 1) := by decide +kernel
theorem dX12_post_1 : decode cX12_post 1 = .ok (.iconst 0, 1) := by decide +kernel
theorem dX12_post_2 : decode cX12_post 2 = .ok (.putfield 244, 3) := by decide +kernel
theorem dX12_post_5 : decode cX12_post 5 = .ok (.aload_n 0, 1) := by decide +kernel
theorem dX12_post_6 : decode cX12_post 6 = .ok (.iload_n 1, 1) := by decide +kernel
theorem dX12_post_7 : decode cX12_post 7 = .ok (.invokevirtual 299, 3) := by decide +kernel
theorem dX12_post_10 : decode cX12_post 10 = .ok (.ifCond .eq 11, 3) := by decide +kernel
theorem dX12_post_13 : decode cX12_post 13 = .ok (.aload_n 0, 1) := by decide +kernel
theorem dX12_post_14 : decode cX12_post 14 = .ok (.iload_n 2, 1) := by decide +kernel
theorem dX12_post_15 : decode cX12_post 15 = .ok (.invokevirtual 289, 3) := by decide +kernel
theorem dX12_post_18 : decode cX12_post 18 = .ok (.ifCond .ne 6, 3) := by decide +kernel
theorem dX12_post_21 : decode cX12_post 21 = .ok (.bipush (-2), 2) := by decide +kernel
theorem dX12_post_23 : decode cX12_post 23 = .ok (.ireturn, 1) := by decide +kernel
theorem dX12_post_24 : decode cX12_post 24 = .ok (.iload_n 3, 1) := by decide +kernel
theorem dX12_post_25 : decode cX12_post 25 = .ok (.iload 4, 2) := by decide +kernel
theorem dX12_post_27 : decode cX12_post 27 = .ok (.iconst 0, 1) := by decide +kernel
theorem dX12_post_28 : decode cX12_post 28 = .ok (.invokestatic 292, 3) := by decide +kernel
theorem dX12_post_31 : decode cX12_post 31 = .ok (.ifCond .ne 6, 3) := by decide +kernel
theorem dX12_post_34 : decode cX12_post 34 = .ok (.bipush (-3), 2) := by decide +kernel
theorem dX12_post_36 : decode cX12_post 36 = .ok (.ireturn, 1) := by decide +kernel
theorem dX12_post_37 : decode cX12_post 37 = .ok (.aload_n 0, 1) := by decide +kernel
theorem dX12_post_38 : decode cX12_post 38 = .ok (.getfield 305, 3) := by decide +kernel
theorem dX12_post_41 : decode cX12_post 41 = .ok (.bipush 60, 2) := by decide +kernel
theorem dX12_post_43 : decode cX12_post 43 = .ok (.if_icmp .ne 6, 3) := by decide +kernel
theorem dX12_post_46 : decode cX12_post 46 = .ok (.bipush (-5), 2) := by decide +kernel
theorem dX12_post_48 : decode cX12_post 48 = .ok (.ireturn, 1) := by decide +kernel
theorem dX12_post_49 : decode cX12_post 49 = .ok (.aload_n 0, 1) := by decide +kernel
theorem dX12_post_50 : decode cX12_post 50 = .ok (.getfield 57, 3) := by decide +kernel
theorem dX12_post_53 : decode cX12_post 53 = .ok (.aload_n 0, 1) := by decide +kernel
theorem dX12_post_54 : decode cX12_post 54 = .ok (.getfield 305, 3) := by decide +kernel
theorem dX12_post_57 : decode cX12_post 57 = .ok (.iload_n 1, 1) := by decide +kernel
theorem dX12_post_58 : decode cX12_post 58 = .ok (.iastore, 1) := by decide +kernel
theorem dX12_post_59 : decode cX12_post 59 = .ok (.aload_n 0, 1) := by decide +kernel
theorem dX12_post_60 : decode cX12_post 60 = .ok (.getfield 60, 3) := by decide +kernel
theorem dX12_post_63 : decode cX12_post 63 = .ok (.aload_n 0, 1) := by decide +kernel
theorem dX12_post_64 : decode cX12_post 64 = .ok (.getfield 305, 3) := by decide +kernel
theorem dX12_post_67 : decode cX12_post 67 = .ok (.iload_n 2, 1) := by decide +kernel
theorem dX12_post_68 : decode cX12_post 68 = .ok (.iastore, 1) := by decide +kernel
theorem dX12_post_69 : decode cX12_post 69 = .ok (.aload_n 0, 1) := by decide +kernel
theorem dX12_post_70 : decode cX12_post 70 = .ok (.getfield 63, 3) := by decide +kernel
theorem dX12_post_73 : decode cX12_post 73 = .ok (.aload_n 0, 1) := by decide +kernel
theorem dX12_post_74 : decode cX12_post 74 = .ok (.getfield 305, 3) := by decide +kernel
theorem dX12_post_77 : decode cX12_post 77 = .ok (.iload_n 3, 1) := by decide +kernel
theorem dX12_post_78 : decode cX12_post 78 = .ok (.iastore, 1) := by decide +kernel
theorem dX12_post_79 : decode cX12_post 79 = .ok (.aload_n 0, 1) := by decide +kernel
theorem dX12_post_80 : decode cX12_post 80 = .ok (.getfield 66, 3) := by decide +kernel
theorem dX12_post_83 : decode cX12_post 83 = .ok (.aload_n 0, 1) := by decide +kernel
theorem dX12_post_84 : decode cX12_post 84 = .ok (.getfield 305, 3) := by decide +kernel
theorem dX12_post_87 : decode cX12_post 87 = .ok (.iload 4, 2) := by decide +kernel
theorem dX12_post_89 : decode cX12_post 89 = .ok (.iconst (-1), 1) := by decide +kernel
theorem dX12_post_90 : decode cX12_post 90 = .ok (.if_icmp .ne 9, 3) := by decide +kernel
theorem dX12_post_93 : decode cX12_post 93 = .ok (.ldc_w 282, 3) := by decide +kernel
theorem dX12_post_96 : decode cX12_post 96 = .ok (.goto 5, 3) := by decide +kernel
theorem dX12_post_99 : decode cX12_post 99 = .ok (.iload 4, 2) := by decide +kernel
theorem dX12_post_101 : decode cX12_post 101 = .ok (.iastore, 1) := by decide +kernel
theorem dX12_post_102 : decode cX12_post 102 = .ok (.aload_n 0, 1) := by decide +kernel
theorem dX12_post_103 : decode cX12_post 103 = .ok (.getfield 69, 3) := by decide +kernel
theorem dX12_post_106 : decode cX12_post 106 = .ok (.aload_n 0, 1) := by decide +kernel
theorem dX12_post_107 : decode cX12_post 107 = .ok (.getfield 305, 3) := by decide +kernel
theorem dX12_post_110 : decode cX12_post 110 = .ok (.aload_n 0, 1) := by decide +kernel
theorem dX12_post_111 : decode cX12_post 111 = .ok (.getfield 258, 3) := by decide +kernel
theorem dX12_post_114 : decode cX12_post 114 = .ok (.iastore, 1) := by decide +kernel
theorem dX12_post_115 : decode cX12_post 115 = .ok (.aload_n 0, 1) := by decide +kernel
theorem dX12_post_116 : decode cX12_post 116 = .ok (.dup, 1) := by decide +kernel
theorem dX12_post_117 : decode cX12_post 117 = .ok (.getfield 305, 3) := by decide +kernel
theorem dX12_post_120 : decode cX12_post 120 = .ok (.iconst 1, 1) := by decide +kernel
theorem dX12_post_121 : decode cX12_post 121 = .ok (.iadd, 1) := by decide +kernel
theorem dX12_post_122 : decode cX12_post 122 = .ok (.putfield 305, 3) := by decide +kernel
theorem dX12_post_125 : decode cX12_post 125 = .ok (.aload_n 0, 1) := by decide +kernel
theorem dX12_post_126 : decode cX12_post 126 = .ok (.getfield 305, 3) := by decide +kernel
theorem dX12_post_129 : decode cX12_post 129 = .ok (.iconst 1, 1) := by decide +kernel
theorem dX12_post_130 : decode cX12_post 130 = .ok (.isub, 1) := by decide +kernel
theorem dX12_post_131 : decode cX12_post 131 = .ok (.ireturn, 1) := by decide +kernel
theorem dX12_isWorth_0 : decode cX12_isWorth 0 = .ok (.iload_n 0, 1) := by decide +kernel
theorem dX12_isWorth_1 : decode cX12_isWorth 1 = .ok (.ifCond .lt 19, 3) := by decide +kernel
theorem dX12_isWorth_4 : decode cX12_isWorth 4 = .ok (.iload_n 0, 1) := by decide +kernel
theorem dX12_isWorth_5 : decode cX12_isWorth 5 = .ok (.iload_n 1, 1) := by decide +kernel
theorem dX12_isWorth_6 : decode cX12_isWorth 6 = .ok (.if_icmp .gt 14, 3) := by decide +kernel
theorem dX12_isWorth_9 : decode cX12_isWorth 9 = .ok (.iload_n 1, 1) := by decide +kernel
theorem dX12_isWorth_10 : decode cX12_isWorth 10 = .ok (.ldc_w 308, 3) := by decide +kernel
theorem dX12_isWorth_13 : decode cX12_isWorth 13 = .ok (.if_icmp .gt 7, 3) := by decide +kernel
theorem dX12_isWorth_16 : decode cX12_isWorth 16 = .ok (.iconst 1, 1) := by decide +kernel
theorem dX12_isWorth_17 : decode cX12_isWorth 17 = .ok (.goto 4, 3) := by decide +kernel
theorem dX12_isWorth_20 : decode cX12_isWorth 20 = .ok (.iconst 0, 1) := by decide +kernel
theorem dX12_isWorth_21 : decode cX12_isWorth 21 = .ok (.ireturn, 1) := by decide +kernel
theorem dX12_gift_0 : decode cX12_gift 0 = .ok (.aload_n 0, 1) := by decide +kernel
theorem dX12_gift_1 : decode cX12_gift 1 = .ok (.iconst 0, 1) := by decide +kernel
theorem dX12_gift_2 : decode cX12_gift 2 = .ok (.putfield 244, 3) := by decide +kernel
theorem dX12_gift_5 : decode cX12_gift 5 = .ok (.aload_n 0, 1) := by decide +kernel
theorem dX12_gift_6 : decode cX12_gift 6 = .ok (.iload_n 1, 1) := by decide +kernel
theorem dX12_gift_7 : decode cX12_gift 7 = .ok (.invokevirtual 276, 3) := by decide +kernel
theorem dX12_gift_10 : decode cX12_gift 10 = .ok (.ifCond .eq 16, 3) := by decide +kernel
theorem dX12_gift_13 : decode cX12_gift 13 = .ok (.aload_n 0, 1) := by decide +kernel
theorem dX12_gift_14 : decode cX12_gift 14 = .ok (.iload_n 2, 1) := by decide +kernel
theorem dX12_gift_15 : decode cX12_gift 15 = .ok (.invokevirtual 299, 3) := by decide +kernel
theorem dX12_gift_18 : decode cX12_gift 18 = .ok (.ifCond .eq 8, 3) := by decide +kernel
theorem dX12_gift_21 : decode cX12_gift 21 = .ok (.iload_n 1, 1) := by decide +kernel
theorem dX12_gift_22 : decode cX12_gift 22 = .ok (.iload_n 2, 1) := by decide +kernel
theorem dX12_gift_23 : decode cX12_gift 23 = .ok (.if_icmp .ne 6, 3) := by decide +kernel
theorem dX12_gift_26 : decode cX12_gift 26 = .ok (.bipush (-2), 2) := by decide +kernel
theorem dX12_gift_28 : decode cX12_gift 28 = .ok (.ireturn, 1) := by decide +kernel
theorem dX12_gift_29 : decode cX12_gift 29 = .ok (.iload_n 3, 1) := by decide +kernel
theorem dX12_gift_30 : decode cX12_gift 30 = .ok (.iconst 0, 1) := by decide +kernel
theorem dX12_gift_31 : decode cX12_gift 31 = .ok (.iconst 3, 1) := by decide +kernel
theorem dX12_gift_32 : decode cX12_gift 32 = .ok (.invokestatic 254, 3) := by decide +kernel
theorem dX12_gift_35 : decode cX12_gift 35 = .ok (.ifCond .eq 11, 3) := by decide +kernel
theorem dX12_gift_38 : decode cX12_gift 38 = .ok (.iload 4, 2) := by decide +kernel
theorem dX12_gift_40 : decode cX12_gift 40 = .ok (.invokestatic 279, 3) := by decide +kernel
theorem dX12_gift_43 : decode cX12_gift 43 = .ok (.ifCond .ne 6, 3) := by decide +kernel
theorem dX12_gift_46 : decode cX12_gift 46 = .ok (.bipush (-3), 2) := by decide +kernel
theorem dX12_gift_48 : decode cX12_gift 48 = .ok (.ireturn, 1) := by decide +kernel
theorem dX12_gift_49 : decode cX12_gift 49 = .ok (.iload 6, 2) := by decide +kernel
theorem dX12_gift_51 : decode cX12_gift 51 = .ok (.iload 7, 2) := by decide +kernel
theorem dX12_gift_53 : decode cX12_gift 53 = .ok (.invokestatic 309, 3) := by decide +kernel
theorem dX12_gift_56 : decode cX12_gift 56 = .ok (.ifCond .ne 6, 3) := by decide +kernel
theorem dX12_gift_59 : decode cX12_gift 59 = .ok (.bipush (-4), 2) := by decide +kernel
theorem dX12_gift_61 : decode cX12_gift 61 = .ok (.ireturn, 1) := by decide +kernel
theorem dX12_gift_62 : decode cX12_gift 62 = .ok (.aload_n 0, 1) := by decide +kernel
theorem dX12_gift_63 : decode cX12_gift 63 = .ok (.getfield 313, 3) := by decide +kernel
theorem dX12_gift_66 : decode cX12_gift 66 = .ok (.bipush 120, 2) := by decide +kernel
theorem dX12_gift_68 : decode cX12_gift 68 = .ok (.if_icmp .ne 6, 3) := by decide +kernel
theorem dX12_gift_71 : decode cX12_gift 71 = .ok (.bipush (-5), 2) := by decide +kernel
theorem dX12_gift_73 : decode cX12_gift 73 = .ok (.ireturn, 1) := by decide +kernel
theorem dX12_gift_74 : decode cX12_gift 74 = .ok (.aload_n 0, 1) := by decide +kernel
theorem dX12_gift_75 : decode cX12_gift 75 = .ok (.getfield 72, 3) := by decide +kernel
theorem dX12_gift_78 : decode cX12_gift 78 = .ok (.aload_n 0, 1) := by decide +kernel
theorem dX12_gift_79 : decode cX12_gift 79 = .ok (.getfield 313, 3) := by decide +kernel
theorem dX12_gift_82 : decode cX12_gift 82 = .ok (.iload_n 1, 1) := by decide +kernel
theorem dX12_gift_83 : decode cX12_gift 83 = .ok (.iastore, 1) := by decide +kernel
theorem dX12_gift_84 : decode cX12_gift 84 = .ok (.aload_n 0, 1) := by decide +kernel
theorem dX12_gift_85 : decode cX12_gift 85 = .ok (.getfield 75, 3) := by decide +kernel
theorem dX12_gift_88 : decode cX12_gift 88 = .ok (.aload_n 0, 1) := by decide +kernel
theorem dX12_gift_89 : decode cX12_gift 89 = .ok (.getfield 313, 3) := by decide +kernel
theorem dX12_gift_92 : decode cX12_gift 92 = .ok (.iload_n 2, 1) := by decide +kernel
theorem dX12_gift_93 : decode cX12_gift 93 = .ok (.iastore, 1) := by decide +kernel
theorem dX12_gift_94 : decode cX12_gift 94 = .ok (.aload_n 0, 1) := by decide +kernel
theorem dX12_gift_95 : decode cX12_gift 95 = .ok (.getfield 78, 3) := by decide +kernel
theorem dX12_gift_98 : decode cX12_gift 98 = .ok (.aload_n 0, 1) := by decide +kernel
theorem dX12_gift_99 : decode cX12_gift 99 = .ok (.getfield 313, 3) := by decide +kernel
theorem dX12_gift_102 : decode cX12_gift 102 = .ok (.iload_n 3, 1) := by decide +kernel
theorem dX12_gift_103 : decode cX12_gift 103 = .ok (.iastore, 1) := by decide +kernel
theorem dX12_gift_104 : decode cX12_gift 104 = .ok (.aload_n 0, 1) := by decide +kernel
theorem dX12_gift_105 : decode cX12_gift 105 = .ok (.getfield 81, 3) := by decide +kernel
theorem dX12_gift_108 : decode cX12_gift 108 = .ok (.aload_n 0, 1) := by decide +kernel
theorem dX12_gift_109 : decode cX12_gift 109 = .ok (.getfield 313, 3) := by decide +kernel
theorem dX12_gift_112 : decode cX12_gift 112 = .ok (.iload 4, 2) := by decide +kernel
theorem dX12_gift_114 : decode cX12_gift 114 = .ok (.iastore, 1) := by decide +kernel
theorem dX12_gift_115 : decode cX12_gift 115 = .ok (.aload_n 0, 1) := by decide +kernel
theorem dX12_gift_116 : decode cX12_gift 116 = .ok (.getfield 102, 3) := by decide +kernel
theorem dX12_gift_119 : decode cX12_gift 119 = .ok (.aload_n 0, 1) := by decide +kernel
theorem dX12_gift_120 : decode cX12_gift 120 = .ok (.getfield 313, 3) := by decide +kernel
theorem dX12_gift_123 : decode cX12_gift 123 = .ok (.iload 5, 2) := by decide +kernel
theorem dX12_gift_125 : decode cX12_gift 125 = .ok (.bastore, 1) := by decide +kernel
theorem dX12_gift_126 : decode cX12_gift 126 = .ok (.aload_n 0, 1) := by decide +kernel
theorem dX12_gift_127 : decode cX12_gift 127 = .ok (.getfield 84, 3) := by decide +kernel
theorem dX12_gift_130 : decode cX12_gift 130 = .ok (.aload_n 0, 1) := by decide +kernel
theorem dX12_gift_131 : decode cX12_gift 131 = .ok (.getfield 313, 3) := by decide +kernel
theorem dX12_gift_134 : decode cX12_gift 134 = .ok (.iload 6, 2) := by decide +kernel
theorem dX12_gift_136 : decode cX12_gift 136 = .ok (.iastore, 1) := by decide +kernel
theorem dX12_gift_137 : decode cX12_gift 137 = .ok (.aload_n 0, 1) := by decide +kernel
theorem dX12_gift_138 : decode cX12_gift 138 = .ok (.getfield 87, 3) := by decide +kernel
theorem dX12_gift_141 : decode cX12_gift 141 = .ok (.aload_n 0, 1) := by decide +kernel
theorem dX12_gift_142 : decode cX12_gift 142 = .ok (.getfield 313, 3) := by decide +kernel
theorem dX12_gift_145 : decode cX12_gift 145 = .ok (.iload 7, 2) := by decide +kernel
theorem dX12_gift_147 : decode cX12_gift 147 = .ok (.iastore, 1) := by decide +kernel
theorem dX12_gift_148 : decode cX12_gift 148 = .ok (.aload_n 0, 1) := by decide +kernel
theorem dX12_gift_149 : decode cX12_gift 149 = .ok (.getfield 90, 3) := by decide +kernel
theorem dX12_gift_152 : decode cX12_gift 152 = .ok (.aload_n 0, 1) := by decide +kernel
theorem dX12_gift_153 : decode cX12_gift 153 = .ok (.getfield 313, 3) := by decide +kernel
theorem dX12_gift_156 : decode cX12_gift 156 = .ok (.aload_n 0, 1) := by decide +kernel
theorem dX12_gift_157 : decode cX12_gift 157 = .ok (.getfield 258, 3) := by decide +kernel
theorem dX12_gift_160 : decode cX12_gift 160 = .ok (.iastore, 1) := by decide +kernel
theorem dX12_gift_161 : decode cX12_gift 161 = .ok (.aload_n 0, 1) := by decide +kernel
theorem dX12_gift_162 : decode cX12_gift 162 = .ok (.getfield 93, 3) := by decide +kernel
theorem dX12_gift_165 : decode cX12_gift 165 = .ok (.aload_n 0, 1) := by decide +kernel
theorem dX12_gift_166 : decode cX12_gift 166 = .ok (.getfield 313, 3) := by decide +kernel
theorem dX12_gift_169 : decode cX12_gift 169 = .ok (.iconst (-1), 1) := by decide +kernel
theorem dX12_gift_170 : decode cX12_gift 170 = .ok (.iastore, 1) := by decide +kernel
theorem dX12_gift_171 : decode cX12_gift 171 = .ok (.aload_n 0, 1) := by decide +kernel
theorem dX12_gift_172 : decode cX12_gift 172 = .ok (.getfield 99, 3) := by decide +kernel
theorem dX12_gift_175 : decode cX12_gift 175 = .ok (.aload_n 0, 1) := by decide +kernel
theorem dX12_gift_176 : decode cX12_gift 176 = .ok (.getfield 313, 3) := by decide +kernel
theorem dX12_gift_179 : decode cX12_gift 179 = .ok (.iconst (-1), 1) := by decide +kernel
theorem dX12_gift_180 : decode cX12_gift 180 = .ok (.iastore, 1) := by decide +kernel
theorem dX12_gift_181 : decode cX12_gift 181 = .ok (.aload_n 0, 1) := by decide +kernel
theorem dX12_gift_182 : decode cX12_gift 182 = .ok (.dup, 1) := by decide +kernel
theorem dX12_gift_183 : decode cX12_gift 183 = .ok (.getfield 313, 3) := by decide +kernel
theorem dX12_gift_186 : decode cX12_gift 186 = .ok (.iconst 1, 1) := by decide +kernel
theorem dX12_gift_187 : decode cX12_gift 187 = .ok (.iadd, 1) := by decide +kernel
theorem dX12_gift_188 : decode cX12_gift 188 = .ok (.putfield 313, 3) := by decide +kernel
theorem dX12_gift_191 : decode cX12_gift 191 = .ok (.aload_n 0, 1) := by decide +kernel
theorem dX12_gift_192 : decode cX12_gift 192 = .ok (.getfield 313, 3) := by decide +kernel
theorem dX12_gift_195 : decode cX12_gift 195 = .ok (.iconst 1, 1) := by decide +kernel
theorem dX12_gift_196 : decode cX12_gift 196 = .ok (.isub, 1) := by decide +kernel
theorem dX12_gift_197 : decode cX12_gift 197 = .ok (.ireturn, 1) := by decide +kernel
theorem dX12_isGift_0 : decode cX12_isGift 0 = .ok (.iload_n 1, 1) := by decide +kernel
theorem dX12_isGift_1 : decode cX12_isGift 1 = .ok (.ifCond .lt 15, 3) := by decide +kernel
theorem dX12_isGift_4 : decode cX12_isGift 4 = .ok (.iload_n 1, 1) := by decide +kernel
theorem dX12_isGift_5 : decode cX12_isGift 5 = .ok (.aload_n 0, 1) := by decide +kernel
theorem dX12_isGift_6 : decode cX12_isGift 6 = .ok (.getfield 313, 3) := by decide +kernel
theorem dX12_isGift_9 : decode cX12_isGift 9 = .ok (.if_icmp .ge 7, 3) := by decide +kernel
theorem dX12_isGift_12 : decode cX12_isGift 12 = .ok (.iconst 1, 1) := by decide +kernel
theorem dX12_isGift_13 : decode cX12_isGift 13 = .ok (.goto 4, 3) := by decide +kernel
theorem dX12_isGift_16 : decode cX12_isGift 16 = .ok (.iconst 0, 1) := by decide +kernel
theorem dX12_isGift_17 : decode cX12_isGift 17 = .ok (.ireturn, 1) := by decide +kernel
theorem dX12_worth_0 : decode cX12_worth 0 = .ok (.aload_n 0, 1) := by decide +kernel
theorem dX12_worth_1 : decode cX12_worth 1 = .ok (.iconst 0, 1) := by decide +kernel
theorem dX12_worth_2 : decode cX12_worth 2 = .ok (.putfield 244, 3) := by decide +kernel
theorem dX12_worth_5 : decode cX12_worth 5 = .ok (.aload_n 0, 1) := by decide +kernel
theorem dX12_worth_6 : decode cX12_worth 6 = .ok (.iload_n 1, 1) := by decide +kernel
theorem dX12_worth_7 : decode cX12_worth 7 = .ok (.invokevirtual 316, 3) := by decide +kernel
theorem dX12_worth_10 : decode cX12_worth 10 = .ok (.ifCond .eq 21, 3) := by decide +kernel
theorem dX12_worth_13 : decode cX12_worth 13 = .ok (.iload_n 2, 1) := by decide +kernel
theorem dX12_worth_14 : decode cX12_worth 14 = .ok (.iload_n 3, 1) := by decide +kernel
theorem dX12_worth_15 : decode cX12_worth 15 = .ok (.invokestatic 309, 3) := by decide +kernel
theorem dX12_worth_18 : decode cX12_worth 18 = .ok (.ifCond .eq 13, 3) := by decide +kernel
theorem dX12_worth_21 : decode cX12_worth 21 = .ok (.aload_n 0, 1) := by decide +kernel
theorem dX12_worth_22 : decode cX12_worth 22 = .ok (.getfield 319, 3) := by decide +kernel
theorem dX12_worth_25 : decode cX12_worth 25 = .ok (.sipush 200, 3) := by decide +kernel
theorem dX12_worth_28 : decode cX12_worth 28 = .ok (.if_icmp .ne 5, 3) := by decide +kernel
theorem dX12_worth_31 : decode cX12_worth 31 = .ok (.iconst 0, 1) := by decide +kernel
theorem dX12_worth_32 : decode cX12_worth 32 = .ok (.ireturn, 1) := by decide +kernel
theorem dX12_worth_33 : decode cX12_worth 33 = .ok (.aload_n 0, 1) := by decide +kernel
theorem dX12_worth_34 : decode cX12_worth 34 = .ok (.getfield 106, 3) := by decide +kernel
theorem dX12_worth_37 : decode cX12_worth 37 = .ok (.aload_n 0, 1) := by decide +kernel
theorem dX12_worth_38 : decode cX12_worth 38 = .ok (.getfield 319, 3) := by decide +kernel
theorem dX12_worth_41 : decode cX12_worth 41 = .ok (.iload_n 1, 1) := by decide +kernel
theorem dX12_worth_42 : decode cX12_worth 42 = .ok (.iastore, 1) := by decide +kernel
theorem dX12_worth_43 : decode cX12_worth 43 = .ok (.aload_n 0, 1) := by decide +kernel
theorem dX12_worth_44 : decode cX12_worth 44 = .ok (.getfield 109, 3) := by decide +kernel
theorem dX12_worth_47 : decode cX12_worth 47 = .ok (.aload_n 0, 1) := by decide +kernel
theorem dX12_worth_48 : decode cX12_worth 48 = .ok (.getfield 319, 3) := by decide +kernel
theorem dX12_worth_51 : decode cX12_worth 51 = .ok (.iload_n 2, 1) := by decide +kernel
theorem dX12_worth_52 : decode cX12_worth 52 = .ok (.iastore, 1) := by decide +kernel
theorem dX12_worth_53 : decode cX12_worth 53 = .ok (.aload_n 0, 1) := by decide +kernel
theorem dX12_worth_54 : decode cX12_worth 54 = .ok (.getfield 112, 3) := by decide +kernel
theorem dX12_worth_57 : decode cX12_worth 57 = .ok (.aload_n 0, 1) := by decide +kernel
theorem dX12_worth_58 : decode cX12_worth 58 = .ok (.getfield 319, 3) := by decide +kernel
theorem dX12_worth_61 : decode cX12_worth 61 = .ok (.iload_n 3, 1) := by decide +kernel
theorem dX12_worth_62 : decode cX12_worth 62 = .ok (.iastore, 1) := by decide +kernel
theorem dX12_worth_63 : decode cX12_worth 63 = .ok (.aload_n 0, 1) := by decide +kernel
theorem dX12_worth_64 : decode cX12_worth 64 = .ok (.getfield 115, 3) := by decide +kernel
theorem dX12_worth_67 : decode cX12_worth 67 = .ok (.aload_n 0, 1) := by decide +kernel
theorem dX12_worth_68 : decode cX12_worth 68 = .ok (.getfield 319, 3) := by decide +kernel
theorem dX12_worth_71 : decode cX12_worth 71 = .ok (.aload_n 0, 1) := by decide +kernel
theorem dX12_worth_72 : decode cX12_worth 72 = .ok (.getfield 258, 3) := by decide +kernel
theorem dX12_worth_75 : decode cX12_worth 75 = .ok (.iastore, 1) := by decide +kernel
theorem dX12_worth_76 : decode cX12_worth 76 = .ok (.aload_n 0, 1) := by decide +kernel
theorem dX12_worth_77 : decode cX12_worth 77 = .ok (.dup, 1) := by decide +kernel
theorem dX12_worth_78 : decode cX12_worth 78 = .ok (.getfield 319, 3) := by decide +kernel
theorem dX12_worth_81 : decode cX12_worth 81 = .ok (.iconst 1, 1) := by decide +kernel
theorem dX12_worth_82 : decode cX12_worth 82 = .ok (.iadd, 1) := by decide +kernel
theorem dX12_worth_83 : decode cX12_worth 83 = .ok (.putfield 319, 3) := by decide +kernel
theorem dX12_worth_86 : decode cX12_worth 86 = .ok (.iconst 1, 1) := by decide +kernel
theorem dX12_worth_87 : decode cX12_worth 87 = .ok (.ireturn, 1) := by decide +kernel
theorem dX12_back_0 : decode cX12_back 0 = .ok (.aload_n 0, 1) := by decide +kernel
theorem dX12_back_1 : decode cX12_back 1 = .ok (.iconst 0, 1) := by decide +kernel
theorem dX12_back_2 : decode cX12_back 2 = .ok (.putfield 244, 3) := by decide +kernel
theorem dX12_back_5 : decode cX12_back 5 = .ok (.aload_n 0, 1) := by decide +kernel
theorem dX12_back_6 : decode cX12_back 6 = .ok (.iload_n 1, 1) := by decide +kernel
theorem dX12_back_7 : decode cX12_back 7 = .ok (.invokevirtual 316, 3) := by decide +kernel
theorem dX12_back_10 : decode cX12_back 10 = .ok (.ifCond .eq 30, 3) := by decide +kernel
theorem dX12_back_13 : decode cX12_back 13 = .ok (.iload_n 2, 1) := by decide +kernel
theorem dX12_back_14 : decode cX12_back 14 = .ok (.aload_n 0, 1) := by decide +kernel
theorem dX12_back_15 : decode cX12_back 15 = .ok (.getfield 81, 3) := by decide +kernel
theorem dX12_back_18 : decode cX12_back 18 = .ok (.iload_n 1, 1) := by decide +kernel
theorem dX12_back_19 : decode cX12_back 19 = .ok (.iaload, 1) := by decide +kernel
theorem dX12_back_20 : decode cX12_back 20 = .ok (.if_icmp .lt 20, 3) := by decide +kernel
theorem dX12_back_23 : decode cX12_back 23 = .ok (.iload_n 2, 1) := by decide +kernel
theorem dX12_back_24 : decode cX12_back 24 = .ok (.sipush 9999, 3) := by decide +kernel
theorem dX12_back_27 : decode cX12_back 27 = .ok (.if_icmp .gt 13, 3) := by decide +kernel
theorem dX12_back_30 : decode cX12_back 30 = .ok (.aload_n 0, 1) := by decide +kernel
theorem dX12_back_31 : decode cX12_back 31 = .ok (.getfield 93, 3) := by decide +kernel
theorem dX12_back_34 : decode cX12_back 34 = .ok (.iload_n 1, 1) := by decide +kernel
theorem dX12_back_35 : decode cX12_back 35 = .ok (.iaload, 1) := by decide +kernel
theorem dX12_back_36 : decode cX12_back 36 = .ok (.iconst (-1), 1) := by decide +kernel
theorem dX12_back_37 : decode cX12_back 37 = .ok (.if_icmp .eq 5, 3) := by decide +kernel
theorem dX12_back_40 : decode cX12_back 40 = .ok (.iconst 0, 1) := by decide +kernel
theorem dX12_back_41 : decode cX12_back 41 = .ok (.ireturn, 1) := by decide +kernel
theorem dX12_back_42 : decode cX12_back 42 = .ok (.aload_n 0, 1) := by decide +kernel
theorem dX12_back_43 : decode cX12_back 43 = .ok (.getfield 93, 3) := by decide +kernel
theorem dX12_back_46 : decode cX12_back 46 = .ok (.iload_n 1, 1) := by decide +kernel
theorem dX12_back_47 : decode cX12_back 47 = .ok (.iload_n 2, 1) := by decide +kernel
theorem dX12_back_48 : decode cX12_back 48 = .ok (.iastore, 1) := by decide +kernel
theorem dX12_back_49 : decode cX12_back 49 = .ok (.aload_n 0, 1) := by decide +kernel
theorem dX12_back_50 : decode cX12_back 50 = .ok (.getfield 96, 3) := by decide +kernel
theorem dX12_back_53 : decode cX12_back 53 = .ok (.iload_n 1, 1) := by decide +kernel
theorem dX12_back_54 : decode cX12_back 54 = .ok (.aload_n 0, 1) := by decide +kernel
theorem dX12_back_55 : decode cX12_back 55 = .ok (.getfield 258, 3) := by decide +kernel
theorem dX12_back_58 : decode cX12_back 58 = .ok (.iastore, 1) := by decide +kernel
theorem dX12_back_59 : decode cX12_back 59 = .ok (.iconst 1, 1) := by decide +kernel
theorem dX12_back_60 : decode cX12_back 60 = .ok (.ireturn, 1) := by decide +kernel
theorem dX12_tell_0 : decode cX12_tell 0 = .ok (.aload_n 0, 1) := by decide +kernel
theorem dX12_tell_1 : decode cX12_tell 1 = .ok (.iconst 0, 1) := by decide +kernel
theorem dX12_tell_2 : decode cX12_tell 2 = .ok (.putfield 244, 3) := by decide +kernel
theorem dX12_tell_5 : decode cX12_tell 5 = .ok (.aload_n 0, 1) := by decide +kernel
theorem dX12_tell_6 : decode cX12_tell 6 = .ok (.iload_n 1, 1) := by decide +kernel
theorem dX12_tell_7 : decode cX12_tell 7 = .ok (.invokevirtual 316, 3) := by decide +kernel
theorem dX12_tell_10 : decode cX12_tell 10 = .ok (.ifCond .eq 13, 3) := by decide +kernel
theorem dX12_tell_13 : decode cX12_tell 13 = .ok (.aload_n 0, 1) := by decide +kernel
theorem dX12_tell_14 : decode cX12_tell 14 = .ok (.getfield 99, 3) := by decide +kernel
theorem dX12_tell_17 : decode cX12_tell 17 = .ok (.iload_n 1, 1) := by decide +kernel
theorem dX12_tell_18 : decode cX12_tell 18 = .ok (.iaload, 1) := by decide +kernel
theorem dX12_tell_19 : decode cX12_tell 19 = .ok (.iconst (-1), 1) := by decide +kernel
theorem dX12_tell_20 : decode cX12_tell 20 = .ok (.if_icmp .eq 5, 3) := by decide +kernel
theorem dX12_tell_23 : decode cX12_tell 23 = .ok (.iconst 0, 1) := by decide +kernel
theorem dX12_tell_24 : decode cX12_tell 24 = .ok (.ireturn, 1) := by decide +kernel
theorem dX12_tell_25 : decode cX12_tell 25 = .ok (.aload_n 0, 1) := by decide +kernel
theorem dX12_tell_26 : decode cX12_tell 26 = .ok (.getfield 99, 3) := by decide +kernel
theorem dX12_tell_29 : decode cX12_tell 29 = .ok (.iload_n 1, 1) := by decide +kernel
theorem dX12_tell_30 : decode cX12_tell 30 = .ok (.aload_n 0, 1) := by decide +kernel
theorem dX12_tell_31 : decode cX12_tell 31 = .ok (.getfield 258, 3) := by decide +kernel
theorem dX12_tell_34 : decode cX12_tell 34 = .ok (.iastore, 1) := by decide +kernel
theorem dX12_tell_35 : decode cX12_tell 35 = .ok (.iconst 1, 1) := by decide +kernel
theorem dX12_tell_36 : decode cX12_tell 36 = .ok (.ireturn, 1) := by decide +kernel
theorem dX12_leastOf_0 : decode cX12_leastOf 0 = .ok (.aload_n 0, 1) := by decide +kernel
theorem dX12_leastOf_1 : decode cX12_leastOf 1 = .ok (.getfield 84, 3) := by decide +kernel
theorem dX12_leastOf_4 : decode cX12_leastOf 4 = .ok (.iload_n 1, 1) := by decide +kernel
theorem dX12_leastOf_5 : decode cX12_leastOf 5 = .ok (.iaload, 1) := by decide +kernel
theorem dX12_leastOf_6 : decode cX12_leastOf 6 = .ok (.istore_n 3, 1) := by decide +kernel
theorem dX12_leastOf_7 : decode cX12_leastOf 7 = .ok (.iconst 0, 1) := by decide +kernel
theorem dX12_leastOf_8 : decode cX12_leastOf 8 = .ok (.istore 4, 2) := by decide +kernel
theorem dX12_leastOf_10 : decode cX12_leastOf 10 = .ok (.iload 4, 2) := by decide +kernel
theorem dX12_leastOf_12 : decode cX12_leastOf 12 = .ok (.aload_n 0, 1) := by decide +kernel
theorem dX12_leastOf_13 : decode cX12_leastOf 13 = .ok (.getfield 319, 3) := by decide +kernel
theorem dX12_leastOf_16 : decode cX12_leastOf 16 = .ok (.if_icmp .ge 39, 3) := by decide +kernel
theorem dX12_leastOf_19 : decode cX12_leastOf 19 = .ok (.aload_n 0, 1) := by decide +kernel
theorem dX12_leastOf_20 : decode cX12_leastOf 20 = .ok (.getfield 106, 3) := by decide +kernel
theorem dX12_leastOf_23 : decode cX12_leastOf 23 = .ok (.iload 4, 2) := by decide +kernel
theorem dX12_leastOf_25 : decode cX12_leastOf 25 = .ok (.iaload, 1) := by decide +kernel
theorem dX12_leastOf_26 : decode cX12_leastOf 26 = .ok (.iload_n 1, 1) := by decide +kernel
theorem dX12_leastOf_27 : decode cX12_leastOf 27 = .ok (.if_icmp .ne 22, 3) := by decide +kernel
theorem dX12_leastOf_30 : decode cX12_leastOf 30 = .ok (.aload_n 0, 1) := by decide +kernel
theorem dX12_leastOf_31 : decode cX12_leastOf 31 = .ok (.getfield 115, 3) := by decide +kernel
theorem dX12_leastOf_34 : decode cX12_leastOf 34 = .ok (.iload 4, 2) := by decide +kernel
theorem dX12_leastOf_36 : decode cX12_leastOf 36 = .ok (.iaload, 1) := by decide +kernel
theorem dX12_leastOf_37 : decode cX12_leastOf 37 = .ok (.iload_n 2, 1) := by decide +kernel
theorem dX12_leastOf_38 : decode cX12_leastOf 38 = .ok (.if_icmp .gt 11, 3) := by decide +kernel
theorem dX12_leastOf_41 : decode cX12_leastOf 41 = .ok (.aload_n 0, 1) := by decide +kernel
theorem dX12_leastOf_42 : decode cX12_leastOf 42 = .ok (.getfield 109, 3) := by decide +kernel
theorem dX12_leastOf_45 : decode cX12_leastOf 45 = .ok (.iload 4, 2) := by decide +kernel
theorem dX12_leastOf_47 : decode cX12_leastOf 47 = .ok (.iaload, 1) := by decide +kernel
theorem dX12_leastOf_48 : decode cX12_leastOf 48 = .ok (.istore_n 3, 1) := by decide +kernel
theorem dX12_leastOf_49 : decode cX12_leastOf 49 = .ok (.iinc 4 1, 3) := by decide +kernel
theorem dX12_leastOf_52 : decode cX12_leastOf 52 = .ok (.goto (-42), 3) := by decide +kernel
theorem dX12_leastOf_55 : decode cX12_leastOf 55 = .ok (.iload_n 3, 1) := by decide +kernel
theorem dX12_leastOf_56 : decode cX12_leastOf 56 = .ok (.ireturn, 1) := by decide +kernel
theorem dX12_mostOf_0 : decode cX12_mostOf 0 = .ok (.aload_n 0, 1) := by decide +kernel
theorem dX12_mostOf_1 : decode cX12_mostOf 1 = .ok (.getfield 87, 3) := by decide +kernel
theorem dX12_mostOf_4 : decode cX12_mostOf 4 = .ok (.iload_n 1, 1) := by decide +kernel
theorem dX12_mostOf_5 : decode cX12_mostOf 5 = .ok (.iaload, 1) := by decide +kernel
theorem dX12_mostOf_6 : decode cX12_mostOf 6 = .ok (.istore_n 3, 1) := by decide +kernel
theorem dX12_mostOf_7 : decode cX12_mostOf 7 = .ok (.iconst 0, 1) := by decide +kernel
theorem dX12_mostOf_8 : decode cX12_mostOf 8 = .ok (.istore 4, 2) := by decide +kernel
theorem dX12_mostOf_10 : decode cX12_mostOf 10 = .ok (.iload 4, 2) := by decide +kernel
theorem dX12_mostOf_12 : decode cX12_mostOf 12 = .ok (.aload_n 0, 1) := by decide +kernel
theorem dX12_mostOf_13 : decode cX12_mostOf 13 = .ok (.getfield 319, 3) := by decide +kernel
theorem dX12_mostOf_16 : decode cX12_mostOf 16 = .ok (.if_icmp .ge 39, 3) := by decide +kernel
theorem dX12_mostOf_19 : decode cX12_mostOf 19 = .ok (.aload_n 0, 1) := by decide +kernel
theorem dX12_mostOf_20 : decode cX12_mostOf 20 = .ok (.getfield 106, 3) := by decide +kernel
theorem dX12_mostOf_23 : decode cX12_mostOf 23 = .ok (.iload 4, 2) := by decide +kernel
theorem dX12_mostOf_25 : decode cX12_mostOf 25 = .ok (.iaload, 1) := by decide +kernel
theorem dX12_mostOf_26 : decode cX12_mostOf 26 = .ok (.iload_n 1, 1) := by decide +kernel
theorem dX12_mostOf_27 : decode cX12_mostOf 27 = .ok (.if_icmp .ne 22, 3) := by decide +kernel
theorem dX12_mostOf_30 : decode cX12_mostOf 30 = .ok (.aload_n 0, 1) := by decide +kernel
theorem dX12_mostOf_31 : decode cX12_mostOf 31 = .ok (.getfield 115, 3) := by decide +kernel
theorem dX12_mostOf_34 : decode cX12_mostOf 34 = .ok (.iload 4, 2) := by decide +kernel
theorem dX12_mostOf_36 : decode cX12_mostOf 36 = .ok (.iaload, 1) := by decide +kernel
theorem dX12_mostOf_37 : decode cX12_mostOf 37 = .ok (.iload_n 2, 1) := by decide +kernel
theorem dX12_mostOf_38 : decode cX12_mostOf 38 = .ok (.if_icmp .gt 11, 3) := by decide +kernel
theorem dX12_mostOf_41 : decode cX12_mostOf 41 = .ok (.aload_n 0, 1) := by decide +kernel
theorem dX12_mostOf_42 : decode cX12_mostOf 42 = .ok (.getfield 112, 3) := by decide +kernel
theorem dX12_mostOf_45 : decode cX12_mostOf 45 = .ok (.iload 4, 2) := by decide +kernel
theorem dX12_mostOf_47 : decode cX12_mostOf 47 = .ok (.iaload, 1) := by decide +kernel
theorem dX12_mostOf_48 : decode cX12_mostOf 48 = .ok (.istore_n 3, 1) := by decide +kernel
theorem dX12_mostOf_49 : decode cX12_mostOf 49 = .ok (.iinc 4 1, 3) := by decide +kernel
theorem dX12_mostOf_52 : decode cX12_mostOf 52 = .ok (.goto (-42), 3) := by decide +kernel
theorem dX12_mostOf_55 : decode cX12_mostOf 55 = .ok (.iload_n 3, 1) := by decide +kernel
theorem dX12_mostOf_56 : decode cX12_mostOf 56 = .ok (.ireturn, 1) := by decide +kernel
theorem dX12_backOf_0 : decode cX12_backOf 0 = .ok (.aload_n 0, 1) := by decide +kernel
theorem dX12_backOf_1 : decode cX12_backOf 1 = .ok (.getfield 93, 3) := by decide +kernel
theorem dX12_backOf_4 : decode cX12_backOf 4 = .ok (.iload_n 1, 1) := by decide +kernel
theorem dX12_backOf_5 : decode cX12_backOf 5 = .ok (.iaload, 1) := by decide +kernel
theorem dX12_backOf_6 : decode cX12_backOf 6 = .ok (.iconst (-1), 1) := by decide +kernel
theorem dX12_backOf_7 : decode cX12_backOf 7 = .ok (.if_icmp .eq 22, 3) := by decide +kernel
theorem dX12_backOf_10 : decode cX12_backOf 10 = .ok (.aload_n 0, 1) := by decide +kernel
theorem dX12_backOf_11 : decode cX12_backOf 11 = .ok (.getfield 96, 3) := by decide +kernel
theorem dX12_backOf_14 : decode cX12_backOf 14 = .ok (.iload_n 1, 1) := by decide +kernel
theorem dX12_backOf_15 : decode cX12_backOf 15 = .ok (.iaload, 1) := by decide +kernel
theorem dX12_backOf_16 : decode cX12_backOf 16 = .ok (.iload_n 2, 1) := by decide +kernel
theorem dX12_backOf_17 : decode cX12_backOf 17 = .ok (.if_icmp .gt 12, 3) := by decide +kernel
theorem dX12_backOf_20 : decode cX12_backOf 20 = .ok (.aload_n 0, 1) := by decide +kernel
theorem dX12_backOf_21 : decode cX12_backOf 21 = .ok (.getfield 93, 3) := by decide +kernel
theorem dX12_backOf_24 : decode cX12_backOf 24 = .ok (.iload_n 1, 1) := by decide +kernel
theorem dX12_backOf_25 : decode cX12_backOf 25 = .ok (.iaload, 1) := by decide +kernel
theorem dX12_backOf_26 : decode cX12_backOf 26 = .ok (.goto 4, 3) := by decide +kernel
theorem dX12_backOf_29 : decode cX12_backOf 29 = .ok (.iconst (-1), 1) := by decide +kernel
theorem dX12_backOf_30 : decode cX12_backOf 30 = .ok (.ireturn, 1) := by decide +kernel
theorem dX12_toldOf_0 : decode cX12_toldOf 0 = .ok (.aload_n 0, 1) := by decide +kernel
theorem dX12_toldOf_1 : decode cX12_toldOf 1 = .ok (.getfield 99, 3) := by decide +kernel
theorem dX12_toldOf_4 : decode cX12_toldOf 4 = .ok (.iload_n 1, 1) := by decide +kernel
theorem dX12_toldOf_5 : decode cX12_toldOf 5 = .ok (.iaload, 1) := by decide +kernel
theorem dX12_toldOf_6 : decode cX12_toldOf 6 = .ok (.iconst (-1), 1) := by decide +kernel
theorem dX12_toldOf_7 : decode cX12_toldOf 7 = .ok (.if_icmp .eq 22, 3) := by decide +kernel
theorem dX12_toldOf_10 : decode cX12_toldOf 10 = .ok (.aload_n 0, 1) := by decide +kernel
theorem dX12_toldOf_11 : decode cX12_toldOf 11 = .ok (.getfield 99, 3) := by decide +kernel
theorem dX12_toldOf_14 : decode cX12_toldOf 14 = .ok (.iload_n 1, 1) := by decide +kernel
theorem dX12_toldOf_15 : decode cX12_toldOf 15 = .ok (.iaload, 1) := by decide +kernel
theorem dX12_toldOf_16 : decode cX12_toldOf 16 = .ok (.iload_n 2, 1) := by decide +kernel
theorem dX12_toldOf_17 : decode cX12_toldOf 17 = .ok (.if_icmp .gt 12, 3) := by decide +kernel
theorem dX12_toldOf_20 : decode cX12_toldOf 20 = .ok (.aload_n 0, 1) := by decide +kernel
theorem dX12_toldOf_21 : decode cX12_toldOf 21 = .ok (.getfield 99, 3) := by decide +kernel
theorem dX12_toldOf_24 : decode cX12_toldOf 24 = .ok (.iload_n 1, 1) := by decide +kernel
theorem dX12_toldOf_25 : decode cX12_toldOf 25 = .ok (.iaload, 1) := by decide +kernel
theorem dX12_toldOf_26 : decode cX12_toldOf 26 = .ok (.goto 4, 3) := by decide +kernel
theorem dX12_toldOf_29 : decode cX12_toldOf 29 = .ok (.iconst (-1), 1) := by decide +kernel
theorem dX12_toldOf_30 : decode cX12_toldOf 30 = .ok (.ireturn, 1) := by decide +kernel
theorem dX12_isKnown_0 : decode cX12_isKnown 0 = .ok (.aload_n 0, 1) := by decide +kernel
theorem dX12_isKnown_1 : decode cX12_isKnown 1 = .ok (.iload_n 1, 1) := by decide +kernel
theorem dX12_isKnown_2 : decode cX12_isKnown 2 = .ok (.invokevirtual 316, 3) := by decide +kernel
theorem dX12_isKnown_5 : decode cX12_isKnown 5 = .ok (.ifCond .eq 17, 3) := by decide +kernel
theorem dX12_isKnown_8 : decode cX12_isKnown 8 = .ok (.aload_n 0, 1) := by decide +kernel
theorem dX12_isKnown_9 : decode cX12_isKnown 9 = .ok (.getfield 90, 3) := by decide +kernel
theorem dX12_isKnown_12 : decode cX12_isKnown 12 = .ok (.iload_n 1, 1) := by decide +kernel
theorem dX12_isKnown_13 : decode cX12_isKnown 13 = .ok (.iaload, 1) := by decide +kernel
theorem dX12_isKnown_14 : decode cX12_isKnown 14 = .ok (.iload_n 2, 1) := by decide +kernel
theorem dX12_isKnown_15 : decode cX12_isKnown 15 = .ok (.if_icmp .gt 7, 3) := by decide +kernel
theorem dX12_isKnown_18 : decode cX12_isKnown 18 = .ok (.iconst 1, 1) := by decide +kernel
theorem dX12_isKnown_19 : decode cX12_isKnown 19 = .ok (.goto 4, 3) := by decide +kernel
theorem dX12_isKnown_22 : decode cX12_isKnown 22 = .ok (.iconst 0, 1) := by decide +kernel
theorem dX12_isKnown_23 : decode cX12_isKnown 23 = .ok (.ireturn, 1) := by decide +kernel
theorem dX12_at_0 : decode cX12_at 0 = .ok (.aload_n 0, 1) := by decide +kernel
theorem dX12_at_1 : decode cX12_at 1 = .ok (.getfield 118, 3) := by decide +kernel
theorem dX12_at_4 : decode cX12_at 4 = .ok (.bipush 60, 2) := by decide +kernel
theorem dX12_at_6 : decode cX12_at 6 = .ok (.iload_n 1, 1) := by decide +kernel
theorem dX12_at_7 : decode cX12_at 7 = .ok (.imul, 1) := by decide +kernel
theorem dX12_at_8 : decode cX12_at 8 = .ok (.iload_n 2, 1) := by decide +kernel
theorem dX12_at_9 : decode cX12_at 9 = .ok (.iadd, 1) := by decide +kernel
theorem dX12_at_10 : decode cX12_at 10 = .ok (.iaload, 1) := by decide +kernel
theorem dX12_at_11 : decode cX12_at 11 = .ok (.ireturn, 1) := by decide +kernel
theorem dX12_work_0 : decode cX12_work 0 = .ok (.aload_n 0, 1) := by decide +kernel
theorem dX12_work_1 : decode cX12_work 1 = .ok (.getfield 322, 3) := by decide +kernel
theorem dX12_work_4 : decode cX12_work 4 = .ok (.aload_n 0, 1) := by decide +kernel
theorem dX12_work_5 : decode cX12_work 5 = .ok (.getfield 20, 3) := by decide +kernel
theorem dX12_work_8 : decode cX12_work 8 = .ok (.if_icmp .ne 20, 3) := by decide +kernel
theorem dX12_work_11 : decode cX12_work 11 = .ok (.aload_n 0, 1) := by decide +kernel
theorem dX12_work_12 : decode cX12_work 12 = .ok (.getfield 127, 3) := by decide +kernel
theorem dX12_work_15 : decode cX12_work 15 = .ok (.iload_n 1, 1) := by decide +kernel
theorem dX12_work_16 : decode cX12_work 16 = .ok (.if_icmp .ne 12, 3) := by decide +kernel
theorem dX12_work_19 : decode cX12_work 19 = .ok (.aload_n 0, 1) := by decide +kernel
theorem dX12_work_20 : decode cX12_work 20 = .ok (.getfield 130, 3) := by decide +kernel
theorem dX12_work_23 : decode cX12_work 23 = .ok (.iload_n 2, 1) := by decide +kernel
theorem dX12_work_24 : decode cX12_work 24 = .ok (.if_icmp .ne 4, 3) := by decide +kernel
theorem dX12_work_27 : decode cX12_work 27 = .ok (.return_, 1) := by decide +kernel
theorem dX12_work_28 : decode cX12_work 28 = .ok (.aload_n 0, 1) := by decide +kernel
theorem dX12_work_29 : decode cX12_work 29 = .ok (.aload_n 0, 1) := by decide +kernel
theorem dX12_work_30 : decode cX12_work 30 = .ok (.getfield 20, 3) := by decide +kernel
theorem dX12_work_33 : decode cX12_work 33 = .ok (.putfield 322, 3) := by decide +kernel
theorem dX12_work_36 : decode cX12_work 36 = .ok (.aload_n 0, 1) := by decide +kernel
theorem dX12_work_37 : decode cX12_work 37 = .ok (.iload_n 1, 1) := by decide +kernel
theorem dX12_work_38 : decode cX12_work 38 = .ok (.putfield 127, 3) := by decide +kernel
theorem dX12_work_41 : decode cX12_work 41 = .ok (.aload_n 0, 1) := by decide +kernel
theorem dX12_work_42 : decode cX12_work 42 = .ok (.iload_n 2, 1) := by decide +kernel
theorem dX12_work_43 : decode cX12_work 43 = .ok (.putfield 130, 3) := by decide +kernel
theorem dX12_work_46 : decode cX12_work 46 = .ok (.iconst 0, 1) := by decide +kernel
theorem dX12_work_47 : decode cX12_work 47 = .ok (.istore_n 3, 1) := by decide +kernel
theorem dX12_work_48 : decode cX12_work 48 = .ok (.iload_n 3, 1) := by decide +kernel
theorem dX12_work_49 : decode cX12_work 49 = .ok (.sipush 3600, 3) := by decide +kernel
theorem dX12_work_52 : decode cX12_work 52 = .ok (.if_icmp .ge 23, 3) := by decide +kernel
theorem dX12_work_55 : decode cX12_work 55 = .ok (.aload_n 0, 1) := by decide +kernel
theorem dX12_work_56 : decode cX12_work 56 = .ok (.getfield 118, 3) := by decide +kernel
theorem dX12_work_59 : decode cX12_work 59 = .ok (.iload_n 3, 1) := by decide +kernel
theorem dX12_work_60 : decode cX12_work 60 = .ok (.iconst 0, 1) := by decide +kernel
theorem dX12_work_61 : decode cX12_work 61 = .ok (.iastore, 1) := by decide +kernel
theorem dX12_work_62 : decode cX12_work 62 = .ok (.aload_n 0, 1) := by decide +kernel
theorem dX12_work_63 : decode cX12_work 63 = .ok (.getfield 124, 3) := by decide +kernel
theorem dX12_work_66 : decode cX12_work 66 = .ok (.iload_n 3, 1) := by decide +kernel
theorem dX12_work_67 : decode cX12_work 67 = .ok (.iconst 0, 1) := by decide +kernel
theorem dX12_work_68 : decode cX12_work 68 = .ok (.bastore, 1) := by decide +kernel
theorem dX12_work_69 : decode cX12_work 69 = .ok (.iinc 3 1, 3) := by decide +kernel
theorem dX12_work_72 : decode cX12_work 72 = .ok (.goto (-24), 3) := by decide +kernel
theorem dX12_work_75 : decode cX12_work 75 = .ok (.iconst 0, 1) := by decide +kernel
theorem dX12_work_76 : decode cX12_work 76 = .ok (.istore_n 3, 1) := by decide +kernel
theorem dX12_work_77 : decode cX12_work 77 = .ok (.iload_n 3, 1) := by decide +kernel
theorem dX12_work_78 : decode cX12_work 78 = .ok (.aload_n 0, 1) := by decide +kernel
theorem dX12_work_79 : decode cX12_work 79 = .ok (.getfield 283, 3) := by decide +kernel
theorem dX12_work_82 : decode cX12_work 82 = .ok (.if_icmp .ge 68, 3) := by decide +kernel
theorem dX12_work_85 : decode cX12_work 85 = .ok (.aload_n 0, 1) := by decide +kernel
theorem dX12_work_86 : decode cX12_work 86 = .ok (.getfield 39, 3) := by decide +kernel
theorem dX12_work_89 : decode cX12_work 89 = .ok (.iload_n 3, 1) := by decide +kernel
theorem dX12_work_90 : decode cX12_work 90 = .ok (.iaload, 1) := by decide +kernel
theorem dX12_work_91 : decode cX12_work 91 = .ok (.iload_n 2, 1) := by decide +kernel
theorem dX12_work_92 : decode cX12_work 92 = .ok (.if_icmp .gt 52, 3) := by decide +kernel
theorem dX12_work_95 : decode cX12_work 95 = .ok (.aload_n 0, 1) := by decide +kernel
theorem dX12_work_96 : decode cX12_work 96 = .ok (.getfield 33, 3) := by decide +kernel
theorem dX12_work_99 : decode cX12_work 99 = .ok (.iload_n 3, 1) := by decide +kernel
theorem dX12_work_100 : decode cX12_work 100 = .ok (.iaload, 1) := by decide +kernel
theorem dX12_work_101 : decode cX12_work 101 = .ok (.aload_n 0, 1) := by decide +kernel
theorem dX12_work_102 : decode cX12_work 102 = .ok (.getfield 36, 3) := by decide +kernel
theorem dX12_work_105 : decode cX12_work 105 = .ok (.iload_n 3, 1) := by decide +kernel
theorem dX12_work_106 : decode cX12_work 106 = .ok (.iaload, 1) := by decide +kernel
theorem dX12_work_107 : decode cX12_work 107 = .ok (.iload_n 1, 1) := by decide +kernel
theorem dX12_work_108 : decode cX12_work 108 = .ok (.invokestatic 286, 3) := by decide +kernel
theorem dX12_work_111 : decode cX12_work 111 = .ok (.ifCond .eq 33, 3) := by decide +kernel
theorem dX12_work_114 : decode cX12_work 114 = .ok (.aload_n 0, 1) := by decide +kernel
theorem dX12_work_115 : decode cX12_work 115 = .ok (.getfield 118, 3) := by decide +kernel
theorem dX12_work_118 : decode cX12_work 118 = .ok (.bipush 60, 2) := by decide +kernel
theorem dX12_work_120 : decode cX12_work 120 = .ok (.aload_n 0, 1) := by decide +kernel
theorem dX12_work_121 : decode cX12_work 121 = .ok (.getfield 24, 3) := by decide +kernel
theorem dX12_work_124 : decode cX12_work 124 = .ok (.iload_n 3, 1) := by decide +kernel
theorem dX12_work_125 : decode cX12_work 125 = .ok (.iaload, 1) := by decide +kernel
theorem dX12_work_126 : decode cX12_work 126 = .ok (.imul, 1) := by decide +kernel
theorem dX12_work_127 : decode cX12_work 127 = .ok (.aload_n 0, 1) := by decide +kernel
theorem dX12_work_128 : decode cX12_work 128 = .ok (.getfield 27, 3) := by decide +kernel
theorem dX12_work_131 : decode cX12_work 131 = .ok (.iload_n 3, 1) := by decide +kernel
theorem dX12_work_132 : decode cX12_work 132 = .ok (.iaload, 1) := by decide +kernel
theorem dX12_work_133 : decode cX12_work 133 = .ok (.iadd, 1) := by decide +kernel
theorem dX12_work_134 : decode cX12_work 134 = .ok (.dup2, 1) := by decide +kernel
theorem dX12_work_135 : decode cX12_work 135 = .ok (.iaload, 1) := by decide +kernel
theorem dX12_work_136 : decode cX12_work 136 = .ok (.aload_n 0, 1) := by decide +kernel
theorem dX12_work_137 : decode cX12_work 137 = .ok (.getfield 30, 3) := by decide +kernel
theorem dX12_work_140 : decode cX12_work 140 = .ok (.iload_n 3, 1) := by decide +kernel
theorem dX12_work_141 : decode cX12_work 141 = .ok (.iaload, 1) := by decide +kernel
theorem dX12_work_142 : decode cX12_work 142 = .ok (.iadd, 1) := by decide +kernel
theorem dX12_work_143 : decode cX12_work 143 = .ok (.iastore, 1) := by decide +kernel
theorem dX12_work_144 : decode cX12_work 144 = .ok (.iinc 3 1, 3) := by decide +kernel
theorem dX12_work_147 : decode cX12_work 147 = .ok (.goto (-70), 3) := by decide +kernel
theorem dX12_work_150 : decode cX12_work 150 = .ok (.iconst 0, 1) := by decide +kernel
theorem dX12_work_151 : decode cX12_work 151 = .ok (.istore_n 3, 1) := by decide +kernel
theorem dX12_work_152 : decode cX12_work 152 = .ok (.iload_n 3, 1) := by decide +kernel
theorem dX12_work_153 : decode cX12_work 153 = .ok (.aload_n 0, 1) := by decide +kernel
theorem dX12_work_154 : decode cX12_work 154 = .ok (.getfield 273, 3) := by decide +kernel
theorem dX12_work_157 : decode cX12_work 157 = .ok (.if_icmp .ge 14, 3) := by decide +kernel
theorem dX12_work_160 : decode cX12_work 160 = .ok (.aload_n 0, 1) := by decide +kernel
theorem dX12_work_161 : decode cX12_work 161 = .ok (.iload_n 3, 1) := by decide +kernel
theorem dX12_work_162 : decode cX12_work 162 = .ok (.invokevirtual 325, 3) := by decide +kernel
theorem dX12_work_165 : decode cX12_work 165 = .ok (.iinc 3 1, 3) := by decide +kernel
theorem dX12_work_168 : decode cX12_work 168 = .ok (.goto (-16), 3) := by decide +kernel
theorem dX12_work_171 : decode cX12_work 171 = .ok (.iconst 0, 1) := by decide +kernel
theorem dX12_work_172 : decode cX12_work 172 = .ok (.istore_n 3, 1) := by decide +kernel
theorem dX12_work_173 : decode cX12_work 173 = .ok (.iload_n 3, 1) := by decide +kernel
theorem dX12_work_174 : decode cX12_work 174 = .ok (.aload_n 0, 1) := by decide +kernel
theorem dX12_work_175 : decode cX12_work 175 = .ok (.getfield 273, 3) := by decide +kernel
theorem dX12_work_178 : decode cX12_work 178 = .ok (.if_icmp .ge 20, 3) := by decide +kernel
theorem dX12_work_181 : decode cX12_work 181 = .ok (.aload_n 0, 1) := by decide +kernel
theorem dX12_work_182 : decode cX12_work 182 = .ok (.getfield 121, 3) := by decide +kernel
theorem dX12_work_185 : decode cX12_work 185 = .ok (.iload_n 3, 1) := by decide +kernel
theorem dX12_work_186 : decode cX12_work 186 = .ok (.aload_n 0, 1) := by decide +kernel
theorem dX12_work_187 : decode cX12_work 187 = .ok (.iload_n 3, 1) := by decide +kernel
theorem dX12_work_188 : decode cX12_work 188 = .ok (.invokevirtual 328, 3) := by decide +kernel
theorem dX12_work_191 : decode cX12_work 191 = .ok (.iastore, 1) := by decide +kernel
theorem dX12_work_192 : decode cX12_work 192 = .ok (.iinc 3 1, 3) := by decide +kernel
theorem dX12_work_195 : decode cX12_work 195 = .ok (.goto (-22), 3) := by decide +kernel
theorem dX12_work_198 : decode cX12_work 198 = .ok (.return_, 1) := by decide +kernel
theorem dX12_spread_0 : decode cX12_spread 0 = .ok (.iconst 1, 1) := by decide +kernel
theorem dX12_spread_1 : decode cX12_spread 1 = .ok (.istore_n 2, 1) := by decide +kernel
theorem dX12_spread_2 : decode cX12_spread 2 = .ok (.iload_n 2, 1) := by decide +kernel
theorem dX12_spread_3 : decode cX12_spread 3 = .ok (.ifCond .eq 124, 3) := by decide +kernel
theorem dX12_spread_6 : decode cX12_spread 6 = .ok (.iconst 0, 1) := by decide +kernel
theorem dX12_spread_7 : decode cX12_spread 7 = .ok (.istore_n 2, 1) := by decide +kernel
theorem dX12_spread_8 : decode cX12_spread 8 = .ok (.iconst 0, 1) := by decide +kernel
theorem dX12_spread_9 : decode cX12_spread 9 = .ok (.istore_n 3, 1) := by decide +kernel
theorem dX12_spread_10 : decode cX12_spread 10 = .ok (.iload_n 3, 1) := by decide +kernel
theorem dX12_spread_11 : decode cX12_spread 11 = .ok (.aload_n 0, 1) := by decide +kernel
theorem dX12_spread_12 : decode cX12_spread 12 = .ok (.getfield 273, 3) := by decide +kernel
theorem dX12_spread_15 : decode cX12_spread 15 = .ok (.if_icmp .ge 109, 3) := by decide +kernel
theorem dX12_spread_18 : decode cX12_spread 18 = .ok (.iload_n 3, 1) := by decide +kernel
theorem dX12_spread_19 : decode cX12_spread 19 = .ok (.iload_n 1, 1) := by decide +kernel
theorem dX12_spread_20 : decode cX12_spread 20 = .ok (.if_icmp .eq 98, 3) := by decide +kernel
theorem dX12_spread_23 : decode cX12_spread 23 = .ok (.aload_n 0, 1) := by decide +kernel
theorem dX12_spread_24 : decode cX12_spread 24 = .ok (.getfield 124, 3) := by decide +kernel
theorem dX12_spread_27 : decode cX12_spread 27 = .ok (.bipush 60, 2) := by decide +kernel
theorem dX12_spread_29 : decode cX12_spread 29 = .ok (.iload_n 1, 1) := by decide +kernel
theorem dX12_spread_30 : decode cX12_spread 30 = .ok (.imul, 1) := by decide +kernel
theorem dX12_spread_31 : decode cX12_spread 31 = .ok (.iload_n 3, 1) := by decide +kernel
theorem dX12_spread_32 : decode cX12_spread 32 = .ok (.iadd, 1) := by decide +kernel
theorem dX12_spread_33 : decode cX12_spread 33 = .ok (.baload, 1) := by decide +kernel
theorem dX12_spread_34 : decode cX12_spread 34 = .ok (.ifCond .eq 6, 3) := by decide +kernel
theorem dX12_spread_37 : decode cX12_spread 37 = .ok (.goto 81, 3) := by decide +kernel
theorem dX12_spread_40 : decode cX12_spread 40 = .ok (.aload_n 0, 1) := by decide +kernel
theorem dX12_spread_41 : decode cX12_spread 41 = .ok (.iload_n 1, 1) := by decide +kernel
theorem dX12_spread_42 : decode cX12_spread 42 = .ok (.iload_n 3, 1) := by decide +kernel
theorem dX12_spread_43 : decode cX12_spread 43 = .ok (.invokevirtual 332, 3) := by decide +kernel
theorem dX12_spread_46 : decode cX12_spread 46 = .ok (.istore 4, 2) := by decide +kernel
theorem dX12_spread_48 : decode cX12_spread 48 = .ok (.iconst 0, 1) := by decide +kernel
theorem dX12_spread_49 : decode cX12_spread 49 = .ok (.istore 5, 2) := by decide +kernel
theorem dX12_spread_51 : decode cX12_spread 51 = .ok (.iload 5, 2) := by decide +kernel
theorem dX12_spread_53 : decode cX12_spread 53 = .ok (.aload_n 0, 1) := by decide +kernel
theorem dX12_spread_54 : decode cX12_spread 54 = .ok (.getfield 273, 3) := by decide +kernel
theorem dX12_spread_57 : decode cX12_spread 57 = .ok (.if_icmp .ge 36, 3) := by decide +kernel
theorem dX12_spread_60 : decode cX12_spread 60 = .ok (.aload_n 0, 1) := by decide +kernel
theorem dX12_spread_61 : decode cX12_spread 61 = .ok (.getfield 124, 3) := by decide +kernel
theorem dX12_spread_64 : decode cX12_spread 64 = .ok (.bipush 60, 2) := by decide +kernel
theorem dX12_spread_66 : decode cX12_spread 66 = .ok (.iload_n 1, 1) := by decide +kernel
theorem dX12_spread_67 : decode cX12_spread 67 = .ok (.imul, 1) := by decide +kernel
theorem dX12_spread_68 : decode cX12_spread 68 = .ok (.iload 5, 2) := by decide +kernel
theorem dX12_spread_70 : decode cX12_spread 70 = .ok (.iadd, 1) := by decide +kernel
theorem dX12_spread_71 : decode cX12_spread 71 = .ok (.baload, 1) := by decide +kernel
theorem dX12_spread_72 : decode cX12_spread 72 = .ok (.ifCond .eq 15, 3) := by decide +kernel
theorem dX12_spread_75 : decode cX12_spread 75 = .ok (.iload 4, 2) := by decide +kernel
theorem dX12_spread_77 : decode cX12_spread 77 = .ok (.aload_n 0, 1) := by decide +kernel
theorem dX12_spread_78 : decode cX12_spread 78 = .ok (.iload 5, 2) := by decide +kernel
theorem dX12_spread_80 : decode cX12_spread 80 = .ok (.iload_n 3, 1) := by decide +kernel
theorem dX12_spread_81 : decode cX12_spread 81 = .ok (.invokevirtual 332, 3) := by decide +kernel
theorem dX12_spread_84 : decode cX12_spread 84 = .ok (.iadd, 1) := by decide +kernel
theorem dX12_spread_85 : decode cX12_spread 85 = .ok (.istore 4, 2) := by decide +kernel
theorem dX12_spread_87 : decode cX12_spread 87 = .ok (.iinc 5 1, 3) := by decide +kernel
theorem dX12_spread_90 : decode cX12_spread 90 = .ok (.goto (-39), 3) := by decide +kernel
theorem dX12_spread_93 : decode cX12_spread 93 = .ok (.iload 4, 2) := by decide +kernel
theorem dX12_spread_95 : decode cX12_spread 95 = .ok (.sipush 5000, 3) := by decide +kernel
theorem dX12_spread_98 : decode cX12_spread 98 = .ok (.if_icmp .gt 6, 3) := by decide +kernel
theorem dX12_spread_101 : decode cX12_spread 101 = .ok (.goto 17, 3) := by decide +kernel
theorem dX12_spread_104 : decode cX12_spread 104 = .ok (.aload_n 0, 1) := by decide +kernel
theorem dX12_spread_105 : decode cX12_spread 105 = .ok (.getfield 124, 3) := by decide +kernel
theorem dX12_spread_108 : decode cX12_spread 108 = .ok (.bipush 60, 2) := by decide +kernel
theorem dX12_spread_110 : decode cX12_spread 110 = .ok (.iload_n 1, 1) := by decide +kernel
theorem dX12_spread_111 : decode cX12_spread 111 = .ok (.imul, 1) := by decide +kernel
theorem dX12_spread_112 : decode cX12_spread 112 = .ok (.iload_n 3, 1) := by decide +kernel
theorem dX12_spread_113 : decode cX12_spread 113 = .ok (.iadd, 1) := by decide +kernel
theorem dX12_spread_114 : decode cX12_spread 114 = .ok (.iconst 1, 1) := by decide +kernel
theorem dX12_spread_115 : decode cX12_spread 115 = .ok (.bastore, 1) := by decide +kernel
theorem dX12_spread_116 : decode cX12_spread 116 = .ok (.iconst 1, 1) := by decide +kernel
theorem dX12_spread_117 : decode cX12_spread 117 = .ok (.istore_n 2, 1) := by decide +kernel
theorem dX12_spread_118 : decode cX12_spread 118 = .ok (.iinc 3 1, 3) := by decide +kernel
theorem dX12_spread_121 : decode cX12_spread 121 = .ok (.goto (-111), 3) := by decide +kernel
theorem dX12_spread_124 : decode cX12_spread 124 = .ok (.goto (-122), 3) := by decide +kernel
theorem dX12_spread_127 : decode cX12_spread 127 = .ok (.return_, 1) := by decide +kernel
theorem dX12_isControlled_0 : decode cX12_isControlled 0 = .ok (.iconst 0, 1) := by decide +kernel
theorem dX12_isControlled_1 : decode cX12_isControlled 1 = .ok (.istore_n 2, 1) := by decide +kernel
theorem dX12_isControlled_2 : decode cX12_isControlled 2 = .ok (.iload_n 2, 1) := by decide +kernel
theorem dX12_isControlled_3 : decode cX12_isControlled 3 = .ok (.aload_n 0, 1) := by decide +kernel
theorem dX12_isControlled_4 : decode cX12_isControlled 4 = .ok (.getfield 273, 3) := by decide +kernel
theorem dX12_isControlled_7 : decode cX12_isControlled 7 = .ok (.if_icmp .ge 30, 3) := by decide +kernel
theorem dX12_isControlled_10 : decode cX12_isControlled 10 = .ok (.iload_n 2, 1) := by decide +kernel
theorem dX12_isControlled_11 : decode cX12_isControlled 11 = .ok (.iload_n 1, 1) := by decide +kernel
theorem dX12_isControlled_12 : decode cX12_isControlled 12 = .ok (.if_icmp .eq 19, 3) := by decide +kernel
theorem dX12_isControlled_15 : decode cX12_isControlled 15 = .ok (.aload_n 0, 1) := by decide +kernel
theorem dX12_isControlled_16 : decode cX12_isControlled 16 = .ok (.getfield 124, 3) := by decide +kernel
theorem dX12_isControlled_19 : decode cX12_isControlled 19 = .ok (.bipush 60, 2) := by decide +kernel
theorem dX12_isControlled_21 : decode cX12_isControlled 21 = .ok (.iload_n 2, 1) := by decide +kernel
theorem dX12_isControlled_22 : decode cX12_isControlled 22 = .ok (.imul, 1) := by decide +kernel
theorem dX12_isControlled_23 : decode cX12_isControlled 23 = .ok (.iload_n 1, 1) := by decide +kernel
theorem dX12_isControlled_24 : decode cX12_isControlled 24 = .ok (.iadd, 1) := by decide +kernel
theorem dX12_isControlled_25 : decode cX12_isControlled 25 = .ok (.baload, 1) := by decide +kernel
theorem dX12_isControlled_26 : decode cX12_isControlled 26 = .ok (.ifCond .eq 5, 3) := by decide +kernel
theorem dX12_isControlled_29 : decode cX12_isControlled 29 = .ok (.iconst 1, 1) := by decide +kernel
theorem dX12_isControlled_30 : decode cX12_isControlled 30 = .ok (.ireturn, 1) := by decide +kernel
theorem dX12_isControlled_31 : decode cX12_isControlled 31 = .ok (.iinc 2 1, 3) := by decide +kernel
theorem dX12_isControlled_34 : decode cX12_isControlled 34 = .ok (.goto (-32), 3) := by decide +kernel
theorem dX12_isControlled_37 : decode cX12_isControlled 37 = .ok (.iconst 0, 1) := by decide +kernel
theorem dX12_isControlled_38 : decode cX12_isControlled 38 = .ok (.ireturn, 1) := by decide +kernel
theorem dX12_headOf_0 : decode cX12_headOf 0 = .ok (.iload_n 1, 1) := by decide +kernel
theorem dX12_headOf_1 : decode cX12_headOf 1 = .ok (.istore_n 2, 1) := by decide +kernel
theorem dX12_headOf_2 : decode cX12_headOf 2 = .ok (.iconst 0, 1) := by decide +kernel
theorem dX12_headOf_3 : decode cX12_headOf 3 = .ok (.istore_n 3, 1) := by decide +kernel
theorem dX12_headOf_4 : decode cX12_headOf 4 = .ok (.iload_n 3, 1) := by decide +kernel
theorem dX12_headOf_5 : decode cX12_headOf 5 = .ok (.aload_n 0, 1) := by decide +kernel
theorem dX12_headOf_6 : decode cX12_headOf 6 = .ok (.getfield 273, 3) := by decide +kernel
theorem dX12_headOf_9 : decode cX12_headOf 9 = .ok (.if_icmp .ge 43, 3) := by decide +kernel
theorem dX12_headOf_12 : decode cX12_headOf 12 = .ok (.aload_n 0, 1) := by decide +kernel
theorem dX12_headOf_13 : decode cX12_headOf 13 = .ok (.getfield 124, 3) := by decide +kernel
theorem dX12_headOf_16 : decode cX12_headOf 16 = .ok (.bipush 60, 2) := by decide +kernel
theorem dX12_headOf_18 : decode cX12_headOf 18 = .ok (.iload_n 3, 1) := by decide +kernel
theorem dX12_headOf_19 : decode cX12_headOf 19 = .ok (.imul, 1) := by decide +kernel
theorem dX12_headOf_20 : decode cX12_headOf 20 = .ok (.iload_n 1, 1) := by decide +kernel
theorem dX12_headOf_21 : decode cX12_headOf 21 = .ok (.iadd, 1) := by decide +kernel
theorem dX12_headOf_22 : decode cX12_headOf 22 = .ok (.baload, 1) := by decide +kernel
theorem dX12_headOf_23 : decode cX12_headOf 23 = .ok (.ifCond .ne 6, 3) := by decide +kernel
theorem dX12_headOf_26 : decode cX12_headOf 26 = .ok (.goto 20, 3) := by decide +kernel
theorem dX12_headOf_29 : decode cX12_headOf 29 = .ok (.aload_n 0, 1) := by decide +kernel
theorem dX12_headOf_30 : decode cX12_headOf 30 = .ok (.iload_n 3, 1) := by decide +kernel
theorem dX12_headOf_31 : decode cX12_headOf 31 = .ok (.invokevirtual 335, 3) := by decide +kernel
theorem dX12_headOf_34 : decode cX12_headOf 34 = .ok (.ifCond .ne 5, 3) := by decide +kernel
theorem dX12_headOf_37 : decode cX12_headOf 37 = .ok (.iload_n 3, 1) := by decide +kernel
theorem dX12_headOf_38 : decode cX12_headOf 38 = .ok (.ireturn, 1) := by decide +kernel
theorem dX12_headOf_39 : decode cX12_headOf 39 = .ok (.iload_n 3, 1) := by decide +kernel
theorem dX12_headOf_40 : decode cX12_headOf 40 = .ok (.iload_n 2, 1) := by decide +kernel
theorem dX12_headOf_41 : decode cX12_headOf 41 = .ok (.if_icmp .ge 5, 3) := by decide +kernel
theorem dX12_headOf_44 : decode cX12_headOf 44 = .ok (.iload_n 3, 1) := by decide +kernel
theorem dX12_headOf_45 : decode cX12_headOf 45 = .ok (.istore_n 2, 1) := by decide +kernel
theorem dX12_headOf_46 : decode cX12_headOf 46 = .ok (.iinc 3 1, 3) := by decide +kernel
theorem dX12_headOf_49 : decode cX12_headOf 49 = .ok (.goto (-45), 3) := by decide +kernel
theorem dX12_headOf_52 : decode cX12_headOf 52 = .ok (.iload_n 2, 1) := by decide +kernel
theorem dX12_headOf_53 : decode cX12_headOf 53 = .ok (.ireturn, 1) := by decide +kernel
theorem dX12_areParties_0 : decode cX12_areParties 0 = .ok (.aload_n 0, 1) := by decide +kernel
theorem dX12_areParties_1 : decode cX12_areParties 1 = .ok (.iload_n 1, 1) := by decide +kernel
theorem dX12_areParties_2 : decode cX12_areParties 2 = .ok (.invokevirtual 276, 3) := by decide +kernel
theorem dX12_areParties_5 : decode cX12_areParties 5 = .ok (.ifCond .eq 15, 3) := by decide +kernel
theorem dX12_areParties_8 : decode cX12_areParties 8 = .ok (.aload_n 0, 1) := by decide +kernel
theorem dX12_areParties_9 : decode cX12_areParties 9 = .ok (.iload_n 2, 1) := by decide +kernel
theorem dX12_areParties_10 : decode cX12_areParties 10 = .ok (.invokevirtual 276, 3) := by decide +kernel
theorem dX12_areParties_13 : decode cX12_areParties 13 = .ok (.ifCond .eq 7, 3) := by decide +kernel
theorem dX12_areParties_16 : decode cX12_areParties 16 = .ok (.iconst 1, 1) := by decide +kernel
theorem dX12_areParties_17 : decode cX12_areParties 17 = .ok (.goto 4, 3) := by decide +kernel
theorem dX12_areParties_20 : decode cX12_areParties 20 = .ok (.iconst 0, 1) := by decide +kernel
theorem dX12_areParties_21 : decode cX12_areParties 21 = .ok (.ireturn, 1) := by decide +kernel
theorem dX12_partOf_0 : decode cX12_partOf 0 = .ok (.iload_n 1, 1) := by decide +kernel
theorem dX12_partOf_1 : decode cX12_partOf 1 = .ok (.iload_n 2, 1) := by decide +kernel
theorem dX12_partOf_2 : decode cX12_partOf 2 = .ok (.if_icmp .ne 5, 3) := by decide +kernel
theorem dX12_partOf_5 : decode cX12_partOf 5 = .ok (.lconst 0, 1) := by decide +kernel
theorem dX12_partOf_6 : decode cX12_partOf 6 = .ok (.lreturn, 1) := by decide +kernel
theorem dX12_partOf_7 : decode cX12_partOf 7 = .ok (.aload_n 0, 1) := by decide +kernel
theorem dX12_partOf_8 : decode cX12_partOf 8 = .ok (.iload_n 1, 1) := by decide +kernel
theorem dX12_partOf_9 : decode cX12_partOf 9 = .ok (.iload_n 2, 1) := by decide +kernel
theorem dX12_partOf_10 : decode cX12_partOf 10 = .ok (.invokevirtual 332, 3) := by decide +kernel
theorem dX12_partOf_13 : decode cX12_partOf 13 = .ok (.i2l, 1) := by decide +kernel
theorem dX12_partOf_14 : decode cX12_partOf 14 = .ok (.ldc2_w 338, 3) := by decide +kernel
theorem dX12_partOf_17 : decode cX12_partOf 17 = .ok (.lmul, 1) := by decide +kernel
theorem dX12_partOf_18 : decode cX12_partOf 18 = .ok (.lstore_n 3, 1) := by decide +kernel
theorem dX12_partOf_19 : decode cX12_partOf 19 = .ok (.iconst 0, 1) := by decide +kernel
theorem dX12_partOf_20 : decode cX12_partOf 20 = .ok (.istore 5, 2) := by decide +kernel
theorem dX12_partOf_22 : decode cX12_partOf 22 = .ok (.iload 5, 2) := by decide +kernel
theorem dX12_partOf_24 : decode cX12_partOf 24 = .ok (.aload_n 0, 1) := by decide +kernel
theorem dX12_partOf_25 : decode cX12_partOf 25 = .ok (.getfield 273, 3) := by decide +kernel
theorem dX12_partOf_28 : decode cX12_partOf 28 = .ok (.if_icmp .ge 186, 3) := by decide +kernel
theorem dX12_partOf_31 : decode cX12_partOf 31 = .ok (.aload_n 0, 1) := by decide +kernel
theorem dX12_partOf_32 : decode cX12_partOf 32 = .ok (.iload_n 1, 1) := by decide +kernel
theorem dX12_partOf_33 : decode cX12_partOf 33 = .ok (.iload 5, 2) := by decide +kernel
theorem dX12_partOf_35 : decode cX12_partOf 35 = .ok (.invokevirtual 332, 3) := by decide +kernel
theorem dX12_partOf_38 : decode cX12_partOf 38 = .ok (.i2l, 1) := by decide +kernel
theorem dX12_partOf_39 : decode cX12_partOf 39 = .ok (.lstore 6, 2) := by decide +kernel
theorem dX12_partOf_41 : decode cX12_partOf 41 = .ok (.iload 5, 2) := by decide +kernel
theorem dX12_partOf_43 : decode cX12_partOf 43 = .ok (.iload_n 2, 1) := by decide +kernel
theorem dX12_partOf_44 : decode cX12_partOf 44 = .ok (.if_icmp .eq 164, 3) := by decide +kernel
theorem dX12_partOf_47 : decode cX12_partOf 47 = .ok (.lload 6, 2) := by decide +kernel
theorem dX12_partOf_49 : decode cX12_partOf 49 = .ok (.lconst 0, 1) := by decide +kernel
theorem dX12_partOf_50 : decode cX12_partOf 50 = .ok (.lcmp, 1) := by decide +kernel
theorem dX12_partOf_51 : decode cX12_partOf 51 = .ok (.ifCond .ne 6, 3) := by decide +kernel
theorem dX12_partOf_54 : decode cX12_partOf 54 = .ok (.goto 154, 3) := by decide +kernel
theorem dX12_partOf_57 : decode cX12_partOf 57 = .ok (.lload_n 3, 1) := by decide +kernel
theorem dX12_partOf_58 : decode cX12_partOf 58 = .ok (.lload 6, 2) := by decide +kernel
theorem dX12_partOf_60 : decode cX12_partOf 60 = .ok (.aload_n 0, 1) := by decide +kernel
theorem dX12_partOf_61 : decode cX12_partOf 61 = .ok (.iload 5, 2) := by decide +kernel
theorem dX12_partOf_63 : decode cX12_partOf 63 = .ok (.iload_n 2, 1) := by decide +kernel
theorem dX12_partOf_64 : decode cX12_partOf 64 = .ok (.invokevirtual 332, 3) := by decide +kernel
theorem dX12_partOf_67 : decode cX12_partOf 67 = .ok (.i2l, 1) := by decide +kernel
theorem dX12_partOf_68 : decode cX12_partOf 68 = .ok (.lmul, 1) := by decide +kernel
theorem dX12_partOf_69 : decode cX12_partOf 69 = .ok (.ldc2_w 340, 3) := by decide +kernel
theorem dX12_partOf_72 : decode cX12_partOf 72 = .ok (.lmul, 1) := by decide +kernel
theorem dX12_partOf_73 : decode cX12_partOf 73 = .ok (.ladd, 1) := by decide +kernel
theorem dX12_partOf_74 : decode cX12_partOf 74 = .ok (.lstore_n 3, 1) := by decide +kernel
theorem dX12_partOf_75 : decode cX12_partOf 75 = .ok (.iconst 0, 1) := by decide +kernel
theorem dX12_partOf_76 : decode cX12_partOf 76 = .ok (.istore 8, 2) := by decide +kernel
theorem dX12_partOf_78 : decode cX12_partOf 78 = .ok (.iload 8, 2) := by decide +kernel
theorem dX12_partOf_80 : decode cX12_partOf 80 = .ok (.aload_n 0, 1) := by decide +kernel
theorem dX12_partOf_81 : decode cX12_partOf 81 = .ok (.getfield 273, 3) := by decide +kernel
theorem dX12_partOf_84 : decode cX12_partOf 84 = .ok (.if_icmp .ge 124, 3) := by decide +kernel
theorem dX12_partOf_87 : decode cX12_partOf 87 = .ok (.lload 6, 2) := by decide +kernel
theorem dX12_partOf_89 : decode cX12_partOf 89 = .ok (.aload_n 0, 1) := by decide +kernel
theorem dX12_partOf_90 : decode cX12_partOf 90 = .ok (.iload 5, 2) := by decide +kernel
theorem dX12_partOf_92 : decode cX12_partOf 92 = .ok (.iload 8, 2) := by decide +kernel
theorem dX12_partOf_94 : decode cX12_partOf 94 = .ok (.invokevirtual 332, 3) := by decide +kernel
theorem dX12_partOf_97 : decode cX12_partOf 97 = .ok (.i2l, 1) := by decide +kernel
theorem dX12_partOf_98 : decode cX12_partOf 98 = .ok (.lmul, 1) := by decide +kernel
theorem dX12_partOf_99 : decode cX12_partOf 99 = .ok (.lstore 9, 2) := by decide +kernel
theorem dX12_partOf_101 : decode cX12_partOf 101 = .ok (.iload 8, 2) := by decide +kernel
theorem dX12_partOf_103 : decode cX12_partOf 103 = .ok (.iload_n 1, 1) := by decide +kernel
theorem dX12_partOf_104 : decode cX12_partOf 104 = .ok (.if_icmp .eq 98, 3) := by decide +kernel
theorem dX12_partOf_107 : decode cX12_partOf 107 = .ok (.iload 8, 2) := by decide +kernel
theorem dX12_partOf_109 : decode cX12_partOf 109 = .ok (.iload_n 2, 1) := by decide +kernel
theorem dX12_partOf_110 : decode cX12_partOf 110 = .ok (.if_icmp .eq 92, 3) := by decide +kernel
theorem dX12_partOf_113 : decode cX12_partOf 113 = .ok (.lload 9, 2) := by decide +kernel
theorem dX12_partOf_115 : decode cX12_partOf 115 = .ok (.lconst 0, 1) := by decide +kernel
theorem dX12_partOf_116 : decode cX12_partOf 116 = .ok (.lcmp, 1) := by decide +kernel
theorem dX12_partOf_117 : decode cX12_partOf 117 = .ok (.ifCond .ne 6, 3) := by decide +kernel
theorem dX12_partOf_120 : decode cX12_partOf 120 = .ok (.goto 82, 3) := by decide +kernel
theorem dX12_partOf_123 : decode cX12_partOf 123 = .ok (.lload_n 3, 1) := by decide +kernel
theorem dX12_partOf_124 : decode cX12_partOf 124 = .ok (.lload 9, 2) := by decide +kernel
theorem dX12_partOf_126 : decode cX12_partOf 126 = .ok (.aload_n 0, 1) := by decide +kernel
theorem dX12_partOf_127 : decode cX12_partOf 127 = .ok (.iload 8, 2) := by decide +kernel
theorem dX12_partOf_129 : decode cX12_partOf 129 = .ok (.iload_n 2, 1) := by decide +kernel
theorem dX12_partOf_130 : decode cX12_partOf 130 = .ok (.invokevirtual 332, 3) := by decide +kernel
theorem dX12_partOf_133 : decode cX12_partOf 133 = .ok (.i2l, 1) := by decide +kernel
theorem dX12_partOf_134 : decode cX12_partOf 134 = .ok (.lmul, 1) := by decide +kernel
theorem dX12_partOf_135 : decode cX12_partOf 135 = .ok (.ldc2_w 342, 3) := by decide +kernel
theorem dX12_partOf_138 : decode cX12_partOf 138 = .ok (.lmul, 1) := by decide +kernel
theorem dX12_partOf_139 : decode cX12_partOf 139 = .ok (.ladd, 1) := by decide +kernel
theorem dX12_partOf_140 : decode cX12_partOf 140 = .ok (.lstore_n 3, 1) := by decide +kernel
theorem dX12_partOf_141 : decode cX12_partOf 141 = .ok (.iconst 0, 1) := by decide +kernel
theorem dX12_partOf_142 : decode cX12_partOf 142 = .ok (.istore 11, 2) := by decide +kernel
theorem dX12_partOf_144 : decode cX12_partOf 144 = .ok (.iload 11, 2) := by decide +kernel
theorem dX12_partOf_146 : decode cX12_partOf 146 = .ok (.aload_n 0, 1) := by decide +kernel
theorem dX12_partOf_147 : decode cX12_partOf 147 = .ok (.getfield 273, 3) := by decide +kernel
theorem dX12_partOf_150 : decode cX12_partOf 150 = .ok (.if_icmp .ge 52, 3) := by decide +kernel
theorem dX12_partOf_153 : decode cX12_partOf 153 = .ok (.iload 11, 2) := by decide +kernel
theorem dX12_partOf_155 : decode cX12_partOf 155 = .ok (.iload_n 1, 1) := by decide +kernel
theorem dX12_partOf_156 : decode cX12_partOf 156 = .ok (.if_icmp .eq 40, 3) := by decide +kernel
theorem dX12_partOf_159 : decode cX12_partOf 159 = .ok (.iload 11, 2) := by decide +kernel
theorem dX12_partOf_161 : decode cX12_partOf 161 = .ok (.iload_n 2, 1) := by decide +kernel
theorem dX12_partOf_162 : decode cX12_partOf 162 = .ok (.if_icmp .eq 34, 3) := by decide +kernel
theorem dX12_partOf_165 : decode cX12_partOf 165 = .ok (.iload 11, 2) := by decide +kernel
theorem dX12_partOf_167 : decode cX12_partOf 167 = .ok (.iload 5, 2) := by decide +kernel
theorem dX12_partOf_169 : decode cX12_partOf 169 = .ok (.if_icmp .eq 27, 3) := by decide +kernel
theorem dX12_partOf_172 : decode cX12_partOf 172 = .ok (.lload_n 3, 1) := by decide +kernel
theorem dX12_partOf_173 : decode cX12_partOf 173 = .ok (.lload 9, 2) := by decide +kernel
theorem dX12_partOf_175 : decode cX12_partOf 175 = .ok (.aload_n 0, 1) := by decide +kernel
theorem dX12_partOf_176 : decode cX12_partOf 176 = .ok (.iload 8, 2) := by decide +kernel
theorem dX12_partOf_178 : decode cX12_partOf 178 = .ok (.iload 11, 2) := by decide +kernel
theorem dX12_partOf_180 : decode cX12_partOf 180 = .ok (.invokevirtual 332, 3) := by decide +kernel
theorem dX12_partOf_183 : decode cX12_partOf 183 = .ok (.i2l, 1) := by decide +kernel
theorem dX12_partOf_184 : decode cX12_partOf 184 = .ok (.lmul, 1) := by decide +kernel
theorem dX12_partOf_185 : decode cX12_partOf 185 = .ok (.aload_n 0, 1) := by decide +kernel
theorem dX12_partOf_186 : decode cX12_partOf 186 = .ok (.iload 11, 2) := by decide +kernel
theorem dX12_partOf_188 : decode cX12_partOf 188 = .ok (.iload_n 2, 1) := by decide +kernel
theorem dX12_partOf_189 : decode cX12_partOf 189 = .ok (.invokevirtual 332, 3) := by decide +kernel
theorem dX12_partOf_192 : decode cX12_partOf 192 = .ok (.i2l, 1) := by decide +kernel
theorem dX12_partOf_193 : decode cX12_partOf 193 = .ok (.lmul, 1) := by decide +kernel
theorem dX12_partOf_194 : decode cX12_partOf 194 = .ok (.ladd, 1) := by decide +kernel
theorem dX12_partOf_195 : decode cX12_partOf 195 = .ok (.lstore_n 3, 1) := by decide +kernel
theorem dX12_partOf_196 : decode cX12_partOf 196 = .ok (.iinc 11 1, 3) := by decide +kernel
theorem dX12_partOf_199 : decode cX12_partOf 199 = .ok (.goto (-55), 3) := by decide +kernel
theorem dX12_partOf_202 : decode cX12_partOf 202 = .ok (.iinc 8 1, 3) := by decide +kernel
theorem dX12_partOf_205 : decode cX12_partOf 205 = .ok (.goto (-127), 3) := by decide +kernel
theorem dX12_partOf_208 : decode cX12_partOf 208 = .ok (.iinc 5 1, 3) := by decide +kernel
theorem dX12_partOf_211 : decode cX12_partOf 211 = .ok (.goto (-189), 3) := by decide +kernel
theorem dX12_partOf_214 : decode cX12_partOf 214 = .ok (.lload_n 3, 1) := by decide +kernel
theorem dX12_partOf_215 : decode cX12_partOf 215 = .ok (.lreturn, 1) := by decide +kernel
theorem dX12_part_0 : decode cX12_part 0 = .ok (.aload_n 0, 1) := by decide +kernel
theorem dX12_part_1 : decode cX12_part 1 = .ok (.iconst 0, 1) := by decide +kernel
theorem dX12_part_2 : decode cX12_part 2 = .ok (.putfield 244, 3) := by decide +kernel
theorem dX12_part_5 : decode cX12_part 5 = .ok (.aload_n 0, 1) := by decide +kernel
theorem dX12_part_6 : decode cX12_part 6 = .ok (.iload_n 1, 1) := by decide +kernel
theorem dX12_part_7 : decode cX12_part 7 = .ok (.iload_n 2, 1) := by decide +kernel
theorem dX12_part_8 : decode cX12_part 8 = .ok (.invokevirtual 344, 3) := by decide +kernel
theorem dX12_part_11 : decode cX12_part 11 = .ok (.ifCond .eq 10, 3) := by decide +kernel
theorem dX12_part_14 : decode cX12_part 14 = .ok (.iload_n 3, 1) := by decide +kernel
theorem dX12_part_15 : decode cX12_part 15 = .ok (.invokestatic 279, 3) := by decide +kernel
theorem dX12_part_18 : decode cX12_part 18 = .ok (.ifCond .ne 7, 3) := by decide +kernel
theorem dX12_part_21 : decode cX12_part 21 = .ok (.ldc2_w 347, 3) := by decide +kernel
theorem dX12_part_24 : decode cX12_part 24 = .ok (.lreturn, 1) := by decide +kernel
theorem dX12_part_25 : decode cX12_part 25 = .ok (.aload_n 0, 1) := by decide +kernel
theorem dX12_part_26 : decode cX12_part 26 = .ok (.iload_n 3, 1) := by decide +kernel
theorem dX12_part_27 : decode cX12_part 27 = .ok (.iload 4, 2) := by decide +kernel
theorem dX12_part_29 : decode cX12_part 29 = .ok (.invokevirtual 349, 3) := by decide +kernel
theorem dX12_part_32 : decode cX12_part 32 = .ok (.aload_n 0, 1) := by decide +kernel
theorem dX12_part_33 : decode cX12_part 33 = .ok (.iload_n 1, 1) := by decide +kernel
theorem dX12_part_34 : decode cX12_part 34 = .ok (.iload_n 2, 1) := by decide +kernel
theorem dX12_part_35 : decode cX12_part 35 = .ok (.invokevirtual 353, 3) := by decide +kernel
theorem dX12_part_38 : decode cX12_part 38 = .ok (.lreturn, 1) := by decide +kernel
theorem dX12_keep_0 : decode cX12_keep 0 = .ok (.lload_n 1, 1) := by decide +kernel
theorem dX12_keep_1 : decode cX12_keep 1 = .ok (.aload_n 0, 1) := by decide +kernel
theorem dX12_keep_2 : decode cX12_keep 2 = .ok (.getfield 357, 3) := by decide +kernel
theorem dX12_keep_5 : decode cX12_keep 5 = .ok (.lcmp, 1) := by decide +kernel
theorem dX12_keep_6 : decode cX12_keep 6 = .ok (.ifCond .gt 4, 3) := by decide +kernel
theorem dX12_keep_9 : decode cX12_keep 9 = .ok (.return_, 1) := by decide +kernel
theorem dX12_keep_10 : decode cX12_keep 10 = .ok (.aload_n 0, 1) := by decide +kernel
theorem dX12_keep_11 : decode cX12_keep 11 = .ok (.lload_n 1, 1) := by decide +kernel
theorem dX12_keep_12 : decode cX12_keep 12 = .ok (.putfield 357, 3) := by decide +kernel
theorem dX12_keep_15 : decode cX12_keep 15 = .ok (.aload_n 0, 1) := by decide +kernel
theorem dX12_keep_16 : decode cX12_keep 16 = .ok (.iload_n 3, 1) := by decide +kernel
theorem dX12_keep_17 : decode cX12_keep 17 = .ok (.putfield 361, 3) := by decide +kernel
theorem dX12_keep_20 : decode cX12_keep 20 = .ok (.aload_n 0, 1) := by decide +kernel
theorem dX12_keep_21 : decode cX12_keep 21 = .ok (.getfield 133, 3) := by decide +kernel
theorem dX12_keep_24 : decode cX12_keep 24 = .ok (.iconst 0, 1) := by decide +kernel
theorem dX12_keep_25 : decode cX12_keep 25 = .ok (.iload 4, 2) := by decide +kernel
theorem dX12_keep_27 : decode cX12_keep 27 = .ok (.iastore, 1) := by decide +kernel
theorem dX12_keep_28 : decode cX12_keep 28 = .ok (.aload_n 0, 1) := by decide +kernel
theorem dX12_keep_29 : decode cX12_keep 29 = .ok (.getfield 133, 3) := by decide +kernel
theorem dX12_keep_32 : decode cX12_keep 32 = .ok (.iconst 1, 1) := by decide +kernel
theorem dX12_keep_33 : decode cX12_keep 33 = .ok (.iload_n 3, 1) := by decide +kernel
theorem dX12_keep_34 : decode cX12_keep 34 = .ok (.iconst 2, 1) := by decide +kernel
theorem dX12_keep_35 : decode cX12_keep 35 = .ok (.if_icmp .ne 8, 3) := by decide +kernel
theorem dX12_keep_38 : decode cX12_keep 38 = .ok (.iload 8, 2) := by decide +kernel
theorem dX12_keep_40 : decode cX12_keep 40 = .ok (.goto 5, 3) := by decide +kernel
theorem dX12_keep_43 : decode cX12_keep 43 = .ok (.iload 5, 2) := by decide +kernel
theorem dX12_keep_45 : decode cX12_keep 45 = .ok (.iastore, 1) := by decide +kernel
theorem dX12_keep_46 : decode cX12_keep 46 = .ok (.aload_n 0, 1) := by decide +kernel
theorem dX12_keep_47 : decode cX12_keep 47 = .ok (.getfield 133, 3) := by decide +kernel
theorem dX12_keep_50 : decode cX12_keep 50 = .ok (.iconst 2, 1) := by decide +kernel
theorem dX12_keep_51 : decode cX12_keep 51 = .ok (.iload_n 3, 1) := by decide +kernel
theorem dX12_keep_52 : decode cX12_keep 52 = .ok (.iconst 3, 1) := by decide +kernel
theorem dX12_keep_53 : decode cX12_keep 53 = .ok (.if_icmp .ne 8, 3) := by decide +kernel
theorem dX12_keep_56 : decode cX12_keep 56 = .ok (.iload 8, 2) := by decide +kernel
theorem dX12_keep_58 : decode cX12_keep 58 = .ok (.goto 5, 3) := by decide +kernel
theorem dX12_keep_61 : decode cX12_keep 61 = .ok (.iload 6, 2) := by decide +kernel
theorem dX12_keep_63 : decode cX12_keep 63 = .ok (.iastore, 1) := by decide +kernel
theorem dX12_keep_64 : decode cX12_keep 64 = .ok (.aload_n 0, 1) := by decide +kernel
theorem dX12_keep_65 : decode cX12_keep 65 = .ok (.getfield 133, 3) := by decide +kernel
theorem dX12_keep_68 : decode cX12_keep 68 = .ok (.iconst 3, 1) := by decide +kernel
theorem dX12_keep_69 : decode cX12_keep 69 = .ok (.iload_n 3, 1) := by decide +kernel
theorem dX12_keep_70 : decode cX12_keep 70 = .ok (.iconst 4, 1) := by decide +kernel
theorem dX12_keep_71 : decode cX12_keep 71 = .ok (.if_icmp .ne 8, 3) := by decide +kernel
theorem dX12_keep_74 : decode cX12_keep 74 = .ok (.iload 8, 2) := by decide +kernel
theorem dX12_keep_76 : decode cX12_keep 76 = .ok (.goto 5, 3) := by decide +kernel
theorem dX12_keep_79 : decode cX12_keep 79 = .ok (.iload 7, 2) := by decide +kernel
theorem dX12_keep_81 : decode cX12_keep 81 = .ok (.iastore, 1) := by decide +kernel
theorem dX12_keep_82 : decode cX12_keep 82 = .ok (.aload_n 0, 1) := by decide +kernel
theorem dX12_keep_83 : decode cX12_keep 83 = .ok (.getfield 133, 3) := by decide +kernel
theorem dX12_keep_86 : decode cX12_keep 86 = .ok (.iconst 4, 1) := by decide +kernel
theorem dX12_keep_87 : decode cX12_keep 87 = .ok (.iload 8, 2) := by decide +kernel
theorem dX12_keep_89 : decode cX12_keep 89 = .ok (.iastore, 1) := by decide +kernel
theorem dX12_keep_90 : decode cX12_keep 90 = .ok (.return_, 1) := by decide +kernel
theorem dX12_chain_0 : decode cX12_chain 0 = .ok (.aload_n 0, 1) := by decide +kernel
theorem dX12_chain_1 : decode cX12_chain 1 = .ok (.iconst 0, 1) := by decide +kernel
theorem dX12_chain_2 : decode cX12_chain 2 = .ok (.putfield 244, 3) := by decide +kernel
theorem dX12_chain_5 : decode cX12_chain 5 = .ok (.aload_n 0, 1) := by decide +kernel
theorem dX12_chain_6 : decode cX12_chain 6 = .ok (.iload_n 1, 1) := by decide +kernel
theorem dX12_chain_7 : decode cX12_chain 7 = .ok (.iload_n 2, 1) := by decide +kernel
theorem dX12_chain_8 : decode cX12_chain 8 = .ok (.invokevirtual 344, 3) := by decide +kernel
theorem dX12_chain_11 : decode cX12_chain 11 = .ok (.ifCond .eq 10, 3) := by decide +kernel
theorem dX12_chain_14 : decode cX12_chain 14 = .ok (.iload_n 3, 1) := by decide +kernel
theorem dX12_chain_15 : decode cX12_chain 15 = .ok (.invokestatic 279, 3) := by decide +kernel
theorem dX12_chain_18 : decode cX12_chain 18 = .ok (.ifCond .ne 5, 3) := by decide +kernel
theorem dX12_chain_21 : decode cX12_chain 21 = .ok (.iconst (-1), 1) := by decide +kernel
theorem dX12_chain_22 : decode cX12_chain 22 = .ok (.ireturn, 1) := by decide +kernel
theorem dX12_chain_23 : decode cX12_chain 23 = .ok (.iload_n 1, 1) := by decide +kernel
theorem dX12_chain_24 : decode cX12_chain 24 = .ok (.iload_n 2, 1) := by decide +kernel
theorem dX12_chain_25 : decode cX12_chain 25 = .ok (.if_icmp .ne 5, 3) := by decide +kernel
theorem dX12_chain_28 : decode cX12_chain 28 = .ok (.iconst 0, 1) := by decide +kernel
theorem dX12_chain_29 : decode cX12_chain 29 = .ok (.ireturn, 1) := by decide +kernel
theorem dX12_chain_30 : decode cX12_chain 30 = .ok (.aload_n 0, 1) := by decide +kernel
theorem dX12_chain_31 : decode cX12_chain 31 = .ok (.iload_n 3, 1) := by decide +kernel
theorem dX12_chain_32 : decode cX12_chain 32 = .ok (.iload 4, 2) := by decide +kernel
theorem dX12_chain_34 : decode cX12_chain 34 = .ok (.invokevirtual 349, 3) := by decide +kernel
theorem dX12_chain_37 : decode cX12_chain 37 = .ok (.aload_n 0, 1) := by decide +kernel
theorem dX12_chain_38 : decode cX12_chain 38 = .ok (.lconst 0, 1) := by decide +kernel
theorem dX12_chain_39 : decode cX12_chain 39 = .ok (.putfield 357, 3) := by decide +kernel
theorem dX12_chain_42 : decode cX12_chain 42 = .ok (.aload_n 0, 1) := by decide +kernel
theorem dX12_chain_43 : decode cX12_chain 43 = .ok (.aload_n 0, 1) := by decide +kernel
theorem dX12_chain_44 : decode cX12_chain 44 = .ok (.iload_n 1, 1) := by decide +kernel
theorem dX12_chain_45 : decode cX12_chain 45 = .ok (.iload_n 2, 1) := by decide +kernel
theorem dX12_chain_46 : decode cX12_chain 46 = .ok (.invokevirtual 332, 3) := by decide +kernel
theorem dX12_chain_49 : decode cX12_chain 49 = .ok (.i2l, 1) := by decide +kernel
theorem dX12_chain_50 : decode cX12_chain 50 = .ok (.ldc2_w 338, 3) := by decide +kernel
theorem dX12_chain_53 : decode cX12_chain 53 = .ok (.lmul, 1) := by decide +kernel
theorem dX12_chain_54 : decode cX12_chain 54 = .ok (.iconst 2, 1) := by decide +kernel
theorem dX12_chain_55 : decode cX12_chain 55 = .ok (.iload_n 1, 1) := by decide +kernel
theorem dX12_chain_56 : decode cX12_chain 56 = .ok (.iconst 0, 1) := by decide +kernel
theorem dX12_chain_57 : decode cX12_chain 57 = .ok (.iconst 0, 1) := by decide +kernel
theorem dX12_chain_58 : decode cX12_chain 58 = .ok (.iconst 0, 1) := by decide +kernel
theorem dX12_chain_59 : decode cX12_chain 59 = .ok (.iload_n 2, 1) := by decide +kernel
theorem dX12_chain_60 : decode cX12_chain 60 = .ok (.invokevirtual 364, 3) := by decide +kernel
theorem dX12_chain_63 : decode cX12_chain 63 = .ok (.iconst 3, 1) := by decide +kernel
theorem dX12_chain_64 : decode cX12_chain 64 = .ok (.istore 5, 2) := by decide +kernel
theorem dX12_chain_66 : decode cX12_chain 66 = .ok (.iload 5, 2) := by decide +kernel
theorem dX12_chain_68 : decode cX12_chain 68 = .ok (.iconst 5, 1) := by decide +kernel
theorem dX12_chain_69 : decode cX12_chain 69 = .ok (.if_icmp .gt 255, 3) := by decide +kernel
theorem dX12_chain_72 : decode cX12_chain 72 = .ok (.iconst 0, 1) := by decide +kernel
theorem dX12_chain_73 : decode cX12_chain 73 = .ok (.istore 6, 2) := by decide +kernel
theorem dX12_chain_75 : decode cX12_chain 75 = .ok (.iload 6, 2) := by decide +kernel
theorem dX12_chain_77 : decode cX12_chain 77 = .ok (.aload_n 0, 1) := by decide +kernel
theorem dX12_chain_78 : decode cX12_chain 78 = .ok (.getfield 273, 3) := by decide +kernel
theorem dX12_chain_81 : decode cX12_chain 81 = .ok (.if_icmp .ge 237, 3) := by decide +kernel
theorem dX12_chain_84 : decode cX12_chain 84 = .ok (.aload_n 0, 1) := by decide +kernel
theorem dX12_chain_85 : decode cX12_chain 85 = .ok (.iload_n 1, 1) := by decide +kernel
theorem dX12_chain_86 : decode cX12_chain 86 = .ok (.iload 6, 2) := by decide +kernel
theorem dX12_chain_88 : decode cX12_chain 88 = .ok (.invokevirtual 332, 3) := by decide +kernel
theorem dX12_chain_91 : decode cX12_chain 91 = .ok (.i2l, 1) := by decide +kernel
theorem dX12_chain_92 : decode cX12_chain 92 = .ok (.lstore 7, 2) := by decide +kernel
theorem dX12_chain_94 : decode cX12_chain 94 = .ok (.iload 6, 2) := by decide +kernel
theorem dX12_chain_96 : decode cX12_chain 96 = .ok (.iload_n 2, 1) := by decide +kernel
theorem dX12_chain_97 : decode cX12_chain 97 = .ok (.if_icmp .eq 215, 3) := by decide +kernel
theorem dX12_chain_100 : decode cX12_chain 100 = .ok (.lload 7, 2) := by decide +kernel
theorem dX12_chain_102 : decode cX12_chain 102 = .ok (.lconst 0, 1) := by decide +kernel
theorem dX12_chain_103 : decode cX12_chain 103 = .ok (.lcmp, 1) := by decide +kernel
theorem dX12_chain_104 : decode cX12_chain 104 = .ok (.ifCond .ne 6, 3) := by decide +kernel
theorem dX12_chain_107 : decode cX12_chain 107 = .ok (.goto 205, 3) := by decide +kernel
theorem dX12_chain_110 : decode cX12_chain 110 = .ok (.iload 5, 2) := by decide +kernel
theorem dX12_chain_112 : decode cX12_chain 112 = .ok (.iconst 3, 1) := by decide +kernel
theorem dX12_chain_113 : decode cX12_chain 113 = .ok (.if_icmp .ne 29, 3) := by decide +kernel
theorem dX12_chain_116 : decode cX12_chain 116 = .ok (.aload_n 0, 1) := by decide +kernel
theorem dX12_chain_117 : decode cX12_chain 117 = .ok (.lload 7, 2) := by decide +kernel
theorem dX12_chain_119 : decode cX12_chain 119 = .ok (.aload_n 0, 1) := by decide +kernel
theorem dX12_chain_120 : decode cX12_chain 120 = .ok (.iload 6, 2) := by decide +kernel
theorem dX12_chain_122 : decode cX12_chain 122 = .ok (.iload_n 2, 1) := by decide +kernel
theorem dX12_chain_123 : decode cX12_chain 123 = .ok (.invokevirtual 332, 3) := by decide +kernel
theorem dX12_chain_126 : decode cX12_chain 126 = .ok (.i2l, 1) := by decide +kernel
theorem dX12_chain_127 : decode cX12_chain 127 = .ok (.lmul, 1) := by decide +kernel
theorem dX12_chain_128 : decode cX12_chain 128 = .ok (.ldc2_w 340, 3) := by decide +kernel
theorem dX12_chain_131 : decode cX12_chain 131 = .ok (.lmul, 1) := by decide +kernel
theorem dX12_chain_132 : decode cX12_chain 132 = .ok (.iconst 3, 1) := by decide +kernel
theorem dX12_chain_133 : decode cX12_chain 133 = .ok (.iload_n 1, 1) := by decide +kernel
theorem dX12_chain_134 : decode cX12_chain 134 = .ok (.iload 6, 2) := by decide +kernel
theorem dX12_chain_136 : decode cX12_chain 136 = .ok (.iconst 0, 1) := by decide +kernel
theorem dX12_chain_137 : decode cX12_chain 137 = .ok (.iconst 0, 1) := by decide +kernel
theorem dX12_chain_138 : decode cX12_chain 138 = .ok (.iload_n 2, 1) := by decide +kernel
theorem dX12_chain_139 : decode cX12_chain 139 = .ok (.invokevirtual 364, 3) := by decide +kernel
theorem dX12_chain_142 : decode cX12_chain 142 = .ok (.iconst 0, 1) := by decide +kernel
theorem dX12_chain_143 : decode cX12_chain 143 = .ok (.istore 9, 2) := by decide +kernel
theorem dX12_chain_145 : decode cX12_chain 145 = .ok (.iload 9, 2) := by decide +kernel
theorem dX12_chain_147 : decode cX12_chain 147 = .ok (.aload_n 0, 1) := by decide +kernel
theorem dX12_chain_148 : decode cX12_chain 148 = .ok (.getfield 273, 3) := by decide +kernel
theorem dX12_chain_151 : decode cX12_chain 151 = .ok (.if_icmp .ge 161, 3) := by decide +kernel
theorem dX12_chain_154 : decode cX12_chain 154 = .ok (.iload 5, 2) := by decide +kernel
theorem dX12_chain_156 : decode cX12_chain 156 = .ok (.iconst 3, 1) := by decide +kernel
theorem dX12_chain_157 : decode cX12_chain 157 = .ok (.if_icmp .le 155, 3) := by decide +kernel
theorem dX12_chain_160 : decode cX12_chain 160 = .ok (.lload 7, 2) := by decide +kernel
theorem dX12_chain_162 : decode cX12_chain 162 = .ok (.aload_n 0, 1) := by decide +kernel
theorem dX12_chain_163 : decode cX12_chain 163 = .ok (.iload 6, 2) := by decide +kernel
theorem dX12_chain_165 : decode cX12_chain 165 = .ok (.iload 9, 2) := by decide +kernel
theorem dX12_chain_167 : decode cX12_chain 167 = .ok (.invokevirtual 332, 3) := by decide +kernel
theorem dX12_chain_170 : decode cX12_chain 170 = .ok (.i2l, 1) := by decide +kernel
theorem dX12_chain_171 : decode cX12_chain 171 = .ok (.lmul, 1) := by decide +kernel
theorem dX12_chain_172 : decode cX12_chain 172 = .ok (.lstore 10, 2) := by decide +kernel
theorem dX12_chain_174 : decode cX12_chain 174 = .ok (.iload 9, 2) := by decide +kernel
theorem dX12_chain_176 : decode cX12_chain 176 = .ok (.iload_n 1, 1) := by decide +kernel
theorem dX12_chain_177 : decode cX12_chain 177 = .ok (.if_icmp .eq 129, 3) := by decide +kernel
theorem dX12_chain_180 : decode cX12_chain 180 = .ok (.iload 9, 2) := by decide +kernel
theorem dX12_chain_182 : decode cX12_chain 182 = .ok (.iload_n 2, 1) := by decide +kernel
theorem dX12_chain_183 : decode cX12_chain 183 = .ok (.if_icmp .eq 123, 3) := by decide +kernel
theorem dX12_chain_186 : decode cX12_chain 186 = .ok (.lload 10, 2) := by decide +kernel
theorem dX12_chain_188 : decode cX12_chain 188 = .ok (.lconst 0, 1) := by decide +kernel
theorem dX12_chain_189 : decode cX12_chain 189 = .ok (.lcmp, 1) := by decide +kernel
theorem dX12_chain_190 : decode cX12_chain 190 = .ok (.ifCond .ne 6, 3) := by decide +kernel
theorem dX12_chain_193 : decode cX12_chain 193 = .ok (.goto 113, 3) := by decide +kernel
theorem dX12_chain_196 : decode cX12_chain 196 = .ok (.iload 5, 2) := by decide +kernel
theorem dX12_chain_198 : decode cX12_chain 198 = .ok (.iconst 4, 1) := by decide +kernel
theorem dX12_chain_199 : decode cX12_chain 199 = .ok (.if_icmp .ne 30, 3) := by decide +kernel
theorem dX12_chain_202 : decode cX12_chain 202 = .ok (.aload_n 0, 1) := by decide +kernel
theorem dX12_chain_203 : decode cX12_chain 203 = .ok (.lload 10, 2) := by decide +kernel
theorem dX12_chain_205 : decode cX12_chain 205 = .ok (.aload_n 0, 1) := by decide +kernel
theorem dX12_chain_206 : decode cX12_chain 206 = .ok (.iload 9, 2) := by decide +kernel
theorem dX12_chain_208 : decode cX12_chain 208 = .ok (.iload_n 2, 1) := by decide +kernel
theorem dX12_chain_209 : decode cX12_chain 209 = .ok (.invokevirtual 332, 3) := by decide +kernel
theorem dX12_chain_212 : decode cX12_chain 212 = .ok (.i2l, 1) := by decide +kernel
theorem dX12_chain_213 : decode cX12_chain 213 = .ok (.lmul, 1) := by decide +kernel
theorem dX12_chain_214 : decode cX12_chain 214 = .ok (.ldc2_w 342, 3) := by decide +kernel
theorem dX12_chain_217 : decode cX12_chain 217 = .ok (.lmul, 1) := by decide +kernel
theorem dX12_chain_218 : decode cX12_chain 218 = .ok (.iconst 4, 1) := by decide +kernel
theorem dX12_chain_219 : decode cX12_chain 219 = .ok (.iload_n 1, 1) := by decide +kernel
theorem dX12_chain_220 : decode cX12_chain 220 = .ok (.iload 6, 2) := by decide +kernel
theorem dX12_chain_222 : decode cX12_chain 222 = .ok (.iload 9, 2) := by decide +kernel
theorem dX12_chain_224 : decode cX12_chain 224 = .ok (.iconst 0, 1) := by decide +kernel
theorem dX12_chain_225 : decode cX12_chain 225 = .ok (.iload_n 2, 1) := by decide +kernel
theorem dX12_chain_226 : decode cX12_chain 226 = .ok (.invokevirtual 364, 3) := by decide +kernel
theorem dX12_chain_229 : decode cX12_chain 229 = .ok (.iconst 0, 1) := by decide +kernel
theorem dX12_chain_230 : decode cX12_chain 230 = .ok (.istore 12, 2) := by decide +kernel
theorem dX12_chain_232 : decode cX12_chain 232 = .ok (.iload 12, 2) := by decide +kernel
theorem dX12_chain_234 : decode cX12_chain 234 = .ok (.aload_n 0, 1) := by decide +kernel
theorem dX12_chain_235 : decode cX12_chain 235 = .ok (.getfield 273, 3) := by decide +kernel
theorem dX12_chain_238 : decode cX12_chain 238 = .ok (.if_icmp .ge 68, 3) := by decide +kernel
theorem dX12_chain_241 : decode cX12_chain 241 = .ok (.iload 5, 2) := by decide +kernel
theorem dX12_chain_243 : decode cX12_chain 243 = .ok (.iconst 5, 1) := by decide +kernel
theorem dX12_chain_244 : decode cX12_chain 244 = .ok (.if_icmp .ne 62, 3) := by decide +kernel
theorem dX12_chain_247 : decode cX12_chain 247 = .ok (.iload 12, 2) := by decide +kernel
theorem dX12_chain_249 : decode cX12_chain 249 = .ok (.iload_n 1, 1) := by decide +kernel
theorem dX12_chain_250 : decode cX12_chain 250 = .ok (.if_icmp .eq 50, 3) := by decide +kernel
theorem dX12_chain_253 : decode cX12_chain 253 = .ok (.iload 12, 2) := by decide +kernel
theorem dX12_chain_255 : decode cX12_chain 255 = .ok (.iload_n 2, 1) := by decide +kernel
theorem dX12_chain_256 : decode cX12_chain 256 = .ok (.if_icmp .eq 44, 3) := by decide +kernel
theorem dX12_chain_259 : decode cX12_chain 259 = .ok (.iload 12, 2) := by decide +kernel
theorem dX12_chain_261 : decode cX12_chain 261 = .ok (.iload 6, 2) := by decide +kernel
theorem dX12_chain_263 : decode cX12_chain 263 = .ok (.if_icmp .eq 37, 3) := by decide +kernel
theorem dX12_chain_266 : decode cX12_chain 266 = .ok (.aload_n 0, 1) := by decide +kernel
theorem dX12_chain_267 : decode cX12_chain 267 = .ok (.lload 10, 2) := by decide +kernel
theorem dX12_chain_269 : decode cX12_chain 269 = .ok (.aload_n 0, 1) := by decide +kernel
theorem dX12_chain_270 : decode cX12_chain 270 = .ok (.iload 9, 2) := by decide +kernel
theorem dX12_chain_272 : decode cX12_chain 272 = .ok (.iload 12, 2) := by decide +kernel
theorem dX12_chain_274 : decode cX12_chain 274 = .ok (.invokevirtual 332, 3) := by decide +kernel
theorem dX12_chain_277 : decode cX12_chain 277 = .ok (.i2l, 1) := by decide +kernel
theorem dX12_chain_278 : decode cX12_chain 278 = .ok (.lmul, 1) := by decide +kernel
theorem dX12_chain_279 : decode cX12_chain 279 = .ok (.aload_n 0, 1) := by decide +kernel
theorem dX12_chain_280 : decode cX12_chain 280 = .ok (.iload 12, 2) := by decide +kernel
theorem dX12_chain_282 : decode cX12_chain 282 = .ok (.iload_n 2, 1) := by decide +kernel
theorem dX12_chain_283 : decode cX12_chain 283 = .ok (.invokevirtual 332, 3) := by decide +kernel
theorem dX12_chain_286 : decode cX12_chain 286 = .ok (.i2l, 1) := by decide +kernel
theorem dX12_chain_287 : decode cX12_chain 287 = .ok (.lmul, 1) := by decide +kernel
theorem dX12_chain_288 : decode cX12_chain 288 = .ok (.iconst 5, 1) := by decide +kernel
theorem dX12_chain_289 : decode cX12_chain 289 = .ok (.iload_n 1, 1) := by decide +kernel
theorem dX12_chain_290 : decode cX12_chain 290 = .ok (.iload 6, 2) := by decide +kernel
theorem dX12_chain_292 : decode cX12_chain 292 = .ok (.iload 9, 2) := by decide +kernel
theorem dX12_chain_294 : decode cX12_chain 294 = .ok (.iload 12, 2) := by decide +kernel
theorem dX12_chain_296 : decode cX12_chain 296 = .ok (.iload_n 2, 1) := by decide +kernel
theorem dX12_chain_297 : decode cX12_chain 297 = .ok (.invokevirtual 364, 3) := by decide +kernel
theorem dX12_chain_300 : decode cX12_chain 300 = .ok (.iinc 12 1, 3) := by decide +kernel
theorem dX12_chain_303 : decode cX12_chain 303 = .ok (.goto (-71), 3) := by decide +kernel
theorem dX12_chain_306 : decode cX12_chain 306 = .ok (.iinc 9 1, 3) := by decide +kernel
theorem dX12_chain_309 : decode cX12_chain 309 = .ok (.goto (-164), 3) := by decide +kernel
theorem dX12_chain_312 : decode cX12_chain 312 = .ok (.iinc 6 1, 3) := by decide +kernel
theorem dX12_chain_315 : decode cX12_chain 315 = .ok (.goto (-240), 3) := by decide +kernel
theorem dX12_chain_318 : decode cX12_chain 318 = .ok (.iinc 5 1, 3) := by decide +kernel
theorem dX12_chain_321 : decode cX12_chain 321 = .ok (.goto (-255), 3) := by decide +kernel
theorem dX12_chain_324 : decode cX12_chain 324 = .ok (.aload_n 0, 1) := by decide +kernel
theorem dX12_chain_325 : decode cX12_chain 325 = .ok (.getfield 357, 3) := by decide +kernel
theorem dX12_chain_328 : decode cX12_chain 328 = .ok (.lconst 0, 1) := by decide +kernel
theorem dX12_chain_329 : decode cX12_chain 329 = .ok (.lcmp, 1) := by decide +kernel
theorem dX12_chain_330 : decode cX12_chain 330 = .ok (.ifCond .ne 7, 3) := by decide +kernel
theorem dX12_chain_333 : decode cX12_chain 333 = .ok (.iconst 0, 1) := by decide +kernel
theorem dX12_chain_334 : decode cX12_chain 334 = .ok (.goto 7, 3) := by decide +kernel
theorem dX12_chain_337 : decode cX12_chain 337 = .ok (.aload_n 0, 1) := by decide +kernel
theorem dX12_chain_338 : decode cX12_chain 338 = .ok (.getfield 361, 3) := by decide +kernel
theorem dX12_chain_341 : decode cX12_chain 341 = .ok (.ireturn, 1) := by decide +kernel
theorem dX12_octet_0 : decode cX12_octet 0 = .ok (.iload_n 1, 1) := by decide +kernel
theorem dX12_octet_1 : decode cX12_octet 1 = .ok (.ifCond .lt 11, 3) := by decide +kernel
theorem dX12_octet_4 : decode cX12_octet 4 = .ok (.iload_n 1, 1) := by decide +kernel
theorem dX12_octet_5 : decode cX12_octet 5 = .ok (.aload_n 0, 1) := by decide +kernel
theorem dX12_octet_6 : decode cX12_octet 6 = .ok (.getfield 361, 3) := by decide +kernel
theorem dX12_octet_9 : decode cX12_octet 9 = .ok (.if_icmp .lt 8, 3) := by decide +kernel
theorem dX12_octet_12 : decode cX12_octet 12 = .ok (.aload_n 0, 1) := by decide +kernel
theorem dX12_octet_13 : decode cX12_octet 13 = .ok (.invokevirtual 368, 3) := by decide +kernel
theorem dX12_octet_16 : decode cX12_octet 16 = .ok (.ireturn, 1) := by decide +kernel
theorem dX12_octet_17 : decode cX12_octet 17 = .ok (.aload_n 0, 1) := by decide +kernel
theorem dX12_octet_18 : decode cX12_octet 18 = .ok (.iconst 0, 1) := by decide +kernel
theorem dX12_octet_19 : decode cX12_octet 19 = .ok (.putfield 244, 3) := by decide +kernel
theorem dX12_octet_22 : decode cX12_octet 22 = .ok (.aload_n 0, 1) := by decide +kernel
theorem dX12_octet_23 : decode cX12_octet 23 = .ok (.getfield 133, 3) := by decide +kernel
theorem dX12_octet_26 : decode cX12_octet 26 = .ok (.iload_n 1, 1) := by decide +kernel
theorem dX12_octet_27 : decode cX12_octet 27 = .ok (.iaload, 1) := by decide +kernel
theorem dX12_octet_28 : decode cX12_octet 28 = .ok (.ireturn, 1) := by decide +kernel
theorem dX12_head_0 : decode cX12_head 0 = .ok (.aload_n 0, 1) := by decide +kernel
theorem dX12_head_1 : decode cX12_head 1 = .ok (.iconst 0, 1) := by decide +kernel
theorem dX12_head_2 : decode cX12_head 2 = .ok (.putfield 244, 3) := by decide +kernel
theorem dX12_head_5 : decode cX12_head 5 = .ok (.aload_n 0, 1) := by decide +kernel
theorem dX12_head_6 : decode cX12_head 6 = .ok (.iload_n 1, 1) := by decide +kernel
theorem dX12_head_7 : decode cX12_head 7 = .ok (.invokevirtual 276, 3) := by decide +kernel
theorem dX12_head_10 : decode cX12_head 10 = .ok (.ifCond .eq 10, 3) := by decide +kernel
theorem dX12_head_13 : decode cX12_head 13 = .ok (.iload_n 2, 1) := by decide +kernel
theorem dX12_head_14 : decode cX12_head 14 = .ok (.invokestatic 279, 3) := by decide +kernel
theorem dX12_head_17 : decode cX12_head 17 = .ok (.ifCond .ne 5, 3) := by decide +kernel
theorem dX12_head_20 : decode cX12_head 20 = .ok (.iconst (-1), 1) := by decide +kernel
theorem dX12_head_21 : decode cX12_head 21 = .ok (.ireturn, 1) := by decide +kernel
theorem dX12_head_22 : decode cX12_head 22 = .ok (.aload_n 0, 1) := by decide +kernel
theorem dX12_head_23 : decode cX12_head 23 = .ok (.iload_n 2, 1) := by decide +kernel
theorem dX12_head_24 : decode cX12_head 24 = .ok (.iload_n 3, 1) := by decide +kernel
theorem dX12_head_25 : decode cX12_head 25 = .ok (.invokevirtual 349, 3) := by decide +kernel
theorem dX12_head_28 : decode cX12_head 28 = .ok (.aload_n 0, 1) := by decide +kernel
theorem dX12_head_29 : decode cX12_head 29 = .ok (.getfield 121, 3) := by decide +kernel
theorem dX12_head_32 : decode cX12_head 32 = .ok (.iload_n 1, 1) := by decide +kernel
theorem dX12_head_33 : decode cX12_head 33 = .ok (.iaload, 1) := by decide +kernel
theorem dX12_head_34 : decode cX12_head 34 = .ok (.ireturn, 1) := by decide +kernel
theorem dX12_reach_0 : decode cX12_reach 0 = .ok (.iconst 0, 1) := by decide +kernel
theorem dX12_reach_1 : decode cX12_reach 1 = .ok (.istore 4, 2) := by decide +kernel
theorem dX12_reach_3 : decode cX12_reach 3 = .ok (.iload 4, 2) := by decide +kernel
theorem dX12_reach_5 : decode cX12_reach 5 = .ok (.bipush 60, 2) := by decide +kernel
theorem dX12_reach_7 : decode cX12_reach 7 = .ok (.if_icmp .ge 17, 3) := by decide +kernel
theorem dX12_reach_10 : decode cX12_reach 10 = .ok (.aload_n 0, 1) := by decide +kernel
theorem dX12_reach_11 : decode cX12_reach 11 = .ok (.getfield 136, 3) := by decide +kernel
theorem dX12_reach_14 : decode cX12_reach 14 = .ok (.iload 4, 2) := by decide +kernel
theorem dX12_reach_16 : decode cX12_reach 16 = .ok (.iconst 5, 1) := by decide +kernel
theorem dX12_reach_17 : decode cX12_reach 17 = .ok (.iastore, 1) := by decide +kernel
theorem dX12_reach_18 : decode cX12_reach 18 = .ok (.iinc 4 1, 3) := by decide +kernel
theorem dX12_reach_21 : decode cX12_reach 21 = .ok (.goto (-18), 3) := by decide +kernel
theorem dX12_reach_24 : decode cX12_reach 24 = .ok (.aload_n 0, 1) := by decide +kernel
theorem dX12_reach_25 : decode cX12_reach 25 = .ok (.getfield 136, 3) := by decide +kernel
theorem dX12_reach_28 : decode cX12_reach 28 = .ok (.iload_n 1, 1) := by decide +kernel
theorem dX12_reach_29 : decode cX12_reach 29 = .ok (.iconst 0, 1) := by decide +kernel
theorem dX12_reach_30 : decode cX12_reach 30 = .ok (.iastore, 1) := by decide +kernel
theorem dX12_reach_31 : decode cX12_reach 31 = .ok (.iconst 0, 1) := by decide +kernel
theorem dX12_reach_32 : decode cX12_reach 32 = .ok (.istore 4, 2) := by decide +kernel
theorem dX12_reach_34 : decode cX12_reach 34 = .ok (.iload 4, 2) := by decide +kernel
theorem dX12_reach_36 : decode cX12_reach 36 = .ok (.iconst 4, 1) := by decide +kernel
theorem dX12_reach_37 : decode cX12_reach 37 = .ok (.if_icmp .ge 162, 3) := by decide +kernel
theorem dX12_reach_40 : decode cX12_reach 40 = .ok (.iconst 0, 1) := by decide +kernel
theorem dX12_reach_41 : decode cX12_reach 41 = .ok (.istore 5, 2) := by decide +kernel
theorem dX12_reach_43 : decode cX12_reach 43 = .ok (.iload 5, 2) := by decide +kernel
theorem dX12_reach_45 : decode cX12_reach 45 = .ok (.aload_n 0, 1) := by decide +kernel
theorem dX12_reach_46 : decode cX12_reach 46 = .ok (.getfield 302, 3) := by decide +kernel
theorem dX12_reach_49 : decode cX12_reach 49 = .ok (.if_icmp .ge 144, 3) := by decide +kernel
theorem dX12_reach_52 : decode cX12_reach 52 = .ok (.aload_n 0, 1) := by decide +kernel
theorem dX12_reach_53 : decode cX12_reach 53 = .ok (.getfield 54, 3) := by decide +kernel
theorem dX12_reach_56 : decode cX12_reach 56 = .ok (.iload 5, 2) := by decide +kernel
theorem dX12_reach_58 : decode cX12_reach 58 = .ok (.iaload, 1) := by decide +kernel
theorem dX12_reach_59 : decode cX12_reach 59 = .ok (.iload_n 3, 1) := by decide +kernel
theorem dX12_reach_60 : decode cX12_reach 60 = .ok (.if_icmp .gt 127, 3) := by decide +kernel
theorem dX12_reach_63 : decode cX12_reach 63 = .ok (.aload_n 0, 1) := by decide +kernel
theorem dX12_reach_64 : decode cX12_reach 64 = .ok (.getfield 48, 3) := by decide +kernel
theorem dX12_reach_67 : decode cX12_reach 67 = .ok (.iload 5, 2) := by decide +kernel
theorem dX12_reach_69 : decode cX12_reach 69 = .ok (.iaload, 1) := by decide +kernel
theorem dX12_reach_70 : decode cX12_reach 70 = .ok (.aload_n 0, 1) := by decide +kernel
theorem dX12_reach_71 : decode cX12_reach 71 = .ok (.getfield 51, 3) := by decide +kernel
theorem dX12_reach_74 : decode cX12_reach 74 = .ok (.iload 5, 2) := by decide +kernel
theorem dX12_reach_76 : decode cX12_reach 76 = .ok (.iaload, 1) := by decide +kernel
theorem dX12_reach_77 : decode cX12_reach 77 = .ok (.iload_n 2, 1) := by decide +kernel
theorem dX12_reach_78 : decode cX12_reach 78 = .ok (.invokestatic 286, 3) := by decide +kernel
theorem dX12_reach_81 : decode cX12_reach 81 = .ok (.ifCond .ne 6, 3) := by decide +kernel
theorem dX12_reach_84 : decode cX12_reach 84 = .ok (.goto 103, 3) := by decide +kernel
theorem dX12_reach_87 : decode cX12_reach 87 = .ok (.aload_n 0, 1) := by decide +kernel
theorem dX12_reach_88 : decode cX12_reach 88 = .ok (.getfield 136, 3) := by decide +kernel
theorem dX12_reach_91 : decode cX12_reach 91 = .ok (.aload_n 0, 1) := by decide +kernel
theorem dX12_reach_92 : decode cX12_reach 92 = .ok (.getfield 42, 3) := by decide +kernel
theorem dX12_reach_95 : decode cX12_reach 95 = .ok (.iload 5, 2) := by decide +kernel
theorem dX12_reach_97 : decode cX12_reach 97 = .ok (.iaload, 1) := by decide +kernel
theorem dX12_reach_98 : decode cX12_reach 98 = .ok (.iaload, 1) := by decide +kernel
theorem dX12_reach_99 : decode cX12_reach 99 = .ok (.iload 4, 2) := by decide +kernel
theorem dX12_reach_101 : decode cX12_reach 101 = .ok (.if_icmp .ne 36, 3) := by decide +kernel
theorem dX12_reach_104 : decode cX12_reach 104 = .ok (.aload_n 0, 1) := by decide +kernel
theorem dX12_reach_105 : decode cX12_reach 105 = .ok (.getfield 136, 3) := by decide +kernel
theorem dX12_reach_108 : decode cX12_reach 108 = .ok (.aload_n 0, 1) := by decide +kernel
theorem dX12_reach_109 : decode cX12_reach 109 = .ok (.getfield 45, 3) := by decide +kernel
theorem dX12_reach_112 : decode cX12_reach 112 = .ok (.iload 5, 2) := by decide +kernel
theorem dX12_reach_114 : decode cX12_reach 114 = .ok (.iaload, 1) := by decide +kernel
theorem dX12_reach_115 : decode cX12_reach 115 = .ok (.iaload, 1) := by decide +kernel
theorem dX12_reach_116 : decode cX12_reach 116 = .ok (.iload 4, 2) := by decide +kernel
theorem dX12_reach_118 : decode cX12_reach 118 = .ok (.if_icmp .le 19, 3) := by decide +kernel
theorem dX12_reach_121 : decode cX12_reach 121 = .ok (.aload_n 0, 1) := by decide +kernel
theorem dX12_reach_122 : decode cX12_reach 122 = .ok (.getfield 136, 3) := by decide +kernel
theorem dX12_reach_125 : decode cX12_reach 125 = .ok (.aload_n 0, 1) := by decide +kernel
theorem dX12_reach_126 : decode cX12_reach 126 = .ok (.getfield 45, 3) := by decide +kernel
theorem dX12_reach_129 : decode cX12_reach 129 = .ok (.iload 5, 2) := by decide +kernel
theorem dX12_reach_131 : decode cX12_reach 131 = .ok (.iaload, 1) := by decide +kernel
theorem dX12_reach_132 : decode cX12_reach 132 = .ok (.iload 4, 2) := by decide +kernel
theorem dX12_reach_134 : decode cX12_reach 134 = .ok (.iconst 1, 1) := by decide +kernel
theorem dX12_reach_135 : decode cX12_reach 135 = .ok (.iadd, 1) := by decide +kernel
theorem dX12_reach_136 : decode cX12_reach 136 = .ok (.iastore, 1) := by decide +kernel
theorem dX12_reach_137 : decode cX12_reach 137 = .ok (.aload_n 0, 1) := by decide +kernel
theorem dX12_reach_138 : decode cX12_reach 138 = .ok (.getfield 136, 3) := by decide +kernel
theorem dX12_reach_141 : decode cX12_reach 141 = .ok (.aload_n 0, 1) := by decide +kernel
theorem dX12_reach_142 : decode cX12_reach 142 = .ok (.getfield 45, 3) := by decide +kernel
theorem dX12_reach_145 : decode cX12_reach 145 = .ok (.iload 5, 2) := by decide +kernel
theorem dX12_reach_147 : decode cX12_reach 147 = .ok (.iaload, 1) := by decide +kernel
theorem dX12_reach_148 : decode cX12_reach 148 = .ok (.iaload, 1) := by decide +kernel
theorem dX12_reach_149 : decode cX12_reach 149 = .ok (.iload 4, 2) := by decide +kernel
theorem dX12_reach_151 : decode cX12_reach 151 = .ok (.if_icmp .ne 36, 3) := by decide +kernel
theorem dX12_reach_154 : decode cX12_reach 154 = .ok (.aload_n 0, 1) := by decide +kernel
theorem dX12_reach_155 : decode cX12_reach 155 = .ok (.getfield 136, 3) := by decide +kernel
theorem dX12_reach_158 : decode cX12_reach 158 = .ok (.aload_n 0, 1) := by decide +kernel
theorem dX12_reach_159 : decode cX12_reach 159 = .ok (.getfield 42, 3) := by decide +kernel
theorem dX12_reach_162 : decode cX12_reach 162 = .ok (.iload 5, 2) := by decide +kernel
theorem dX12_reach_164 : decode cX12_reach 164 = .ok (.iaload, 1) := by decide +kernel
theorem dX12_reach_165 : decode cX12_reach 165 = .ok (.iaload, 1) := by decide +kernel
theorem dX12_reach_166 : decode cX12_reach 166 = .ok (.iload 4, 2) := by decide +kernel
theorem dX12_reach_168 : decode cX12_reach 168 = .ok (.if_icmp .le 19, 3) := by decide +kernel
theorem dX12_reach_171 : decode cX12_reach 171 = .ok (.aload_n 0, 1) := by decide +kernel
theorem dX12_reach_172 : decode cX12_reach 172 = .ok (.getfield 136, 3) := by decide +kernel
theorem dX12_reach_175 : decode cX12_reach 175 = .ok (.aload_n 0, 1) := by decide +kernel
theorem dX12_reach_176 : decode cX12_reach 176 = .ok (.getfield 42, 3) := by decide +kernel
theorem dX12_reach_179 : decode cX12_reach 179 = .ok (.iload 5, 2) := by decide +kernel
theorem dX12_reach_181 : decode cX12_reach 181 = .ok (.iaload, 1) := by decide +kernel
theorem dX12_reach_182 : decode cX12_reach 182 = .ok (.iload 4, 2) := by decide +kernel
theorem dX12_reach_184 : decode cX12_reach 184 = .ok (.iconst 1, 1) := by decide +kernel
theorem dX12_reach_185 : decode cX12_reach 185 = .ok (.iadd, 1) := by decide +kernel
theorem dX12_reach_186 : decode cX12_reach 186 = .ok (.iastore, 1) := by decide +kernel
theorem dX12_reach_187 : decode cX12_reach 187 = .ok (.iinc 5 1, 3) := by decide +kernel
theorem dX12_reach_190 : decode cX12_reach 190 = .ok (.goto (-147), 3) := by decide +kernel
theorem dX12_reach_193 : decode cX12_reach 193 = .ok (.iinc 4 1, 3) := by decide +kernel
theorem dX12_reach_196 : decode cX12_reach 196 = .ok (.goto (-162), 3) := by decide +kernel
theorem dX12_reach_199 : decode cX12_reach 199 = .ok (.return_, 1) := by decide +kernel
theorem dX12_degree_0 : decode cX12_degree 0 = .ok (.aload_n 0, 1) := by decide +kernel
theorem dX12_degree_1 : decode cX12_degree 1 = .ok (.iconst 0, 1) := by decide +kernel
theorem dX12_degree_2 : decode cX12_degree 2 = .ok (.putfield 244, 3) := by decide +kernel
theorem dX12_degree_5 : decode cX12_degree 5 = .ok (.aload_n 0, 1) := by decide +kernel
theorem dX12_degree_6 : decode cX12_degree 6 = .ok (.iload_n 1, 1) := by decide +kernel
theorem dX12_degree_7 : decode cX12_degree 7 = .ok (.invokevirtual 299, 3) := by decide +kernel
theorem dX12_degree_10 : decode cX12_degree 10 = .ok (.ifCond .eq 18, 3) := by decide +kernel
theorem dX12_degree_13 : decode cX12_degree 13 = .ok (.aload_n 0, 1) := by decide +kernel
theorem dX12_degree_14 : decode cX12_degree 14 = .ok (.iload_n 2, 1) := by decide +kernel
theorem dX12_degree_15 : decode cX12_degree 15 = .ok (.invokevirtual 299, 3) := by decide +kernel
theorem dX12_degree_18 : decode cX12_degree 18 = .ok (.ifCond .eq 10, 3) := by decide +kernel
theorem dX12_degree_21 : decode cX12_degree 21 = .ok (.iload_n 3, 1) := by decide +kernel
theorem dX12_degree_22 : decode cX12_degree 22 = .ok (.invokestatic 279, 3) := by decide +kernel
theorem dX12_degree_25 : decode cX12_degree 25 = .ok (.ifCond .ne 5, 3) := by decide +kernel
theorem dX12_degree_28 : decode cX12_degree 28 = .ok (.iconst (-1), 1) := by decide +kernel
theorem dX12_degree_29 : decode cX12_degree 29 = .ok (.ireturn, 1) := by decide +kernel
theorem dX12_degree_30 : decode cX12_degree 30 = .ok (.aload_n 0, 1) := by decide +kernel
theorem dX12_degree_31 : decode cX12_degree 31 = .ok (.iload_n 1, 1) := by decide +kernel
theorem dX12_degree_32 : decode cX12_degree 32 = .ok (.iload_n 3, 1) := by decide +kernel
theorem dX12_degree_33 : decode cX12_degree 33 = .ok (.iload 4, 2) := by decide +kernel
theorem dX12_degree_35 : decode cX12_degree 35 = .ok (.invokevirtual 372, 3) := by decide +kernel
theorem dX12_degree_38 : decode cX12_degree 38 = .ok (.aload_n 0, 1) := by decide +kernel
theorem dX12_degree_39 : decode cX12_degree 39 = .ok (.getfield 136, 3) := by decide +kernel
theorem dX12_degree_42 : decode cX12_degree 42 = .ok (.iload_n 2, 1) := by decide +kernel
theorem dX12_degree_43 : decode cX12_degree 43 = .ok (.iaload, 1) := by decide +kernel
theorem dX12_degree_44 : decode cX12_degree 44 = .ok (.ireturn, 1) := by decide +kernel
theorem dX12_byteAt_0 : decode cX12_byteAt 0 = .ok (.iload_n 1, 1) := by decide +kernel
theorem dX12_byteAt_1 : decode cX12_byteAt 1 = .ok (.aload_n 0, 1) := by decide +kernel
theorem dX12_byteAt_2 : decode cX12_byteAt 2 = .ok (.getfield 376, 3) := by decide +kernel
theorem dX12_byteAt_5 : decode cX12_byteAt 5 = .ok (.if_icmp .ge 12, 3) := by decide +kernel
theorem dX12_byteAt_8 : decode cX12_byteAt 8 = .ok (.aload_n 0, 1) := by decide +kernel
theorem dX12_byteAt_9 : decode cX12_byteAt 9 = .ok (.getfield 7, 3) := by decide +kernel
theorem dX12_byteAt_12 : decode cX12_byteAt 12 = .ok (.iload_n 1, 1) := by decide +kernel
theorem dX12_byteAt_13 : decode cX12_byteAt 13 = .ok (.iaload, 1) := by decide +kernel
theorem dX12_byteAt_14 : decode cX12_byteAt 14 = .ok (.goto 4, 3) := by decide +kernel
theorem dX12_byteAt_17 : decode cX12_byteAt 17 = .ok (.iconst 0, 1) := by decide +kernel
theorem dX12_byteAt_18 : decode cX12_byteAt 18 = .ok (.ireturn, 1) := by decide +kernel
theorem dX12_isDigit_0 : decode cX12_isDigit 0 = .ok (.iload_n 0, 1) := by decide +kernel
theorem dX12_isDigit_1 : decode cX12_isDigit 1 = .ok (.bipush 48, 2) := by decide +kernel
theorem dX12_isDigit_3 : decode cX12_isDigit 3 = .ok (.if_icmp .lt 13, 3) := by decide +kernel
theorem dX12_isDigit_6 : decode cX12_isDigit 6 = .ok (.iload_n 0, 1) := by decide +kernel
theorem dX12_isDigit_7 : decode cX12_isDigit 7 = .ok (.bipush 57, 2) := by decide +kernel
theorem dX12_isDigit_9 : decode cX12_isDigit 9 = .ok (.if_icmp .gt 7, 3) := by decide +kernel
theorem dX12_isDigit_12 : decode cX12_isDigit 12 = .ok (.iconst 1, 1) := by decide +kernel
theorem dX12_isDigit_13 : decode cX12_isDigit 13 = .ok (.goto 4, 3) := by decide +kernel
theorem dX12_isDigit_16 : decode cX12_isDigit 16 = .ok (.iconst 0, 1) := by decide +kernel
theorem dX12_isDigit_17 : decode cX12_isDigit 17 = .ok (.ireturn, 1) := by decide +kernel
theorem dX12_go_0 : decode cX12_go 0 = .ok (.aload_n 0, 1) := by decide +kernel
theorem dX12_go_1 : decode cX12_go 1 = .ok (.getfield 379, 3) := by decide +kernel
theorem dX12_go_4 : decode cX12_go 4 = .ok (.aload_n 0, 1) := by decide +kernel
theorem dX12_go_5 : decode cX12_go 5 = .ok (.getfield 376, 3) := by decide +kernel
theorem dX12_go_8 : decode cX12_go 8 = .ok (.if_icmp .ge 44, 3) := by decide +kernel
theorem dX12_go_11 : decode cX12_go 11 = .ok (.aload_n 0, 1) := by decide +kernel
theorem dX12_go_12 : decode cX12_go 12 = .ok (.getfield 7, 3) := by decide +kernel
theorem dX12_go_15 : decode cX12_go 15 = .ok (.aload_n 0, 1) := by decide +kernel
theorem dX12_go_16 : decode cX12_go 16 = .ok (.getfield 379, 3) := by decide +kernel
theorem dX12_go_19 : decode cX12_go 19 = .ok (.iaload, 1) := by decide +kernel
theorem dX12_go_20 : decode cX12_go 20 = .ok (.bipush 32, 2) := by decide +kernel
theorem dX12_go_22 : decode cX12_go 22 = .ok (.if_icmp .eq 17, 3) := by decide +kernel
theorem dX12_go_25 : decode cX12_go 25 = .ok (.aload_n 0, 1) := by decide +kernel
theorem dX12_go_26 : decode cX12_go 26 = .ok (.getfield 7, 3) := by decide +kernel
theorem dX12_go_29 : decode cX12_go 29 = .ok (.aload_n 0, 1) := by decide +kernel
theorem dX12_go_30 : decode cX12_go 30 = .ok (.getfield 379, 3) := by decide +kernel
theorem dX12_go_33 : decode cX12_go 33 = .ok (.iaload, 1) := by decide +kernel
theorem dX12_go_34 : decode cX12_go 34 = .ok (.bipush 10, 2) := by decide +kernel
theorem dX12_go_36 : decode cX12_go 36 = .ok (.if_icmp .ne 16, 3) := by decide +kernel
theorem dX12_go_39 : decode cX12_go 39 = .ok (.aload_n 0, 1) := by decide +kernel
theorem dX12_go_40 : decode cX12_go 40 = .ok (.dup, 1) := by decide +kernel
theorem dX12_go_41 : decode cX12_go 41 = .ok (.getfield 379, 3) := by decide +kernel
theorem dX12_go_44 : decode cX12_go 44 = .ok (.iconst 1, 1) := by decide +kernel
theorem dX12_go_45 : decode cX12_go 45 = .ok (.iadd, 1) := by decide +kernel
theorem dX12_go_46 : decode cX12_go 46 = .ok (.putfield 379, 3) := by decide +kernel
theorem dX12_go_49 : decode cX12_go 49 = .ok (.goto (-49), 3) := by decide +kernel
theorem dX12_go_52 : decode cX12_go 52 = .ok (.aload_n 0, 1) := by decide +kernel
theorem dX12_go_53 : decode cX12_go 53 = .ok (.aload_n 0, 1) := by decide +kernel
theorem dX12_go_54 : decode cX12_go 54 = .ok (.getfield 379, 3) := by decide +kernel
theorem dX12_go_57 : decode cX12_go 57 = .ok (.putfield 382, 3) := by decide +kernel
theorem dX12_go_60 : decode cX12_go 60 = .ok (.aload_n 0, 1) := by decide +kernel
theorem dX12_go_61 : decode cX12_go 61 = .ok (.getfield 376, 3) := by decide +kernel
theorem dX12_go_64 : decode cX12_go 64 = .ok (.sipush 500, 3) := by decide +kernel
theorem dX12_go_67 : decode cX12_go 67 = .ok (.if_icmp .le 26, 3) := by decide +kernel
theorem dX12_go_70 : decode cX12_go 70 = .ok (.aload_n 0, 1) := by decide +kernel
theorem dX12_go_71 : decode cX12_go 71 = .ok (.getfield 382, 3) := by decide +kernel
theorem dX12_go_74 : decode cX12_go 74 = .ok (.sipush 500, 3) := by decide +kernel
theorem dX12_go_77 : decode cX12_go 77 = .ok (.if_icmp .lt 16, 3) := by decide +kernel
theorem dX12_go_80 : decode cX12_go 80 = .ok (.aload_n 0, 1) := by decide +kernel
theorem dX12_go_81 : decode cX12_go 81 = .ok (.sipush 500, 3) := by decide +kernel
theorem dX12_go_84 : decode cX12_go 84 = .ok (.putfield 382, 3) := by decide +kernel
theorem dX12_go_87 : decode cX12_go 87 = .ok (.aload_n 0, 1) := by decide +kernel
theorem dX12_go_88 : decode cX12_go 88 = .ok (.iconst 1, 1) := by decide +kernel
theorem dX12_go_89 : decode cX12_go 89 = .ok (.putfield 385, 3) := by decide +kernel
theorem dX12_go_92 : decode cX12_go 92 = .ok (.return_, 1) := by decide +kernel
theorem dX12_go_93 : decode cX12_go 93 = .ok (.aload_n 0, 1) := by decide +kernel
theorem dX12_go_94 : decode cX12_go 94 = .ok (.getfield 379, 3) := by decide +kernel
theorem dX12_go_97 : decode cX12_go 97 = .ok (.aload_n 0, 1) := by decide +kernel
theorem dX12_go_98 : decode cX12_go 98 = .ok (.getfield 376, 3) := by decide +kernel
theorem dX12_go_101 : decode cX12_go 101 = .ok (.if_icmp .lt 9, 3) := by decide +kernel
theorem dX12_go_104 : decode cX12_go 104 = .ok (.aload_n 0, 1) := by decide +kernel
theorem dX12_go_105 : decode cX12_go 105 = .ok (.iconst 0, 1) := by decide +kernel
theorem dX12_go_106 : decode cX12_go 106 = .ok (.putfield 385, 3) := by decide +kernel
theorem dX12_go_109 : decode cX12_go 109 = .ok (.return_, 1) := by decide +kernel
theorem dX12_go_110 : decode cX12_go 110 = .ok (.aload_n 0, 1) := by decide +kernel
theorem dX12_go_111 : decode cX12_go 111 = .ok (.getfield 7, 3) := by decide +kernel
theorem dX12_go_114 : decode cX12_go 114 = .ok (.aload_n 0, 1) := by decide +kernel
theorem dX12_go_115 : decode cX12_go 115 = .ok (.getfield 379, 3) := by decide +kernel
theorem dX12_go_118 : decode cX12_go 118 = .ok (.iaload, 1) := by decide +kernel
theorem dX12_go_119 : decode cX12_go 119 = .ok (.istore_n 1, 1) := by decide +kernel
theorem dX12_go_120 : decode cX12_go 120 = .ok (.iload_n 1, 1) := by decide +kernel
theorem dX12_go_121 : decode cX12_go 121 = .ok (.invokestatic 261, 3) := by decide +kernel
theorem dX12_go_124 : decode cX12_go 124 = .ok (.ifCond .ne 71, 3) := by decide +kernel
theorem dX12_go_127 : decode cX12_go 127 = .ok (.iload_n 1, 1) := by decide +kernel
theorem dX12_go_128 : decode cX12_go 128 = .ok (.invokestatic 388, 3) := by decide +kernel
theorem dX12_go_131 : decode cX12_go 131 = .ok (.ifCond .ne 64, 3) := by decide +kernel
theorem dX12_go_134 : decode cX12_go 134 = .ok (.aload_n 0, 1) := by decide +kernel
theorem dX12_go_135 : decode cX12_go 135 = .ok (.iload_n 1, 1) := by decide +kernel
theorem dX12_go_136 : decode cX12_go 136 = .ok (.bipush 59, 2) := by decide +kernel
theorem dX12_go_138 : decode cX12_go 138 = .ok (.if_icmp .eq 33, 3) := by decide +kernel
theorem dX12_go_141 : decode cX12_go 141 = .ok (.iload_n 1, 1) := by decide +kernel
theorem dX12_go_142 : decode cX12_go 142 = .ok (.bipush 40, 2) := by decide +kernel
theorem dX12_go_144 : decode cX12_go 144 = .ok (.if_icmp .eq 27, 3) := by decide +kernel
theorem dX12_go_147 : decode cX12_go 147 = .ok (.iload_n 1, 1) := by decide +kernel
theorem dX12_go_148 : decode cX12_go 148 = .ok (.bipush 41, 2) := by decide +kernel
theorem dX12_go_150 : decode cX12_go 150 = .ok (.if_icmp .eq 21, 3) := by decide +kernel
theorem dX12_go_153 : decode cX12_go 153 = .ok (.iload_n 1, 1) := by decide +kernel
theorem dX12_go_154 : decode cX12_go 154 = .ok (.bipush 60, 2) := by decide +kernel
theorem dX12_go_156 : decode cX12_go 156 = .ok (.if_icmp .eq 15, 3) := by decide +kernel
theorem dX12_go_159 : decode cX12_go 159 = .ok (.iload_n 1, 1) := by decide +kernel
theorem dX12_go_160 : decode cX12_go 160 = .ok (.bipush 61, 2) := by decide +kernel
theorem dX12_go_162 : decode cX12_go 162 = .ok (.if_icmp .eq 9, 3) := by decide +kernel
theorem dX12_go_165 : decode cX12_go 165 = .ok (.iload_n 1, 1) := by decide +kernel
theorem dX12_go_166 : decode cX12_go 166 = .ok (.bipush 62, 2) := by decide +kernel
theorem dX12_go_168 : decode cX12_go 168 = .ok (.if_icmp .ne 7, 3) := by decide +kernel
theorem dX12_go_171 : decode cX12_go 171 = .ok (.iconst 4, 1) := by decide +kernel
theorem dX12_go_172 : decode cX12_go 172 = .ok (.goto 4, 3) := by decide +kernel
theorem dX12_go_175 : decode cX12_go 175 = .ok (.iconst 1, 1) := by decide +kernel
theorem dX12_go_176 : decode cX12_go 176 = .ok (.putfield 385, 3) := by decide +kernel
theorem dX12_go_179 : decode cX12_go 179 = .ok (.aload_n 0, 1) := by decide +kernel
theorem dX12_go_180 : decode cX12_go 180 = .ok (.iload_n 1, 1) := by decide +kernel
theorem dX12_go_181 : decode cX12_go 181 = .ok (.putfield 391, 3) := by decide +kernel
theorem dX12_go_184 : decode cX12_go 184 = .ok (.aload_n 0, 1) := by decide +kernel
theorem dX12_go_185 : decode cX12_go 185 = .ok (.dup, 1) := by decide +kernel
theorem dX12_go_186 : decode cX12_go 186 = .ok (.getfield 379, 3) := by decide +kernel
theorem dX12_go_189 : decode cX12_go 189 = .ok (.iconst 1, 1) := by decide +kernel
theorem dX12_go_190 : decode cX12_go 190 = .ok (.iadd, 1) := by decide +kernel
theorem dX12_go_191 : decode cX12_go 191 = .ok (.putfield 379, 3) := by decide +kernel
theorem dX12_go_194 : decode cX12_go 194 = .ok (.return_, 1) := by decide +kernel
theorem dX12_go_195 : decode cX12_go 195 = .ok (.iload_n 1, 1) := by decide +kernel
theorem dX12_go_196 : decode cX12_go 196 = .ok (.invokestatic 261, 3) := by decide +kernel
theorem dX12_go_199 : decode cX12_go 199 = .ok (.istore_n 2, 1) := by decide +kernel
theorem dX12_go_200 : decode cX12_go 200 = .ok (.iconst 1, 1) := by decide +kernel
theorem dX12_go_201 : decode cX12_go 201 = .ok (.istore_n 3, 1) := by decide +kernel
theorem dX12_go_202 : decode cX12_go 202 = .ok (.aload_n 0, 1) := by decide +kernel
theorem dX12_go_203 : decode cX12_go 203 = .ok (.lconst 0, 1) := by decide +kernel
theorem dX12_go_204 : decode cX12_go 204 = .ok (.putfield 394, 3) := by decide +kernel
theorem dX12_go_207 : decode cX12_go 207 = .ok (.aload_n 0, 1) := by decide +kernel
theorem dX12_go_208 : decode cX12_go 208 = .ok (.iconst 0, 1) := by decide +kernel
theorem dX12_go_209 : decode cX12_go 209 = .ok (.putfield 397, 3) := by decide +kernel
theorem dX12_go_212 : decode cX12_go 212 = .ok (.aload_n 0, 1) := by decide +kernel
theorem dX12_go_213 : decode cX12_go 213 = .ok (.aload_n 0, 1) := by decide +kernel
theorem dX12_go_214 : decode cX12_go 214 = .ok (.getfield 379, 3) := by decide +kernel
theorem dX12_go_217 : decode cX12_go 217 = .ok (.invokevirtual 400, 3) := by decide +kernel
theorem dX12_go_220 : decode cX12_go 220 = .ok (.invokestatic 261, 3) := by decide +kernel
theorem dX12_go_223 : decode cX12_go 223 = .ok (.ifCond .ne 17, 3) := by decide +kernel
theorem dX12_go_226 : decode cX12_go 226 = .ok (.aload_n 0, 1) := by decide +kernel
theorem dX12_go_227 : decode cX12_go 227 = .ok (.aload_n 0, 1) := by decide +kernel
theorem dX12_go_228 : decode cX12_go 228 = .ok (.getfield 379, 3) := by decide +kernel
theorem dX12_go_231 : decode cX12_go 231 = .ok (.invokevirtual 400, 3) := by decide +kernel
theorem dX12_go_234 : decode cX12_go 234 = .ok (.invokestatic 388, 3) := by decide +kernel
theorem dX12_go_237 : decode cX12_go 237 = .ok (.ifCond .eq 117, 3) := by decide +kernel
theorem dX12_go_240 : decode cX12_go 240 = .ok (.aload_n 0, 1) := by decide +kernel
theorem dX12_go_241 : decode cX12_go 241 = .ok (.getfield 7, 3) := by decide +kernel
theorem dX12_go_244 : decode cX12_go 244 = .ok (.aload_n 0, 1) := by decide +kernel
theorem dX12_go_245 : decode cX12_go 245 = .ok (.getfield 379, 3) := by decide +kernel
theorem dX12_go_248 : decode cX12_go 248 = .ok (.iaload, 1) := by decide +kernel
theorem dX12_go_249 : decode cX12_go 249 = .ok (.istore 4, 2) := by decide +kernel
theorem dX12_go_251 : decode cX12_go 251 = .ok (.iload_n 3, 1) := by decide +kernel
theorem dX12_go_252 : decode cX12_go 252 = .ok (.ifCond .eq 16, 3) := by decide +kernel
theorem dX12_go_255 : decode cX12_go 255 = .ok (.iload 4, 2) := by decide +kernel
theorem dX12_go_257 : decode cX12_go 257 = .ok (.invokestatic 261, 3) := by decide +kernel
theorem dX12_go_260 : decode cX12_go 260 = .ok (.iload_n 2, 1) := by decide +kernel
theorem dX12_go_261 : decode cX12_go 261 = .ok (.if_icmp .ne 7, 3) := by decide +kernel
theorem dX12_go_264 : decode cX12_go 264 = .ok (.iconst 1, 1) := by decide +kernel
theorem dX12_go_265 : decode cX12_go 265 = .ok (.goto 4, 3) := by decide +kernel
theorem dX12_go_268 : decode cX12_go 268 = .ok (.iconst 0, 1) := by decide +kernel
theorem dX12_go_269 : decode cX12_go 269 = .ok (.istore_n 3, 1) := by decide +kernel
theorem dX12_go_270 : decode cX12_go 270 = .ok (.aload_n 0, 1) := by decide +kernel
theorem dX12_go_271 : decode cX12_go 271 = .ok (.aload_n 0, 1) := by decide +kernel
theorem dX12_go_272 : decode cX12_go 272 = .ok (.getfield 379, 3) := by decide +kernel
theorem dX12_go_275 : decode cX12_go 275 = .ok (.aload_n 0, 1) := by decide +kernel
theorem dX12_go_276 : decode cX12_go 276 = .ok (.getfield 382, 3) := by decide +kernel
theorem dX12_go_279 : decode cX12_go 279 = .ok (.isub, 1) := by decide +kernel
theorem dX12_go_280 : decode cX12_go 280 = .ok (.bipush 8, 2) := by decide +kernel
theorem dX12_go_282 : decode cX12_go 282 = .ok (.if_icmp .ge 22, 3) := by decide +kernel
theorem dX12_go_285 : decode cX12_go 285 = .ok (.ldc2_w 265, 3) := by decide +kernel
theorem dX12_go_288 : decode cX12_go 288 = .ok (.aload_n 0, 1) := by decide +kernel
theorem dX12_go_289 : decode cX12_go 289 = .ok (.getfield 394, 3) := by decide +kernel
theorem dX12_go_292 : decode cX12_go 292 = .ok (.lmul, 1) := by decide +kernel
theorem dX12_go_293 : decode cX12_go 293 = .ok (.iload 4, 2) := by decide +kernel
theorem dX12_go_295 : decode cX12_go 295 = .ok (.i2l, 1) := by decide +kernel
theorem dX12_go_296 : decode cX12_go 296 = .ok (.ladd, 1) := by decide +kernel
theorem dX12_go_297 : decode cX12_go 297 = .ok (.ldc2_w 267, 3) := by decide +kernel
theorem dX12_go_300 : decode cX12_go 300 = .ok (.lsub, 1) := by decide +kernel
theorem dX12_go_301 : decode cX12_go 301 = .ok (.goto 6, 3) := by decide +kernel
theorem dX12_go_304 : decode cX12_go 304 = .ok (.ldc2_w 347, 3) := by decide +kernel
theorem dX12_go_307 : decode cX12_go 307 = .ok (.putfield 394, 3) := by decide +kernel
theorem dX12_go_310 : decode cX12_go 310 = .ok (.aload_n 0, 1) := by decide +kernel
theorem dX12_go_311 : decode cX12_go 311 = .ok (.getfield 379, 3) := by decide +kernel
theorem dX12_go_314 : decode cX12_go 314 = .ok (.aload_n 0, 1) := by decide +kernel
theorem dX12_go_315 : decode cX12_go 315 = .ok (.getfield 382, 3) := by decide +kernel
theorem dX12_go_318 : decode cX12_go 318 = .ok (.isub, 1) := by decide +kernel
theorem dX12_go_319 : decode cX12_go 319 = .ok (.bipush 7, 2) := by decide +kernel
theorem dX12_go_321 : decode cX12_go 321 = .ok (.if_icmp .ge 20, 3) := by decide +kernel
theorem dX12_go_324 : decode cX12_go 324 = .ok (.aload_n 0, 1) := by decide +kernel
theorem dX12_go_325 : decode cX12_go 325 = .ok (.bipush 10, 2) := by decide +kernel
theorem dX12_go_327 : decode cX12_go 327 = .ok (.aload_n 0, 1) := by decide +kernel
theorem dX12_go_328 : decode cX12_go 328 = .ok (.getfield 397, 3) := by decide +kernel
theorem dX12_go_331 : decode cX12_go 331 = .ok (.imul, 1) := by decide +kernel
theorem dX12_go_332 : decode cX12_go 332 = .ok (.iload 4, 2) := by decide +kernel
theorem dX12_go_334 : decode cX12_go 334 = .ok (.iadd, 1) := by decide +kernel
theorem dX12_go_335 : decode cX12_go 335 = .ok (.bipush 48, 2) := by decide +kernel
theorem dX12_go_337 : decode cX12_go 337 = .ok (.isub, 1) := by decide +kernel
theorem dX12_go_338 : decode cX12_go 338 = .ok (.putfield 397, 3) := by decide +kernel
theorem dX12_go_341 : decode cX12_go 341 = .ok (.aload_n 0, 1) := by decide +kernel
theorem dX12_go_342 : decode cX12_go 342 = .ok (.dup, 1) := by decide +kernel
theorem dX12_go_343 : decode cX12_go 343 = .ok (.getfield 379, 3) := by decide +kernel
theorem dX12_go_346 : decode cX12_go 346 = .ok (.iconst 1, 1) := by decide +kernel
theorem dX12_go_347 : decode cX12_go 347 = .ok (.iadd, 1) := by decide +kernel
theorem dX12_go_348 : decode cX12_go 348 = .ok (.putfield 379, 3) := by decide +kernel
theorem dX12_go_351 : decode cX12_go 351 = .ok (.goto (-139), 3) := by decide +kernel
theorem dX12_go_354 : decode cX12_go 354 = .ok (.aload_n 0, 1) := by decide +kernel
theorem dX12_go_355 : decode cX12_go 355 = .ok (.iload_n 3, 1) := by decide +kernel
theorem dX12_go_356 : decode cX12_go 356 = .ok (.ifCond .eq 21, 3) := by decide +kernel
theorem dX12_go_359 : decode cX12_go 359 = .ok (.iload_n 2, 1) := by decide +kernel
theorem dX12_go_360 : decode cX12_go 360 = .ok (.ifCond .ne 21, 3) := by decide +kernel
theorem dX12_go_363 : decode cX12_go 363 = .ok (.aload_n 0, 1) := by decide +kernel
theorem dX12_go_364 : decode cX12_go 364 = .ok (.getfield 379, 3) := by decide +kernel
theorem dX12_go_367 : decode cX12_go 367 = .ok (.aload_n 0, 1) := by decide +kernel
theorem dX12_go_368 : decode cX12_go 368 = .ok (.getfield 382, 3) := by decide +kernel
theorem dX12_go_371 : decode cX12_go 371 = .ok (.isub, 1) := by decide +kernel
theorem dX12_go_372 : decode cX12_go 372 = .ok (.bipush 7, 2) := by decide +kernel
theorem dX12_go_374 : decode cX12_go 374 = .ok (.if_icmp .le 7, 3) := by decide +kernel
theorem dX12_go_377 : decode cX12_go 377 = .ok (.iconst 1, 1) := by decide +kernel
theorem dX12_go_378 : decode cX12_go 378 = .ok (.goto 12, 3) := by decide +kernel
theorem dX12_go_381 : decode cX12_go 381 = .ok (.iload_n 2, 1) := by decide +kernel
theorem dX12_go_382 : decode cX12_go 382 = .ok (.ifCond .eq 7, 3) := by decide +kernel
theorem dX12_go_385 : decode cX12_go 385 = .ok (.iconst 2, 1) := by decide +kernel
theorem dX12_go_386 : decode cX12_go 386 = .ok (.goto 4, 3) := by decide +kernel
theorem dX12_go_389 : decode cX12_go 389 = .ok (.iconst 3, 1) := by decide +kernel
theorem dX12_go_390 : decode cX12_go 390 = .ok (.putfield 385, 3) := by decide +kernel
theorem dX12_go_393 : decode cX12_go 393 = .ok (.return_, 1) := by decide +kernel
theorem dX12_spelt_0 : decode cX12_spelt 0 = .ok (.iload_n 0, 1) := by decide +kernel
theorem dX12_spelt_1 : decode cX12_spelt 1 = .ok (.i2l, 1) := by decide +kernel
theorem dX12_spelt_2 : decode cX12_spelt 2 = .ok (.ldc2_w 267, 3) := by decide +kernel
theorem dX12_spelt_5 : decode cX12_spelt 5 = .ok (.lsub, 1) := by decide +kernel
theorem dX12_spelt_6 : decode cX12_spelt 6 = .ok (.lstore 6, 2) := by decide +kernel
theorem dX12_spelt_8 : decode cX12_spelt 8 = .ok (.ldc2_w 265, 3) := by decide +kernel
theorem dX12_spelt_11 : decode cX12_spelt 11 = .ok (.lload 6, 2) := by decide +kernel
theorem dX12_spelt_13 : decode cX12_spelt 13 = .ok (.lmul, 1) := by decide +kernel
theorem dX12_spelt_14 : decode cX12_spelt 14 = .ok (.iload_n 1, 1) := by decide +kernel
theorem dX12_spelt_15 : decode cX12_spelt 15 = .ok (.i2l, 1) := by decide +kernel
theorem dX12_spelt_16 : decode cX12_spelt 16 = .ok (.ladd, 1) := by decide +kernel
theorem dX12_spelt_17 : decode cX12_spelt 17 = .ok (.ldc2_w 267, 3) := by decide +kernel
theorem dX12_spelt_20 : decode cX12_spelt 20 = .ok (.lsub, 1) := by decide +kernel
theorem dX12_spelt_21 : decode cX12_spelt 21 = .ok (.lstore 6, 2) := by decide +kernel
theorem dX12_spelt_23 : decode cX12_spelt 23 = .ok (.iload_n 2, 1) := by decide +kernel
theorem dX12_spelt_24 : decode cX12_spelt 24 = .ok (.ifCond .le 18, 3) := by decide +kernel
theorem dX12_spelt_27 : decode cX12_spelt 27 = .ok (.ldc2_w 265, 3) := by decide +kernel
theorem dX12_spelt_30 : decode cX12_spelt 30 = .ok (.lload 6, 2) := by decide +kernel
theorem dX12_spelt_32 : decode cX12_spelt 32 = .ok (.lmul, 1) := by decide +kernel
theorem dX12_spelt_33 : decode cX12_spelt 33 = .ok (.iload_n 2, 1) := by decide +kernel
theorem dX12_spelt_34 : decode cX12_spelt 34 = .ok (.i2l, 1) := by decide +kernel
theorem dX12_spelt_35 : decode cX12_spelt 35 = .ok (.ladd, 1) := by decide +kernel
theorem dX12_spelt_36 : decode cX12_spelt 36 = .ok (.ldc2_w 267, 3) := by decide +kernel
theorem dX12_spelt_39 : decode cX12_spelt 39 = .ok (.lsub, 1) := by decide +kernel
theorem dX12_spelt_40 : decode cX12_spelt 40 = .ok (.lstore 6, 2) := by decide +kernel
theorem dX12_spelt_42 : decode cX12_spelt 42 = .ok (.iload_n 3, 1) := by decide +kernel
theorem dX12_spelt_43 : decode cX12_spelt 43 = .ok (.ifCond .le 18, 3) := by decide +kernel
theorem dX12_spelt_46 : decode cX12_spelt 46 = .ok (.ldc2_w 265, 3) := by decide +kernel
theorem dX12_spelt_49 : decode cX12_spelt 49 = .ok (.lload 6, 2) := by decide +kernel
theorem dX12_spelt_51 : decode cX12_spelt 51 = .ok (.lmul, 1) := by decide +kernel
theorem dX12_spelt_52 : decode cX12_spelt 52 = .ok (.iload_n 3, 1) := by decide +kernel
theorem dX12_spelt_53 : decode cX12_spelt 53 = .ok (.i2l, 1) := by decide +kernel
theorem dX12_spelt_54 : decode cX12_spelt 54 = .ok (.ladd, 1) := by decide +kernel
theorem dX12_spelt_55 : decode cX12_spelt 55 = .ok (.ldc2_w 267, 3) := by decide +kernel
theorem dX12_spelt_58 : decode cX12_spelt 58 = .ok (.lsub, 1) := by decide +kernel
theorem dX12_spelt_59 : decode cX12_spelt 59 = .ok (.lstore 6, 2) := by decide +kernel
theorem dX12_spelt_61 : decode cX12_spelt 61 = .ok (.iload 4, 2) := by decide +kernel
theorem dX12_spelt_63 : decode cX12_spelt 63 = .ok (.ifCond .le 19, 3) := by decide +kernel
theorem dX12_spelt_66 : decode cX12_spelt 66 = .ok (.ldc2_w 265, 3) := by decide +kernel
theorem dX12_spelt_69 : decode cX12_spelt 69 = .ok (.lload 6, 2) := by decide +kernel
theorem dX12_spelt_71 : decode cX12_spelt 71 = .ok (.lmul, 1) := by decide +kernel
theorem dX12_spelt_72 : decode cX12_spelt 72 = .ok (.iload 4, 2) := by decide +kernel
theorem dX12_spelt_74 : decode cX12_spelt 74 = .ok (.i2l, 1) := by decide +kernel
theorem dX12_spelt_75 : decode cX12_spelt 75 = .ok (.ladd, 1) := by decide +kernel
theorem dX12_spelt_76 : decode cX12_spelt 76 = .ok (.ldc2_w 267, 3) := by decide +kernel
theorem dX12_spelt_79 : decode cX12_spelt 79 = .ok (.lsub, 1) := by decide +kernel
theorem dX12_spelt_80 : decode cX12_spelt 80 = .ok (.lstore 6, 2) := by decide +kernel
theorem dX12_spelt_82 : decode cX12_spelt 82 = .ok (.iload 5, 2) := by decide +kernel
theorem dX12_spelt_84 : decode cX12_spelt 84 = .ok (.ifCond .le 20, 3) := by decide +kernel
theorem dX12_spelt_87 : decode cX12_spelt 87 = .ok (.ldc2_w 265, 3) := by decide +kernel
theorem dX12_spelt_90 : decode cX12_spelt 90 = .ok (.lload 6, 2) := by decide +kernel
theorem dX12_spelt_92 : decode cX12_spelt 92 = .ok (.lmul, 1) := by decide +kernel
theorem dX12_spelt_93 : decode cX12_spelt 93 = .ok (.iload 5, 2) := by decide +kernel
theorem dX12_spelt_95 : decode cX12_spelt 95 = .ok (.i2l, 1) := by decide +kernel
theorem dX12_spelt_96 : decode cX12_spelt 96 = .ok (.ladd, 1) := by decide +kernel
theorem dX12_spelt_97 : decode cX12_spelt 97 = .ok (.ldc2_w 267, 3) := by decide +kernel
theorem dX12_spelt_100 : decode cX12_spelt 100 = .ok (.lsub, 1) := by decide +kernel
theorem dX12_spelt_101 : decode cX12_spelt 101 = .ok (.goto 5, 3) := by decide +kernel
theorem dX12_spelt_104 : decode cX12_spelt 104 = .ok (.lload 6, 2) := by decide +kernel
theorem dX12_spelt_106 : decode cX12_spelt 106 = .ok (.lreturn, 1) := by decide +kernel
theorem dX12_isKey_0 : decode cX12_isKey 0 = .ok (.aload_n 0, 1) := by decide +kernel
theorem dX12_isKey_1 : decode cX12_isKey 1 = .ok (.getfield 385, 3) := by decide +kernel
theorem dX12_isKey_4 : decode cX12_isKey 4 = .ok (.iconst 2, 1) := by decide +kernel
theorem dX12_isKey_5 : decode cX12_isKey 5 = .ok (.if_icmp .ne 16, 3) := by decide +kernel
theorem dX12_isKey_8 : decode cX12_isKey 8 = .ok (.aload_n 0, 1) := by decide +kernel
theorem dX12_isKey_9 : decode cX12_isKey 9 = .ok (.getfield 394, 3) := by decide +kernel
theorem dX12_isKey_12 : decode cX12_isKey 12 = .ok (.lload_n 1, 1) := by decide +kernel
theorem dX12_isKey_13 : decode cX12_isKey 13 = .ok (.lcmp, 1) := by decide +kernel
theorem dX12_isKey_14 : decode cX12_isKey 14 = .ok (.ifCond .ne 7, 3) := by decide +kernel
theorem dX12_isKey_17 : decode cX12_isKey 17 = .ok (.iconst 1, 1) := by decide +kernel
theorem dX12_isKey_18 : decode cX12_isKey 18 = .ok (.goto 4, 3) := by decide +kernel
theorem dX12_isKey_21 : decode cX12_isKey 21 = .ok (.iconst 0, 1) := by decide +kernel
theorem dX12_isKey_22 : decode cX12_isKey 22 = .ok (.ireturn, 1) := by decide +kernel
theorem dX12_isSign_0 : decode cX12_isSign 0 = .ok (.aload_n 0, 1) := by decide +kernel
theorem dX12_isSign_1 : decode cX12_isSign 1 = .ok (.getfield 385, 3) := by decide +kernel
theorem dX12_isSign_4 : decode cX12_isSign 4 = .ok (.iconst 4, 1) := by decide +kernel
theorem dX12_isSign_5 : decode cX12_isSign 5 = .ok (.if_icmp .ne 15, 3) := by decide +kernel
theorem dX12_isSign_8 : decode cX12_isSign 8 = .ok (.aload_n 0, 1) := by decide +kernel
theorem dX12_isSign_9 : decode cX12_isSign 9 = .ok (.getfield 391, 3) := by decide +kernel
theorem dX12_isSign_12 : decode cX12_isSign 12 = .ok (.iload_n 1, 1) := by decide +kernel
theorem dX12_isSign_13 : decode cX12_isSign 13 = .ok (.if_icmp .ne 7, 3) := by decide +kernel
theorem dX12_isSign_16 : decode cX12_isSign 16 = .ok (.iconst 1, 1) := by decide +kernel
theorem dX12_isSign_17 : decode cX12_isSign 17 = .ok (.goto 4, 3) := by decide +kernel
theorem dX12_isSign_20 : decode cX12_isSign 20 = .ok (.iconst 0, 1) := by decide +kernel
theorem dX12_isSign_21 : decode cX12_isSign 21 = .ok (.ireturn, 1) := by decide +kernel
theorem dX12_bad_0 : decode cX12_bad 0 = .ok (.aload_n 0, 1) := by decide +kernel
theorem dX12_bad_1 : decode cX12_bad 1 = .ok (.aload_n 0, 1) := by decide +kernel
theorem dX12_bad_2 : decode cX12_bad 2 = .ok (.getfield 385, 3) := by decide +kernel
theorem dX12_bad_5 : decode cX12_bad 5 = .ok (.iconst 1, 1) := by decide +kernel
theorem dX12_bad_6 : decode cX12_bad 6 = .ok (.if_icmp .ne 7, 3) := by decide +kernel
theorem dX12_bad_9 : decode cX12_bad 9 = .ok (.iconst 1, 1) := by decide +kernel
theorem dX12_bad_10 : decode cX12_bad 10 = .ok (.goto 4, 3) := by decide +kernel
theorem dX12_bad_13 : decode cX12_bad 13 = .ok (.iload_n 1, 1) := by decide +kernel
theorem dX12_bad_14 : decode cX12_bad 14 = .ok (.putfield 403, 3) := by decide +kernel
theorem dX12_bad_17 : decode cX12_bad 17 = .ok (.aload_n 0, 1) := by decide +kernel
theorem dX12_bad_18 : decode cX12_bad 18 = .ok (.aload_n 0, 1) := by decide +kernel
theorem dX12_bad_19 : decode cX12_bad 19 = .ok (.getfield 382, 3) := by decide +kernel
theorem dX12_bad_22 : decode cX12_bad 22 = .ok (.putfield 406, 3) := by decide +kernel
theorem dX12_bad_25 : decode cX12_bad 25 = .ok (.iconst 0, 1) := by decide +kernel
theorem dX12_bad_26 : decode cX12_bad 26 = .ok (.ireturn, 1) := by decide +kernel
theorem dX12_readNumber_0 : decode cX12_readNumber 0 = .ok (.aload_n 0, 1) := by decide +kernel
theorem dX12_readNumber_1 : decode cX12_readNumber 1 = .ok (.getfield 385, 3) := by decide +kernel
theorem dX12_readNumber_4 : decode cX12_readNumber 4 = .ok (.iconst 3, 1) := by decide +kernel
theorem dX12_readNumber_5 : decode cX12_readNumber 5 = .ok (.if_icmp .eq 9, 3) := by decide +kernel
theorem dX12_readNumber_8 : decode cX12_readNumber 8 = .ok (.aload_n 0, 1) := by decide +kernel
theorem dX12_readNumber_9 : decode cX12_readNumber 9 = .ok (.iconst 1, 1) := by decide +kernel
theorem dX12_readNumber_10 : decode cX12_readNumber 10 = .ok (.invokevirtual 409, 3) := by decide +kernel
theorem dX12_readNumber_13 : decode cX12_readNumber 13 = .ok (.ireturn, 1) := by decide +kernel
theorem dX12_readNumber_14 : decode cX12_readNumber 14 = .ok (.aload_n 0, 1) := by decide +kernel
theorem dX12_readNumber_15 : decode cX12_readNumber 15 = .ok (.getfield 397, 3) := by decide +kernel
theorem dX12_readNumber_18 : decode cX12_readNumber 18 = .ok (.iload_n 1, 1) := by decide +kernel
theorem dX12_readNumber_19 : decode cX12_readNumber 19 = .ok (.iload_n 2, 1) := by decide +kernel
theorem dX12_readNumber_20 : decode cX12_readNumber 20 = .ok (.invokestatic 254, 3) := by decide +kernel
theorem dX12_readNumber_23 : decode cX12_readNumber 23 = .ok (.ifCond .ne 11, 3) := by decide +kernel
theorem dX12_readNumber_26 : decode cX12_readNumber 26 = .ok (.aload_n 0, 1) := by decide +kernel
theorem dX12_readNumber_27 : decode cX12_readNumber 27 = .ok (.iconst 2, 1) := by decide +kernel
theorem dX12_readNumber_28 : decode cX12_readNumber 28 = .ok (.invokevirtual 409, 3) := by decide +kernel
theorem dX12_readNumber_31 : decode cX12_readNumber 31 = .ok (.ifCond .eq 7, 3) := by decide +kernel
theorem dX12_readNumber_34 : decode cX12_readNumber 34 = .ok (.iconst 1, 1) := by decide +kernel
theorem dX12_readNumber_35 : decode cX12_readNumber 35 = .ok (.goto 4, 3) := by decide +kernel
theorem dX12_readNumber_38 : decode cX12_readNumber 38 = .ok (.iconst 0, 1) := by decide +kernel
theorem dX12_readNumber_39 : decode cX12_readNumber 39 = .ok (.ireturn, 1) := by decide +kernel
theorem dX12_atomAtHand_0 : decode cX12_atomAtHand 0 = .ok (.aload_n 0, 1) := by decide +kernel
theorem dX12_atomAtHand_1 : decode cX12_atomAtHand 1 = .ok (.bipush 107, 2) := by decide +kernel
theorem dX12_atomAtHand_3 : decode cX12_atomAtHand 3 = .ok (.bipush 105, 2) := by decide +kernel
theorem dX12_atomAtHand_5 : decode cX12_atomAtHand 5 = .ok (.bipush 110, 2) := by decide +kernel
theorem dX12_atomAtHand_7 : decode cX12_atomAtHand 7 = .ok (.iconst 0, 1) := by decide +kernel
theorem dX12_atomAtHand_8 : decode cX12_atomAtHand 8 = .ok (.iconst 0, 1) := by decide +kernel
theorem dX12_atomAtHand_9 : decode cX12_atomAtHand 9 = .ok (.iconst 0, 1) := by decide +kernel
theorem dX12_atomAtHand_10 : decode cX12_atomAtHand 10 = .ok (.invokestatic 412, 3) := by decide +kernel
theorem dX12_atomAtHand_13 : decode cX12_atomAtHand 13 = .ok (.invokevirtual 416, 3) := by decide +kernel
theorem dX12_atomAtHand_16 : decode cX12_atomAtHand 16 = .ok (.ifCond .eq 5, 3) := by decide +kernel
theorem dX12_atomAtHand_19 : decode cX12_atomAtHand 19 = .ok (.iconst 5, 1) := by decide +kernel
theorem dX12_atomAtHand_20 : decode cX12_atomAtHand 20 = .ok (.ireturn, 1) := by decide +kernel
theorem dX12_atomAtHand_21 : decode cX12_atomAtHand 21 = .ok (.aload_n 0, 1) := by decide +kernel
theorem dX12_atomAtHand_22 : decode cX12_atomAtHand 22 = .ok (.bipush 115, 2) := by decide +kernel
theorem dX12_atomAtHand_24 : decode cX12_atomAtHand 24 = .ok (.bipush 117, 2) := by decide +kernel
theorem dX12_atomAtHand_26 : decode cX12_atomAtHand 26 = .ok (.bipush 109, 2) := by decide +kernel
theorem dX12_atomAtHand_28 : decode cX12_atomAtHand 28 = .ok (.iconst 0, 1) := by decide +kernel
theorem dX12_atomAtHand_29 : decode cX12_atomAtHand 29 = .ok (.iconst 0, 1) := by decide +kernel
theorem dX12_atomAtHand_30 : decode cX12_atomAtHand 30 = .ok (.iconst 0, 1) := by decide +kernel
theorem dX12_atomAtHand_31 : decode cX12_atomAtHand 31 = .ok (.invokestatic 412, 3) := by decide +kernel
theorem dX12_atomAtHand_34 : decode cX12_atomAtHand 34 = .ok (.invokevirtual 416, 3) := by decide +kernel
theorem dX12_atomAtHand_37 : decode cX12_atomAtHand 37 = .ok (.ifCond .eq 6, 3) := by decide +kernel
theorem dX12_atomAtHand_40 : decode cX12_atomAtHand 40 = .ok (.bipush 9, 2) := by decide +kernel
theorem dX12_atomAtHand_42 : decode cX12_atomAtHand 42 = .ok (.ireturn, 1) := by decide +kernel
theorem dX12_atomAtHand_43 : decode cX12_atomAtHand 43 = .ok (.aload_n 0, 1) := by decide +kernel
theorem dX12_atomAtHand_44 : decode cX12_atomAtHand 44 = .ok (.bipush 99, 2) := by decide +kernel
theorem dX12_atomAtHand_46 : decode cX12_atomAtHand 46 = .ok (.bipush 111, 2) := by decide +kernel
theorem dX12_atomAtHand_48 : decode cX12_atomAtHand 48 = .ok (.bipush 117, 2) := by decide +kernel
theorem dX12_atomAtHand_50 : decode cX12_atomAtHand 50 = .ok (.bipush 110, 2) := by decide +kernel
theorem dX12_atomAtHand_52 : decode cX12_atomAtHand 52 = .ok (.bipush 116, 2) := by decide +kernel
theorem dX12_atomAtHand_54 : decode cX12_atomAtHand 54 = .ok (.iconst 0, 1) := by decide +kernel
theorem dX12_atomAtHand_55 : decode cX12_atomAtHand 55 = .ok (.invokestatic 412, 3) := by decide +kernel
theorem dX12_atomAtHand_58 : decode cX12_atomAtHand 58 = .ok (.invokevirtual 416, 3) := by decide +kernel
theorem dX12_atomAtHand_61 : decode cX12_atomAtHand 61 = .ok (.ifCond .eq 6, 3) := by decide +kernel
theorem dX12_atomAtHand_64 : decode cX12_atomAtHand 64 = .ok (.bipush 10, 2) := by decide +kernel
theorem dX12_atomAtHand_66 : decode cX12_atomAtHand 66 = .ok (.ireturn, 1) := by decide +kernel
theorem dX12_atomAtHand_67 : decode cX12_atomAtHand 67 = .ok (.iload_n 1, 1) := by decide +kernel
theorem dX12_atomAtHand_68 : decode cX12_atomAtHand 68 = .ok (.ifCond .ne 90, 3) := by decide +kernel
theorem dX12_atomAtHand_71 : decode cX12_atomAtHand 71 = .ok (.aload_n 0, 1) := by decide +kernel
theorem dX12_atomAtHand_72 : decode cX12_atomAtHand 72 = .ok (.bipush 112, 2) := by decide +kernel
theorem dX12_atomAtHand_74 : decode cX12_atomAtHand 74 = .ok (.bipush 111, 2) := by decide +kernel
theorem dX12_atomAtHand_76 : decode cX12_atomAtHand 76 = .ok (.bipush 115, 2) := by decide +kernel
theorem dX12_atomAtHand_78 : decode cX12_atomAtHand 78 = .ok (.bipush 116, 2) := by decide +kernel
theorem dX12_atomAtHand_80 : decode cX12_atomAtHand 80 = .ok (.iconst 0, 1) := by decide +kernel
theorem dX12_atomAtHand_81 : decode cX12_atomAtHand 81 = .ok (.iconst 0, 1) := by decide +kernel
theorem dX12_atomAtHand_82 : decode cX12_atomAtHand 82 = .ok (.invokestatic 412, 3) := by decide +kernel
theorem dX12_atomAtHand_85 : decode cX12_atomAtHand 85 = .ok (.invokevirtual 416, 3) := by decide +kernel
theorem dX12_atomAtHand_88 : decode cX12_atomAtHand 88 = .ok (.ifCond .eq 8, 3) := by decide +kernel
theorem dX12_atomAtHand_91 : decode cX12_atomAtHand 91 = .ok (.bipush 11, 2) := by decide +kernel
theorem dX12_atomAtHand_93 : decode cX12_atomAtHand 93 = .ok (.goto 64, 3) := by decide +kernel
theorem dX12_atomAtHand_96 : decode cX12_atomAtHand 96 = .ok (.aload_n 0, 1) := by decide +kernel
theorem dX12_atomAtHand_97 : decode cX12_atomAtHand 97 = .ok (.bipush 112, 2) := by decide +kernel
theorem dX12_atomAtHand_99 : decode cX12_atomAtHand 99 = .ok (.bipush 97, 2) := by decide +kernel
theorem dX12_atomAtHand_101 : decode cX12_atomAtHand 101 = .ok (.bipush 114, 2) := by decide +kernel
theorem dX12_atomAtHand_103 : decode cX12_atomAtHand 103 = .ok (.bipush 116, 2) := by decide +kernel
theorem dX12_atomAtHand_105 : decode cX12_atomAtHand 105 = .ok (.iconst 0, 1) := by decide +kernel
theorem dX12_atomAtHand_106 : decode cX12_atomAtHand 106 = .ok (.iconst 0, 1) := by decide +kernel
theorem dX12_atomAtHand_107 : decode cX12_atomAtHand 107 = .ok (.invokestatic 412, 3) := by decide +kernel
theorem dX12_atomAtHand_110 : decode cX12_atomAtHand 110 = .ok (.invokevirtual 416, 3) := by decide +kernel
theorem dX12_atomAtHand_113 : decode cX12_atomAtHand 113 = .ok (.ifCond .eq 8, 3) := by decide +kernel
theorem dX12_atomAtHand_116 : decode cX12_atomAtHand 116 = .ok (.bipush 12, 2) := by decide +kernel
theorem dX12_atomAtHand_118 : decode cX12_atomAtHand 118 = .ok (.goto 39, 3) := by decide +kernel
theorem dX12_atomAtHand_121 : decode cX12_atomAtHand 121 = .ok (.aload_n 0, 1) := by decide +kernel
theorem dX12_atomAtHand_122 : decode cX12_atomAtHand 122 = .ok (.ldc2_w 265, 3) := by decide +kernel
theorem dX12_atomAtHand_125 : decode cX12_atomAtHand 125 = .ok (.bipush 107, 2) := by decide +kernel
theorem dX12_atomAtHand_127 : decode cX12_atomAtHand 127 = .ok (.bipush 105, 2) := by decide +kernel
theorem dX12_atomAtHand_129 : decode cX12_atomAtHand 129 = .ok (.bipush 110, 2) := by decide +kernel
theorem dX12_atomAtHand_131 : decode cX12_atomAtHand 131 = .ok (.bipush 112, 2) := by decide +kernel
theorem dX12_atomAtHand_133 : decode cX12_atomAtHand 133 = .ok (.bipush 97, 2) := by decide +kernel
theorem dX12_atomAtHand_135 : decode cX12_atomAtHand 135 = .ok (.bipush 114, 2) := by decide +kernel
theorem dX12_atomAtHand_137 : decode cX12_atomAtHand 137 = .ok (.invokestatic 412, 3) := by decide +kernel
theorem dX12_atomAtHand_140 : decode cX12_atomAtHand 140 = .ok (.lmul, 1) := by decide +kernel
theorem dX12_atomAtHand_141 : decode cX12_atomAtHand 141 = .ok (.ldc2_w 420, 3) := by decide +kernel
theorem dX12_atomAtHand_144 : decode cX12_atomAtHand 144 = .ok (.ladd, 1) := by decide +kernel
theorem dX12_atomAtHand_145 : decode cX12_atomAtHand 145 = .ok (.invokevirtual 416, 3) := by decide +kernel
theorem dX12_atomAtHand_148 : decode cX12_atomAtHand 148 = .ok (.ifCond .eq 8, 3) := by decide +kernel
theorem dX12_atomAtHand_151 : decode cX12_atomAtHand 151 = .ok (.bipush 13, 2) := by decide +kernel
theorem dX12_atomAtHand_153 : decode cX12_atomAtHand 153 = .ok (.goto 4, 3) := by decide +kernel
theorem dX12_atomAtHand_156 : decode cX12_atomAtHand 156 = .ok (.iconst (-1), 1) := by decide +kernel
theorem dX12_atomAtHand_157 : decode cX12_atomAtHand 157 = .ok (.ireturn, 1) := by decide +kernel
theorem dX12_atomAtHand_158 : decode cX12_atomAtHand 158 = .ok (.aload_n 0, 1) := by decide +kernel
theorem dX12_atomAtHand_159 : decode cX12_atomAtHand 159 = .ok (.bipush 103, 2) := by decide +kernel
theorem dX12_atomAtHand_161 : decode cX12_atomAtHand 161 = .ok (.bipush 105, 2) := by decide +kernel
theorem dX12_atomAtHand_163 : decode cX12_atomAtHand 163 = .ok (.bipush 102, 2) := by decide +kernel
theorem dX12_atomAtHand_165 : decode cX12_atomAtHand 165 = .ok (.bipush 116, 2) := by decide +kernel
theorem dX12_atomAtHand_167 : decode cX12_atomAtHand 167 = .ok (.iconst 0, 1) := by decide +kernel
theorem dX12_atomAtHand_168 : decode cX12_atomAtHand 168 = .ok (.iconst 0, 1) := by decide +kernel
theorem dX12_atomAtHand_169 : decode cX12_atomAtHand 169 = .ok (.invokestatic 412, 3) := by decide +kernel
theorem dX12_atomAtHand_172 : decode cX12_atomAtHand 172 = .ok (.invokevirtual 416, 3) := by decide +kernel
theorem dX12_atomAtHand_175 : decode cX12_atomAtHand 175 = .ok (.ifCond .eq 5, 3) := by decide +kernel
theorem dX12_atomAtHand_178 : decode cX12_atomAtHand 178 = .ok (.iconst 0, 1) := by decide +kernel
theorem dX12_atomAtHand_179 : decode cX12_atomAtHand 179 = .ok (.ireturn, 1) := by decide +kernel
theorem dX12_atomAtHand_180 : decode cX12_atomAtHand 180 = .ok (.aload_n 0, 1) := by decide +kernel
theorem dX12_atomAtHand_181 : decode cX12_atomAtHand 181 = .ok (.bipush 109, 2) := by decide +kernel
theorem dX12_atomAtHand_183 : decode cX12_atomAtHand 183 = .ok (.bipush 101, 2) := by decide +kernel
theorem dX12_atomAtHand_185 : decode cX12_atomAtHand 185 = .ok (.bipush 97, 2) := by decide +kernel
theorem dX12_atomAtHand_187 : decode cX12_atomAtHand 187 = .ok (.bipush 108, 2) := by decide +kernel
theorem dX12_atomAtHand_189 : decode cX12_atomAtHand 189 = .ok (.iconst 0, 1) := by decide +kernel
theorem dX12_atomAtHand_190 : decode cX12_atomAtHand 190 = .ok (.iconst 0, 1) := by decide +kernel
theorem dX12_atomAtHand_191 : decode cX12_atomAtHand 191 = .ok (.invokestatic 412, 3) := by decide +kernel
theorem dX12_atomAtHand_194 : decode cX12_atomAtHand 194 = .ok (.invokevirtual 416, 3) := by decide +kernel
theorem dX12_atomAtHand_197 : decode cX12_atomAtHand 197 = .ok (.ifCond .eq 5, 3) := by decide +kernel
theorem dX12_atomAtHand_200 : decode cX12_atomAtHand 200 = .ok (.iconst 1, 1) := by decide +kernel
theorem dX12_atomAtHand_201 : decode cX12_atomAtHand 201 = .ok (.ireturn, 1) := by decide +kernel
theorem dX12_atomAtHand_202 : decode cX12_atomAtHand 202 = .ok (.aload_n 0, 1) := by decide +kernel
theorem dX12_atomAtHand_203 : decode cX12_atomAtHand 203 = .ok (.ldc2_w 265, 3) := by decide +kernel
theorem dX12_atomAtHand_206 : decode cX12_atomAtHand 206 = .ok (.bipush 106, 2) := by decide +kernel
theorem dX12_atomAtHand_208 : decode cX12_atomAtHand 208 = .ok (.bipush 111, 2) := by decide +kernel
theorem dX12_atomAtHand_210 : decode cX12_atomAtHand 210 = .ok (.bipush 117, 2) := by decide +kernel
theorem dX12_atomAtHand_212 : decode cX12_atomAtHand 212 = .ok (.bipush 114, 2) := by decide +kernel
theorem dX12_atomAtHand_214 : decode cX12_atomAtHand 214 = .ok (.bipush 110, 2) := by decide +kernel
theorem dX12_atomAtHand_216 : decode cX12_atomAtHand 216 = .ok (.bipush 101, 2) := by decide +kernel
theorem dX12_atomAtHand_218 : decode cX12_atomAtHand 218 = .ok (.invokestatic 412, 3) := by decide +kernel
theorem dX12_atomAtHand_221 : decode cX12_atomAtHand 221 = .ok (.lmul, 1) := by decide +kernel
theorem dX12_atomAtHand_222 : decode cX12_atomAtHand 222 = .ok (.ldc2_w 422, 3) := by decide +kernel
theorem dX12_atomAtHand_225 : decode cX12_atomAtHand 225 = .ok (.ladd, 1) := by decide +kernel
theorem dX12_atomAtHand_226 : decode cX12_atomAtHand 226 = .ok (.invokevirtual 416, 3) := by decide +kernel
theorem dX12_atomAtHand_229 : decode cX12_atomAtHand 229 = .ok (.ifCond .eq 5, 3) := by decide +kernel
theorem dX12_atomAtHand_232 : decode cX12_atomAtHand 232 = .ok (.iconst 2, 1) := by decide +kernel
theorem dX12_atomAtHand_233 : decode cX12_atomAtHand 233 = .ok (.ireturn, 1) := by decide +kernel
theorem dX12_atomAtHand_234 : decode cX12_atomAtHand 234 = .ok (.aload_n 0, 1) := by decide +kernel
theorem dX12_atomAtHand_235 : decode cX12_atomAtHand 235 = .ok (.bipush 115, 2) := by decide +kernel
theorem dX12_atomAtHand_237 : decode cX12_atomAtHand 237 = .ok (.bipush 104, 2) := by decide +kernel
theorem dX12_atomAtHand_239 : decode cX12_atomAtHand 239 = .ok (.bipush 97, 2) := by decide +kernel
theorem dX12_atomAtHand_241 : decode cX12_atomAtHand 241 = .ok (.bipush 114, 2) := by decide +kernel
theorem dX12_atomAtHand_243 : decode cX12_atomAtHand 243 = .ok (.bipush 101, 2) := by decide +kernel
theorem dX12_atomAtHand_245 : decode cX12_atomAtHand 245 = .ok (.iconst 0, 1) := by decide +kernel
theorem dX12_atomAtHand_246 : decode cX12_atomAtHand 246 = .ok (.invokestatic 412, 3) := by decide +kernel
theorem dX12_atomAtHand_249 : decode cX12_atomAtHand 249 = .ok (.invokevirtual 416, 3) := by decide +kernel
theorem dX12_atomAtHand_252 : decode cX12_atomAtHand 252 = .ok (.ifCond .eq 5, 3) := by decide +kernel
theorem dX12_atomAtHand_255 : decode cX12_atomAtHand 255 = .ok (.iconst 3, 1) := by decide +kernel
theorem dX12_atomAtHand_256 : decode cX12_atomAtHand 256 = .ok (.ireturn, 1) := by decide +kernel
theorem dX12_atomAtHand_257 : decode cX12_atomAtHand 257 = .ok (.aload_n 0, 1) := by decide +kernel
theorem dX12_atomAtHand_258 : decode cX12_atomAtHand 258 = .ok (.ldc2_w 265, 3) := by decide +kernel
theorem dX12_atomAtHand_261 : decode cX12_atomAtHand 261 = .ok (.bipush 102, 2) := by decide +kernel
theorem dX12_atomAtHand_263 : decode cX12_atomAtHand 263 = .ok (.bipush 111, 2) := by decide +kernel
theorem dX12_atomAtHand_265 : decode cX12_atomAtHand 265 = .ok (.bipush 114, 2) := by decide +kernel
theorem dX12_atomAtHand_267 : decode cX12_atomAtHand 267 = .ok (.bipush 101, 2) := by decide +kernel
theorem dX12_atomAtHand_269 : decode cX12_atomAtHand 269 = .ok (.bipush 105, 2) := by decide +kernel
theorem dX12_atomAtHand_271 : decode cX12_atomAtHand 271 = .ok (.bipush 103, 2) := by decide +kernel
theorem dX12_atomAtHand_273 : decode cX12_atomAtHand 273 = .ok (.invokestatic 412, 3) := by decide +kernel
theorem dX12_atomAtHand_276 : decode cX12_atomAtHand 276 = .ok (.lmul, 1) := by decide +kernel
theorem dX12_atomAtHand_277 : decode cX12_atomAtHand 277 = .ok (.ldc2_w 424, 3) := by decide +kernel
theorem dX12_atomAtHand_280 : decode cX12_atomAtHand 280 = .ok (.ladd, 1) := by decide +kernel
theorem dX12_atomAtHand_281 : decode cX12_atomAtHand 281 = .ok (.invokevirtual 416, 3) := by decide +kernel
theorem dX12_atomAtHand_284 : decode cX12_atomAtHand 284 = .ok (.ifCond .eq 5, 3) := by decide +kernel
theorem dX12_atomAtHand_287 : decode cX12_atomAtHand 287 = .ok (.iconst 4, 1) := by decide +kernel
theorem dX12_atomAtHand_288 : decode cX12_atomAtHand 288 = .ok (.ireturn, 1) := by decide +kernel
theorem dX12_atomAtHand_289 : decode cX12_atomAtHand 289 = .ok (.aload_n 0, 1) := by decide +kernel
theorem dX12_atomAtHand_290 : decode cX12_atomAtHand 290 = .ok (.bipush 98, 2) := by decide +kernel
theorem dX12_atomAtHand_292 : decode cX12_atomAtHand 292 = .ok (.bipush 97, 2) := by decide +kernel
theorem dX12_atomAtHand_294 : decode cX12_atomAtHand 294 = .ok (.bipush 99, 2) := by decide +kernel
theorem dX12_atomAtHand_296 : decode cX12_atomAtHand 296 = .ok (.bipush 107, 2) := by decide +kernel
theorem dX12_atomAtHand_298 : decode cX12_atomAtHand 298 = .ok (.iconst 0, 1) := by decide +kernel
theorem dX12_atomAtHand_299 : decode cX12_atomAtHand 299 = .ok (.iconst 0, 1) := by decide +kernel
theorem dX12_atomAtHand_300 : decode cX12_atomAtHand 300 = .ok (.invokestatic 412, 3) := by decide +kernel
theorem dX12_atomAtHand_303 : decode cX12_atomAtHand 303 = .ok (.invokevirtual 416, 3) := by decide +kernel
theorem dX12_atomAtHand_306 : decode cX12_atomAtHand 306 = .ok (.ifCond .eq 6, 3) := by decide +kernel
theorem dX12_atomAtHand_309 : decode cX12_atomAtHand 309 = .ok (.bipush 6, 2) := by decide +kernel
theorem dX12_atomAtHand_311 : decode cX12_atomAtHand 311 = .ok (.ireturn, 1) := by decide +kernel
theorem dX12_atomAtHand_312 : decode cX12_atomAtHand 312 = .ok (.aload_n 0, 1) := by decide +kernel
theorem dX12_atomAtHand_313 : decode cX12_atomAtHand 313 = .ok (.bipush 108, 2) := by decide +kernel
theorem dX12_atomAtHand_315 : decode cX12_atomAtHand 315 = .ok (.bipush 101, 2) := by decide +kernel
theorem dX12_atomAtHand_317 : decode cX12_atomAtHand 317 = .ok (.bipush 97, 2) := by decide +kernel
theorem dX12_atomAtHand_319 : decode cX12_atomAtHand 319 = .ok (.bipush 115, 2) := by decide +kernel
theorem dX12_atomAtHand_321 : decode cX12_atomAtHand 321 = .ok (.bipush 116, 2) := by decide +kernel
theorem dX12_atomAtHand_323 : decode cX12_atomAtHand 323 = .ok (.iconst 0, 1) := by decide +kernel
theorem dX12_atomAtHand_324 : decode cX12_atomAtHand 324 = .ok (.invokestatic 412, 3) := by decide +kernel
theorem dX12_atomAtHand_327 : decode cX12_atomAtHand 327 = .ok (.invokevirtual 416, 3) := by decide +kernel
theorem dX12_atomAtHand_330 : decode cX12_atomAtHand 330 = .ok (.ifCond .eq 6, 3) := by decide +kernel
theorem dX12_atomAtHand_333 : decode cX12_atomAtHand 333 = .ok (.bipush 7, 2) := by decide +kernel
theorem dX12_atomAtHand_335 : decode cX12_atomAtHand 335 = .ok (.ireturn, 1) := by decide +kernel
theorem dX12_atomAtHand_336 : decode cX12_atomAtHand 336 = .ok (.aload_n 0, 1) := by decide +kernel
theorem dX12_atomAtHand_337 : decode cX12_atomAtHand 337 = .ok (.bipush 109, 2) := by decide +kernel
theorem dX12_atomAtHand_339 : decode cX12_atomAtHand 339 = .ok (.bipush 111, 2) := by decide +kernel
theorem dX12_atomAtHand_341 : decode cX12_atomAtHand 341 = .ok (.bipush 115, 2) := by decide +kernel
theorem dX12_atomAtHand_343 : decode cX12_atomAtHand 343 = .ok (.bipush 116, 2) := by decide +kernel
theorem dX12_atomAtHand_345 : decode cX12_atomAtHand 345 = .ok (.iconst 0, 1) := by decide +kernel
theorem dX12_atomAtHand_346 : decode cX12_atomAtHand 346 = .ok (.iconst 0, 1) := by decide +kernel
theorem dX12_atomAtHand_347 : decode cX12_atomAtHand 347 = .ok (.invokestatic 412, 3) := by decide +kernel
theorem dX12_atomAtHand_350 : decode cX12_atomAtHand 350 = .ok (.invokevirtual 416, 3) := by decide +kernel
theorem dX12_atomAtHand_353 : decode cX12_atomAtHand 353 = .ok (.ifCond .eq 8, 3) := by decide +kernel
theorem dX12_atomAtHand_356 : decode cX12_atomAtHand 356 = .ok (.bipush 8, 2) := by decide +kernel
theorem dX12_atomAtHand_358 : decode cX12_atomAtHand 358 = .ok (.goto 4, 3) := by decide +kernel
theorem dX12_atomAtHand_361 : decode cX12_atomAtHand 361 = .ok (.iconst (-1), 1) := by decide +kernel
theorem dX12_atomAtHand_362 : decode cX12_atomAtHand 362 = .ok (.ireturn, 1) := by decide +kernel
theorem dX12_isMeasured_0 : decode cX12_isMeasured 0 = .ok (.iload_n 0, 1) := by decide +kernel
theorem dX12_isMeasured_1 : decode cX12_isMeasured 1 = .ok (.bipush 7, 2) := by decide +kernel
theorem dX12_isMeasured_3 : decode cX12_isMeasured 3 = .ok (.if_icmp .eq 33, 3) := by decide +kernel
theorem dX12_isMeasured_6 : decode cX12_isMeasured 6 = .ok (.iload_n 0, 1) := by decide +kernel
theorem dX12_isMeasured_7 : decode cX12_isMeasured 7 = .ok (.bipush 8, 2) := by decide +kernel
theorem dX12_isMeasured_9 : decode cX12_isMeasured 9 = .ok (.if_icmp .eq 27, 3) := by decide +kernel
theorem dX12_isMeasured_12 : decode cX12_isMeasured 12 = .ok (.iload_n 0, 1) := by decide +kernel
theorem dX12_isMeasured_13 : decode cX12_isMeasured 13 = .ok (.bipush 9, 2) := by decide +kernel
theorem dX12_isMeasured_15 : decode cX12_isMeasured 15 = .ok (.if_icmp .eq 21, 3) := by decide +kernel
theorem dX12_isMeasured_18 : decode cX12_isMeasured 18 = .ok (.iload_n 0, 1) := by decide +kernel
theorem dX12_isMeasured_19 : decode cX12_isMeasured 19 = .ok (.bipush 10, 2) := by decide +kernel
theorem dX12_isMeasured_21 : decode cX12_isMeasured 21 = .ok (.if_icmp .eq 15, 3) := by decide +kernel
theorem dX12_isMeasured_24 : decode cX12_isMeasured 24 = .ok (.iload_n 0, 1) := by decide +kernel
theorem dX12_isMeasured_25 : decode cX12_isMeasured 25 = .ok (.bipush 12, 2) := by decide +kernel
theorem dX12_isMeasured_27 : decode cX12_isMeasured 27 = .ok (.if_icmp .eq 9, 3) := by decide +kernel
theorem dX12_isMeasured_30 : decode cX12_isMeasured 30 = .ok (.iload_n 0, 1) := by decide +kernel
theorem dX12_isMeasured_31 : decode cX12_isMeasured 31 = .ok (.bipush 13, 2) := by decide +kernel
theorem dX12_isMeasured_33 : decode cX12_isMeasured 33 = .ok (.if_icmp .ne 7, 3) := by decide +kernel
theorem dX12_isMeasured_36 : decode cX12_isMeasured 36 = .ok (.iconst 1, 1) := by decide +kernel
theorem dX12_isMeasured_37 : decode cX12_isMeasured 37 = .ok (.goto 4, 3) := by decide +kernel
theorem dX12_isMeasured_40 : decode cX12_isMeasured 40 = .ok (.iconst 0, 1) := by decide +kernel
theorem dX12_isMeasured_41 : decode cX12_isMeasured 41 = .ok (.ireturn, 1) := by decide +kernel
theorem dX12_emit_0 : decode cX12_emit 0 = .ok (.aload_n 0, 1) := by decide +kernel
theorem dX12_emit_1 : decode cX12_emit 1 = .ok (.getfield 160, 3) := by decide +kernel
theorem dX12_emit_4 : decode cX12_emit 4 = .ok (.sipush 1200, 3) := by decide +kernel
theorem dX12_emit_7 : decode cX12_emit 7 = .ok (.aload_n 0, 1) := by decide +kernel
theorem dX12_emit_8 : decode cX12_emit 8 = .ok (.getfield 426, 3) := by decide +kernel
theorem dX12_emit_11 : decode cX12_emit 11 = .ok (.iadd, 1) := by decide +kernel
theorem dX12_emit_12 : decode cX12_emit 12 = .ok (.iload_n 1, 1) := by decide +kernel
theorem dX12_emit_13 : decode cX12_emit 13 = .ok (.iastore, 1) := by decide +kernel
theorem dX12_emit_14 : decode cX12_emit 14 = .ok (.aload_n 0, 1) := by decide +kernel
theorem dX12_emit_15 : decode cX12_emit 15 = .ok (.dup, 1) := by decide +kernel
theorem dX12_emit_16 : decode cX12_emit 16 = .ok (.getfield 426, 3) := by decide +kernel
theorem dX12_emit_19 : decode cX12_emit 19 = .ok (.iconst 1, 1) := by decide +kernel
theorem dX12_emit_20 : decode cX12_emit 20 = .ok (.iadd, 1) := by decide +kernel
theorem dX12_emit_21 : decode cX12_emit 21 = .ok (.putfield 426, 3) := by decide +kernel
theorem dX12_emit_24 : decode cX12_emit 24 = .ok (.return_, 1) := by decide +kernel
theorem dX12_drop_0 : decode cX12_drop 0 = .ok (.aload_n 0, 1) := by decide +kernel
theorem dX12_drop_1 : decode cX12_drop 1 = .ok (.dup, 1) := by decide +kernel
theorem dX12_drop_2 : decode cX12_drop 2 = .ok (.getfield 429, 3) := by decide +kernel
theorem dX12_drop_5 : decode cX12_drop 5 = .ok (.iconst 1, 1) := by decide +kernel
theorem dX12_drop_6 : decode cX12_drop 6 = .ok (.isub, 1) := by decide +kernel
theorem dX12_drop_7 : decode cX12_drop 7 = .ok (.putfield 429, 3) := by decide +kernel
theorem dX12_drop_10 : decode cX12_drop 10 = .ok (.aload_n 0, 1) := by decide +kernel
theorem dX12_drop_11 : decode cX12_drop 11 = .ok (.aload_n 0, 1) := by decide +kernel
theorem dX12_drop_12 : decode cX12_drop 12 = .ok (.getfield 178, 3) := by decide +kernel
theorem dX12_drop_15 : decode cX12_drop 15 = .ok (.aload_n 0, 1) := by decide +kernel
theorem dX12_drop_16 : decode cX12_drop 16 = .ok (.getfield 429, 3) := by decide +kernel
theorem dX12_drop_19 : decode cX12_drop 19 = .ok (.iaload, 1) := by decide +kernel
theorem dX12_drop_20 : decode cX12_drop 20 = .ok (.invokevirtual 432, 3) := by decide +kernel
theorem dX12_drop_23 : decode cX12_drop 23 = .ok (.return_, 1) := by decide +kernel
theorem dX12_turnNots_0 : decode cX12_turnNots 0 = .ok (.aload_n 0, 1) := by decide +kernel
theorem dX12_turnNots_1 : decode cX12_turnNots 1 = .ok (.getfield 429, 3) := by decide +kernel
theorem dX12_turnNots_4 : decode cX12_turnNots 4 = .ok (.ifCond .le 36, 3) := by decide +kernel
theorem dX12_turnNots_7 : decode cX12_turnNots 7 = .ok (.aload_n 0, 1) := by decide +kernel
theorem dX12_turnNots_8 : decode cX12_turnNots 8 = .ok (.getfield 178, 3) := by decide +kernel
theorem dX12_turnNots_11 : decode cX12_turnNots 11 = .ok (.aload_n 0, 1) := by decide +kernel
theorem dX12_turnNots_12 : decode cX12_turnNots 12 = .ok (.getfield 429, 3) := by decide +kernel
theorem dX12_turnNots_15 : decode cX12_turnNots 15 = .ok (.iconst 1, 1) := by decide +kernel
theorem dX12_turnNots_16 : decode cX12_turnNots 16 = .ok (.isub, 1) := by decide +kernel
theorem dX12_turnNots_17 : decode cX12_turnNots 17 = .ok (.iaload, 1) := by decide +kernel
theorem dX12_turnNots_18 : decode cX12_turnNots 18 = .ok (.bipush 20, 2) := by decide +kernel
theorem dX12_turnNots_20 : decode cX12_turnNots 20 = .ok (.if_icmp .ne 20, 3) := by decide +kernel
theorem dX12_turnNots_23 : decode cX12_turnNots 23 = .ok (.aload_n 0, 1) := by decide +kernel
theorem dX12_turnNots_24 : decode cX12_turnNots 24 = .ok (.invokevirtual 435, 3) := by decide +kernel
theorem dX12_turnNots_27 : decode cX12_turnNots 27 = .ok (.aload_n 0, 1) := by decide +kernel
theorem dX12_turnNots_28 : decode cX12_turnNots 28 = .ok (.dup, 1) := by decide +kernel
theorem dX12_turnNots_29 : decode cX12_turnNots 29 = .ok (.getfield 438, 3) := by decide +kernel
theorem dX12_turnNots_32 : decode cX12_turnNots 32 = .ok (.iconst 1, 1) := by decide +kernel
theorem dX12_turnNots_33 : decode cX12_turnNots 33 = .ok (.isub, 1) := by decide +kernel
theorem dX12_turnNots_34 : decode cX12_turnNots 34 = .ok (.putfield 438, 3) := by decide +kernel
theorem dX12_turnNots_37 : decode cX12_turnNots 37 = .ok (.goto (-37), 3) := by decide +kernel
theorem dX12_turnNots_40 : decode cX12_turnNots 40 = .ok (.return_, 1) := by decide +kernel
theorem dX12_push_0 : decode cX12_push 0 = .ok (.aload_n 0, 1) := by decide +kernel
theorem dX12_push_1 : decode cX12_push 1 = .ok (.getfield 178, 3) := by decide +kernel
theorem dX12_push_4 : decode cX12_push 4 = .ok (.aload_n 0, 1) := by decide +kernel
theorem dX12_push_5 : decode cX12_push 5 = .ok (.getfield 429, 3) := by decide +kernel
theorem dX12_push_8 : decode cX12_push 8 = .ok (.iload_n 1, 1) := by decide +kernel
theorem dX12_push_9 : decode cX12_push 9 = .ok (.iastore, 1) := by decide +kernel
theorem dX12_push_10 : decode cX12_push 10 = .ok (.aload_n 0, 1) := by decide +kernel
theorem dX12_push_11 : decode cX12_push 11 = .ok (.dup, 1) := by decide +kernel
theorem dX12_push_12 : decode cX12_push 12 = .ok (.getfield 429, 3) := by decide +kernel
theorem dX12_push_15 : decode cX12_push 15 = .ok (.iconst 1, 1) := by decide +kernel
theorem dX12_push_16 : decode cX12_push 16 = .ok (.iadd, 1) := by decide +kernel
theorem dX12_push_17 : decode cX12_push 17 = .ok (.putfield 429, 3) := by decide +kernel
theorem dX12_push_20 : decode cX12_push 20 = .ok (.iload_n 1, 1) := by decide +kernel
theorem dX12_push_21 : decode cX12_push 21 = .ok (.bipush 20, 2) := by decide +kernel
theorem dX12_push_23 : decode cX12_push 23 = .ok (.if_icmp .eq 9, 3) := by decide +kernel
theorem dX12_push_26 : decode cX12_push 26 = .ok (.iload_n 1, 1) := by decide +kernel
theorem dX12_push_27 : decode cX12_push 27 = .ok (.bipush 23, 2) := by decide +kernel
theorem dX12_push_29 : decode cX12_push 29 = .ok (.if_icmp .ne 13, 3) := by decide +kernel
theorem dX12_push_32 : decode cX12_push 32 = .ok (.aload_n 0, 1) := by decide +kernel
theorem dX12_push_33 : decode cX12_push 33 = .ok (.dup, 1) := by decide +kernel
theorem dX12_push_34 : decode cX12_push 34 = .ok (.getfield 438, 3) := by decide +kernel
theorem dX12_push_37 : decode cX12_push 37 = .ok (.iconst 1, 1) := by decide +kernel
theorem dX12_push_38 : decode cX12_push 38 = .ok (.iadd, 1) := by decide +kernel
theorem dX12_push_39 : decode cX12_push 39 = .ok (.putfield 438, 3) := by decide +kernel
theorem dX12_push_42 : decode cX12_push 42 = .ok (.iload_n 1, 1) := by decide +kernel
theorem dX12_push_43 : decode cX12_push 43 = .ok (.bipush 23, 2) := by decide +kernel
theorem dX12_push_45 : decode cX12_push 45 = .ok (.if_icmp .ne 13, 3) := by decide +kernel
theorem dX12_push_48 : decode cX12_push 48 = .ok (.aload_n 0, 1) := by decide +kernel
theorem dX12_push_49 : decode cX12_push 49 = .ok (.dup, 1) := by decide +kernel
theorem dX12_push_50 : decode cX12_push 50 = .ok (.getfield 441, 3) := by decide +kernel
theorem dX12_push_53 : decode cX12_push 53 = .ok (.iconst 1, 1) := by decide +kernel
theorem dX12_push_54 : decode cX12_push 54 = .ok (.iadd, 1) := by decide +kernel
theorem dX12_push_55 : decode cX12_push 55 = .ok (.putfield 441, 3) := by decide +kernel
theorem dX12_push_58 : decode cX12_push 58 = .ok (.aload_n 0, 1) := by decide +kernel
theorem dX12_push_59 : decode cX12_push 59 = .ok (.invokevirtual 444, 3) := by decide +kernel
theorem dX12_push_62 : decode cX12_push 62 = .ok (.return_, 1) := by decide +kernel
theorem dX12_readOne_0 : decode cX12_readOne 0 = .ok (.aload_n 0, 1) := by decide +kernel
theorem dX12_readOne_1 : decode cX12_readOne 1 = .ok (.iload_n 1, 1) := by decide +kernel
theorem dX12_readOne_2 : decode cX12_readOne 2 = .ok (.invokevirtual 447, 3) := by decide +kernel
theorem dX12_readOne_5 : decode cX12_readOne 5 = .ok (.istore_n 2, 1) := by decide +kernel
theorem dX12_readOne_6 : decode cX12_readOne 6 = .ok (.aload_n 0, 1) := by decide +kernel
theorem dX12_readOne_7 : decode cX12_readOne 7 = .ok (.bipush 110, 2) := by decide +kernel
theorem dX12_readOne_9 : decode cX12_readOne 9 = .ok (.bipush 111, 2) := by decide +kernel
theorem dX12_readOne_11 : decode cX12_readOne 11 = .ok (.bipush 116, 2) := by decide +kernel
theorem dX12_readOne_13 : decode cX12_readOne 13 = .ok (.iconst 0, 1) := by decide +kernel
theorem dX12_readOne_14 : decode cX12_readOne 14 = .ok (.iconst 0, 1) := by decide +kernel
theorem dX12_readOne_15 : decode cX12_readOne 15 = .ok (.iconst 0, 1) := by decide +kernel
theorem dX12_readOne_16 : decode cX12_readOne 16 = .ok (.invokestatic 412, 3) := by decide +kernel
theorem dX12_readOne_19 : decode cX12_readOne 19 = .ok (.invokevirtual 416, 3) := by decide +kernel
theorem dX12_readOne_22 : decode cX12_readOne 22 = .ok (.istore_n 3, 1) := by decide +kernel
theorem dX12_readOne_23 : decode cX12_readOne 23 = .ok (.aload_n 0, 1) := by decide +kernel
theorem dX12_readOne_24 : decode cX12_readOne 24 = .ok (.bipush 40, 2) := by decide +kernel
theorem dX12_readOne_26 : decode cX12_readOne 26 = .ok (.invokevirtual 451, 3) := by decide +kernel
theorem dX12_readOne_29 : decode cX12_readOne 29 = .ok (.istore 4, 2) := by decide +kernel
theorem dX12_readOne_31 : decode cX12_readOne 31 = .ok (.iload_n 2, 1) := by decide +kernel
theorem dX12_readOne_32 : decode cX12_readOne 32 = .ok (.iconst (-1), 1) := by decide +kernel
theorem dX12_readOne_33 : decode cX12_readOne 33 = .ok (.if_icmp .ne 18, 3) := by decide +kernel
theorem dX12_readOne_36 : decode cX12_readOne 36 = .ok (.iload_n 3, 1) := by decide +kernel
theorem dX12_readOne_37 : decode cX12_readOne 37 = .ok (.ifCond .ne 14, 3) := by decide +kernel
theorem dX12_readOne_40 : decode cX12_readOne 40 = .ok (.iload 4, 2) := by decide +kernel
theorem dX12_readOne_42 : decode cX12_readOne 42 = .ok (.ifCond .ne 9, 3) := by decide +kernel
theorem dX12_readOne_45 : decode cX12_readOne 45 = .ok (.aload_n 0, 1) := by decide +kernel
theorem dX12_readOne_46 : decode cX12_readOne 46 = .ok (.iconst 1, 1) := by decide +kernel
theorem dX12_readOne_47 : decode cX12_readOne 47 = .ok (.invokevirtual 409, 3) := by decide +kernel
theorem dX12_readOne_50 : decode cX12_readOne 50 = .ok (.ireturn, 1) := by decide +kernel
theorem dX12_readOne_51 : decode cX12_readOne 51 = .ok (.aload_n 0, 1) := by decide +kernel
theorem dX12_readOne_52 : decode cX12_readOne 52 = .ok (.getfield 454, 3) := by decide +kernel
theorem dX12_readOne_55 : decode cX12_readOne 55 = .ok (.bipush 60, 2) := by decide +kernel
theorem dX12_readOne_57 : decode cX12_readOne 57 = .ok (.if_icmp .eq 12, 3) := by decide +kernel
theorem dX12_readOne_60 : decode cX12_readOne 60 = .ok (.aload_n 0, 1) := by decide +kernel
theorem dX12_readOne_61 : decode cX12_readOne 61 = .ok (.getfield 438, 3) := by decide +kernel
theorem dX12_readOne_64 : decode cX12_readOne 64 = .ok (.bipush 20, 2) := by decide +kernel
theorem dX12_readOne_66 : decode cX12_readOne 66 = .ok (.if_icmp .lt 9, 3) := by decide +kernel
theorem dX12_readOne_69 : decode cX12_readOne 69 = .ok (.aload_n 0, 1) := by decide +kernel
theorem dX12_readOne_70 : decode cX12_readOne 70 = .ok (.iconst 4, 1) := by decide +kernel
theorem dX12_readOne_71 : decode cX12_readOne 71 = .ok (.invokevirtual 409, 3) := by decide +kernel
theorem dX12_readOne_74 : decode cX12_readOne 74 = .ok (.ireturn, 1) := by decide +kernel
theorem dX12_readOne_75 : decode cX12_readOne 75 = .ok (.aload_n 0, 1) := by decide +kernel
theorem dX12_readOne_76 : decode cX12_readOne 76 = .ok (.dup, 1) := by decide +kernel
theorem dX12_readOne_77 : decode cX12_readOne 77 = .ok (.getfield 454, 3) := by decide +kernel
theorem dX12_readOne_80 : decode cX12_readOne 80 = .ok (.iconst 1, 1) := by decide +kernel
theorem dX12_readOne_81 : decode cX12_readOne 81 = .ok (.iadd, 1) := by decide +kernel
theorem dX12_readOne_82 : decode cX12_readOne 82 = .ok (.putfield 454, 3) := by decide +kernel
theorem dX12_readOne_85 : decode cX12_readOne 85 = .ok (.iload_n 3, 1) := by decide +kernel
