theorem dX4_begin_20 : decode cX4_begin 20 = .ok (.aload_n 0, 1) := by decide +kernel
theorem dX4_begin_21 : decode cX4_begin 21 = .ok (.getfield 31, 3) := by decide +kernel
theorem dX4_begin_24 : decode cX4_begin 24 = .ok (.iload_n 1, 1) := by decide +kernel
theorem dX4_begin_25 : decode cX4_begin 25 = .ok (.aload_n 0, 1) := by decide +kernel
theorem dX4_begin_26 : decode cX4_begin 26 = .ok (.getfield 58, 3) := by decide +kernel
theorem dX4_begin_29 : decode cX4_begin 29 = .ok (.iastore, 1) := by decide +kernel
theorem dX4_begin_30 : decode cX4_begin 30 = .ok (.return_, 1) := by decide +kernel
theorem dX4_finish_0 : decode cX4_finish 0 = .ok (.iload_n 1, 1) := by decide +kernel
theorem dX4_finish_1 : decode cX4_finish 1 = .ok (.ifCond .lt 19, 3) := by decide +kernel
theorem dX4_finish_4 : decode cX4_finish 4 = .ok (.iload_n 1, 1) := by decide +kernel
theorem dX4_finish_5 : decode cX4_finish 5 = .ok (.bipush 10, 2) := by decide +kernel
theorem dX4_finish_7 : decode cX4_finish 7 = .ok (.if_icmp .ge 13, 3) := by decide +kernel
theorem dX4_finish_10 : decode cX4_finish 10 = .ok (.aload_n 0, 1) := by decide +kernel
theorem dX4_finish_11 : decode cX4_finish 11 = .ok (.getfield 31, 3) := by decide +kernel
theorem dX4_finish_14 : decode cX4_finish 14 = .ok (.iload_n 1, 1) := by decide +kernel
theorem dX4_finish_15 : decode cX4_finish 15 = .ok (.aload_n 0, 1) := by decide +kernel
theorem dX4_finish_16 : decode cX4_finish 16 = .ok (.getfield 58, 3) := by decide +kernel
theorem dX4_finish_19 : decode cX4_finish 19 = .ok (.iastore, 1) := by decide +kernel
theorem dX4_finish_20 : decode cX4_finish 20 = .ok (.return_, 1) := by decide +kernel
theorem dX4_put_0 : decode cX4_put 0 = .ok (.aload_n 0, 1) := by decide +kernel
theorem dX4_put_1 : decode cX4_put 1 = .ok (.getfield 58, 3) := by decide +kernel
theorem dX4_put_4 : decode cX4_put 4 = .ok (.ifCond .lt 52, 3) := by decide +kernel
theorem dX4_put_7 : decode cX4_put 7 = .ok (.aload_n 0, 1) := by decide +kernel
theorem dX4_put_8 : decode cX4_put 8 = .ok (.getfield 58, 3) := by decide +kernel
theorem dX4_put_11 : decode cX4_put 11 = .ok (.bipush 120, 2) := by decide +kernel
theorem dX4_put_13 : decode cX4_put 13 = .ok (.if_icmp .ge 43, 3) := by decide +kernel
theorem dX4_put_16 : decode cX4_put 16 = .ok (.aload_n 0, 1) := by decide +kernel
theorem dX4_put_17 : decode cX4_put 17 = .ok (.getfield 34, 3) := by decide +kernel
theorem dX4_put_20 : decode cX4_put 20 = .ok (.aload_n 0, 1) := by decide +kernel
theorem dX4_put_21 : decode cX4_put 21 = .ok (.getfield 58, 3) := by decide +kernel
theorem dX4_put_24 : decode cX4_put 24 = .ok (.iload_n 1, 1) := by decide +kernel
theorem dX4_put_25 : decode cX4_put 25 = .ok (.iastore, 1) := by decide +kernel
theorem dX4_put_26 : decode cX4_put 26 = .ok (.aload_n 0, 1) := by decide +kernel
theorem dX4_put_27 : decode cX4_put 27 = .ok (.getfield 37, 3) := by decide +kernel
theorem dX4_put_30 : decode cX4_put 30 = .ok (.aload_n 0, 1) := by decide +kernel
theorem dX4_put_31 : decode cX4_put 31 = .ok (.getfield 58, 3) := by decide +kernel
theorem dX4_put_34 : decode cX4_put 34 = .ok (.iload_n 2, 1) := by decide +kernel
theorem dX4_put_35 : decode cX4_put 35 = .ok (.iastore, 1) := by decide +kernel
theorem dX4_put_36 : decode cX4_put 36 = .ok (.aload_n 0, 1) := by decide +kernel
theorem dX4_put_37 : decode cX4_put 37 = .ok (.getfield 40, 3) := by decide +kernel
theorem dX4_put_40 : decode cX4_put 40 = .ok (.aload_n 0, 1) := by decide +kernel
theorem dX4_put_41 : decode cX4_put 41 = .ok (.getfield 58, 3) := by decide +kernel
theorem dX4_put_44 : decode cX4_put 44 = .ok (.iload_n 3, 1) := by decide +kernel
theorem dX4_put_45 : decode cX4_put 45 = .ok (.iastore, 1) := by decide +kernel
theorem dX4_put_46 : decode cX4_put 46 = .ok (.aload_n 0, 1) := by decide +kernel
theorem dX4_put_47 : decode cX4_put 47 = .ok (.dup, 1) := by decide +kernel
theorem dX4_put_48 : decode cX4_put 48 = .ok (.getfield 58, 3) := by decide +kernel
theorem dX4_put_51 : decode cX4_put 51 = .ok (.iconst 1, 1) := by decide +kernel
theorem dX4_put_52 : decode cX4_put 52 = .ok (.iadd, 1) := by decide +kernel
theorem dX4_put_53 : decode cX4_put 53 = .ok (.putfield 58, 3) := by decide +kernel
theorem dX4_put_56 : decode cX4_put 56 = .ok (.return_, 1) := by decide +kernel
theorem dX4_uses_0 : decode cX4_uses 0 = .ok (.iconst 0, 1) := by decide +kernel
theorem dX4_uses_1 : decode cX4_uses 1 = .ok (.istore_n 2, 1) := by decide +kernel
theorem dX4_uses_2 : decode cX4_uses 2 = .ok (.iload_n 2, 1) := by decide +kernel
theorem dX4_uses_3 : decode cX4_uses 3 = .ok (.aload_n 0, 1) := by decide +kernel
theorem dX4_uses_4 : decode cX4_uses 4 = .ok (.getfield 58, 3) := by decide +kernel
theorem dX4_uses_7 : decode cX4_uses 7 = .ok (.if_icmp .ge 27, 3) := by decide +kernel
theorem dX4_uses_10 : decode cX4_uses 10 = .ok (.iload_n 2, 1) := by decide +kernel
theorem dX4_uses_11 : decode cX4_uses 11 = .ok (.bipush 120, 2) := by decide +kernel
theorem dX4_uses_13 : decode cX4_uses 13 = .ok (.if_icmp .ge 21, 3) := by decide +kernel
theorem dX4_uses_16 : decode cX4_uses 16 = .ok (.aload_n 0, 1) := by decide +kernel
theorem dX4_uses_17 : decode cX4_uses 17 = .ok (.getfield 34, 3) := by decide +kernel
theorem dX4_uses_20 : decode cX4_uses 20 = .ok (.iload_n 2, 1) := by decide +kernel
theorem dX4_uses_21 : decode cX4_uses 21 = .ok (.iaload, 1) := by decide +kernel
theorem dX4_uses_22 : decode cX4_uses 22 = .ok (.iload_n 1, 1) := by decide +kernel
theorem dX4_uses_23 : decode cX4_uses 23 = .ok (.if_icmp .ne 5, 3) := by decide +kernel
theorem dX4_uses_26 : decode cX4_uses 26 = .ok (.iconst 1, 1) := by decide +kernel
theorem dX4_uses_27 : decode cX4_uses 27 = .ok (.ireturn, 1) := by decide +kernel
theorem dX4_uses_28 : decode cX4_uses 28 = .ok (.iinc 2 1, 3) := by decide +kernel
theorem dX4_uses_31 : decode cX4_uses 31 = .ok (.goto (-29), 3) := by decide +kernel
theorem dX4_uses_34 : decode cX4_uses 34 = .ok (.iconst 0, 1) := by decide +kernel
theorem dX4_uses_35 : decode cX4_uses 35 = .ok (.ireturn, 1) := by decide +kernel
theorem dX4_holds_0 : decode cX4_holds 0 = .ok (.iload_n 1, 1) := by decide +kernel
theorem dX4_holds_1 : decode cX4_holds 1 = .ok (.ifCond .lt 28, 3) := by decide +kernel
theorem dX4_holds_4 : decode cX4_holds 4 = .ok (.iload_n 1, 1) := by decide +kernel
theorem dX4_holds_5 : decode cX4_holds 5 = .ok (.bipush 10, 2) := by decide +kernel
theorem dX4_holds_7 : decode cX4_holds 7 = .ok (.if_icmp .ge 22, 3) := by decide +kernel
theorem dX4_holds_10 : decode cX4_holds 10 = .ok (.aload_n 2, 1) := by decide +kernel
theorem dX4_holds_11 : decode cX4_holds 11 = .ok (.ifnull 18, 3) := by decide +kernel
theorem dX4_holds_14 : decode cX4_holds 14 = .ok (.aload_n 0, 1) := by decide +kernel
theorem dX4_holds_15 : decode cX4_holds 15 = .ok (.getfield 28, 3) := by decide +kernel
theorem dX4_holds_18 : decode cX4_holds 18 = .ok (.iload_n 1, 1) := by decide +kernel
theorem dX4_holds_19 : decode cX4_holds 19 = .ok (.iaload, 1) := by decide +kernel
theorem dX4_holds_20 : decode cX4_holds 20 = .ok (.aload_n 0, 1) := by decide +kernel
theorem dX4_holds_21 : decode cX4_holds 21 = .ok (.getfield 31, 3) := by decide +kernel
theorem dX4_holds_24 : decode cX4_holds 24 = .ok (.iload_n 1, 1) := by decide +kernel
theorem dX4_holds_25 : decode cX4_holds 25 = .ok (.iaload, 1) := by decide +kernel
theorem dX4_holds_26 : decode cX4_holds 26 = .ok (.if_icmp .lt 5, 3) := by decide +kernel
theorem dX4_holds_29 : decode cX4_holds 29 = .ok (.iconst 0, 1) := by decide +kernel
theorem dX4_holds_30 : decode cX4_holds 30 = .ok (.ireturn, 1) := by decide +kernel
theorem dX4_holds_31 : decode cX4_holds 31 = .ok (.lconst 0, 1) := by decide +kernel
theorem dX4_holds_32 : decode cX4_holds 32 = .ok (.lstore_n 3, 1) := by decide +kernel
theorem dX4_holds_33 : decode cX4_holds 33 = .ok (.aload_n 0, 1) := by decide +kernel
theorem dX4_holds_34 : decode cX4_holds 34 = .ok (.getfield 28, 3) := by decide +kernel
theorem dX4_holds_37 : decode cX4_holds 37 = .ok (.iload_n 1, 1) := by decide +kernel
theorem dX4_holds_38 : decode cX4_holds 38 = .ok (.iaload, 1) := by decide +kernel
theorem dX4_holds_39 : decode cX4_holds 39 = .ok (.istore 5, 2) := by decide +kernel
theorem dX4_holds_41 : decode cX4_holds 41 = .ok (.iload 5, 2) := by decide +kernel
theorem dX4_holds_43 : decode cX4_holds 43 = .ok (.aload_n 0, 1) := by decide +kernel
theorem dX4_holds_44 : decode cX4_holds 44 = .ok (.getfield 31, 3) := by decide +kernel
theorem dX4_holds_47 : decode cX4_holds 47 = .ok (.iload_n 1, 1) := by decide +kernel
theorem dX4_holds_48 : decode cX4_holds 48 = .ok (.iaload, 1) := by decide +kernel
theorem dX4_holds_49 : decode cX4_holds 49 = .ok (.if_icmp .ge 119, 3) := by decide +kernel
theorem dX4_holds_52 : decode cX4_holds 52 = .ok (.iload 5, 2) := by decide +kernel
theorem dX4_holds_54 : decode cX4_holds 54 = .ok (.ifCond .lt 114, 3) := by decide +kernel
theorem dX4_holds_57 : decode cX4_holds 57 = .ok (.iload 5, 2) := by decide +kernel
theorem dX4_holds_59 : decode cX4_holds 59 = .ok (.bipush 120, 2) := by decide +kernel
theorem dX4_holds_61 : decode cX4_holds 61 = .ok (.if_icmp .ge 107, 3) := by decide +kernel
theorem dX4_holds_64 : decode cX4_holds 64 = .ok (.aload_n 0, 1) := by decide +kernel
theorem dX4_holds_65 : decode cX4_holds 65 = .ok (.getfield 34, 3) := by decide +kernel
theorem dX4_holds_68 : decode cX4_holds 68 = .ok (.iload 5, 2) := by decide +kernel
theorem dX4_holds_70 : decode cX4_holds 70 = .ok (.iaload, 1) := by decide +kernel
theorem dX4_holds_71 : decode cX4_holds 71 = .ok (.bipush 14, 2) := by decide +kernel
theorem dX4_holds_73 : decode cX4_holds 73 = .ok (.if_icmp .ne 10, 3) := by decide +kernel
theorem dX4_holds_76 : decode cX4_holds 76 = .ok (.lload_n 3, 1) := by decide +kernel
theorem dX4_holds_77 : decode cX4_holds 77 = .ok (.lconst 1, 1) := by decide +kernel
theorem dX4_holds_78 : decode cX4_holds 78 = .ok (.lxor, 1) := by decide +kernel
theorem dX4_holds_79 : decode cX4_holds 79 = .ok (.lstore_n 3, 1) := by decide +kernel
theorem dX4_holds_80 : decode cX4_holds 80 = .ok (.goto 82, 3) := by decide +kernel
theorem dX4_holds_83 : decode cX4_holds 83 = .ok (.aload_n 0, 1) := by decide +kernel
theorem dX4_holds_84 : decode cX4_holds 84 = .ok (.getfield 34, 3) := by decide +kernel
theorem dX4_holds_87 : decode cX4_holds 87 = .ok (.iload 5, 2) := by decide +kernel
theorem dX4_holds_89 : decode cX4_holds 89 = .ok (.iaload, 1) := by decide +kernel
theorem dX4_holds_90 : decode cX4_holds 90 = .ok (.bipush 15, 2) := by decide +kernel
theorem dX4_holds_92 : decode cX4_holds 92 = .ok (.if_icmp .ne 20, 3) := by decide +kernel
theorem dX4_holds_95 : decode cX4_holds 95 = .ok (.lload_n 3, 1) := by decide +kernel
theorem dX4_holds_96 : decode cX4_holds 96 = .ok (.iconst 2, 1) := by decide +kernel
theorem dX4_holds_97 : decode cX4_holds 97 = .ok (.lushr, 1) := by decide +kernel
theorem dX4_holds_98 : decode cX4_holds 98 = .ok (.iconst 1, 1) := by decide +kernel
theorem dX4_holds_99 : decode cX4_holds 99 = .ok (.lshl, 1) := by decide +kernel
theorem dX4_holds_100 : decode cX4_holds 100 = .ok (.lload_n 3, 1) := by decide +kernel
theorem dX4_holds_101 : decode cX4_holds 101 = .ok (.lload_n 3, 1) := by decide +kernel
theorem dX4_holds_102 : decode cX4_holds 102 = .ok (.iconst 1, 1) := by decide +kernel
theorem dX4_holds_103 : decode cX4_holds 103 = .ok (.lushr, 1) := by decide +kernel
theorem dX4_holds_104 : decode cX4_holds 104 = .ok (.land, 1) := by decide +kernel
theorem dX4_holds_105 : decode cX4_holds 105 = .ok (.lconst 1, 1) := by decide +kernel
theorem dX4_holds_106 : decode cX4_holds 106 = .ok (.land, 1) := by decide +kernel
theorem dX4_holds_107 : decode cX4_holds 107 = .ok (.lor, 1) := by decide +kernel
theorem dX4_holds_108 : decode cX4_holds 108 = .ok (.lstore_n 3, 1) := by decide +kernel
theorem dX4_holds_109 : decode cX4_holds 109 = .ok (.goto 53, 3) := by decide +kernel
theorem dX4_holds_112 : decode cX4_holds 112 = .ok (.aload_n 0, 1) := by decide +kernel
theorem dX4_holds_113 : decode cX4_holds 113 = .ok (.getfield 34, 3) := by decide +kernel
theorem dX4_holds_116 : decode cX4_holds 116 = .ok (.iload 5, 2) := by decide +kernel
theorem dX4_holds_118 : decode cX4_holds 118 = .ok (.iaload, 1) := by decide +kernel
theorem dX4_holds_119 : decode cX4_holds 119 = .ok (.bipush 16, 2) := by decide +kernel
theorem dX4_holds_121 : decode cX4_holds 121 = .ok (.if_icmp .ne 20, 3) := by decide +kernel
theorem dX4_holds_124 : decode cX4_holds 124 = .ok (.lload_n 3, 1) := by decide +kernel
theorem dX4_holds_125 : decode cX4_holds 125 = .ok (.iconst 2, 1) := by decide +kernel
theorem dX4_holds_126 : decode cX4_holds 126 = .ok (.lushr, 1) := by decide +kernel
theorem dX4_holds_127 : decode cX4_holds 127 = .ok (.iconst 1, 1) := by decide +kernel
theorem dX4_holds_128 : decode cX4_holds 128 = .ok (.lshl, 1) := by decide +kernel
theorem dX4_holds_129 : decode cX4_holds 129 = .ok (.lload_n 3, 1) := by decide +kernel
theorem dX4_holds_130 : decode cX4_holds 130 = .ok (.lload_n 3, 1) := by decide +kernel
theorem dX4_holds_131 : decode cX4_holds 131 = .ok (.iconst 1, 1) := by decide +kernel
theorem dX4_holds_132 : decode cX4_holds 132 = .ok (.lushr, 1) := by decide +kernel
theorem dX4_holds_133 : decode cX4_holds 133 = .ok (.lor, 1) := by decide +kernel
theorem dX4_holds_134 : decode cX4_holds 134 = .ok (.lconst 1, 1) := by decide +kernel
theorem dX4_holds_135 : decode cX4_holds 135 = .ok (.land, 1) := by decide +kernel
theorem dX4_holds_136 : decode cX4_holds 136 = .ok (.lor, 1) := by decide +kernel
theorem dX4_holds_137 : decode cX4_holds 137 = .ok (.lstore_n 3, 1) := by decide +kernel
theorem dX4_holds_138 : decode cX4_holds 138 = .ok (.goto 24, 3) := by decide +kernel
theorem dX4_holds_141 : decode cX4_holds 141 = .ok (.lload_n 3, 1) := by decide +kernel
theorem dX4_holds_142 : decode cX4_holds 142 = .ok (.iconst 1, 1) := by decide +kernel
theorem dX4_holds_143 : decode cX4_holds 143 = .ok (.lshl, 1) := by decide +kernel
theorem dX4_holds_144 : decode cX4_holds 144 = .ok (.aload_n 0, 1) := by decide +kernel
theorem dX4_holds_145 : decode cX4_holds 145 = .ok (.iload 5, 2) := by decide +kernel
theorem dX4_holds_147 : decode cX4_holds 147 = .ok (.aload_n 2, 1) := by decide +kernel
theorem dX4_holds_148 : decode cX4_holds 148 = .ok (.invokevirtual 67, 3) := by decide +kernel
theorem dX4_holds_151 : decode cX4_holds 151 = .ok (.ifCond .eq 7, 3) := by decide +kernel
theorem dX4_holds_154 : decode cX4_holds 154 = .ok (.iconst 1, 1) := by decide +kernel
theorem dX4_holds_155 : decode cX4_holds 155 = .ok (.goto 4, 3) := by decide +kernel
theorem dX4_holds_158 : decode cX4_holds 158 = .ok (.iconst 0, 1) := by decide +kernel
theorem dX4_holds_159 : decode cX4_holds 159 = .ok (.i2l, 1) := by decide +kernel
theorem dX4_holds_160 : decode cX4_holds 160 = .ok (.lor, 1) := by decide +kernel
theorem dX4_holds_161 : decode cX4_holds 161 = .ok (.lstore_n 3, 1) := by decide +kernel
theorem dX4_holds_162 : decode cX4_holds 162 = .ok (.iinc 5 1, 3) := by decide +kernel
theorem dX4_holds_165 : decode cX4_holds 165 = .ok (.goto (-124), 3) := by decide +kernel
theorem dX4_holds_168 : decode cX4_holds 168 = .ok (.lload_n 3, 1) := by decide +kernel
theorem dX4_holds_169 : decode cX4_holds 169 = .ok (.lconst 1, 1) := by decide +kernel
theorem dX4_holds_170 : decode cX4_holds 170 = .ok (.land, 1) := by decide +kernel
theorem dX4_holds_171 : decode cX4_holds 171 = .ok (.lconst 0, 1) := by decide +kernel
theorem dX4_holds_172 : decode cX4_holds 172 = .ok (.lcmp, 1) := by decide +kernel
theorem dX4_holds_173 : decode cX4_holds 173 = .ok (.ifCond .eq 7, 3) := by decide +kernel
theorem dX4_holds_176 : decode cX4_holds 176 = .ok (.iconst 1, 1) := by decide +kernel
theorem dX4_holds_177 : decode cX4_holds 177 = .ok (.goto 4, 3) := by decide +kernel
theorem dX4_holds_180 : decode cX4_holds 180 = .ok (.iconst 0, 1) := by decide +kernel
theorem dX4_holds_181 : decode cX4_holds 181 = .ok (.ireturn, 1) := by decide +kernel
theorem dX4_isTrue_0 : decode cX4_isTrue 0 = .ok (.iload_n 1, 1) := by decide +kernel
theorem dX4_isTrue_1 : decode cX4_isTrue 1 = .ok (.ifCond .lt 29, 3) := by decide +kernel
theorem dX4_isTrue_4 : decode cX4_isTrue 4 = .ok (.iload_n 1, 1) := by decide +kernel
theorem dX4_isTrue_5 : decode cX4_isTrue 5 = .ok (.bipush 120, 2) := by decide +kernel
theorem dX4_isTrue_7 : decode cX4_isTrue 7 = .ok (.if_icmp .ge 23, 3) := by decide +kernel
theorem dX4_isTrue_10 : decode cX4_isTrue 10 = .ok (.aload_n 0, 1) := by decide +kernel
theorem dX4_isTrue_11 : decode cX4_isTrue 11 = .ok (.getfield 34, 3) := by decide +kernel
theorem dX4_isTrue_14 : decode cX4_isTrue 14 = .ok (.iload_n 1, 1) := by decide +kernel
theorem dX4_isTrue_15 : decode cX4_isTrue 15 = .ok (.iaload, 1) := by decide +kernel
theorem dX4_isTrue_16 : decode cX4_isTrue 16 = .ok (.ifCond .lt 14, 3) := by decide +kernel
theorem dX4_isTrue_19 : decode cX4_isTrue 19 = .ok (.aload_n 0, 1) := by decide +kernel
theorem dX4_isTrue_20 : decode cX4_isTrue 20 = .ok (.getfield 34, 3) := by decide +kernel
theorem dX4_isTrue_23 : decode cX4_isTrue 23 = .ok (.iload_n 1, 1) := by decide +kernel
theorem dX4_isTrue_24 : decode cX4_isTrue 24 = .ok (.iaload, 1) := by decide +kernel
theorem dX4_isTrue_25 : decode cX4_isTrue 25 = .ok (.aload_n 2, 1) := by decide +kernel
theorem dX4_isTrue_26 : decode cX4_isTrue 26 = .ok (.arraylength, 1) := by decide +kernel
theorem dX4_isTrue_27 : decode cX4_isTrue 27 = .ok (.if_icmp .lt 5, 3) := by decide +kernel
theorem dX4_isTrue_30 : decode cX4_isTrue 30 = .ok (.iconst 0, 1) := by decide +kernel
theorem dX4_isTrue_31 : decode cX4_isTrue 31 = .ok (.ireturn, 1) := by decide +kernel
theorem dX4_isTrue_32 : decode cX4_isTrue 32 = .ok (.aload_n 2, 1) := by decide +kernel
theorem dX4_isTrue_33 : decode cX4_isTrue 33 = .ok (.aload_n 0, 1) := by decide +kernel
theorem dX4_isTrue_34 : decode cX4_isTrue 34 = .ok (.getfield 34, 3) := by decide +kernel
theorem dX4_isTrue_37 : decode cX4_isTrue 37 = .ok (.iload_n 1, 1) := by decide +kernel
theorem dX4_isTrue_38 : decode cX4_isTrue 38 = .ok (.iaload, 1) := by decide +kernel
theorem dX4_isTrue_39 : decode cX4_isTrue 39 = .ok (.iaload, 1) := by decide +kernel
theorem dX4_isTrue_40 : decode cX4_isTrue 40 = .ok (.istore_n 3, 1) := by decide +kernel
theorem dX4_isTrue_41 : decode cX4_isTrue 41 = .ok (.aload_n 0, 1) := by decide +kernel
theorem dX4_isTrue_42 : decode cX4_isTrue 42 = .ok (.getfield 37, 3) := by decide +kernel
theorem dX4_isTrue_45 : decode cX4_isTrue 45 = .ok (.iload_n 1, 1) := by decide +kernel
theorem dX4_isTrue_46 : decode cX4_isTrue 46 = .ok (.iaload, 1) := by decide +kernel
theorem dX4_isTrue_47 : decode cX4_isTrue 47 = .ok (.tableswitch 73 60 62 #[25, 41, 57], 25) := by decide +kernel
theorem dX4_isTrue_72 : decode cX4_isTrue 72 = .ok (.iload_n 3, 1) := by decide +kernel
theorem dX4_isTrue_73 : decode cX4_isTrue 73 = .ok (.aload_n 0, 1) := by decide +kernel
theorem dX4_isTrue_74 : decode cX4_isTrue 74 = .ok (.getfield 40, 3) := by decide +kernel
theorem dX4_isTrue_77 : decode cX4_isTrue 77 = .ok (.iload_n 1, 1) := by decide +kernel
theorem dX4_isTrue_78 : decode cX4_isTrue 78 = .ok (.iaload, 1) := by decide +kernel
theorem dX4_isTrue_79 : decode cX4_isTrue 79 = .ok (.if_icmp .ge 7, 3) := by decide +kernel
theorem dX4_isTrue_82 : decode cX4_isTrue 82 = .ok (.iconst 1, 1) := by decide +kernel
theorem dX4_isTrue_83 : decode cX4_isTrue 83 = .ok (.goto 4, 3) := by decide +kernel
theorem dX4_isTrue_86 : decode cX4_isTrue 86 = .ok (.iconst 0, 1) := by decide +kernel
theorem dX4_isTrue_87 : decode cX4_isTrue 87 = .ok (.ireturn, 1) := by decide +kernel
theorem dX4_isTrue_88 : decode cX4_isTrue 88 = .ok (.iload_n 3, 1) := by decide +kernel
theorem dX4_isTrue_89 : decode cX4_isTrue 89 = .ok (.aload_n 0, 1) := by decide +kernel
theorem dX4_isTrue_90 : decode cX4_isTrue 90 = .ok (.getfield 40, 3) := by decide +kernel
theorem dX4_isTrue_93 : decode cX4_isTrue 93 = .ok (.iload_n 1, 1) := by decide +kernel
theorem dX4_isTrue_94 : decode cX4_isTrue 94 = .ok (.iaload, 1) := by decide +kernel
theorem dX4_isTrue_95 : decode cX4_isTrue 95 = .ok (.if_icmp .ne 7, 3) := by decide +kernel
theorem dX4_isTrue_98 : decode cX4_isTrue 98 = .ok (.iconst 1, 1) := by decide +kernel
theorem dX4_isTrue_99 : decode cX4_isTrue 99 = .ok (.goto 4, 3) := by decide +kernel
theorem dX4_isTrue_102 : decode cX4_isTrue 102 = .ok (.iconst 0, 1) := by decide +kernel
theorem dX4_isTrue_103 : decode cX4_isTrue 103 = .ok (.ireturn, 1) := by decide +kernel
theorem dX4_isTrue_104 : decode cX4_isTrue 104 = .ok (.iload_n 3, 1) := by decide +kernel
theorem dX4_isTrue_105 : decode cX4_isTrue 105 = .ok (.aload_n 0, 1) := by decide +kernel
theorem dX4_isTrue_106 : decode cX4_isTrue 106 = .ok (.getfield 40, 3) := by decide +kernel
theorem dX4_isTrue_109 : decode cX4_isTrue 109 = .ok (.iload_n 1, 1) := by decide +kernel
theorem dX4_isTrue_110 : decode cX4_isTrue 110 = .ok (.iaload, 1) := by decide +kernel
theorem dX4_isTrue_111 : decode cX4_isTrue 111 = .ok (.if_icmp .le 7, 3) := by decide +kernel
theorem dX4_isTrue_114 : decode cX4_isTrue 114 = .ok (.iconst 1, 1) := by decide +kernel
theorem dX4_isTrue_115 : decode cX4_isTrue 115 = .ok (.goto 4, 3) := by decide +kernel
theorem dX4_isTrue_118 : decode cX4_isTrue 118 = .ok (.iconst 0, 1) := by decide +kernel
theorem dX4_isTrue_119 : decode cX4_isTrue 119 = .ok (.ireturn, 1) := by decide +kernel
theorem dX4_isTrue_120 : decode cX4_isTrue 120 = .ok (.iload_n 3, 1) := by decide +kernel
theorem dX4_isTrue_121 : decode cX4_isTrue 121 = .ok (.ifCond .eq 7, 3) := by decide +kernel
theorem dX4_isTrue_124 : decode cX4_isTrue 124 = .ok (.iconst 1, 1) := by decide +kernel
theorem dX4_isTrue_125 : decode cX4_isTrue 125 = .ok (.goto 4, 3) := by decide +kernel
theorem dX4_isTrue_128 : decode cX4_isTrue 128 = .ok (.iconst 0, 1) := by decide +kernel
theorem dX4_isTrue_129 : decode cX4_isTrue 129 = .ok (.ireturn, 1) := by decide +kernel
theorem dX5_init_0 : decode cX5_init 0 = .ok (.aload_n 0, 1) := by decide +kernel
theorem dX5_init_1 : decode cX5_init 1 = .ok (.invokespecial 3, 3) := by decide +kernel
theorem dX5_init_4 : decode cX5_init 4 = .ok (.aload_n 0, 1) := by decide +kernel
theorem dX5_init_5 : decode cX5_init 5 = .ok (.bipush 6, 2) := by decide +kernel
theorem dX5_init_7 : decode cX5_init 7 = .ok (.anewarray 11, 3) := by decide +kernel
theorem dX5_init_10 : decode cX5_init 10 = .ok (.putfield 13, 3) := by decide +kernel
theorem dX5_init_13 : decode cX5_init 13 = .ok (.aload_n 0, 1) := by decide +kernel
theorem dX5_init_14 : decode cX5_init 14 = .ok (.new 11, 3) := by decide +kernel
theorem dX5_init_17 : decode cX5_init 17 = .ok (.dup, 1) := by decide +kernel
theorem dX5_init_18 : decode cX5_init 18 = .ok (.invokespecial 17, 3) := by decide +kernel
theorem dX5_init_21 : decode cX5_init 21 = .ok (.putfield 18, 3) := by decide +kernel
theorem dX5_init_24 : decode cX5_init 24 = .ok (.aload_n 0, 1) := by decide +kernel
theorem dX5_init_25 : decode cX5_init 25 = .ok (.new 22, 3) := by decide +kernel
theorem dX5_init_28 : decode cX5_init 28 = .ok (.dup, 1) := by decide +kernel
theorem dX5_init_29 : decode cX5_init 29 = .ok (.invokespecial 24, 3) := by decide +kernel
theorem dX5_init_32 : decode cX5_init 32 = .ok (.putfield 25, 3) := by decide +kernel
theorem dX5_init_35 : decode cX5_init 35 = .ok (.aload_n 0, 1) := by decide +kernel
theorem dX5_init_36 : decode cX5_init 36 = .ok (.aload_n 0, 1) := by decide +kernel
theorem dX5_init_37 : decode cX5_init 37 = .ok (.getfield 18, 3) := by decide +kernel
theorem dX5_init_40 : decode cX5_init 40 = .ok (.putfield 29, 3) := by decide +kernel
theorem dX5_init_43 : decode cX5_init 43 = .ok (.aload_n 0, 1) := by decide +kernel
theorem dX5_init_44 : decode cX5_init 44 = .ok (.bipush 64, 2) := by decide +kernel
theorem dX5_init_46 : decode cX5_init 46 = .ok (.newarray .int, 2) := by decide +kernel
theorem dX5_init_48 : decode cX5_init 48 = .ok (.putfield 32, 3) := by decide +kernel
theorem dX5_init_51 : decode cX5_init 51 = .ok (.iconst 0, 1) := by decide +kernel
theorem dX5_init_52 : decode cX5_init 52 = .ok (.istore_n 1, 1) := by decide +kernel
theorem dX5_init_53 : decode cX5_init 53 = .ok (.iload_n 1, 1) := by decide +kernel
theorem dX5_init_54 : decode cX5_init 54 = .ok (.bipush 6, 2) := by decide +kernel
theorem dX5_init_56 : decode cX5_init 56 = .ok (.if_icmp .ge 22, 3) := by decide +kernel
theorem dX5_init_59 : decode cX5_init 59 = .ok (.aload_n 0, 1) := by decide +kernel
theorem dX5_init_60 : decode cX5_init 60 = .ok (.getfield 13, 3) := by decide +kernel
theorem dX5_init_63 : decode cX5_init 63 = .ok (.iload_n 1, 1) := by decide +kernel
theorem dX5_init_64 : decode cX5_init 64 = .ok (.new 11, 3) := by decide +kernel
theorem dX5_init_67 : decode cX5_init 67 = .ok (.dup, 1) := by decide +kernel
theorem dX5_init_68 : decode cX5_init 68 = .ok (.invokespecial 17, 3) := by decide +kernel
theorem dX5_init_71 : decode cX5_init 71 = .ok (.aastore, 1) := by decide +kernel
theorem dX5_init_72 : decode cX5_init 72 = .ok (.iinc 1 1, 3) := by decide +kernel
theorem dX5_init_75 : decode cX5_init 75 = .ok (.goto (-22), 3) := by decide +kernel
theorem dX5_init_78 : decode cX5_init 78 = .ok (.return_, 1) := by decide +kernel
theorem dX5_total_0 : decode cX5_total 0 = .ok (.aload_n 0, 1) := by decide +kernel
theorem dX5_total_1 : decode cX5_total 1 = .ok (.getfield 36, 3) := by decide +kernel
theorem dX5_total_4 : decode cX5_total 4 = .ok (.ireturn, 1) := by decide +kernel
theorem dX5_lastFault_0 : decode cX5_lastFault 0 = .ok (.aload_n 0, 1) := by decide +kernel
theorem dX5_lastFault_1 : decode cX5_lastFault 1 = .ok (.getfield 40, 3) := by decide +kernel
theorem dX5_lastFault_4 : decode cX5_lastFault 4 = .ok (.ireturn, 1) := by decide +kernel
theorem dX5_inForce_0 : decode cX5_inForce 0 = .ok (.aload_n 0, 1) := by decide +kernel
theorem dX5_inForce_1 : decode cX5_inForce 1 = .ok (.getfield 18, 3) := by decide +kernel
theorem dX5_inForce_4 : decode cX5_inForce 4 = .ok (.astore_n 3, 1) := by decide +kernel
theorem dX5_inForce_5 : decode cX5_inForce 5 = .ok (.iconst (-1), 1) := by decide +kernel
theorem dX5_inForce_6 : decode cX5_inForce 6 = .ok (.istore 4, 2) := by decide +kernel
theorem dX5_inForce_8 : decode cX5_inForce 8 = .ok (.iconst 0, 1) := by decide +kernel
theorem dX5_inForce_9 : decode cX5_inForce 9 = .ok (.istore 5, 2) := by decide +kernel
theorem dX5_inForce_11 : decode cX5_inForce 11 = .ok (.iload 5, 2) := by decide +kernel
theorem dX5_inForce_13 : decode cX5_inForce 13 = .ok (.aload_n 0, 1) := by decide +kernel
theorem dX5_inForce_14 : decode cX5_inForce 14 = .ok (.getfield 36, 3) := by decide +kernel
theorem dX5_inForce_17 : decode cX5_inForce 17 = .ok (.if_icmp .ge 60, 3) := by decide +kernel
theorem dX5_inForce_20 : decode cX5_inForce 20 = .ok (.iload 5, 2) := by decide +kernel
theorem dX5_inForce_22 : decode cX5_inForce 22 = .ok (.bipush 6, 2) := by decide +kernel
theorem dX5_inForce_24 : decode cX5_inForce 24 = .ok (.if_icmp .ge 53, 3) := by decide +kernel
theorem dX5_inForce_27 : decode cX5_inForce 27 = .ok (.aload_n 0, 1) := by decide +kernel
theorem dX5_inForce_28 : decode cX5_inForce 28 = .ok (.getfield 13, 3) := by decide +kernel
theorem dX5_inForce_31 : decode cX5_inForce 31 = .ok (.iload 5, 2) := by decide +kernel
theorem dX5_inForce_33 : decode cX5_inForce 33 = .ok (.aaload, 1) := by decide +kernel
theorem dX5_inForce_34 : decode cX5_inForce 34 = .ok (.astore 6, 2) := by decide +kernel
theorem dX5_inForce_36 : decode cX5_inForce 36 = .ok (.aload 6, 2) := by decide +kernel
theorem dX5_inForce_38 : decode cX5_inForce 38 = .ok (.ifnull 33, 3) := by decide +kernel
theorem dX5_inForce_41 : decode cX5_inForce 41 = .ok (.aload 6, 2) := by decide +kernel
theorem dX5_inForce_43 : decode cX5_inForce 43 = .ok (.iload_n 1, 1) := by decide +kernel
theorem dX5_inForce_44 : decode cX5_inForce 44 = .ok (.iload_n 2, 1) := by decide +kernel
theorem dX5_inForce_45 : decode cX5_inForce 45 = .ok (.invokevirtual 43, 3) := by decide +kernel
theorem dX5_inForce_48 : decode cX5_inForce 48 = .ok (.ifCond .eq 23, 3) := by decide +kernel
theorem dX5_inForce_51 : decode cX5_inForce 51 = .ok (.aload 6, 2) := by decide +kernel
theorem dX5_inForce_53 : decode cX5_inForce 53 = .ok (.invokevirtual 47, 3) := by decide +kernel
theorem dX5_inForce_56 : decode cX5_inForce 56 = .ok (.iload 4, 2) := by decide +kernel
theorem dX5_inForce_58 : decode cX5_inForce 58 = .ok (.if_icmp .lt 13, 3) := by decide +kernel
theorem dX5_inForce_61 : decode cX5_inForce 61 = .ok (.aload 6, 2) := by decide +kernel
theorem dX5_inForce_63 : decode cX5_inForce 63 = .ok (.astore_n 3, 1) := by decide +kernel
theorem dX5_inForce_64 : decode cX5_inForce 64 = .ok (.aload 6, 2) := by decide +kernel
theorem dX5_inForce_66 : decode cX5_inForce 66 = .ok (.invokevirtual 47, 3) := by decide +kernel
theorem dX5_inForce_69 : decode cX5_inForce 69 = .ok (.istore 4, 2) := by decide +kernel
theorem dX5_inForce_71 : decode cX5_inForce 71 = .ok (.iinc 5 1, 3) := by decide +kernel
theorem dX5_inForce_74 : decode cX5_inForce 74 = .ok (.goto (-63), 3) := by decide +kernel
theorem dX5_inForce_77 : decode cX5_inForce 77 = .ok (.aload_n 3, 1) := by decide +kernel
theorem dX5_inForce_78 : decode cX5_inForce 78 = .ok (.areturn, 1) := by decide +kernel
theorem dX5_add_0 : decode cX5_add 0 = .ok (.aload_n 0, 1) := by decide +kernel
theorem dX5_add_1 : decode cX5_add 1 = .ok (.getfield 36, 3) := by decide +kernel
theorem dX5_add_4 : decode cX5_add 4 = .ok (.ifCond .lt 31, 3) := by decide +kernel
theorem dX5_add_7 : decode cX5_add 7 = .ok (.aload_n 0, 1) := by decide +kernel
theorem dX5_add_8 : decode cX5_add 8 = .ok (.getfield 36, 3) := by decide +kernel
theorem dX5_add_11 : decode cX5_add 11 = .ok (.bipush 6, 2) := by decide +kernel
theorem dX5_add_13 : decode cX5_add 13 = .ok (.if_icmp .ge 22, 3) := by decide +kernel
theorem dX5_add_16 : decode cX5_add 16 = .ok (.aload_n 0, 1) := by decide +kernel
theorem dX5_add_17 : decode cX5_add 17 = .ok (.getfield 13, 3) := by decide +kernel
theorem dX5_add_20 : decode cX5_add 20 = .ok (.aload_n 0, 1) := by decide +kernel
theorem dX5_add_21 : decode cX5_add 21 = .ok (.getfield 36, 3) := by decide +kernel
theorem dX5_add_24 : decode cX5_add 24 = .ok (.aaload, 1) := by decide +kernel
theorem dX5_add_25 : decode cX5_add 25 = .ok (.ifnull 10, 3) := by decide +kernel
theorem dX5_add_28 : decode cX5_add 28 = .ok (.iload_n 1, 1) := by decide +kernel
theorem dX5_add_29 : decode cX5_add 29 = .ok (.invokestatic 51, 3) := by decide +kernel
theorem dX5_add_32 : decode cX5_add 32 = .ok (.ifCond .ne 7, 3) := by decide +kernel
theorem dX5_add_35 : decode cX5_add 35 = .ok (.sipush (-1000), 3) := by decide +kernel
theorem dX5_add_38 : decode cX5_add 38 = .ok (.ireturn, 1) := by decide +kernel
theorem dX5_add_39 : decode cX5_add 39 = .ok (.aload_n 0, 1) := by decide +kernel
theorem dX5_add_40 : decode cX5_add 40 = .ok (.aload_n 0, 1) := by decide +kernel
theorem dX5_add_41 : decode cX5_add 41 = .ok (.getfield 13, 3) := by decide +kernel
theorem dX5_add_44 : decode cX5_add 44 = .ok (.aload_n 0, 1) := by decide +kernel
theorem dX5_add_45 : decode cX5_add 45 = .ok (.getfield 36, 3) := by decide +kernel
theorem dX5_add_48 : decode cX5_add 48 = .ok (.aaload, 1) := by decide +kernel
theorem dX5_add_49 : decode cX5_add 49 = .ok (.putfield 29, 3) := by decide +kernel
theorem dX5_add_52 : decode cX5_add 52 = .ok (.aload_n 0, 1) := by decide +kernel
theorem dX5_add_53 : decode cX5_add 53 = .ok (.getfield 29, 3) := by decide +kernel
theorem dX5_add_56 : decode cX5_add 56 = .ok (.iload_n 1, 1) := by decide +kernel
theorem dX5_add_57 : decode cX5_add 57 = .ok (.iload_n 2, 1) := by decide +kernel
theorem dX5_add_58 : decode cX5_add 58 = .ok (.invokevirtual 55, 3) := by decide +kernel
theorem dX5_add_61 : decode cX5_add 61 = .ok (.aload_n 0, 1) := by decide +kernel
theorem dX5_add_62 : decode cX5_add 62 = .ok (.getfield 25, 3) := by decide +kernel
theorem dX5_add_65 : decode cX5_add 65 = .ok (.aload_n 3, 1) := by decide +kernel
theorem dX5_add_66 : decode cX5_add 66 = .ok (.iload 4, 2) := by decide +kernel
theorem dX5_add_68 : decode cX5_add 68 = .ok (.invokevirtual 59, 3) := by decide +kernel
theorem dX5_add_71 : decode cX5_add 71 = .ok (.aload_n 0, 1) := by decide +kernel
theorem dX5_add_72 : decode cX5_add 72 = .ok (.iconst 0, 1) := by decide +kernel
theorem dX5_add_73 : decode cX5_add 73 = .ok (.putfield 40, 3) := by decide +kernel
theorem dX5_add_76 : decode cX5_add 76 = .ok (.aload_n 0, 1) := by decide +kernel
theorem dX5_add_77 : decode cX5_add 77 = .ok (.iconst 0, 1) := by decide +kernel
theorem dX5_add_78 : decode cX5_add 78 = .ok (.putfield 63, 3) := by decide +kernel
theorem dX5_add_81 : decode cX5_add 81 = .ok (.aload_n 0, 1) := by decide +kernel
theorem dX5_add_82 : decode cX5_add 82 = .ok (.iconst 0, 1) := by decide +kernel
theorem dX5_add_83 : decode cX5_add 83 = .ok (.putfield 66, 3) := by decide +kernel
theorem dX5_add_86 : decode cX5_add 86 = .ok (.aload_n 0, 1) := by decide +kernel
theorem dX5_add_87 : decode cX5_add 87 = .ok (.iconst 0, 1) := by decide +kernel
theorem dX5_add_88 : decode cX5_add 88 = .ok (.putfield 69, 3) := by decide +kernel
theorem dX5_add_91 : decode cX5_add 91 = .ok (.iconst 0, 1) := by decide +kernel
theorem dX5_add_92 : decode cX5_add 92 = .ok (.istore 5, 2) := by decide +kernel
theorem dX5_add_94 : decode cX5_add 94 = .ok (.iload 5, 2) := by decide +kernel
theorem dX5_add_96 : decode cX5_add 96 = .ok (.sipush 500, 3) := by decide +kernel
theorem dX5_add_99 : decode cX5_add 99 = .ok (.if_icmp .gt 54, 3) := by decide +kernel
theorem dX5_add_102 : decode cX5_add 102 = .ok (.aload_n 0, 1) := by decide +kernel
theorem dX5_add_103 : decode cX5_add 103 = .ok (.getfield 40, 3) := by decide +kernel
theorem dX5_add_106 : decode cX5_add 106 = .ok (.ifCond .ne 47, 3) := by decide +kernel
theorem dX5_add_109 : decode cX5_add 109 = .ok (.aload_n 0, 1) := by decide +kernel
theorem dX5_add_110 : decode cX5_add 110 = .ok (.getfield 63, 3) := by decide +kernel
theorem dX5_add_113 : decode cX5_add 113 = .ok (.bipush 10, 2) := by decide +kernel
theorem dX5_add_115 : decode cX5_add 115 = .ok (.if_icmp .eq 38, 3) := by decide +kernel
theorem dX5_add_118 : decode cX5_add 118 = .ok (.aload_n 0, 1) := by decide +kernel
theorem dX5_add_119 : decode cX5_add 119 = .ok (.getfield 25, 3) := by decide +kernel
theorem dX5_add_122 : decode cX5_add 122 = .ok (.invokevirtual 72, 3) := by decide +kernel
theorem dX5_add_125 : decode cX5_add 125 = .ok (.aload_n 0, 1) := by decide +kernel
theorem dX5_add_126 : decode cX5_add 126 = .ok (.aload_n 0, 1) := by decide +kernel
theorem dX5_add_127 : decode cX5_add 127 = .ok (.aload_n 0, 1) := by decide +kernel
theorem dX5_add_128 : decode cX5_add 128 = .ok (.getfield 25, 3) := by decide +kernel
theorem dX5_add_131 : decode cX5_add 131 = .ok (.invokevirtual 75, 3) := by decide +kernel
theorem dX5_add_134 : decode cX5_add 134 = .ok (.aload_n 0, 1) := by decide +kernel
theorem dX5_add_135 : decode cX5_add 135 = .ok (.getfield 25, 3) := by decide +kernel
theorem dX5_add_138 : decode cX5_add 138 = .ok (.invokevirtual 78, 3) := by decide +kernel
theorem dX5_add_141 : decode cX5_add 141 = .ok (.invokevirtual 81, 3) := by decide +kernel
theorem dX5_add_144 : decode cX5_add 144 = .ok (.putfield 40, 3) := by decide +kernel
theorem dX5_add_147 : decode cX5_add 147 = .ok (.iinc 5 1, 3) := by decide +kernel
theorem dX5_add_150 : decode cX5_add 150 = .ok (.goto (-56), 3) := by decide +kernel
theorem dX5_add_153 : decode cX5_add 153 = .ok (.aload_n 0, 1) := by decide +kernel
theorem dX5_add_154 : decode cX5_add 154 = .ok (.getfield 40, 3) := by decide +kernel
theorem dX5_add_157 : decode cX5_add 157 = .ok (.ifCond .eq 13, 3) := by decide +kernel
theorem dX5_add_160 : decode cX5_add 160 = .ok (.iconst (-1), 1) := by decide +kernel
theorem dX5_add_161 : decode cX5_add 161 = .ok (.aload_n 0, 1) := by decide +kernel
theorem dX5_add_162 : decode cX5_add 162 = .ok (.getfield 25, 3) := by decide +kernel
theorem dX5_add_165 : decode cX5_add 165 = .ok (.invokevirtual 85, 3) := by decide +kernel
theorem dX5_add_168 : decode cX5_add 168 = .ok (.isub, 1) := by decide +kernel
theorem dX5_add_169 : decode cX5_add 169 = .ok (.ireturn, 1) := by decide +kernel
theorem dX5_add_170 : decode cX5_add 170 = .ok (.aload_n 0, 1) := by decide +kernel
theorem dX5_add_171 : decode cX5_add 171 = .ok (.dup, 1) := by decide +kernel
theorem dX5_add_172 : decode cX5_add 172 = .ok (.getfield 36, 3) := by decide +kernel
theorem dX5_add_175 : decode cX5_add 175 = .ok (.iconst 1, 1) := by decide +kernel
theorem dX5_add_176 : decode cX5_add 176 = .ok (.iadd, 1) := by decide +kernel
theorem dX5_add_177 : decode cX5_add 177 = .ok (.putfield 36, 3) := by decide +kernel
theorem dX5_add_180 : decode cX5_add 180 = .ok (.aload_n 0, 1) := by decide +kernel
theorem dX5_add_181 : decode cX5_add 181 = .ok (.getfield 29, 3) := by decide +kernel
theorem dX5_add_184 : decode cX5_add 184 = .ok (.invokevirtual 88, 3) := by decide +kernel
theorem dX5_add_187 : decode cX5_add 187 = .ok (.ireturn, 1) := by decide +kernel
theorem dX5_take_0 : decode cX5_take 0 = .ok (.iload_n 1, 1) := by decide +kernel
theorem dX5_take_1 : decode cX5_take 1 = .ok (.iconst 2, 1) := by decide +kernel
theorem dX5_take_2 : decode cX5_take 2 = .ok (.if_icmp .ne 7, 3) := by decide +kernel
theorem dX5_take_5 : decode cX5_take 5 = .ok (.iload_n 2, 1) := by decide +kernel
theorem dX5_take_6 : decode cX5_take 6 = .ok (.goto 4, 3) := by decide +kernel
theorem dX5_take_9 : decode cX5_take 9 = .ok (.iconst (-1), 1) := by decide +kernel
theorem dX5_take_10 : decode cX5_take 10 = .ok (.istore_n 3, 1) := by decide +kernel
theorem dX5_take_11 : decode cX5_take 11 = .ok (.aload_n 0, 1) := by decide +kernel
theorem dX5_take_12 : decode cX5_take 12 = .ok (.getfield 63, 3) := by decide +kernel
theorem dX5_take_15 : decode cX5_take 15 = .ok (.tableswitch 175 0 8 #[49, 66, 85, 92, 98, 105, 140, 161, 168], 49) := by decide +kernel
theorem dX5_take_64 : decode cX5_take 64 = .ok (.iload_n 1, 1) := by decide +kernel
theorem dX5_take_65 : decode cX5_take 65 = .ok (.ifCond .ne 10, 3) := by decide +kernel
theorem dX5_take_68 : decode cX5_take 68 = .ok (.aload_n 0, 1) := by decide +kernel
theorem dX5_take_69 : decode cX5_take 69 = .ok (.invokevirtual 91, 3) := by decide +kernel
theorem dX5_take_72 : decode cX5_take 72 = .ok (.goto 8, 3) := by decide +kernel
theorem dX5_take_75 : decode cX5_take 75 = .ok (.aload_n 0, 1) := by decide +kernel
theorem dX5_take_76 : decode cX5_take 76 = .ok (.iload_n 3, 1) := by decide +kernel
theorem dX5_take_77 : decode cX5_take 77 = .ok (.invokevirtual 94, 3) := by decide +kernel
theorem dX5_take_80 : decode cX5_take 80 = .ok (.ireturn, 1) := by decide +kernel
theorem dX5_take_81 : decode cX5_take 81 = .ok (.iload_n 3, 1) := by decide +kernel
theorem dX5_take_82 : decode cX5_take 82 = .ok (.bipush 18, 2) := by decide +kernel
theorem dX5_take_84 : decode cX5_take 84 = .ok (.if_icmp .ne 10, 3) := by decide +kernel
theorem dX5_take_87 : decode cX5_take 87 = .ok (.aload_n 0, 1) := by decide +kernel
theorem dX5_take_88 : decode cX5_take 88 = .ok (.iconst 2, 1) := by decide +kernel
theorem dX5_take_89 : decode cX5_take 89 = .ok (.putfield 63, 3) := by decide +kernel
theorem dX5_take_92 : decode cX5_take 92 = .ok (.iconst 0, 1) := by decide +kernel
theorem dX5_take_93 : decode cX5_take 93 = .ok (.ireturn, 1) := by decide +kernel
theorem dX5_take_94 : decode cX5_take 94 = .ok (.aload_n 0, 1) := by decide +kernel
theorem dX5_take_95 : decode cX5_take 95 = .ok (.iload_n 3, 1) := by decide +kernel
theorem dX5_take_96 : decode cX5_take 96 = .ok (.invokevirtual 98, 3) := by decide +kernel
theorem dX5_take_99 : decode cX5_take 99 = .ok (.ireturn, 1) := by decide +kernel
theorem dX5_take_100 : decode cX5_take 100 = .ok (.aload_n 0, 1) := by decide +kernel
theorem dX5_take_101 : decode cX5_take 101 = .ok (.iload_n 1, 1) := by decide +kernel
theorem dX5_take_102 : decode cX5_take 102 = .ok (.iload_n 2, 1) := by decide +kernel
theorem dX5_take_103 : decode cX5_take 103 = .ok (.invokevirtual 101, 3) := by decide +kernel
theorem dX5_take_106 : decode cX5_take 106 = .ok (.ireturn, 1) := by decide +kernel
theorem dX5_take_107 : decode cX5_take 107 = .ok (.aload_n 0, 1) := by decide +kernel
theorem dX5_take_108 : decode cX5_take 108 = .ok (.iload_n 3, 1) := by decide +kernel
theorem dX5_take_109 : decode cX5_take 109 = .ok (.invokevirtual 98, 3) := by decide +kernel
theorem dX5_take_112 : decode cX5_take 112 = .ok (.ireturn, 1) := by decide +kernel
theorem dX5_take_113 : decode cX5_take 113 = .ok (.aload_n 0, 1) := by decide +kernel
theorem dX5_take_114 : decode cX5_take 114 = .ok (.iload_n 1, 1) := by decide +kernel
theorem dX5_take_115 : decode cX5_take 115 = .ok (.iload_n 3, 1) := by decide +kernel
theorem dX5_take_116 : decode cX5_take 116 = .ok (.invokevirtual 104, 3) := by decide +kernel
theorem dX5_take_119 : decode cX5_take 119 = .ok (.ireturn, 1) := by decide +kernel
theorem dX5_take_120 : decode cX5_take 120 = .ok (.aload_n 0, 1) := by decide +kernel
theorem dX5_take_121 : decode cX5_take 121 = .ok (.iload_n 1, 1) := by decide +kernel
theorem dX5_take_122 : decode cX5_take 122 = .ok (.putfield 107, 3) := by decide +kernel
theorem dX5_take_125 : decode cX5_take 125 = .ok (.aload_n 0, 1) := by decide +kernel
theorem dX5_take_126 : decode cX5_take 126 = .ok (.bipush 6, 2) := by decide +kernel
theorem dX5_take_128 : decode cX5_take 128 = .ok (.putfield 63, 3) := by decide +kernel
theorem dX5_take_131 : decode cX5_take 131 = .ok (.iload_n 1, 1) := by decide +kernel
theorem dX5_take_132 : decode cX5_take 132 = .ok (.bipush 60, 2) := by decide +kernel
theorem dX5_take_134 : decode cX5_take 134 = .ok (.if_icmp .eq 15, 3) := by decide +kernel
theorem dX5_take_137 : decode cX5_take 137 = .ok (.iload_n 1, 1) := by decide +kernel
theorem dX5_take_138 : decode cX5_take 138 = .ok (.bipush 61, 2) := by decide +kernel
theorem dX5_take_140 : decode cX5_take 140 = .ok (.if_icmp .eq 9, 3) := by decide +kernel
theorem dX5_take_143 : decode cX5_take 143 = .ok (.iload_n 1, 1) := by decide +kernel
theorem dX5_take_144 : decode cX5_take 144 = .ok (.bipush 62, 2) := by decide +kernel
theorem dX5_take_146 : decode cX5_take 146 = .ok (.if_icmp .ne 7, 3) := by decide +kernel
theorem dX5_take_149 : decode cX5_take 149 = .ok (.iconst 0, 1) := by decide +kernel
theorem dX5_take_150 : decode cX5_take 150 = .ok (.goto 4, 3) := by decide +kernel
theorem dX5_take_153 : decode cX5_take 153 = .ok (.iconst 1, 1) := by decide +kernel
theorem dX5_take_154 : decode cX5_take 154 = .ok (.ireturn, 1) := by decide +kernel
theorem dX5_take_155 : decode cX5_take 155 = .ok (.iload_n 1, 1) := by decide +kernel
theorem dX5_take_156 : decode cX5_take 156 = .ok (.iconst 3, 1) := by decide +kernel
theorem dX5_take_157 : decode cX5_take 157 = .ok (.if_icmp .eq 5, 3) := by decide +kernel
theorem dX5_take_160 : decode cX5_take 160 = .ok (.iconst 1, 1) := by decide +kernel
theorem dX5_take_161 : decode cX5_take 161 = .ok (.ireturn, 1) := by decide +kernel
theorem dX5_take_162 : decode cX5_take 162 = .ok (.aload_n 0, 1) := by decide +kernel
theorem dX5_take_163 : decode cX5_take 163 = .ok (.aload_n 0, 1) := by decide +kernel
theorem dX5_take_164 : decode cX5_take 164 = .ok (.getfield 110, 3) := by decide +kernel
theorem dX5_take_167 : decode cX5_take 167 = .ok (.aload_n 0, 1) := by decide +kernel
theorem dX5_take_168 : decode cX5_take 168 = .ok (.getfield 107, 3) := by decide +kernel
theorem dX5_take_171 : decode cX5_take 171 = .ok (.iload_n 2, 1) := by decide +kernel
theorem dX5_take_172 : decode cX5_take 172 = .ok (.invokevirtual 113, 3) := by decide +kernel
theorem dX5_take_175 : decode cX5_take 175 = .ok (.ireturn, 1) := by decide +kernel
theorem dX5_take_176 : decode cX5_take 176 = .ok (.aload_n 0, 1) := by decide +kernel
theorem dX5_take_177 : decode cX5_take 177 = .ok (.iload_n 1, 1) := by decide +kernel
theorem dX5_take_178 : decode cX5_take 178 = .ok (.iload_n 3, 1) := by decide +kernel
theorem dX5_take_179 : decode cX5_take 179 = .ok (.invokevirtual 117, 3) := by decide +kernel
theorem dX5_take_182 : decode cX5_take 182 = .ok (.ireturn, 1) := by decide +kernel
theorem dX5_take_183 : decode cX5_take 183 = .ok (.aload_n 0, 1) := by decide +kernel
theorem dX5_take_184 : decode cX5_take 184 = .ok (.iload_n 1, 1) := by decide +kernel
theorem dX5_take_185 : decode cX5_take 185 = .ok (.iload_n 2, 1) := by decide +kernel
theorem dX5_take_186 : decode cX5_take 186 = .ok (.invokevirtual 120, 3) := by decide +kernel
theorem dX5_take_189 : decode cX5_take 189 = .ok (.ireturn, 1) := by decide +kernel
theorem dX5_take_190 : decode cX5_take 190 = .ok (.aload_n 0, 1) := by decide +kernel
theorem dX5_take_191 : decode cX5_take 191 = .ok (.iload_n 1, 1) := by decide +kernel
theorem dX5_take_192 : decode cX5_take 192 = .ok (.invokevirtual 123, 3) := by decide +kernel
theorem dX5_take_195 : decode cX5_take 195 = .ok (.ireturn, 1) := by decide +kernel
theorem dX5_takeEnd_0 : decode cX5_takeEnd 0 = .ok (.aload_n 0, 1) := by decide +kernel
theorem dX5_takeEnd_1 : decode cX5_takeEnd 1 = .ok (.bipush 10, 2) := by decide +kernel
theorem dX5_takeEnd_3 : decode cX5_takeEnd 3 = .ok (.putfield 63, 3) := by decide +kernel
theorem dX5_takeEnd_6 : decode cX5_takeEnd 6 = .ok (.aload_n 0, 1) := by decide +kernel
theorem dX5_takeEnd_7 : decode cX5_takeEnd 7 = .ok (.getfield 25, 3) := by decide +kernel
theorem dX5_takeEnd_10 : decode cX5_takeEnd 10 = .ok (.invokevirtual 126, 3) := by decide +kernel
theorem dX5_takeEnd_13 : decode cX5_takeEnd 13 = .ok (.ifCond .eq 7, 3) := by decide +kernel
theorem dX5_takeEnd_16 : decode cX5_takeEnd 16 = .ok (.iconst 1, 1) := by decide +kernel
theorem dX5_takeEnd_17 : decode cX5_takeEnd 17 = .ok (.goto 4, 3) := by decide +kernel
theorem dX5_takeEnd_20 : decode cX5_takeEnd 20 = .ok (.iconst 0, 1) := by decide +kernel
theorem dX5_takeEnd_21 : decode cX5_takeEnd 21 = .ok (.ireturn, 1) := by decide +kernel
theorem dX5_takeRule_0 : decode cX5_takeRule 0 = .ok (.iload_n 1, 1) := by decide +kernel
theorem dX5_takeRule_1 : decode cX5_takeRule 1 = .ok (.bipush 19, 2) := by decide +kernel
theorem dX5_takeRule_3 : decode cX5_takeRule 3 = .ok (.if_icmp .ne 7, 3) := by decide +kernel
theorem dX5_takeRule_6 : decode cX5_takeRule 6 = .ok (.iconst 1, 1) := by decide +kernel
theorem dX5_takeRule_7 : decode cX5_takeRule 7 = .ok (.goto 4, 3) := by decide +kernel
theorem dX5_takeRule_10 : decode cX5_takeRule 10 = .ok (.iconst 0, 1) := by decide +kernel
theorem dX5_takeRule_11 : decode cX5_takeRule 11 = .ok (.istore_n 2, 1) := by decide +kernel
theorem dX5_takeRule_12 : decode cX5_takeRule 12 = .ok (.iload_n 1, 1) := by decide +kernel
theorem dX5_takeRule_13 : decode cX5_takeRule 13 = .ok (.bipush 20, 2) := by decide +kernel
theorem dX5_takeRule_15 : decode cX5_takeRule 15 = .ok (.if_icmp .eq 9, 3) := by decide +kernel
theorem dX5_takeRule_18 : decode cX5_takeRule 18 = .ok (.iload_n 1, 1) := by decide +kernel
theorem dX5_takeRule_19 : decode cX5_takeRule 19 = .ok (.bipush 21, 2) := by decide +kernel
theorem dX5_takeRule_21 : decode cX5_takeRule 21 = .ok (.if_icmp .ne 7, 3) := by decide +kernel
theorem dX5_takeRule_24 : decode cX5_takeRule 24 = .ok (.iconst 1, 1) := by decide +kernel
theorem dX5_takeRule_25 : decode cX5_takeRule 25 = .ok (.goto 4, 3) := by decide +kernel
theorem dX5_takeRule_28 : decode cX5_takeRule 28 = .ok (.iconst 0, 1) := by decide +kernel
theorem dX5_takeRule_29 : decode cX5_takeRule 29 = .ok (.istore_n 3, 1) := by decide +kernel
theorem dX5_takeRule_30 : decode cX5_takeRule 30 = .ok (.iload_n 1, 1) := by decide +kernel
theorem dX5_takeRule_31 : decode cX5_takeRule 31 = .ok (.bipush 8, 2) := by decide +kernel
theorem dX5_takeRule_33 : decode cX5_takeRule 33 = .ok (.if_icmp .eq 15, 3) := by decide +kernel
theorem dX5_takeRule_36 : decode cX5_takeRule 36 = .ok (.iload_n 1, 1) := by decide +kernel
theorem dX5_takeRule_37 : decode cX5_takeRule 37 = .ok (.bipush 22, 2) := by decide +kernel
theorem dX5_takeRule_39 : decode cX5_takeRule 39 = .ok (.if_icmp .lt 13, 3) := by decide +kernel
theorem dX5_takeRule_42 : decode cX5_takeRule 42 = .ok (.iload_n 1, 1) := by decide +kernel
theorem dX5_takeRule_43 : decode cX5_takeRule 43 = .ok (.bipush 25, 2) := by decide +kernel
theorem dX5_takeRule_45 : decode cX5_takeRule 45 = .ok (.if_icmp .gt 7, 3) := by decide +kernel
theorem dX5_takeRule_48 : decode cX5_takeRule 48 = .ok (.iconst 1, 1) := by decide +kernel
theorem dX5_takeRule_49 : decode cX5_takeRule 49 = .ok (.goto 4, 3) := by decide +kernel
theorem dX5_takeRule_52 : decode cX5_takeRule 52 = .ok (.iconst 0, 1) := by decide +kernel
theorem dX5_takeRule_53 : decode cX5_takeRule 53 = .ok (.istore 4, 2) := by decide +kernel
theorem dX5_takeRule_55 : decode cX5_takeRule 55 = .ok (.iload_n 2, 1) := by decide +kernel
theorem dX5_takeRule_56 : decode cX5_takeRule 56 = .ok (.ifCond .ne 14, 3) := by decide +kernel
theorem dX5_takeRule_59 : decode cX5_takeRule 59 = .ok (.iload_n 3, 1) := by decide +kernel
theorem dX5_takeRule_60 : decode cX5_takeRule 60 = .ok (.ifCond .ne 10, 3) := by decide +kernel
theorem dX5_takeRule_63 : decode cX5_takeRule 63 = .ok (.iload 4, 2) := by decide +kernel
theorem dX5_takeRule_65 : decode cX5_takeRule 65 = .ok (.ifCond .ne 5, 3) := by decide +kernel
theorem dX5_takeRule_68 : decode cX5_takeRule 68 = .ok (.iconst 1, 1) := by decide +kernel
theorem dX5_takeRule_69 : decode cX5_takeRule 69 = .ok (.ireturn, 1) := by decide +kernel
theorem dX5_takeRule_70 : decode cX5_takeRule 70 = .ok (.iload_n 2, 1) := by decide +kernel
theorem dX5_takeRule_71 : decode cX5_takeRule 71 = .ok (.ifCond .eq 18, 3) := by decide +kernel
theorem dX5_takeRule_74 : decode cX5_takeRule 74 = .ok (.aload_n 0, 1) := by decide +kernel
theorem dX5_takeRule_75 : decode cX5_takeRule 75 = .ok (.getfield 29, 3) := by decide +kernel
theorem dX5_takeRule_78 : decode cX5_takeRule 78 = .ok (.invokevirtual 130, 3) := by decide +kernel
theorem dX5_takeRule_81 : decode cX5_takeRule 81 = .ok (.bipush 8, 2) := by decide +kernel
theorem dX5_takeRule_83 : decode cX5_takeRule 83 = .ok (.if_icmp .lt 19, 3) := by decide +kernel
theorem dX5_takeRule_86 : decode cX5_takeRule 86 = .ok (.goto 14, 3) := by decide +kernel
theorem dX5_takeRule_89 : decode cX5_takeRule 89 = .ok (.aload_n 0, 1) := by decide +kernel
theorem dX5_takeRule_90 : decode cX5_takeRule 90 = .ok (.getfield 66, 3) := by decide +kernel
theorem dX5_takeRule_93 : decode cX5_takeRule 93 = .ok (.iload_n 1, 1) := by decide +kernel
theorem dX5_takeRule_94 : decode cX5_takeRule 94 = .ok (.ishr, 1) := by decide +kernel
theorem dX5_takeRule_95 : decode cX5_takeRule 95 = .ok (.iconst 1, 1) := by decide +kernel
theorem dX5_takeRule_96 : decode cX5_takeRule 96 = .ok (.iand, 1) := by decide +kernel
theorem dX5_takeRule_97 : decode cX5_takeRule 97 = .ok (.ifCond .eq 5, 3) := by decide +kernel
theorem dX5_takeRule_100 : decode cX5_takeRule 100 = .ok (.iconst 3, 1) := by decide +kernel
theorem dX5_takeRule_101 : decode cX5_takeRule 101 = .ok (.ireturn, 1) := by decide +kernel
theorem dX5_takeRule_102 : decode cX5_takeRule 102 = .ok (.aload_n 0, 1) := by decide +kernel
theorem dX5_takeRule_103 : decode cX5_takeRule 103 = .ok (.dup, 1) := by decide +kernel
theorem dX5_takeRule_104 : decode cX5_takeRule 104 = .ok (.getfield 66, 3) := by decide +kernel
theorem dX5_takeRule_107 : decode cX5_takeRule 107 = .ok (.iconst 1, 1) := by decide +kernel
theorem dX5_takeRule_108 : decode cX5_takeRule 108 = .ok (.iload_n 1, 1) := by decide +kernel
theorem dX5_takeRule_109 : decode cX5_takeRule 109 = .ok (.ishl, 1) := by decide +kernel
theorem dX5_takeRule_110 : decode cX5_takeRule 110 = .ok (.ior, 1) := by decide +kernel
theorem dX5_takeRule_111 : decode cX5_takeRule 111 = .ok (.putfield 66, 3) := by decide +kernel
theorem dX5_takeRule_114 : decode cX5_takeRule 114 = .ok (.aload_n 0, 1) := by decide +kernel
theorem dX5_takeRule_115 : decode cX5_takeRule 115 = .ok (.iload_n 1, 1) := by decide +kernel
theorem dX5_takeRule_116 : decode cX5_takeRule 116 = .ok (.putfield 110, 3) := by decide +kernel
theorem dX5_takeRule_119 : decode cX5_takeRule 119 = .ok (.aload_n 0, 1) := by decide +kernel
theorem dX5_takeRule_120 : decode cX5_takeRule 120 = .ok (.bipush 30, 2) := by decide +kernel
theorem dX5_takeRule_122 : decode cX5_takeRule 122 = .ok (.putfield 133, 3) := by decide +kernel
theorem dX5_takeRule_125 : decode cX5_takeRule 125 = .ok (.aload_n 0, 1) := by decide +kernel
theorem dX5_takeRule_126 : decode cX5_takeRule 126 = .ok (.iload_n 2, 1) := by decide +kernel
theorem dX5_takeRule_127 : decode cX5_takeRule 127 = .ok (.putfield 136, 3) := by decide +kernel
theorem dX5_takeRule_130 : decode cX5_takeRule 130 = .ok (.aload_n 0, 1) := by decide +kernel
theorem dX5_takeRule_131 : decode cX5_takeRule 131 = .ok (.iload_n 2, 1) := by decide +kernel
theorem dX5_takeRule_132 : decode cX5_takeRule 132 = .ok (.ifCond .eq 7, 3) := by decide +kernel
theorem dX5_takeRule_135 : decode cX5_takeRule 135 = .ok (.iconst 1, 1) := by decide +kernel
theorem dX5_takeRule_136 : decode cX5_takeRule 136 = .ok (.goto 13, 3) := by decide +kernel
theorem dX5_takeRule_139 : decode cX5_takeRule 139 = .ok (.iload_n 3, 1) := by decide +kernel
theorem dX5_takeRule_140 : decode cX5_takeRule 140 = .ok (.ifCond .eq 7, 3) := by decide +kernel
theorem dX5_takeRule_143 : decode cX5_takeRule 143 = .ok (.iconst 3, 1) := by decide +kernel
theorem dX5_takeRule_144 : decode cX5_takeRule 144 = .ok (.goto 5, 3) := by decide +kernel
theorem dX5_takeRule_147 : decode cX5_takeRule 147 = .ok (.bipush 8, 2) := by decide +kernel
theorem dX5_takeRule_149 : decode cX5_takeRule 149 = .ok (.putfield 63, 3) := by decide +kernel
theorem dX5_takeRule_152 : decode cX5_takeRule 152 = .ok (.iconst 0, 1) := by decide +kernel
theorem dX5_takeRule_153 : decode cX5_takeRule 153 = .ok (.ireturn, 1) := by decide +kernel
theorem dX5_takeDays_0 : decode cX5_takeDays 0 = .ok (.iload_n 1, 1) := by decide +kernel
theorem dX5_takeDays_1 : decode cX5_takeDays 1 = .ok (.iconst 3, 1) := by decide +kernel
theorem dX5_takeDays_2 : decode cX5_takeDays 2 = .ok (.if_icmp .eq 5, 3) := by decide +kernel
theorem dX5_takeDays_5 : decode cX5_takeDays 5 = .ok (.iconst 1, 1) := by decide +kernel
theorem dX5_takeDays_6 : decode cX5_takeDays 6 = .ok (.ireturn, 1) := by decide +kernel
theorem dX5_takeDays_7 : decode cX5_takeDays 7 = .ok (.aload_n 0, 1) := by decide +kernel
theorem dX5_takeDays_8 : decode cX5_takeDays 8 = .ok (.iload_n 2, 1) := by decide +kernel
theorem dX5_takeDays_9 : decode cX5_takeDays 9 = .ok (.putfield 133, 3) := by decide +kernel
theorem dX5_takeDays_12 : decode cX5_takeDays 12 = .ok (.aload_n 0, 1) := by decide +kernel
theorem dX5_takeDays_13 : decode cX5_takeDays 13 = .ok (.iconst 3, 1) := by decide +kernel
theorem dX5_takeDays_14 : decode cX5_takeDays 14 = .ok (.putfield 63, 3) := by decide +kernel
theorem dX5_takeDays_17 : decode cX5_takeDays 17 = .ok (.iload_n 2, 1) := by decide +kernel
theorem dX5_takeDays_18 : decode cX5_takeDays 18 = .ok (.ifCond .lt 14, 3) := by decide +kernel
theorem dX5_takeDays_21 : decode cX5_takeDays 21 = .ok (.iload_n 2, 1) := by decide +kernel
theorem dX5_takeDays_22 : decode cX5_takeDays 22 = .ok (.sipush 999, 3) := by decide +kernel
theorem dX5_takeDays_25 : decode cX5_takeDays 25 = .ok (.if_icmp .gt 7, 3) := by decide +kernel
theorem dX5_takeDays_28 : decode cX5_takeDays 28 = .ok (.iconst 0, 1) := by decide +kernel
theorem dX5_takeDays_29 : decode cX5_takeDays 29 = .ok (.goto 4, 3) := by decide +kernel
theorem dX5_takeDays_32 : decode cX5_takeDays 32 = .ok (.iconst 2, 1) := by decide +kernel
theorem dX5_takeDays_33 : decode cX5_takeDays 33 = .ok (.ireturn, 1) := by decide +kernel
theorem dX5_takeIf_0 : decode cX5_takeIf 0 = .ok (.iload_n 1, 1) := by decide +kernel
theorem dX5_takeIf_1 : decode cX5_takeIf 1 = .ok (.bipush 17, 2) := by decide +kernel
theorem dX5_takeIf_3 : decode cX5_takeIf 3 = .ok (.if_icmp .eq 5, 3) := by decide +kernel
theorem dX5_takeIf_6 : decode cX5_takeIf 6 = .ok (.iconst 1, 1) := by decide +kernel
theorem dX5_takeIf_7 : decode cX5_takeIf 7 = .ok (.ireturn, 1) := by decide +kernel
theorem dX5_takeIf_8 : decode cX5_takeIf 8 = .ok (.aload_n 0, 1) := by decide +kernel
theorem dX5_takeIf_9 : decode cX5_takeIf 9 = .ok (.getfield 136, 3) := by decide +kernel
theorem dX5_takeIf_12 : decode cX5_takeIf 12 = .ok (.ifCond .eq 21, 3) := by decide +kernel
theorem dX5_takeIf_15 : decode cX5_takeIf 15 = .ok (.aload_n 0, 1) := by decide +kernel
theorem dX5_takeIf_16 : decode cX5_takeIf 16 = .ok (.aload_n 0, 1) := by decide +kernel
theorem dX5_takeIf_17 : decode cX5_takeIf 17 = .ok (.getfield 29, 3) := by decide +kernel
theorem dX5_takeIf_20 : decode cX5_takeIf 20 = .ok (.aload_n 0, 1) := by decide +kernel
theorem dX5_takeIf_21 : decode cX5_takeIf 21 = .ok (.getfield 133, 3) := by decide +kernel
theorem dX5_takeIf_24 : decode cX5_takeIf 24 = .ok (.invokevirtual 140, 3) := by decide +kernel
theorem dX5_takeIf_27 : decode cX5_takeIf 27 = .ok (.putfield 143, 3) := by decide +kernel
theorem dX5_takeIf_30 : decode cX5_takeIf 30 = .ok (.goto 23, 3) := by decide +kernel
theorem dX5_takeIf_33 : decode cX5_takeIf 33 = .ok (.aload_n 0, 1) := by decide +kernel
theorem dX5_takeIf_34 : decode cX5_takeIf 34 = .ok (.aload_n 0, 1) := by decide +kernel
theorem dX5_takeIf_35 : decode cX5_takeIf 35 = .ok (.getfield 110, 3) := by decide +kernel
theorem dX5_takeIf_38 : decode cX5_takeIf 38 = .ok (.bipush 20, 2) := by decide +kernel
theorem dX5_takeIf_40 : decode cX5_takeIf 40 = .ok (.if_icmp .ne 8, 3) := by decide +kernel
theorem dX5_takeIf_43 : decode cX5_takeIf 43 = .ok (.bipush 8, 2) := by decide +kernel
theorem dX5_takeIf_45 : decode cX5_takeIf 45 = .ok (.goto 5, 3) := by decide +kernel
theorem dX5_takeIf_48 : decode cX5_takeIf 48 = .ok (.bipush 9, 2) := by decide +kernel
theorem dX5_takeIf_50 : decode cX5_takeIf 50 = .ok (.putfield 143, 3) := by decide +kernel
theorem dX5_takeIf_53 : decode cX5_takeIf 53 = .ok (.aload_n 0, 1) := by decide +kernel
theorem dX5_takeIf_54 : decode cX5_takeIf 54 = .ok (.getfield 29, 3) := by decide +kernel
theorem dX5_takeIf_57 : decode cX5_takeIf 57 = .ok (.aload_n 0, 1) := by decide +kernel
theorem dX5_takeIf_58 : decode cX5_takeIf 58 = .ok (.getfield 143, 3) := by decide +kernel
theorem dX5_takeIf_61 : decode cX5_takeIf 61 = .ok (.invokevirtual 146, 3) := by decide +kernel
theorem dX5_takeIf_64 : decode cX5_takeIf 64 = .ok (.aload_n 0, 1) := by decide +kernel
theorem dX5_takeIf_65 : decode cX5_takeIf 65 = .ok (.iconst 1, 1) := by decide +kernel
theorem dX5_takeIf_66 : decode cX5_takeIf 66 = .ok (.putfield 150, 3) := by decide +kernel
theorem dX5_takeIf_69 : decode cX5_takeIf 69 = .ok (.aload_n 0, 1) := by decide +kernel
theorem dX5_takeIf_70 : decode cX5_takeIf 70 = .ok (.iconst 0, 1) := by decide +kernel
theorem dX5_takeIf_71 : decode cX5_takeIf 71 = .ok (.putfield 153, 3) := by decide +kernel
theorem dX5_takeIf_74 : decode cX5_takeIf 74 = .ok (.aload_n 0, 1) := by decide +kernel
theorem dX5_takeIf_75 : decode cX5_takeIf 75 = .ok (.iconst 0, 1) := by decide +kernel
theorem dX5_takeIf_76 : decode cX5_takeIf 76 = .ok (.putfield 156, 3) := by decide +kernel
theorem dX5_takeIf_79 : decode cX5_takeIf 79 = .ok (.aload_n 0, 1) := by decide +kernel
theorem dX5_takeIf_80 : decode cX5_takeIf 80 = .ok (.iconst 4, 1) := by decide +kernel
theorem dX5_takeIf_81 : decode cX5_takeIf 81 = .ok (.putfield 63, 3) := by decide +kernel
theorem dX5_takeIf_84 : decode cX5_takeIf 84 = .ok (.iconst 0, 1) := by decide +kernel
theorem dX5_takeIf_85 : decode cX5_takeIf 85 = .ok (.ireturn, 1) := by decide +kernel
theorem dX5_takeOne_0 : decode cX5_takeOne 0 = .ok (.iload_n 1, 1) := by decide +kernel
theorem dX5_takeOne_1 : decode cX5_takeOne 1 = .ok (.bipush 40, 2) := by decide +kernel
theorem dX5_takeOne_3 : decode cX5_takeOne 3 = .ok (.if_icmp .eq 9, 3) := by decide +kernel
theorem dX5_takeOne_6 : decode cX5_takeOne 6 = .ok (.iload_n 2, 1) := by decide +kernel
theorem dX5_takeOne_7 : decode cX5_takeOne 7 = .ok (.bipush 14, 2) := by decide +kernel
theorem dX5_takeOne_9 : decode cX5_takeOne 9 = .ok (.if_icmp .ne 7, 3) := by decide +kernel
theorem dX5_takeOne_12 : decode cX5_takeOne 12 = .ok (.iconst 1, 1) := by decide +kernel
theorem dX5_takeOne_13 : decode cX5_takeOne 13 = .ok (.goto 4, 3) := by decide +kernel
theorem dX5_takeOne_16 : decode cX5_takeOne 16 = .ok (.iconst 0, 1) := by decide +kernel
theorem dX5_takeOne_17 : decode cX5_takeOne 17 = .ok (.istore_n 3, 1) := by decide +kernel
theorem dX5_takeOne_18 : decode cX5_takeOne 18 = .ok (.iload_n 3, 1) := by decide +kernel
theorem dX5_takeOne_19 : decode cX5_takeOne 19 = .ok (.ifCond .ne 13, 3) := by decide +kernel
theorem dX5_takeOne_22 : decode cX5_takeOne 22 = .ok (.aload_n 0, 1) := by decide +kernel
theorem dX5_takeOne_23 : decode cX5_takeOne 23 = .ok (.iload_n 2, 1) := by decide +kernel
theorem dX5_takeOne_24 : decode cX5_takeOne 24 = .ok (.invokevirtual 159, 3) := by decide +kernel
theorem dX5_takeOne_27 : decode cX5_takeOne 27 = .ok (.ifCond .ne 5, 3) := by decide +kernel
theorem dX5_takeOne_30 : decode cX5_takeOne 30 = .ok (.iconst 1, 1) := by decide +kernel
theorem dX5_takeOne_31 : decode cX5_takeOne 31 = .ok (.ireturn, 1) := by decide +kernel
theorem dX5_takeOne_32 : decode cX5_takeOne 32 = .ok (.aload_n 0, 1) := by decide +kernel
theorem dX5_takeOne_33 : decode cX5_takeOne 33 = .ok (.getfield 69, 3) := by decide +kernel
theorem dX5_takeOne_36 : decode cX5_takeOne 36 = .ok (.bipush 60, 2) := by decide +kernel
theorem dX5_takeOne_38 : decode cX5_takeOne 38 = .ok (.if_icmp .ge 12, 3) := by decide +kernel
theorem dX5_takeOne_41 : decode cX5_takeOne 41 = .ok (.aload_n 0, 1) := by decide +kernel
theorem dX5_takeOne_42 : decode cX5_takeOne 42 = .ok (.getfield 150, 3) := by decide +kernel
theorem dX5_takeOne_45 : decode cX5_takeOne 45 = .ok (.bipush 20, 2) := by decide +kernel
theorem dX5_takeOne_47 : decode cX5_takeOne 47 = .ok (.if_icmp .le 5, 3) := by decide +kernel
theorem dX5_takeOne_50 : decode cX5_takeOne 50 = .ok (.iconst 4, 1) := by decide +kernel
theorem dX5_takeOne_51 : decode cX5_takeOne 51 = .ok (.ireturn, 1) := by decide +kernel
theorem dX5_takeOne_52 : decode cX5_takeOne 52 = .ok (.aload_n 0, 1) := by decide +kernel
theorem dX5_takeOne_53 : decode cX5_takeOne 53 = .ok (.dup, 1) := by decide +kernel
theorem dX5_takeOne_54 : decode cX5_takeOne 54 = .ok (.getfield 69, 3) := by decide +kernel
theorem dX5_takeOne_57 : decode cX5_takeOne 57 = .ok (.iconst 1, 1) := by decide +kernel
theorem dX5_takeOne_58 : decode cX5_takeOne 58 = .ok (.iadd, 1) := by decide +kernel
theorem dX5_takeOne_59 : decode cX5_takeOne 59 = .ok (.putfield 69, 3) := by decide +kernel
theorem dX5_takeOne_62 : decode cX5_takeOne 62 = .ok (.iload_n 3, 1) := by decide +kernel
theorem dX5_takeOne_63 : decode cX5_takeOne 63 = .ok (.ifCond .eq 52, 3) := by decide +kernel
theorem dX5_takeOne_66 : decode cX5_takeOne 66 = .ok (.aload_n 0, 1) := by decide +kernel
theorem dX5_takeOne_67 : decode cX5_takeOne 67 = .ok (.iload_n 1, 1) := by decide +kernel
theorem dX5_takeOne_68 : decode cX5_takeOne 68 = .ok (.bipush 40, 2) := by decide +kernel
theorem dX5_takeOne_70 : decode cX5_takeOne 70 = .ok (.if_icmp .ne 8, 3) := by decide +kernel
theorem dX5_takeOne_73 : decode cX5_takeOne 73 = .ok (.bipush 40, 2) := by decide +kernel
theorem dX5_takeOne_75 : decode cX5_takeOne 75 = .ok (.goto 5, 3) := by decide +kernel
theorem dX5_takeOne_78 : decode cX5_takeOne 78 = .ok (.bipush 14, 2) := by decide +kernel
theorem dX5_takeOne_80 : decode cX5_takeOne 80 = .ok (.invokevirtual 162, 3) := by decide +kernel
theorem dX5_takeOne_83 : decode cX5_takeOne 83 = .ok (.aload_n 0, 1) := by decide +kernel
theorem dX5_takeOne_84 : decode cX5_takeOne 84 = .ok (.dup, 1) := by decide +kernel
theorem dX5_takeOne_85 : decode cX5_takeOne 85 = .ok (.getfield 153, 3) := by decide +kernel
theorem dX5_takeOne_88 : decode cX5_takeOne 88 = .ok (.iload_n 1, 1) := by decide +kernel
theorem dX5_takeOne_89 : decode cX5_takeOne 89 = .ok (.bipush 40, 2) := by decide +kernel
theorem dX5_takeOne_91 : decode cX5_takeOne 91 = .ok (.if_icmp .ne 7, 3) := by decide +kernel
theorem dX5_takeOne_94 : decode cX5_takeOne 94 = .ok (.iconst 1, 1) := by decide +kernel
theorem dX5_takeOne_95 : decode cX5_takeOne 95 = .ok (.goto 4, 3) := by decide +kernel
theorem dX5_takeOne_98 : decode cX5_takeOne 98 = .ok (.iconst 0, 1) := by decide +kernel
theorem dX5_takeOne_99 : decode cX5_takeOne 99 = .ok (.iadd, 1) := by decide +kernel
theorem dX5_takeOne_100 : decode cX5_takeOne 100 = .ok (.putfield 153, 3) := by decide +kernel
theorem dX5_takeOne_103 : decode cX5_takeOne 103 = .ok (.aload_n 0, 1) := by decide +kernel
theorem dX5_takeOne_104 : decode cX5_takeOne 104 = .ok (.dup, 1) := by decide +kernel
theorem dX5_takeOne_105 : decode cX5_takeOne 105 = .ok (.getfield 150, 3) := by decide +kernel
theorem dX5_takeOne_108 : decode cX5_takeOne 108 = .ok (.iconst 1, 1) := by decide +kernel
theorem dX5_takeOne_109 : decode cX5_takeOne 109 = .ok (.iadd, 1) := by decide +kernel
theorem dX5_takeOne_110 : decode cX5_takeOne 110 = .ok (.putfield 150, 3) := by decide +kernel
theorem dX5_takeOne_113 : decode cX5_takeOne 113 = .ok (.iconst 0, 1) := by decide +kernel
theorem dX5_takeOne_114 : decode cX5_takeOne 114 = .ok (.ireturn, 1) := by decide +kernel
theorem dX5_takeOne_115 : decode cX5_takeOne 115 = .ok (.iload_n 2, 1) := by decide +kernel
theorem dX5_takeOne_116 : decode cX5_takeOne 116 = .ok (.invokestatic 165, 3) := by decide +kernel
theorem dX5_takeOne_119 : decode cX5_takeOne 119 = .ok (.ifCond .eq 15, 3) := by decide +kernel
theorem dX5_takeOne_122 : decode cX5_takeOne 122 = .ok (.aload_n 0, 1) := by decide +kernel
theorem dX5_takeOne_123 : decode cX5_takeOne 123 = .ok (.iload_n 2, 1) := by decide +kernel
theorem dX5_takeOne_124 : decode cX5_takeOne 124 = .ok (.putfield 110, 3) := by decide +kernel
theorem dX5_takeOne_127 : decode cX5_takeOne 127 = .ok (.aload_n 0, 1) := by decide +kernel
theorem dX5_takeOne_128 : decode cX5_takeOne 128 = .ok (.iconst 5, 1) := by decide +kernel
theorem dX5_takeOne_129 : decode cX5_takeOne 129 = .ok (.putfield 63, 3) := by decide +kernel
theorem dX5_takeOne_132 : decode cX5_takeOne 132 = .ok (.iconst 0, 1) := by decide +kernel
theorem dX5_takeOne_133 : decode cX5_takeOne 133 = .ok (.ireturn, 1) := by decide +kernel
theorem dX5_takeOne_134 : decode cX5_takeOne 134 = .ok (.aload_n 0, 1) := by decide +kernel
theorem dX5_takeOne_135 : decode cX5_takeOne 135 = .ok (.iload_n 2, 1) := by decide +kernel
theorem dX5_takeOne_136 : decode cX5_takeOne 136 = .ok (.iconst 0, 1) := by decide +kernel
theorem dX5_takeOne_137 : decode cX5_takeOne 137 = .ok (.iconst 0, 1) := by decide +kernel
theorem dX5_takeOne_138 : decode cX5_takeOne 138 = .ok (.invokevirtual 113, 3) := by decide +kernel
theorem dX5_takeOne_141 : decode cX5_takeOne 141 = .ok (.ireturn, 1) := by decide +kernel
theorem dX5_isAtom_0 : decode cX5_isAtom 0 = .ok (.aload_n 0, 1) := by decide +kernel
theorem dX5_isAtom_1 : decode cX5_isAtom 1 = .ok (.getfield 136, 3) := by decide +kernel
theorem dX5_isAtom_4 : decode cX5_isAtom 4 = .ok (.ifCond .eq 21, 3) := by decide +kernel
theorem dX5_isAtom_7 : decode cX5_isAtom 7 = .ok (.iload_n 1, 1) := by decide +kernel
theorem dX5_isAtom_8 : decode cX5_isAtom 8 = .ok (.ifCond .lt 13, 3) := by decide +kernel
theorem dX5_isAtom_11 : decode cX5_isAtom 11 = .ok (.iload_n 1, 1) := by decide +kernel
theorem dX5_isAtom_12 : decode cX5_isAtom 12 = .ok (.bipush 10, 2) := by decide +kernel
theorem dX5_isAtom_14 : decode cX5_isAtom 14 = .ok (.if_icmp .gt 7, 3) := by decide +kernel
theorem dX5_isAtom_17 : decode cX5_isAtom 17 = .ok (.iconst 1, 1) := by decide +kernel
theorem dX5_isAtom_18 : decode cX5_isAtom 18 = .ok (.goto 24, 3) := by decide +kernel
theorem dX5_isAtom_21 : decode cX5_isAtom 21 = .ok (.iconst 0, 1) := by decide +kernel
theorem dX5_isAtom_22 : decode cX5_isAtom 22 = .ok (.goto 20, 3) := by decide +kernel
theorem dX5_isAtom_25 : decode cX5_isAtom 25 = .ok (.iload_n 1, 1) := by decide +kernel
theorem dX5_isAtom_26 : decode cX5_isAtom 26 = .ok (.bipush 8, 2) := by decide +kernel
theorem dX5_isAtom_28 : decode cX5_isAtom 28 = .ok (.if_icmp .lt 13, 3) := by decide +kernel
theorem dX5_isAtom_31 : decode cX5_isAtom 31 = .ok (.iload_n 1, 1) := by decide +kernel
theorem dX5_isAtom_32 : decode cX5_isAtom 32 = .ok (.bipush 13, 2) := by decide +kernel
theorem dX5_isAtom_34 : decode cX5_isAtom 34 = .ok (.if_icmp .gt 7, 3) := by decide +kernel
theorem dX5_isAtom_37 : decode cX5_isAtom 37 = .ok (.iconst 1, 1) := by decide +kernel
theorem dX5_isAtom_38 : decode cX5_isAtom 38 = .ok (.goto 4, 3) := by decide +kernel
theorem dX5_isAtom_41 : decode cX5_isAtom 41 = .ok (.iconst 0, 1) := by decide +kernel
theorem dX5_isAtom_42 : decode cX5_isAtom 42 = .ok (.ireturn, 1) := by decide +kernel
theorem dX5_isCompared_0 : decode cX5_isCompared 0 = .ok (.iload_n 0, 1) := by decide +kernel
theorem dX5_isCompared_1 : decode cX5_isCompared 1 = .ok (.bipush 6, 2) := by decide +kernel
theorem dX5_isCompared_3 : decode cX5_isCompared 3 = .ok (.if_icmp .eq 33, 3) := by decide +kernel
theorem dX5_isCompared_6 : decode cX5_isCompared 6 = .ok (.iload_n 0, 1) := by decide +kernel
theorem dX5_isCompared_7 : decode cX5_isCompared 7 = .ok (.bipush 7, 2) := by decide +kernel
theorem dX5_isCompared_9 : decode cX5_isCompared 9 = .ok (.if_icmp .eq 27, 3) := by decide +kernel
theorem dX5_isCompared_12 : decode cX5_isCompared 12 = .ok (.iload_n 0, 1) := by decide +kernel
theorem dX5_isCompared_13 : decode cX5_isCompared 13 = .ok (.bipush 9, 2) := by decide +kernel
theorem dX5_isCompared_15 : decode cX5_isCompared 15 = .ok (.if_icmp .eq 21, 3) := by decide +kernel
theorem dX5_isCompared_18 : decode cX5_isCompared 18 = .ok (.iload_n 0, 1) := by decide +kernel
theorem dX5_isCompared_19 : decode cX5_isCompared 19 = .ok (.bipush 10, 2) := by decide +kernel
theorem dX5_isCompared_21 : decode cX5_isCompared 21 = .ok (.if_icmp .eq 15, 3) := by decide +kernel
theorem dX5_isCompared_24 : decode cX5_isCompared 24 = .ok (.iload_n 0, 1) := by decide +kernel
theorem dX5_isCompared_25 : decode cX5_isCompared 25 = .ok (.bipush 12, 2) := by decide +kernel
theorem dX5_isCompared_27 : decode cX5_isCompared 27 = .ok (.if_icmp .eq 9, 3) := by decide +kernel
theorem dX5_isCompared_30 : decode cX5_isCompared 30 = .ok (.iload_n 0, 1) := by decide +kernel
theorem dX5_isCompared_31 : decode cX5_isCompared 31 = .ok (.bipush 13, 2) := by decide +kernel
theorem dX5_isCompared_33 : decode cX5_isCompared 33 = .ok (.if_icmp .ne 7, 3) := by decide +kernel
theorem dX5_isCompared_36 : decode cX5_isCompared 36 = .ok (.iconst 1, 1) := by decide +kernel
theorem dX5_isCompared_37 : decode cX5_isCompared 37 = .ok (.goto 4, 3) := by decide +kernel
theorem dX5_isCompared_40 : decode cX5_isCompared 40 = .ok (.iconst 0, 1) := by decide +kernel
theorem dX5_isCompared_41 : decode cX5_isCompared 41 = .ok (.ireturn, 1) := by decide +kernel
theorem dX5_takeAtom_0 : decode cX5_takeAtom 0 = .ok (.aload_n 0, 1) := by decide +kernel
theorem dX5_takeAtom_1 : decode cX5_takeAtom 1 = .ok (.getfield 29, 3) := by decide +kernel
theorem dX5_takeAtom_4 : decode cX5_takeAtom 4 = .ok (.iload_n 1, 1) := by decide +kernel
theorem dX5_takeAtom_5 : decode cX5_takeAtom 5 = .ok (.iload_n 2, 1) := by decide +kernel
theorem dX5_takeAtom_6 : decode cX5_takeAtom 6 = .ok (.iload_n 3, 1) := by decide +kernel
theorem dX5_takeAtom_7 : decode cX5_takeAtom 7 = .ok (.invokevirtual 168, 3) := by decide +kernel
theorem dX5_takeAtom_10 : decode cX5_takeAtom 10 = .ok (.aload_n 0, 1) := by decide +kernel
theorem dX5_takeAtom_11 : decode cX5_takeAtom 11 = .ok (.invokevirtual 172, 3) := by decide +kernel
theorem dX5_takeAtom_14 : decode cX5_takeAtom 14 = .ok (.iconst 0, 1) := by decide +kernel
theorem dX5_takeAtom_15 : decode cX5_takeAtom 15 = .ok (.ireturn, 1) := by decide +kernel
theorem dX5_takeLink_0 : decode cX5_takeLink 0 = .ok (.iload_n 2, 1) := by decide +kernel
theorem dX5_takeLink_1 : decode cX5_takeLink 1 = .ok (.bipush 15, 2) := by decide +kernel
theorem dX5_takeLink_3 : decode cX5_takeLink 3 = .ok (.if_icmp .eq 9, 3) := by decide +kernel
theorem dX5_takeLink_6 : decode cX5_takeLink 6 = .ok (.iload_n 2, 1) := by decide +kernel
theorem dX5_takeLink_7 : decode cX5_takeLink 7 = .ok (.bipush 16, 2) := by decide +kernel
theorem dX5_takeLink_9 : decode cX5_takeLink 9 = .ok (.if_icmp .ne 20, 3) := by decide +kernel
theorem dX5_takeLink_12 : decode cX5_takeLink 12 = .ok (.aload_n 0, 1) := by decide +kernel
theorem dX5_takeLink_13 : decode cX5_takeLink 13 = .ok (.iload_n 2, 1) := by decide +kernel
theorem dX5_takeLink_14 : decode cX5_takeLink 14 = .ok (.invokevirtual 175, 3) := by decide +kernel
theorem dX5_takeLink_17 : decode cX5_takeLink 17 = .ok (.aload_n 0, 1) := by decide +kernel
theorem dX5_takeLink_18 : decode cX5_takeLink 18 = .ok (.iload_n 2, 1) := by decide +kernel
theorem dX5_takeLink_19 : decode cX5_takeLink 19 = .ok (.invokevirtual 162, 3) := by decide +kernel
theorem dX5_takeLink_22 : decode cX5_takeLink 22 = .ok (.aload_n 0, 1) := by decide +kernel
theorem dX5_takeLink_23 : decode cX5_takeLink 23 = .ok (.iconst 4, 1) := by decide +kernel
theorem dX5_takeLink_24 : decode cX5_takeLink 24 = .ok (.putfield 63, 3) := by decide +kernel
theorem dX5_takeLink_27 : decode cX5_takeLink 27 = .ok (.iconst 0, 1) := by decide +kernel
theorem dX5_takeLink_28 : decode cX5_takeLink 28 = .ok (.ireturn, 1) := by decide +kernel
theorem dX5_takeLink_29 : decode cX5_takeLink 29 = .ok (.iload_n 1, 1) := by decide +kernel
theorem dX5_takeLink_30 : decode cX5_takeLink 30 = .ok (.bipush 41, 2) := by decide +kernel
theorem dX5_takeLink_32 : decode cX5_takeLink 32 = .ok (.if_icmp .ne 52, 3) := by decide +kernel
theorem dX5_takeLink_35 : decode cX5_takeLink 35 = .ok (.aload_n 0, 1) := by decide +kernel
theorem dX5_takeLink_36 : decode cX5_takeLink 36 = .ok (.getfield 153, 3) := by decide +kernel
theorem dX5_takeLink_39 : decode cX5_takeLink 39 = .ok (.ifCond .le 45, 3) := by decide +kernel
theorem dX5_takeLink_42 : decode cX5_takeLink 42 = .ok (.aload_n 0, 1) := by decide +kernel
theorem dX5_takeLink_43 : decode cX5_takeLink 43 = .ok (.bipush 16, 2) := by decide +kernel
theorem dX5_takeLink_45 : decode cX5_takeLink 45 = .ok (.invokevirtual 175, 3) := by decide +kernel
theorem dX5_takeLink_48 : decode cX5_takeLink 48 = .ok (.aload_n 0, 1) := by decide +kernel
theorem dX5_takeLink_49 : decode cX5_takeLink 49 = .ok (.dup, 1) := by decide +kernel
theorem dX5_takeLink_50 : decode cX5_takeLink 50 = .ok (.getfield 156, 3) := by decide +kernel
theorem dX5_takeLink_53 : decode cX5_takeLink 53 = .ok (.iconst 1, 1) := by decide +kernel
theorem dX5_takeLink_54 : decode cX5_takeLink 54 = .ok (.isub, 1) := by decide +kernel
theorem dX5_takeLink_55 : decode cX5_takeLink 55 = .ok (.putfield 156, 3) := by decide +kernel
theorem dX5_takeLink_58 : decode cX5_takeLink 58 = .ok (.aload_n 0, 1) := by decide +kernel
theorem dX5_takeLink_59 : decode cX5_takeLink 59 = .ok (.dup, 1) := by decide +kernel
theorem dX5_takeLink_60 : decode cX5_takeLink 60 = .ok (.getfield 153, 3) := by decide +kernel
theorem dX5_takeLink_63 : decode cX5_takeLink 63 = .ok (.iconst 1, 1) := by decide +kernel
theorem dX5_takeLink_64 : decode cX5_takeLink 64 = .ok (.isub, 1) := by decide +kernel
theorem dX5_takeLink_65 : decode cX5_takeLink 65 = .ok (.putfield 153, 3) := by decide +kernel
theorem dX5_takeLink_68 : decode cX5_takeLink 68 = .ok (.aload_n 0, 1) := by decide +kernel
theorem dX5_takeLink_69 : decode cX5_takeLink 69 = .ok (.dup, 1) := by decide +kernel
theorem dX5_takeLink_70 : decode cX5_takeLink 70 = .ok (.getfield 150, 3) := by decide +kernel
theorem dX5_takeLink_73 : decode cX5_takeLink 73 = .ok (.iconst 1, 1) := by decide +kernel
theorem dX5_takeLink_74 : decode cX5_takeLink 74 = .ok (.isub, 1) := by decide +kernel
theorem dX5_takeLink_75 : decode cX5_takeLink 75 = .ok (.putfield 150, 3) := by decide +kernel
theorem dX5_takeLink_78 : decode cX5_takeLink 78 = .ok (.aload_n 0, 1) := by decide +kernel
theorem dX5_takeLink_79 : decode cX5_takeLink 79 = .ok (.invokevirtual 172, 3) := by decide +kernel
theorem dX5_takeLink_82 : decode cX5_takeLink 82 = .ok (.iconst 0, 1) := by decide +kernel
theorem dX5_takeLink_83 : decode cX5_takeLink 83 = .ok (.ireturn, 1) := by decide +kernel
theorem dX5_takeLink_84 : decode cX5_takeLink 84 = .ok (.iload_n 1, 1) := by decide +kernel
theorem dX5_takeLink_85 : decode cX5_takeLink 85 = .ok (.bipush 59, 2) := by decide +kernel
theorem dX5_takeLink_87 : decode cX5_takeLink 87 = .ok (.if_icmp .ne 33, 3) := by decide +kernel
theorem dX5_takeLink_90 : decode cX5_takeLink 90 = .ok (.aload_n 0, 1) := by decide +kernel
theorem dX5_takeLink_91 : decode cX5_takeLink 91 = .ok (.getfield 153, 3) := by decide +kernel
theorem dX5_takeLink_94 : decode cX5_takeLink 94 = .ok (.ifCond .ne 26, 3) := by decide +kernel
theorem dX5_takeLink_97 : decode cX5_takeLink 97 = .ok (.aload_n 0, 1) := by decide +kernel
theorem dX5_takeLink_98 : decode cX5_takeLink 98 = .ok (.bipush 16, 2) := by decide +kernel
theorem dX5_takeLink_100 : decode cX5_takeLink 100 = .ok (.invokevirtual 175, 3) := by decide +kernel
theorem dX5_takeLink_103 : decode cX5_takeLink 103 = .ok (.aload_n 0, 1) := by decide +kernel
theorem dX5_takeLink_104 : decode cX5_takeLink 104 = .ok (.getfield 29, 3) := by decide +kernel
theorem dX5_takeLink_107 : decode cX5_takeLink 107 = .ok (.aload_n 0, 1) := by decide +kernel
theorem dX5_takeLink_108 : decode cX5_takeLink 108 = .ok (.getfield 143, 3) := by decide +kernel
theorem dX5_takeLink_111 : decode cX5_takeLink 111 = .ok (.invokevirtual 178, 3) := by decide +kernel
theorem dX5_takeLink_114 : decode cX5_takeLink 114 = .ok (.aload_n 0, 1) := by decide +kernel
theorem dX5_takeLink_115 : decode cX5_takeLink 115 = .ok (.iload_n 1, 1) := by decide +kernel
theorem dX5_takeLink_116 : decode cX5_takeLink 116 = .ok (.invokevirtual 123, 3) := by decide +kernel
theorem dX5_takeLink_119 : decode cX5_takeLink 119 = .ok (.ireturn, 1) := by decide +kernel
theorem dX5_takeLink_120 : decode cX5_takeLink 120 = .ok (.iconst 1, 1) := by decide +kernel
theorem dX5_takeLink_121 : decode cX5_takeLink 121 = .ok (.ireturn, 1) := by decide +kernel
theorem dX5_await_0 : decode cX5_await 0 = .ok (.aload_n 0, 1) := by decide +kernel
theorem dX5_await_1 : decode cX5_await 1 = .ok (.getfield 156, 3) := by decide +kernel
theorem dX5_await_4 : decode cX5_await 4 = .ok (.ifCond .lt 32, 3) := by decide +kernel
theorem dX5_await_7 : decode cX5_await 7 = .ok (.aload_n 0, 1) := by decide +kernel
theorem dX5_await_8 : decode cX5_await 8 = .ok (.getfield 156, 3) := by decide +kernel
theorem dX5_await_11 : decode cX5_await 11 = .ok (.bipush 64, 2) := by decide +kernel
theorem dX5_await_13 : decode cX5_await 13 = .ok (.if_icmp .ge 23, 3) := by decide +kernel
theorem dX5_await_16 : decode cX5_await 16 = .ok (.aload_n 0, 1) := by decide +kernel
theorem dX5_await_17 : decode cX5_await 17 = .ok (.getfield 32, 3) := by decide +kernel
theorem dX5_await_20 : decode cX5_await 20 = .ok (.aload_n 0, 1) := by decide +kernel
theorem dX5_await_21 : decode cX5_await 21 = .ok (.getfield 156, 3) := by decide +kernel
theorem dX5_await_24 : decode cX5_await 24 = .ok (.iload_n 1, 1) := by decide +kernel
theorem dX5_await_25 : decode cX5_await 25 = .ok (.iastore, 1) := by decide +kernel
theorem dX5_await_26 : decode cX5_await 26 = .ok (.aload_n 0, 1) := by decide +kernel
theorem dX5_await_27 : decode cX5_await 27 = .ok (.dup, 1) := by decide +kernel
theorem dX5_await_28 : decode cX5_await 28 = .ok (.getfield 156, 3) := by decide +kernel
theorem dX5_await_31 : decode cX5_await 31 = .ok (.iconst 1, 1) := by decide +kernel
theorem dX5_await_32 : decode cX5_await 32 = .ok (.iadd, 1) := by decide +kernel
theorem dX5_await_33 : decode cX5_await 33 = .ok (.putfield 156, 3) := by decide +kernel
theorem dX5_await_36 : decode cX5_await 36 = .ok (.return_, 1) := by decide +kernel
theorem dX5_lastWaiting_0 : decode cX5_lastWaiting 0 = .ok (.aload_n 0, 1) := by decide +kernel
theorem dX5_lastWaiting_1 : decode cX5_lastWaiting 1 = .ok (.getfield 156, 3) := by decide +kernel
theorem dX5_lastWaiting_4 : decode cX5_lastWaiting 4 = .ok (.ifCond .le 26, 3) := by decide +kernel
theorem dX5_lastWaiting_7 : decode cX5_lastWaiting 7 = .ok (.aload_n 0, 1) := by decide +kernel
theorem dX5_lastWaiting_8 : decode cX5_lastWaiting 8 = .ok (.getfield 156, 3) := by decide +kernel
theorem dX5_lastWaiting_11 : decode cX5_lastWaiting 11 = .ok (.bipush 64, 2) := by decide +kernel
theorem dX5_lastWaiting_13 : decode cX5_lastWaiting 13 = .ok (.if_icmp .gt 17, 3) := by decide +kernel
theorem dX5_lastWaiting_16 : decode cX5_lastWaiting 16 = .ok (.aload_n 0, 1) := by decide +kernel
theorem dX5_lastWaiting_17 : decode cX5_lastWaiting 17 = .ok (.getfield 32, 3) := by decide +kernel
theorem dX5_lastWaiting_20 : decode cX5_lastWaiting 20 = .ok (.aload_n 0, 1) := by decide +kernel
theorem dX5_lastWaiting_21 : decode cX5_lastWaiting 21 = .ok (.getfield 156, 3) := by decide +kernel
theorem dX5_lastWaiting_24 : decode cX5_lastWaiting 24 = .ok (.iconst 1, 1) := by decide +kernel
theorem dX5_lastWaiting_25 : decode cX5_lastWaiting 25 = .ok (.isub, 1) := by decide +kernel
theorem dX5_lastWaiting_26 : decode cX5_lastWaiting 26 = .ok (.iaload, 1) := by decide +kernel
theorem dX5_lastWaiting_27 : decode cX5_lastWaiting 27 = .ok (.goto 4, 3) := by decide +kernel
theorem dX5_lastWaiting_30 : decode cX5_lastWaiting 30 = .ok (.iconst (-1), 1) := by decide +kernel
theorem dX5_lastWaiting_31 : decode cX5_lastWaiting 31 = .ok (.ireturn, 1) := by decide +kernel
theorem dX5_closeNots_0 : decode cX5_closeNots 0 = .ok (.iconst 0, 1) := by decide +kernel
theorem dX5_closeNots_1 : decode cX5_closeNots 1 = .ok (.istore_n 1, 1) := by decide +kernel
theorem dX5_closeNots_2 : decode cX5_closeNots 2 = .ok (.iload_n 1, 1) := by decide +kernel
theorem dX5_closeNots_3 : decode cX5_closeNots 3 = .ok (.bipush 64, 2) := by decide +kernel
theorem dX5_closeNots_5 : decode cX5_closeNots 5 = .ok (.if_icmp .ge 49, 3) := by decide +kernel
theorem dX5_closeNots_8 : decode cX5_closeNots 8 = .ok (.aload_n 0, 1) := by decide +kernel
theorem dX5_closeNots_9 : decode cX5_closeNots 9 = .ok (.invokevirtual 181, 3) := by decide +kernel
theorem dX5_closeNots_12 : decode cX5_closeNots 12 = .ok (.bipush 14, 2) := by decide +kernel
theorem dX5_closeNots_14 : decode cX5_closeNots 14 = .ok (.if_icmp .ne 40, 3) := by decide +kernel
theorem dX5_closeNots_17 : decode cX5_closeNots 17 = .ok (.aload_n 0, 1) := by decide +kernel
theorem dX5_closeNots_18 : decode cX5_closeNots 18 = .ok (.getfield 29, 3) := by decide +kernel
theorem dX5_closeNots_21 : decode cX5_closeNots 21 = .ok (.bipush 14, 2) := by decide +kernel
theorem dX5_closeNots_23 : decode cX5_closeNots 23 = .ok (.iconst 0, 1) := by decide +kernel
theorem dX5_closeNots_24 : decode cX5_closeNots 24 = .ok (.iconst 0, 1) := by decide +kernel
theorem dX5_closeNots_25 : decode cX5_closeNots 25 = .ok (.invokevirtual 168, 3) := by decide +kernel
theorem dX5_closeNots_28 : decode cX5_closeNots 28 = .ok (.aload_n 0, 1) := by decide +kernel
theorem dX5_closeNots_29 : decode cX5_closeNots 29 = .ok (.dup, 1) := by decide +kernel
theorem dX5_closeNots_30 : decode cX5_closeNots 30 = .ok (.getfield 156, 3) := by decide +kernel
theorem dX5_closeNots_33 : decode cX5_closeNots 33 = .ok (.iconst 1, 1) := by decide +kernel
theorem dX5_closeNots_34 : decode cX5_closeNots 34 = .ok (.isub, 1) := by decide +kernel
theorem dX5_closeNots_35 : decode cX5_closeNots 35 = .ok (.putfield 156, 3) := by decide +kernel
theorem dX5_closeNots_38 : decode cX5_closeNots 38 = .ok (.aload_n 0, 1) := by decide +kernel
theorem dX5_closeNots_39 : decode cX5_closeNots 39 = .ok (.dup, 1) := by decide +kernel
theorem dX5_closeNots_40 : decode cX5_closeNots 40 = .ok (.getfield 150, 3) := by decide +kernel
theorem dX5_closeNots_43 : decode cX5_closeNots 43 = .ok (.iconst 1, 1) := by decide +kernel
theorem dX5_closeNots_44 : decode cX5_closeNots 44 = .ok (.isub, 1) := by decide +kernel
theorem dX5_closeNots_45 : decode cX5_closeNots 45 = .ok (.putfield 150, 3) := by decide +kernel
theorem dX5_closeNots_48 : decode cX5_closeNots 48 = .ok (.iinc 1 1, 3) := by decide +kernel
theorem dX5_closeNots_51 : decode cX5_closeNots 51 = .ok (.goto (-49), 3) := by decide +kernel
theorem dX5_closeNots_54 : decode cX5_closeNots 54 = .ok (.aload_n 0, 1) := by decide +kernel
theorem dX5_closeNots_55 : decode cX5_closeNots 55 = .ok (.bipush 7, 2) := by decide +kernel
theorem dX5_closeNots_57 : decode cX5_closeNots 57 = .ok (.putfield 63, 3) := by decide +kernel
theorem dX5_closeNots_60 : decode cX5_closeNots 60 = .ok (.return_, 1) := by decide +kernel
theorem dX5_closeLinks_0 : decode cX5_closeLinks 0 = .ok (.iconst 0, 1) := by decide +kernel
theorem dX5_closeLinks_1 : decode cX5_closeLinks 1 = .ok (.istore_n 2, 1) := by decide +kernel
theorem dX5_closeLinks_2 : decode cX5_closeLinks 2 = .ok (.iload_n 2, 1) := by decide +kernel
theorem dX5_closeLinks_3 : decode cX5_closeLinks 3 = .ok (.bipush 64, 2) := by decide +kernel
theorem dX5_closeLinks_5 : decode cX5_closeLinks 5 = .ok (.if_icmp .ge 49, 3) := by decide +kernel
theorem dX5_closeLinks_8 : decode cX5_closeLinks 8 = .ok (.aload_n 0, 1) := by decide +kernel
theorem dX5_closeLinks_9 : decode cX5_closeLinks 9 = .ok (.invokevirtual 181, 3) := by decide +kernel
theorem dX5_closeLinks_12 : decode cX5_closeLinks 12 = .ok (.bipush 15, 2) := by decide +kernel
theorem dX5_closeLinks_14 : decode cX5_closeLinks 14 = .ok (.if_icmp .eq 11, 3) := by decide +kernel
theorem dX5_closeLinks_17 : decode cX5_closeLinks 17 = .ok (.aload_n 0, 1) := by decide +kernel
theorem dX5_closeLinks_18 : decode cX5_closeLinks 18 = .ok (.invokevirtual 181, 3) := by decide +kernel
theorem dX5_closeLinks_21 : decode cX5_closeLinks 21 = .ok (.iload_n 1, 1) := by decide +kernel
theorem dX5_closeLinks_22 : decode cX5_closeLinks 22 = .ok (.if_icmp .ne 32, 3) := by decide +kernel
theorem dX5_closeLinks_25 : decode cX5_closeLinks 25 = .ok (.aload_n 0, 1) := by decide +kernel
theorem dX5_closeLinks_26 : decode cX5_closeLinks 26 = .ok (.getfield 29, 3) := by decide +kernel
theorem dX5_closeLinks_29 : decode cX5_closeLinks 29 = .ok (.aload_n 0, 1) := by decide +kernel
theorem dX5_closeLinks_30 : decode cX5_closeLinks 30 = .ok (.invokevirtual 181, 3) := by decide +kernel
theorem dX5_closeLinks_33 : decode cX5_closeLinks 33 = .ok (.iconst 0, 1) := by decide +kernel
theorem dX5_closeLinks_34 : decode cX5_closeLinks 34 = .ok (.iconst 0, 1) := by decide +kernel
theorem dX5_closeLinks_35 : decode cX5_closeLinks 35 = .ok (.invokevirtual 168, 3) := by decide +kernel
theorem dX5_closeLinks_38 : decode cX5_closeLinks 38 = .ok (.aload_n 0, 1) := by decide +kernel
theorem dX5_closeLinks_39 : decode cX5_closeLinks 39 = .ok (.dup, 1) := by decide +kernel
theorem dX5_closeLinks_40 : decode cX5_closeLinks 40 = .ok (.getfield 156, 3) := by decide +kernel
theorem dX5_closeLinks_43 : decode cX5_closeLinks 43 = .ok (.iconst 1, 1) := by decide +kernel
theorem dX5_closeLinks_44 : decode cX5_closeLinks 44 = .ok (.isub, 1) := by decide +kernel
theorem dX5_closeLinks_45 : decode cX5_closeLinks 45 = .ok (.putfield 156, 3) := by decide +kernel
theorem dX5_closeLinks_48 : decode cX5_closeLinks 48 = .ok (.iinc 2 1, 3) := by decide +kernel
theorem dX5_closeLinks_51 : decode cX5_closeLinks 51 = .ok (.goto (-49), 3) := by decide +kernel
theorem dX5_closeLinks_54 : decode cX5_closeLinks 54 = .ok (.return_, 1) := by decide +kernel
theorem dX5_takeSetting_0 : decode cX5_takeSetting 0 = .ok (.iload_n 1, 1) := by decide +kernel
theorem dX5_takeSetting_1 : decode cX5_takeSetting 1 = .ok (.iconst 3, 1) := by decide +kernel
theorem dX5_takeSetting_2 : decode cX5_takeSetting 2 = .ok (.if_icmp .eq 5, 3) := by decide +kernel
theorem dX5_takeSetting_5 : decode cX5_takeSetting 5 = .ok (.iconst 1, 1) := by decide +kernel
theorem dX5_takeSetting_6 : decode cX5_takeSetting 6 = .ok (.ireturn, 1) := by decide +kernel
theorem dX5_takeSetting_7 : decode cX5_takeSetting 7 = .ok (.aload_n 0, 1) := by decide +kernel
theorem dX5_takeSetting_8 : decode cX5_takeSetting 8 = .ok (.getfield 110, 3) := by decide +kernel
theorem dX5_takeSetting_11 : decode cX5_takeSetting 11 = .ok (.bipush 22, 2) := by decide +kernel
theorem dX5_takeSetting_13 : decode cX5_takeSetting 13 = .ok (.if_icmp .eq 12, 3) := by decide +kernel
theorem dX5_takeSetting_16 : decode cX5_takeSetting 16 = .ok (.aload_n 0, 1) := by decide +kernel
theorem dX5_takeSetting_17 : decode cX5_takeSetting 17 = .ok (.getfield 110, 3) := by decide +kernel
theorem dX5_takeSetting_20 : decode cX5_takeSetting 20 = .ok (.bipush 24, 2) := by decide +kernel
theorem dX5_takeSetting_22 : decode cX5_takeSetting 22 = .ok (.if_icmp .ne 7, 3) := by decide +kernel
theorem dX5_takeSetting_25 : decode cX5_takeSetting 25 = .ok (.iconst 1, 1) := by decide +kernel
theorem dX5_takeSetting_26 : decode cX5_takeSetting 26 = .ok (.goto 4, 3) := by decide +kernel
theorem dX5_takeSetting_29 : decode cX5_takeSetting 29 = .ok (.iconst 0, 1) := by decide +kernel
theorem dX5_takeSetting_30 : decode cX5_takeSetting 30 = .ok (.istore_n 3, 1) := by decide +kernel
theorem dX5_takeSetting_31 : decode cX5_takeSetting 31 = .ok (.iload_n 2, 1) := by decide +kernel
theorem dX5_takeSetting_32 : decode cX5_takeSetting 32 = .ok (.iload_n 3, 1) := by decide +kernel
theorem dX5_takeSetting_33 : decode cX5_takeSetting 33 = .ok (.if_icmp .lt 14, 3) := by decide +kernel
theorem dX5_takeSetting_36 : decode cX5_takeSetting 36 = .ok (.iload_n 2, 1) := by decide +kernel
theorem dX5_takeSetting_37 : decode cX5_takeSetting 37 = .ok (.aload_n 0, 1) := by decide +kernel
theorem dX5_takeSetting_38 : decode cX5_takeSetting 38 = .ok (.getfield 110, 3) := by decide +kernel
theorem dX5_takeSetting_41 : decode cX5_takeSetting 41 = .ok (.invokestatic 184, 3) := by decide +kernel
theorem dX5_takeSetting_44 : decode cX5_takeSetting 44 = .ok (.if_icmp .le 5, 3) := by decide +kernel
theorem dX5_takeSetting_47 : decode cX5_takeSetting 47 = .ok (.iconst 2, 1) := by decide +kernel
theorem dX5_takeSetting_48 : decode cX5_takeSetting 48 = .ok (.ireturn, 1) := by decide +kernel
theorem dX5_takeSetting_49 : decode cX5_takeSetting 49 = .ok (.aload_n 0, 1) := by decide +kernel
theorem dX5_takeSetting_50 : decode cX5_takeSetting 50 = .ok (.getfield 29, 3) := by decide +kernel
theorem dX5_takeSetting_53 : decode cX5_takeSetting 53 = .ok (.aload_n 0, 1) := by decide +kernel
theorem dX5_takeSetting_54 : decode cX5_takeSetting 54 = .ok (.getfield 110, 3) := by decide +kernel
theorem dX5_takeSetting_57 : decode cX5_takeSetting 57 = .ok (.iload_n 2, 1) := by decide +kernel
theorem dX5_takeSetting_58 : decode cX5_takeSetting 58 = .ok (.invokevirtual 187, 3) := by decide +kernel
theorem dX5_takeSetting_61 : decode cX5_takeSetting 61 = .ok (.aload_n 0, 1) := by decide +kernel
theorem dX5_takeSetting_62 : decode cX5_takeSetting 62 = .ok (.bipush 9, 2) := by decide +kernel
theorem dX5_takeSetting_64 : decode cX5_takeSetting 64 = .ok (.putfield 63, 3) := by decide +kernel
theorem dX5_takeSetting_67 : decode cX5_takeSetting 67 = .ok (.iconst 0, 1) := by decide +kernel
theorem dX5_takeSetting_68 : decode cX5_takeSetting 68 = .ok (.ireturn, 1) := by decide +kernel
theorem dX5_greatestFor_0 : decode cX5_greatestFor 0 = .ok (.iload_n 0, 1) := by decide +kernel
theorem dX5_greatestFor_1 : decode cX5_greatestFor 1 = .ok (.lookupswitch 44 #[(8, 35), (23, 37), (25, 41)], 35) := by decide +kernel
theorem dX5_greatestFor_36 : decode cX5_greatestFor 36 = .ok (.iconst 4, 1) := by decide +kernel
theorem dX5_greatestFor_37 : decode cX5_greatestFor 37 = .ok (.ireturn, 1) := by decide +kernel
theorem dX5_greatestFor_38 : decode cX5_greatestFor 38 = .ok (.sipush 3650, 3) := by decide +kernel
theorem dX5_greatestFor_41 : decode cX5_greatestFor 41 = .ok (.ireturn, 1) := by decide +kernel
theorem dX5_greatestFor_42 : decode cX5_greatestFor 42 = .ok (.bipush 12, 2) := by decide +kernel
theorem dX5_greatestFor_44 : decode cX5_greatestFor 44 = .ok (.ireturn, 1) := by decide +kernel
theorem dX5_greatestFor_45 : decode cX5_greatestFor 45 = .ok (.sipush 999, 3) := by decide +kernel
theorem dX5_greatestFor_48 : decode cX5_greatestFor 48 = .ok (.ireturn, 1) := by decide +kernel
theorem dX5_takeRuleEnd_0 : decode cX5_takeRuleEnd 0 = .ok (.iload_n 1, 1) := by decide +kernel
theorem dX5_takeRuleEnd_1 : decode cX5_takeRuleEnd 1 = .ok (.bipush 59, 2) := by decide +kernel
theorem dX5_takeRuleEnd_3 : decode cX5_takeRuleEnd 3 = .ok (.if_icmp .eq 5, 3) := by decide +kernel
theorem dX5_takeRuleEnd_6 : decode cX5_takeRuleEnd 6 = .ok (.iconst 1, 1) := by decide +kernel
theorem dX5_takeRuleEnd_7 : decode cX5_takeRuleEnd 7 = .ok (.ireturn, 1) := by decide +kernel
theorem dX5_takeRuleEnd_8 : decode cX5_takeRuleEnd 8 = .ok (.aload_n 0, 1) := by decide +kernel
theorem dX5_takeRuleEnd_9 : decode cX5_takeRuleEnd 9 = .ok (.getfield 29, 3) := by decide +kernel
theorem dX5_takeRuleEnd_12 : decode cX5_takeRuleEnd 12 = .ok (.invokevirtual 190, 3) := by decide +kernel
theorem dX5_takeRuleEnd_15 : decode cX5_takeRuleEnd 15 = .ok (.aload_n 0, 1) := by decide +kernel
theorem dX5_takeRuleEnd_16 : decode cX5_takeRuleEnd 16 = .ok (.iconst 0, 1) := by decide +kernel
theorem dX5_takeRuleEnd_17 : decode cX5_takeRuleEnd 17 = .ok (.putfield 63, 3) := by decide +kernel
theorem dX5_takeRuleEnd_20 : decode cX5_takeRuleEnd 20 = .ok (.iconst 0, 1) := by decide +kernel
theorem dX5_takeRuleEnd_21 : decode cX5_takeRuleEnd 21 = .ok (.ireturn, 1) := by decide +kernel
theorem dX6_init_0 : decode cX6_init 0 = .ok (.aload_n 0, 1) := by decide +kernel
theorem dX6_init_1 : decode cX6_init 1 = .ok (.invokespecial 3, 3) := by decide +kernel
theorem dX6_init_4 : decode cX6_init 4 = .ok (.aload_n 0, 1) := by decide +kernel
theorem dX6_init_5 : decode cX6_init 5 = .ok (.bipush 100, 2) := by decide +kernel
theorem dX6_init_7 : decode cX6_init 7 = .ok (.newarray .int, 2) := by decide +kernel
theorem dX6_init_9 : decode cX6_init 9 = .ok (.putfield 11, 3) := by decide +kernel
theorem dX6_init_12 : decode cX6_init 12 = .ok (.aload_n 0, 1) := by decide +kernel
theorem dX6_init_13 : decode cX6_init 13 = .ok (.bipush 100, 2) := by decide +kernel
theorem dX6_init_15 : decode cX6_init 15 = .ok (.newarray .long, 2) := by decide +kernel
theorem dX6_init_17 : decode cX6_init 17 = .ok (.putfield 15, 3) := by decide +kernel
theorem dX6_init_20 : decode cX6_init 20 = .ok (.aload_n 0, 1) := by decide +kernel
theorem dX6_init_21 : decode cX6_init 21 = .ok (.bipush 100, 2) := by decide +kernel
theorem dX6_init_23 : decode cX6_init 23 = .ok (.newarray .int, 2) := by decide +kernel
theorem dX6_init_25 : decode cX6_init 25 = .ok (.putfield 19, 3) := by decide +kernel
theorem dX6_init_28 : decode cX6_init 28 = .ok (.aload_n 0, 1) := by decide +kernel
theorem dX6_init_29 : decode cX6_init 29 = .ok (.bipush 100, 2) := by decide +kernel
theorem dX6_init_31 : decode cX6_init 31 = .ok (.newarray .int, 2) := by decide +kernel
theorem dX6_init_33 : decode cX6_init 33 = .ok (.putfield 22, 3) := by decide +kernel
theorem dX6_init_36 : decode cX6_init 36 = .ok (.aload_n 0, 1) := by decide +kernel
theorem dX6_init_37 : decode cX6_init 37 = .ok (.bipush 100, 2) := by decide +kernel
theorem dX6_init_39 : decode cX6_init 39 = .ok (.newarray .int, 2) := by decide +kernel
theorem dX6_init_41 : decode cX6_init 41 = .ok (.putfield 25, 3) := by decide +kernel
theorem dX6_init_44 : decode cX6_init 44 = .ok (.aload_n 0, 1) := by decide +kernel
theorem dX6_init_45 : decode cX6_init 45 = .ok (.sipush 200, 3) := by decide +kernel
theorem dX6_init_48 : decode cX6_init 48 = .ok (.newarray .long, 2) := by decide +kernel
theorem dX6_init_50 : decode cX6_init 50 = .ok (.putfield 28, 3) := by decide +kernel
theorem dX6_init_53 : decode cX6_init 53 = .ok (.aload_n 0, 1) := by decide +kernel
theorem dX6_init_54 : decode cX6_init 54 = .ok (.iconst 2, 1) := by decide +kernel
theorem dX6_init_55 : decode cX6_init 55 = .ok (.newarray .long, 2) := by decide +kernel
theorem dX6_init_57 : decode cX6_init 57 = .ok (.putfield 31, 3) := by decide +kernel
theorem dX6_init_60 : decode cX6_init 60 = .ok (.aload_n 0, 1) := by decide +kernel
theorem dX6_init_61 : decode cX6_init 61 = .ok (.iconst 2, 1) := by decide +kernel
theorem dX6_init_62 : decode cX6_init 62 = .ok (.newarray .long, 2) := by decide +kernel
theorem dX6_init_64 : decode cX6_init 64 = .ok (.putfield 34, 3) := by decide +kernel
theorem dX6_init_67 : decode cX6_init 67 = .ok (.aload_n 0, 1) := by decide +kernel
theorem dX6_init_68 : decode cX6_init 68 = .ok (.bipush 100, 2) := by decide +kernel
theorem dX6_init_70 : decode cX6_init 70 = .ok (.newarray .int, 2) := by decide +kernel
theorem dX6_init_72 : decode cX6_init 72 = .ok (.putfield 37, 3) := by decide +kernel
theorem dX6_init_75 : decode cX6_init 75 = .ok (.aload_n 0, 1) := by decide +kernel
theorem dX6_init_76 : decode cX6_init 76 = .ok (.bipush 120, 2) := by decide +kernel
theorem dX6_init_78 : decode cX6_init 78 = .ok (.newarray .int, 2) := by decide +kernel
theorem dX6_init_80 : decode cX6_init 80 = .ok (.putfield 40, 3) := by decide +kernel
theorem dX6_init_83 : decode cX6_init 83 = .ok (.aload_n 0, 1) := by decide +kernel
theorem dX6_init_84 : decode cX6_init 84 = .ok (.bipush 120, 2) := by decide +kernel
theorem dX6_init_86 : decode cX6_init 86 = .ok (.newarray .int, 2) := by decide +kernel
theorem dX6_init_88 : decode cX6_init 88 = .ok (.putfield 43, 3) := by decide +kernel
theorem dX6_init_91 : decode cX6_init 91 = .ok (.aload_n 0, 1) := by decide +kernel
theorem dX6_init_92 : decode cX6_init 92 = .ok (.bipush 100, 2) := by decide +kernel
theorem dX6_init_94 : decode cX6_init 94 = .ok (.newarray .int, 2) := by decide +kernel
theorem dX6_init_96 : decode cX6_init 96 = .ok (.putfield 46, 3) := by decide +kernel
theorem dX6_init_99 : decode cX6_init 99 = .ok (.aload_n 0, 1) := by decide +kernel
theorem dX6_init_100 : decode cX6_init 100 = .ok (.aload_n 1, 1) := by decide +kernel
theorem dX6_init_101 : decode cX6_init 101 = .ok (.putfield 49, 3) := by decide +kernel
theorem dX6_init_104 : decode cX6_init 104 = .ok (.aload_n 0, 1) := by decide +kernel
theorem dX6_init_105 : decode cX6_init 105 = .ok (.aload_n 2, 1) := by decide +kernel
theorem dX6_init_106 : decode cX6_init 106 = .ok (.putfield 53, 3) := by decide +kernel
theorem dX6_init_109 : decode cX6_init 109 = .ok (.aload_n 0, 1) := by decide +kernel
theorem dX6_init_110 : decode cX6_init 110 = .ok (.aload_n 3, 1) := by decide +kernel
theorem dX6_init_111 : decode cX6_init 111 = .ok (.putfield 57, 3) := by decide +kernel
theorem dX6_init_114 : decode cX6_init 114 = .ok (.return_, 1) := by decide +kernel
theorem dX6_add_0 : decode cX6_add 0 = .ok (.aload_n 0, 1) := by decide +kernel
theorem dX6_add_1 : decode cX6_add 1 = .ok (.getfield 61, 3) := by decide +kernel
theorem dX6_add_4 : decode cX6_add 4 = .ok (.ifCond .lt 12, 3) := by decide +kernel
theorem dX6_add_7 : decode cX6_add 7 = .ok (.aload_n 0, 1) := by decide +kernel
theorem dX6_add_8 : decode cX6_add 8 = .ok (.getfield 61, 3) := by decide +kernel
theorem dX6_add_11 : decode cX6_add 11 = .ok (.bipush 100, 2) := by decide +kernel
theorem dX6_add_13 : decode cX6_add 13 = .ok (.if_icmp .lt 5, 3) := by decide +kernel
theorem dX6_add_16 : decode cX6_add 16 = .ok (.iconst (-1), 1) := by decide +kernel
theorem dX6_add_17 : decode cX6_add 17 = .ok (.ireturn, 1) := by decide +kernel
theorem dX6_add_18 : decode cX6_add 18 = .ok (.aload_n 0, 1) := by decide +kernel
theorem dX6_add_19 : decode cX6_add 19 = .ok (.getfield 11, 3) := by decide +kernel
theorem dX6_add_22 : decode cX6_add 22 = .ok (.aload_n 0, 1) := by decide +kernel
theorem dX6_add_23 : decode cX6_add 23 = .ok (.getfield 61, 3) := by decide +kernel
theorem dX6_add_26 : decode cX6_add 26 = .ok (.iload_n 1, 1) := by decide +kernel
theorem dX6_add_27 : decode cX6_add 27 = .ok (.iastore, 1) := by decide +kernel
theorem dX6_add_28 : decode cX6_add 28 = .ok (.aload_n 0, 1) := by decide +kernel
theorem dX6_add_29 : decode cX6_add 29 = .ok (.getfield 15, 3) := by decide +kernel
theorem dX6_add_32 : decode cX6_add 32 = .ok (.aload_n 0, 1) := by decide +kernel
theorem dX6_add_33 : decode cX6_add 33 = .ok (.getfield 61, 3) := by decide +kernel
theorem dX6_add_36 : decode cX6_add 36 = .ok (.lload_n 2, 1) := by decide +kernel
theorem dX6_add_37 : decode cX6_add 37 = .ok (.lastore, 1) := by decide +kernel
theorem dX6_add_38 : decode cX6_add 38 = .ok (.aload_n 0, 1) := by decide +kernel
theorem dX6_add_39 : decode cX6_add 39 = .ok (.getfield 19, 3) := by decide +kernel
theorem dX6_add_42 : decode cX6_add 42 = .ok (.aload_n 0, 1) := by decide +kernel
theorem dX6_add_43 : decode cX6_add 43 = .ok (.getfield 61, 3) := by decide +kernel
theorem dX6_add_46 : decode cX6_add 46 = .ok (.iload 4, 2) := by decide +kernel
theorem dX6_add_48 : decode cX6_add 48 = .ok (.iastore, 1) := by decide +kernel
theorem dX6_add_49 : decode cX6_add 49 = .ok (.aload_n 0, 1) := by decide +kernel
theorem dX6_add_50 : decode cX6_add 50 = .ok (.getfield 22, 3) := by decide +kernel
theorem dX6_add_53 : decode cX6_add 53 = .ok (.aload_n 0, 1) := by decide +kernel
theorem dX6_add_54 : decode cX6_add 54 = .ok (.getfield 61, 3) := by decide +kernel
theorem dX6_add_57 : decode cX6_add 57 = .ok (.iload 5, 2) := by decide +kernel
theorem dX6_add_59 : decode cX6_add 59 = .ok (.iastore, 1) := by decide +kernel
theorem dX6_add_60 : decode cX6_add 60 = .ok (.aload_n 0, 1) := by decide +kernel
theorem dX6_add_61 : decode cX6_add 61 = .ok (.getfield 25, 3) := by decide +kernel
theorem dX6_add_64 : decode cX6_add 64 = .ok (.aload_n 0, 1) := by decide +kernel
theorem dX6_add_65 : decode cX6_add 65 = .ok (.getfield 61, 3) := by decide +kernel
theorem dX6_add_68 : decode cX6_add 68 = .ok (.iload 6, 2) := by decide +kernel
theorem dX6_add_70 : decode cX6_add 70 = .ok (.iastore, 1) := by decide +kernel
theorem dX6_add_71 : decode cX6_add 71 = .ok (.aload_n 0, 1) := by decide +kernel
theorem dX6_add_72 : decode cX6_add 72 = .ok (.dup, 1) := by decide +kernel
theorem dX6_add_73 : decode cX6_add 73 = .ok (.getfield 61, 3) := by decide +kernel
theorem dX6_add_76 : decode cX6_add 76 = .ok (.iconst 1, 1) := by decide +kernel
theorem dX6_add_77 : decode cX6_add 77 = .ok (.iadd, 1) := by decide +kernel
theorem dX6_add_78 : decode cX6_add 78 = .ok (.putfield 61, 3) := by decide +kernel
theorem dX6_add_81 : decode cX6_add 81 = .ok (.aload_n 0, 1) := by decide +kernel
theorem dX6_add_82 : decode cX6_add 82 = .ok (.getfield 61, 3) := by decide +kernel
theorem dX6_add_85 : decode cX6_add 85 = .ok (.iconst 1, 1) := by decide +kernel
theorem dX6_add_86 : decode cX6_add 86 = .ok (.isub, 1) := by decide +kernel
theorem dX6_add_87 : decode cX6_add 87 = .ok (.ireturn, 1) := by decide +kernel
theorem dX6_total_0 : decode cX6_total 0 = .ok (.aload_n 0, 1) := by decide +kernel
theorem dX6_total_1 : decode cX6_total 1 = .ok (.getfield 61, 3) := by decide +kernel
theorem dX6_total_4 : decode cX6_total 4 = .ok (.ireturn, 1) := by decide +kernel
theorem dX6_has_0 : decode cX6_has 0 = .ok (.iload_n 1, 1) := by decide +kernel
theorem dX6_has_1 : decode cX6_has 1 = .ok (.ifCond .lt 21, 3) := by decide +kernel
theorem dX6_has_4 : decode cX6_has 4 = .ok (.iload_n 1, 1) := by decide +kernel
theorem dX6_has_5 : decode cX6_has 5 = .ok (.aload_n 0, 1) := by decide +kernel
theorem dX6_has_6 : decode cX6_has 6 = .ok (.getfield 61, 3) := by decide +kernel
theorem dX6_has_9 : decode cX6_has 9 = .ok (.if_icmp .ge 13, 3) := by decide +kernel
theorem dX6_has_12 : decode cX6_has 12 = .ok (.iload_n 1, 1) := by decide +kernel
theorem dX6_has_13 : decode cX6_has 13 = .ok (.bipush 100, 2) := by decide +kernel
theorem dX6_has_15 : decode cX6_has 15 = .ok (.if_icmp .ge 7, 3) := by decide +kernel
theorem dX6_has_18 : decode cX6_has 18 = .ok (.iconst 1, 1) := by decide +kernel
theorem dX6_has_19 : decode cX6_has 19 = .ok (.goto 4, 3) := by decide +kernel
theorem dX6_has_22 : decode cX6_has 22 = .ok (.iconst 0, 1) := by decide +kernel
theorem dX6_has_23 : decode cX6_has 23 = .ok (.ireturn, 1) := by decide +kernel
theorem dX6_isGift_0 : decode cX6_isGift 0 = .ok (.iload_n 0, 1) := by decide +kernel
theorem dX6_isGift_1 : decode cX6_isGift 1 = .ok (.ifCond .lt 13, 3) := by decide +kernel
theorem dX6_isGift_4 : decode cX6_isGift 4 = .ok (.iload_n 0, 1) := by decide +kernel
theorem dX6_isGift_5 : decode cX6_isGift 5 = .ok (.bipush 120, 2) := by decide +kernel
theorem dX6_isGift_7 : decode cX6_isGift 7 = .ok (.if_icmp .ge 7, 3) := by decide +kernel
theorem dX6_isGift_10 : decode cX6_isGift 10 = .ok (.iconst 1, 1) := by decide +kernel
theorem dX6_isGift_11 : decode cX6_isGift 11 = .ok (.goto 4, 3) := by decide +kernel
theorem dX6_isGift_14 : decode cX6_isGift 14 = .ok (.iconst 0, 1) := by decide +kernel
theorem dX6_isGift_15 : decode cX6_isGift 15 = .ok (.ireturn, 1) := by decide +kernel
theorem dX6_isKnown_0 : decode cX6_isKnown 0 = .ok (.aload_n 0, 1) := by decide +kernel
theorem dX6_isKnown_1 : decode cX6_isKnown 1 = .ok (.iload_n 1, 1) := by decide +kernel
theorem dX6_isKnown_2 : decode cX6_isKnown 2 = .ok (.invokevirtual 65, 3) := by decide +kernel
theorem dX6_isKnown_5 : decode cX6_isKnown 5 = .ok (.ifCond .eq 17, 3) := by decide +kernel
theorem dX6_isKnown_8 : decode cX6_isKnown 8 = .ok (.aload_n 0, 1) := by decide +kernel
theorem dX6_isKnown_9 : decode cX6_isKnown 9 = .ok (.getfield 25, 3) := by decide +kernel
theorem dX6_isKnown_12 : decode cX6_isKnown 12 = .ok (.iload_n 1, 1) := by decide +kernel
theorem dX6_isKnown_13 : decode cX6_isKnown 13 = .ok (.iaload, 1) := by decide +kernel
theorem dX6_isKnown_14 : decode cX6_isKnown 14 = .ok (.iload_n 2, 1) := by decide +kernel
theorem dX6_isKnown_15 : decode cX6_isKnown 15 = .ok (.if_icmp .gt 7, 3) := by decide +kernel
theorem dX6_isKnown_18 : decode cX6_isKnown 18 = .ok (.iconst 1, 1) := by decide +kernel
theorem dX6_isKnown_19 : decode cX6_isKnown 19 = .ok (.goto 4, 3) := by decide +kernel
theorem dX6_isKnown_22 : decode cX6_isKnown 22 = .ok (.iconst 0, 1) := by decide +kernel
theorem dX6_isKnown_23 : decode cX6_isKnown 23 = .ok (.ireturn, 1) := by decide +kernel
theorem dX6_bearersOf_0 : decode cX6_bearersOf 0 = .ok (.aload_n 0, 1) := by decide +kernel
theorem dX6_bearersOf_1 : decode cX6_bearersOf 1 = .ok (.iload_n 1, 1) := by decide +kernel
theorem dX6_bearersOf_2 : decode cX6_bearersOf 2 = .ok (.invokevirtual 65, 3) := by decide +kernel
theorem dX6_bearersOf_5 : decode cX6_bearersOf 5 = .ok (.ifCond .eq 19, 3) := by decide +kernel
theorem dX6_bearersOf_8 : decode cX6_bearersOf 8 = .ok (.aload_n 0, 1) := by decide +kernel
theorem dX6_bearersOf_9 : decode cX6_bearersOf 9 = .ok (.getfield 49, 3) := by decide +kernel
theorem dX6_bearersOf_12 : decode cX6_bearersOf 12 = .ok (.aload_n 0, 1) := by decide +kernel
theorem dX6_bearersOf_13 : decode cX6_bearersOf 13 = .ok (.getfield 15, 3) := by decide +kernel
theorem dX6_bearersOf_16 : decode cX6_bearersOf 16 = .ok (.iload_n 1, 1) := by decide +kernel
theorem dX6_bearersOf_17 : decode cX6_bearersOf 17 = .ok (.laload, 1) := by decide +kernel
theorem dX6_bearersOf_18 : decode cX6_bearersOf 18 = .ok (.invokevirtual 69, 3) := by decide +kernel
theorem dX6_bearersOf_21 : decode cX6_bearersOf 21 = .ok (.goto 4, 3) := by decide +kernel
theorem dX6_bearersOf_24 : decode cX6_bearersOf 24 = .ok (.iconst 0, 1) := by decide +kernel
theorem dX6_bearersOf_25 : decode cX6_bearersOf 25 = .ok (.ireturn, 1) := by decide +kernel
theorem dX6_giftJoined_0 : decode cX6_giftJoined 0 = .ok (.aload_n 0, 1) := by decide +kernel
theorem dX6_giftJoined_1 : decode cX6_giftJoined 1 = .ok (.iload_n 1, 1) := by decide +kernel
theorem dX6_giftJoined_2 : decode cX6_giftJoined 2 = .ok (.invokevirtual 65, 3) := by decide +kernel
theorem dX6_giftJoined_5 : decode cX6_giftJoined 5 = .ok (.ifCond .eq 12, 3) := by decide +kernel
theorem dX6_giftJoined_8 : decode cX6_giftJoined 8 = .ok (.aload_n 0, 1) := by decide +kernel
theorem dX6_giftJoined_9 : decode cX6_giftJoined 9 = .ok (.getfield 37, 3) := by decide +kernel
theorem dX6_giftJoined_12 : decode cX6_giftJoined 12 = .ok (.iload_n 1, 1) := by decide +kernel
theorem dX6_giftJoined_13 : decode cX6_giftJoined 13 = .ok (.iaload, 1) := by decide +kernel
theorem dX6_giftJoined_14 : decode cX6_giftJoined 14 = .ok (.goto 4, 3) := by decide +kernel
theorem dX6_giftJoined_17 : decode cX6_giftJoined 17 = .ok (.iconst (-1), 1) := by decide +kernel
theorem dX6_giftJoined_18 : decode cX6_giftJoined 18 = .ok (.ireturn, 1) := by decide +kernel
theorem dX6_join_0 : decode cX6_join 0 = .ok (.aload_n 0, 1) := by decide +kernel
theorem dX6_join_1 : decode cX6_join 1 = .ok (.getfield 28, 3) := by decide +kernel
theorem dX6_join_4 : decode cX6_join 4 = .ok (.lconst 0, 1) := by decide +kernel
theorem dX6_join_5 : decode cX6_join 5 = .ok (.invokestatic 75, 3) := by decide +kernel
theorem dX6_join_8 : decode cX6_join 8 = .ok (.aload_n 0, 1) := by decide +kernel
theorem dX6_join_9 : decode cX6_join 9 = .ok (.getfield 37, 3) := by decide +kernel
theorem dX6_join_12 : decode cX6_join 12 = .ok (.iconst (-1), 1) := by decide +kernel
theorem dX6_join_13 : decode cX6_join 13 = .ok (.invokestatic 81, 3) := by decide +kernel
theorem dX6_join_16 : decode cX6_join 16 = .ok (.aload_n 0, 1) := by decide +kernel
theorem dX6_join_17 : decode cX6_join 17 = .ok (.getfield 40, 3) := by decide +kernel
theorem dX6_join_20 : decode cX6_join 20 = .ok (.iconst (-1), 1) := by decide +kernel
theorem dX6_join_21 : decode cX6_join 21 = .ok (.invokestatic 81, 3) := by decide +kernel
theorem dX6_join_24 : decode cX6_join 24 = .ok (.aload_n 0, 1) := by decide +kernel
theorem dX6_join_25 : decode cX6_join 25 = .ok (.getfield 31, 3) := by decide +kernel
theorem dX6_join_28 : decode cX6_join 28 = .ok (.ldc2_w 84, 3) := by decide +kernel
theorem dX6_join_31 : decode cX6_join 31 = .ok (.invokestatic 75, 3) := by decide +kernel
theorem dX6_join_34 : decode cX6_join 34 = .ok (.iconst 0, 1) := by decide +kernel
theorem dX6_join_35 : decode cX6_join 35 = .ok (.istore_n 2, 1) := by decide +kernel
theorem dX6_join_36 : decode cX6_join 36 = .ok (.iload_n 2, 1) := by decide +kernel
theorem dX6_join_37 : decode cX6_join 37 = .ok (.aload_n 0, 1) := by decide +kernel
theorem dX6_join_38 : decode cX6_join 38 = .ok (.getfield 61, 3) := by decide +kernel
theorem dX6_join_41 : decode cX6_join 41 = .ok (.if_icmp .ge 15, 3) := by decide +kernel
theorem dX6_join_44 : decode cX6_join 44 = .ok (.aload_n 0, 1) := by decide +kernel
theorem dX6_join_45 : decode cX6_join 45 = .ok (.iload_n 2, 1) := by decide +kernel
theorem dX6_join_46 : decode cX6_join 46 = .ok (.iload_n 1, 1) := by decide +kernel
theorem dX6_join_47 : decode cX6_join 47 = .ok (.invokevirtual 86, 3) := by decide +kernel
theorem dX6_join_50 : decode cX6_join 50 = .ok (.iinc 2 1, 3) := by decide +kernel
theorem dX6_join_53 : decode cX6_join 53 = .ok (.goto (-17), 3) := by decide +kernel
theorem dX6_join_56 : decode cX6_join 56 = .ok (.iconst 0, 1) := by decide +kernel
theorem dX6_join_57 : decode cX6_join 57 = .ok (.istore_n 2, 1) := by decide +kernel
theorem dX6_join_58 : decode cX6_join 58 = .ok (.iload_n 2, 1) := by decide +kernel
theorem dX6_join_59 : decode cX6_join 59 = .ok (.bipush 100, 2) := by decide +kernel
theorem dX6_join_61 : decode cX6_join 61 = .ok (.if_icmp .ge 17, 3) := by decide +kernel
theorem dX6_join_64 : decode cX6_join 64 = .ok (.aload_n 0, 1) := by decide +kernel
theorem dX6_join_65 : decode cX6_join 65 = .ok (.iconst 0, 1) := by decide +kernel
theorem dX6_join_66 : decode cX6_join 66 = .ok (.invokevirtual 90, 3) := by decide +kernel
theorem dX6_join_69 : decode cX6_join 69 = .ok (.ifCond .eq 9, 3) := by decide +kernel
theorem dX6_join_72 : decode cX6_join 72 = .ok (.iinc 2 1, 3) := by decide +kernel
theorem dX6_join_75 : decode cX6_join 75 = .ok (.goto (-17), 3) := by decide +kernel
theorem dX6_join_78 : decode cX6_join 78 = .ok (.iconst 0, 1) := by decide +kernel
theorem dX6_join_79 : decode cX6_join 79 = .ok (.istore_n 3, 1) := by decide +kernel
theorem dX6_join_80 : decode cX6_join 80 = .ok (.iload_n 3, 1) := by decide +kernel
theorem dX6_join_81 : decode cX6_join 81 = .ok (.aload_n 0, 1) := by decide +kernel
theorem dX6_join_82 : decode cX6_join 82 = .ok (.getfield 61, 3) := by decide +kernel
theorem dX6_join_85 : decode cX6_join 85 = .ok (.if_icmp .ge 14, 3) := by decide +kernel
theorem dX6_join_88 : decode cX6_join 88 = .ok (.aload_n 0, 1) := by decide +kernel
theorem dX6_join_89 : decode cX6_join 89 = .ok (.iload_n 3, 1) := by decide +kernel
theorem dX6_join_90 : decode cX6_join 90 = .ok (.invokevirtual 93, 3) := by decide +kernel
theorem dX6_join_93 : decode cX6_join 93 = .ok (.iinc 3 1, 3) := by decide +kernel
theorem dX6_join_96 : decode cX6_join 96 = .ok (.goto (-16), 3) := by decide +kernel
theorem dX6_join_99 : decode cX6_join 99 = .ok (.iload_n 2, 1) := by decide +kernel
theorem dX6_join_100 : decode cX6_join 100 = .ok (.ireturn, 1) := by decide +kernel
theorem dX6_findFits_0 : decode cX6_findFits 0 = .ok (.aload_n 0, 1) := by decide +kernel
theorem dX6_findFits_1 : decode cX6_findFits 1 = .ok (.iload_n 1, 1) := by decide +kernel
theorem dX6_findFits_2 : decode cX6_findFits 2 = .ok (.iload_n 2, 1) := by decide +kernel
theorem dX6_findFits_3 : decode cX6_findFits 3 = .ok (.invokevirtual 97, 3) := by decide +kernel
theorem dX6_findFits_6 : decode cX6_findFits 6 = .ok (.ifCond .ne 4, 3) := by decide +kernel
theorem dX6_findFits_9 : decode cX6_findFits 9 = .ok (.return_, 1) := by decide +kernel
theorem dX6_findFits_10 : decode cX6_findFits 10 = .ok (.aload_n 0, 1) := by decide +kernel
theorem dX6_findFits_11 : decode cX6_findFits 11 = .ok (.getfield 53, 3) := by decide +kernel
theorem dX6_findFits_14 : decode cX6_findFits 14 = .ok (.aload_n 0, 1) := by decide +kernel
theorem dX6_findFits_15 : decode cX6_findFits 15 = .ok (.getfield 11, 3) := by decide +kernel
theorem dX6_findFits_18 : decode cX6_findFits 18 = .ok (.iload_n 1, 1) := by decide +kernel
theorem dX6_findFits_19 : decode cX6_findFits 19 = .ok (.iaload, 1) := by decide +kernel
theorem dX6_findFits_20 : decode cX6_findFits 20 = .ok (.aload_n 0, 1) := by decide +kernel
theorem dX6_findFits_21 : decode cX6_findFits 21 = .ok (.getfield 19, 3) := by decide +kernel
theorem dX6_findFits_24 : decode cX6_findFits 24 = .ok (.iload_n 1, 1) := by decide +kernel
theorem dX6_findFits_25 : decode cX6_findFits 25 = .ok (.iaload, 1) := by decide +kernel
theorem dX6_findFits_26 : decode cX6_findFits 26 = .ok (.iload_n 2, 1) := by decide +kernel
theorem dX6_findFits_27 : decode cX6_findFits 27 = .ok (.invokevirtual 101, 3) := by decide +kernel
theorem dX6_findFits_30 : decode cX6_findFits 30 = .ok (.istore_n 3, 1) := by decide +kernel
theorem dX6_findFits_31 : decode cX6_findFits 31 = .ok (.iconst 0, 1) := by decide +kernel
theorem dX6_findFits_32 : decode cX6_findFits 32 = .ok (.istore 4, 2) := by decide +kernel
theorem dX6_findFits_34 : decode cX6_findFits 34 = .ok (.iload 4, 2) := by decide +kernel
theorem dX6_findFits_36 : decode cX6_findFits 36 = .ok (.aload_n 0, 1) := by decide +kernel
theorem dX6_findFits_37 : decode cX6_findFits 37 = .ok (.getfield 57, 3) := by decide +kernel
theorem dX6_findFits_40 : decode cX6_findFits 40 = .ok (.invokevirtual 107, 3) := by decide +kernel
theorem dX6_findFits_43 : decode cX6_findFits 43 = .ok (.if_icmp .ge 188, 3) := by decide +kernel
theorem dX6_findFits_46 : decode cX6_findFits 46 = .ok (.iload 4, 2) := by decide +kernel
theorem dX6_findFits_48 : decode cX6_findFits 48 = .ok (.bipush 120, 2) := by decide +kernel
theorem dX6_findFits_50 : decode cX6_findFits 50 = .ok (.if_icmp .ge 181, 3) := by decide +kernel
theorem dX6_findFits_53 : decode cX6_findFits 53 = .ok (.aload_n 0, 1) := by decide +kernel
theorem dX6_findFits_54 : decode cX6_findFits 54 = .ok (.getfield 57, 3) := by decide +kernel
theorem dX6_findFits_57 : decode cX6_findFits 57 = .ok (.iload 4, 2) := by decide +kernel
theorem dX6_findFits_59 : decode cX6_findFits 59 = .ok (.invokevirtual 113, 3) := by decide +kernel
theorem dX6_findFits_62 : decode cX6_findFits 62 = .ok (.aload_n 0, 1) := by decide +kernel
theorem dX6_findFits_63 : decode cX6_findFits 63 = .ok (.getfield 19, 3) := by decide +kernel
theorem dX6_findFits_66 : decode cX6_findFits 66 = .ok (.iload_n 1, 1) := by decide +kernel
theorem dX6_findFits_67 : decode cX6_findFits 67 = .ok (.iaload, 1) := by decide +kernel
theorem dX6_findFits_68 : decode cX6_findFits 68 = .ok (.isub, 1) := by decide +kernel
theorem dX6_findFits_69 : decode cX6_findFits 69 = .ok (.istore 5, 2) := by decide +kernel
theorem dX6_findFits_71 : decode cX6_findFits 71 = .ok (.aload_n 0, 1) := by decide +kernel
theorem dX6_findFits_72 : decode cX6_findFits 72 = .ok (.getfield 57, 3) := by decide +kernel
theorem dX6_findFits_75 : decode cX6_findFits 75 = .ok (.iload 4, 2) := by decide +kernel
theorem dX6_findFits_77 : decode cX6_findFits 77 = .ok (.iload_n 2, 1) := by decide +kernel
theorem dX6_findFits_78 : decode cX6_findFits 78 = .ok (.invokevirtual 117, 3) := by decide +kernel
theorem dX6_findFits_81 : decode cX6_findFits 81 = .ok (.ifCond .eq 144, 3) := by decide +kernel
theorem dX6_findFits_84 : decode cX6_findFits 84 = .ok (.aload_n 0, 1) := by decide +kernel
theorem dX6_findFits_85 : decode cX6_findFits 85 = .ok (.getfield 57, 3) := by decide +kernel
theorem dX6_findFits_88 : decode cX6_findFits 88 = .ok (.iload 4, 2) := by decide +kernel
theorem dX6_findFits_90 : decode cX6_findFits 90 = .ok (.iload_n 2, 1) := by decide +kernel
theorem dX6_findFits_91 : decode cX6_findFits 91 = .ok (.invokevirtual 118, 3) := by decide +kernel
theorem dX6_findFits_94 : decode cX6_findFits 94 = .ok (.iconst (-1), 1) := by decide +kernel
theorem dX6_findFits_95 : decode cX6_findFits 95 = .ok (.if_icmp .eq 130, 3) := by decide +kernel
theorem dX6_findFits_98 : decode cX6_findFits 98 = .ok (.iload 5, 2) := by decide +kernel
theorem dX6_findFits_100 : decode cX6_findFits 100 = .ok (.bipush (-3), 2) := by decide +kernel
theorem dX6_findFits_102 : decode cX6_findFits 102 = .ok (.if_icmp .lt 123, 3) := by decide +kernel
theorem dX6_findFits_105 : decode cX6_findFits 105 = .ok (.iload 5, 2) := by decide +kernel
theorem dX6_findFits_107 : decode cX6_findFits 107 = .ok (.iconst 3, 1) := by decide +kernel
theorem dX6_findFits_108 : decode cX6_findFits 108 = .ok (.if_icmp .gt 117, 3) := by decide +kernel
theorem dX6_findFits_111 : decode cX6_findFits 111 = .ok (.aload_n 0, 1) := by decide +kernel
theorem dX6_findFits_112 : decode cX6_findFits 112 = .ok (.getfield 57, 3) := by decide +kernel
theorem dX6_findFits_115 : decode cX6_findFits 115 = .ok (.iload 4, 2) := by decide +kernel
theorem dX6_findFits_117 : decode cX6_findFits 117 = .ok (.iload_n 2, 1) := by decide +kernel
theorem dX6_findFits_118 : decode cX6_findFits 118 = .ok (.invokevirtual 122, 3) := by decide +kernel
theorem dX6_findFits_121 : decode cX6_findFits 121 = .ok (.aload_n 0, 1) := by decide +kernel
theorem dX6_findFits_122 : decode cX6_findFits 122 = .ok (.getfield 22, 3) := by decide +kernel
theorem dX6_findFits_125 : decode cX6_findFits 125 = .ok (.iload_n 1, 1) := by decide +kernel
theorem dX6_findFits_126 : decode cX6_findFits 126 = .ok (.iaload, 1) := by decide +kernel
theorem dX6_findFits_127 : decode cX6_findFits 127 = .ok (.if_icmp .gt 98, 3) := by decide +kernel
theorem dX6_findFits_130 : decode cX6_findFits 130 = .ok (.aload_n 0, 1) := by decide +kernel
theorem dX6_findFits_131 : decode cX6_findFits 131 = .ok (.getfield 22, 3) := by decide +kernel
theorem dX6_findFits_134 : decode cX6_findFits 134 = .ok (.iload_n 1, 1) := by decide +kernel
theorem dX6_findFits_135 : decode cX6_findFits 135 = .ok (.iaload, 1) := by decide +kernel
theorem dX6_findFits_136 : decode cX6_findFits 136 = .ok (.aload_n 0, 1) := by decide +kernel
theorem dX6_findFits_137 : decode cX6_findFits 137 = .ok (.getfield 57, 3) := by decide +kernel
theorem dX6_findFits_140 : decode cX6_findFits 140 = .ok (.iload 4, 2) := by decide +kernel
theorem dX6_findFits_142 : decode cX6_findFits 142 = .ok (.iload_n 2, 1) := by decide +kernel
theorem dX6_findFits_143 : decode cX6_findFits 143 = .ok (.invokevirtual 125, 3) := by decide +kernel
theorem dX6_findFits_146 : decode cX6_findFits 146 = .ok (.if_icmp .gt 79, 3) := by decide +kernel
theorem dX6_findFits_149 : decode cX6_findFits 149 = .ok (.aload_n 0, 1) := by decide +kernel
theorem dX6_findFits_150 : decode cX6_findFits 150 = .ok (.getfield 49, 3) := by decide +kernel
theorem dX6_findFits_153 : decode cX6_findFits 153 = .ok (.aload_n 0, 1) := by decide +kernel
theorem dX6_findFits_154 : decode cX6_findFits 154 = .ok (.getfield 57, 3) := by decide +kernel
theorem dX6_findFits_157 : decode cX6_findFits 157 = .ok (.iload 4, 2) := by decide +kernel
theorem dX6_findFits_159 : decode cX6_findFits 159 = .ok (.invokevirtual 128, 3) := by decide +kernel
theorem dX6_findFits_162 : decode cX6_findFits 162 = .ok (.aload_n 0, 1) := by decide +kernel
theorem dX6_findFits_163 : decode cX6_findFits 163 = .ok (.getfield 15, 3) := by decide +kernel
theorem dX6_findFits_166 : decode cX6_findFits 166 = .ok (.iload_n 1, 1) := by decide +kernel
theorem dX6_findFits_167 : decode cX6_findFits 167 = .ok (.laload, 1) := by decide +kernel
theorem dX6_findFits_168 : decode cX6_findFits 168 = .ok (.invokevirtual 131, 3) := by decide +kernel
theorem dX6_findFits_171 : decode cX6_findFits 171 = .ok (.ifCond .eq 54, 3) := by decide +kernel
theorem dX6_findFits_174 : decode cX6_findFits 174 = .ok (.aload_n 0, 1) := by decide +kernel
theorem dX6_findFits_175 : decode cX6_findFits 175 = .ok (.getfield 53, 3) := by decide +kernel
theorem dX6_findFits_178 : decode cX6_findFits 178 = .ok (.aload_n 0, 1) := by decide +kernel
theorem dX6_findFits_179 : decode cX6_findFits 179 = .ok (.getfield 57, 3) := by decide +kernel
theorem dX6_findFits_182 : decode cX6_findFits 182 = .ok (.iload 4, 2) := by decide +kernel
theorem dX6_findFits_184 : decode cX6_findFits 184 = .ok (.invokevirtual 135, 3) := by decide +kernel
theorem dX6_findFits_187 : decode cX6_findFits 187 = .ok (.aload_n 0, 1) := by decide +kernel
theorem dX6_findFits_188 : decode cX6_findFits 188 = .ok (.getfield 19, 3) := by decide +kernel
theorem dX6_findFits_191 : decode cX6_findFits 191 = .ok (.iload_n 1, 1) := by decide +kernel
theorem dX6_findFits_192 : decode cX6_findFits 192 = .ok (.iaload, 1) := by decide +kernel
theorem dX6_findFits_193 : decode cX6_findFits 193 = .ok (.iload_n 2, 1) := by decide +kernel
theorem dX6_findFits_194 : decode cX6_findFits 194 = .ok (.invokevirtual 101, 3) := by decide +kernel
theorem dX6_findFits_197 : decode cX6_findFits 197 = .ok (.iload_n 3, 1) := by decide +kernel
theorem dX6_findFits_198 : decode cX6_findFits 198 = .ok (.if_icmp .ne 27, 3) := by decide +kernel
theorem dX6_findFits_201 : decode cX6_findFits 201 = .ok (.aload_n 0, 1) := by decide +kernel
theorem dX6_findFits_202 : decode cX6_findFits 202 = .ok (.getfield 28, 3) := by decide +kernel
theorem dX6_findFits_205 : decode cX6_findFits 205 = .ok (.iload_n 1, 1) := by decide +kernel
theorem dX6_findFits_206 : decode cX6_findFits 206 = .ok (.iconst 2, 1) := by decide +kernel
theorem dX6_findFits_207 : decode cX6_findFits 207 = .ok (.imul, 1) := by decide +kernel
theorem dX6_findFits_208 : decode cX6_findFits 208 = .ok (.iload 4, 2) := by decide +kernel
theorem dX6_findFits_210 : decode cX6_findFits 210 = .ok (.bipush 64, 2) := by decide +kernel
theorem dX6_findFits_212 : decode cX6_findFits 212 = .ok (.idiv, 1) := by decide +kernel
theorem dX6_findFits_213 : decode cX6_findFits 213 = .ok (.iadd, 1) := by decide +kernel
theorem dX6_findFits_214 : decode cX6_findFits 214 = .ok (.dup2, 1) := by decide +kernel
theorem dX6_findFits_215 : decode cX6_findFits 215 = .ok (.laload, 1) := by decide +kernel
theorem dX6_findFits_216 : decode cX6_findFits 216 = .ok (.lconst 1, 1) := by decide +kernel
theorem dX6_findFits_217 : decode cX6_findFits 217 = .ok (.iload 4, 2) := by decide +kernel
theorem dX6_findFits_219 : decode cX6_findFits 219 = .ok (.bipush 64, 2) := by decide +kernel
theorem dX6_findFits_221 : decode cX6_findFits 221 = .ok (.irem, 1) := by decide +kernel
theorem dX6_findFits_222 : decode cX6_findFits 222 = .ok (.lshl, 1) := by decide +kernel
theorem dX6_findFits_223 : decode cX6_findFits 223 = .ok (.lor, 1) := by decide +kernel
theorem dX6_findFits_224 : decode cX6_findFits 224 = .ok (.lastore, 1) := by decide +kernel
theorem dX6_findFits_225 : decode cX6_findFits 225 = .ok (.iinc 4 1, 3) := by decide +kernel
theorem dX6_findFits_228 : decode cX6_findFits 228 = .ok (.goto (-194), 3) := by decide +kernel
theorem dX6_findFits_231 : decode cX6_findFits 231 = .ok (.return_, 1) := by decide +kernel
theorem dX6_isChoice_0 : decode cX6_isChoice 0 = .ok (.aload_n 0, 1) := by decide +kernel
theorem dX6_isChoice_1 : decode cX6_isChoice 1 = .ok (.iload_n 1, 1) := by decide +kernel
theorem dX6_isChoice_2 : decode cX6_isChoice 2 = .ok (.invokevirtual 65, 3) := by decide +kernel
theorem dX6_isChoice_5 : decode cX6_isChoice 5 = .ok (.ifCond .eq 10, 3) := by decide +kernel
theorem dX6_isChoice_8 : decode cX6_isChoice 8 = .ok (.iload_n 2, 1) := by decide +kernel
theorem dX6_isChoice_9 : decode cX6_isChoice 9 = .ok (.invokestatic 138, 3) := by decide +kernel
theorem dX6_isChoice_12 : decode cX6_isChoice 12 = .ok (.ifCond .ne 5, 3) := by decide +kernel
theorem dX6_isChoice_15 : decode cX6_isChoice 15 = .ok (.iconst 0, 1) := by decide +kernel
theorem dX6_isChoice_16 : decode cX6_isChoice 16 = .ok (.ireturn, 1) := by decide +kernel
theorem dX6_isChoice_17 : decode cX6_isChoice 17 = .ok (.iload_n 2, 1) := by decide +kernel
theorem dX6_isChoice_18 : decode cX6_isChoice 18 = .ok (.bipush 64, 2) := by decide +kernel
theorem dX6_isChoice_20 : decode cX6_isChoice 20 = .ok (.idiv, 1) := by decide +kernel
theorem dX6_isChoice_21 : decode cX6_isChoice 21 = .ok (.istore 4, 2) := by decide +kernel
theorem dX6_isChoice_23 : decode cX6_isChoice 23 = .ok (.aload_n 0, 1) := by decide +kernel
theorem dX6_isChoice_24 : decode cX6_isChoice 24 = .ok (.getfield 28, 3) := by decide +kernel
theorem dX6_isChoice_27 : decode cX6_isChoice 27 = .ok (.iload_n 1, 1) := by decide +kernel
theorem dX6_isChoice_28 : decode cX6_isChoice 28 = .ok (.iconst 2, 1) := by decide +kernel
theorem dX6_isChoice_29 : decode cX6_isChoice 29 = .ok (.imul, 1) := by decide +kernel
theorem dX6_isChoice_30 : decode cX6_isChoice 30 = .ok (.iload 4, 2) := by decide +kernel
theorem dX6_isChoice_32 : decode cX6_isChoice 32 = .ok (.iadd, 1) := by decide +kernel
theorem dX6_isChoice_33 : decode cX6_isChoice 33 = .ok (.laload, 1) := by decide +kernel
theorem dX6_isChoice_34 : decode cX6_isChoice 34 = .ok (.aload_n 3, 1) := by decide +kernel
theorem dX6_isChoice_35 : decode cX6_isChoice 35 = .ok (.iload 4, 2) := by decide +kernel
theorem dX6_isChoice_37 : decode cX6_isChoice 37 = .ok (.laload, 1) := by decide +kernel
theorem dX6_isChoice_38 : decode cX6_isChoice 38 = .ok (.land, 1) := by decide +kernel
theorem dX6_isChoice_39 : decode cX6_isChoice 39 = .ok (.lconst 1, 1) := by decide +kernel
theorem dX6_isChoice_40 : decode cX6_isChoice 40 = .ok (.iload_n 2, 1) := by decide +kernel
theorem dX6_isChoice_41 : decode cX6_isChoice 41 = .ok (.bipush 64, 2) := by decide +kernel
theorem dX6_isChoice_43 : decode cX6_isChoice 43 = .ok (.irem, 1) := by decide +kernel
theorem dX6_isChoice_44 : decode cX6_isChoice 44 = .ok (.lshl, 1) := by decide +kernel
theorem dX6_isChoice_45 : decode cX6_isChoice 45 = .ok (.land, 1) := by decide +kernel
theorem dX6_isChoice_46 : decode cX6_isChoice 46 = .ok (.lconst 0, 1) := by decide +kernel
theorem dX6_isChoice_47 : decode cX6_isChoice 47 = .ok (.lcmp, 1) := by decide +kernel
theorem dX6_isChoice_48 : decode cX6_isChoice 48 = .ok (.ifCond .eq 7, 3) := by decide +kernel
theorem dX6_isChoice_51 : decode cX6_isChoice 51 = .ok (.iconst 1, 1) := by decide +kernel
theorem dX6_isChoice_52 : decode cX6_isChoice 52 = .ok (.goto 4, 3) := by decide +kernel
theorem dX6_isChoice_55 : decode cX6_isChoice 55 = .ok (.iconst 0, 1) := by decide +kernel
theorem dX6_isChoice_56 : decode cX6_isChoice 56 = .ok (.ireturn, 1) := by decide +kernel
theorem dX6_grow_0 : decode cX6_grow 0 = .ok (.aload_n 0, 1) := by decide +kernel
theorem dX6_grow_1 : decode cX6_grow 1 = .ok (.getfield 31, 3) := by decide +kernel
theorem dX6_grow_4 : decode cX6_grow 4 = .ok (.iconst 0, 1) := by decide +kernel
theorem dX6_grow_5 : decode cX6_grow 5 = .ok (.aload_n 0, 1) := by decide +kernel
theorem dX6_grow_6 : decode cX6_grow 6 = .ok (.getfield 34, 3) := by decide +kernel
theorem dX6_grow_9 : decode cX6_grow 9 = .ok (.iconst 0, 1) := by decide +kernel
theorem dX6_grow_10 : decode cX6_grow 10 = .ok (.iconst 2, 1) := by decide +kernel
theorem dX6_grow_11 : decode cX6_grow 11 = .ok (.invokestatic 141, 3) := by decide +kernel
theorem dX6_grow_14 : decode cX6_grow 14 = .ok (.aload_n 0, 1) := by decide +kernel
theorem dX6_grow_15 : decode cX6_grow 15 = .ok (.iconst 0, 1) := by decide +kernel
theorem dX6_grow_16 : decode cX6_grow 16 = .ok (.putfield 147, 3) := by decide +kernel
theorem dX6_grow_19 : decode cX6_grow 19 = .ok (.iload_n 1, 1) := by decide +kernel
theorem dX6_grow_20 : decode cX6_grow 20 = .ok (.istore_n 2, 1) := by decide +kernel
theorem dX6_grow_21 : decode cX6_grow 21 = .ok (.iload_n 2, 1) := by decide +kernel
theorem dX6_grow_22 : decode cX6_grow 22 = .ok (.aload_n 0, 1) := by decide +kernel
theorem dX6_grow_23 : decode cX6_grow 23 = .ok (.getfield 61, 3) := by decide +kernel
theorem dX6_grow_26 : decode cX6_grow 26 = .ok (.if_icmp .ge 23, 3) := by decide +kernel
theorem dX6_grow_29 : decode cX6_grow 29 = .ok (.aload_n 0, 1) := by decide +kernel
theorem dX6_grow_30 : decode cX6_grow 30 = .ok (.iload_n 2, 1) := by decide +kernel
theorem dX6_grow_31 : decode cX6_grow 31 = .ok (.invokevirtual 150, 3) := by decide +kernel
theorem dX6_grow_34 : decode cX6_grow 34 = .ok (.iconst (-1), 1) := by decide +kernel
theorem dX6_grow_35 : decode cX6_grow 35 = .ok (.if_icmp .ne 8, 3) := by decide +kernel
theorem dX6_grow_38 : decode cX6_grow 38 = .ok (.aload_n 0, 1) := by decide +kernel
theorem dX6_grow_39 : decode cX6_grow 39 = .ok (.iload_n 2, 1) := by decide +kernel
theorem dX6_grow_40 : decode cX6_grow 40 = .ok (.invokevirtual 153, 3) := by decide +kernel
theorem dX6_grow_43 : decode cX6_grow 43 = .ok (.iinc 2 1, 3) := by decide +kernel
theorem dX6_grow_46 : decode cX6_grow 46 = .ok (.goto (-25), 3) := by decide +kernel
theorem dX6_grow_49 : decode cX6_grow 49 = .ok (.iconst 0, 1) := by decide +kernel
theorem dX6_grow_50 : decode cX6_grow 50 = .ok (.istore_n 2, 1) := by decide +kernel
theorem dX6_grow_51 : decode cX6_grow 51 = .ok (.iload_n 2, 1) := by decide +kernel
theorem dX6_grow_52 : decode cX6_grow 52 = .ok (.aload_n 0, 1) := by decide +kernel
theorem dX6_grow_53 : decode cX6_grow 53 = .ok (.getfield 147, 3) := by decide +kernel
theorem dX6_grow_56 : decode cX6_grow 56 = .ok (.if_icmp .ge 38, 3) := by decide +kernel
theorem dX6_grow_59 : decode cX6_grow 59 = .ok (.iload_n 2, 1) := by decide +kernel
theorem dX6_grow_60 : decode cX6_grow 60 = .ok (.bipush 100, 2) := by decide +kernel
theorem dX6_grow_62 : decode cX6_grow 62 = .ok (.if_icmp .ge 32, 3) := by decide +kernel
theorem dX6_grow_65 : decode cX6_grow 65 = .ok (.aload_n 0, 1) := by decide +kernel
theorem dX6_grow_66 : decode cX6_grow 66 = .ok (.aload_n 0, 1) := by decide +kernel
theorem dX6_grow_67 : decode cX6_grow 67 = .ok (.getfield 46, 3) := by decide +kernel
theorem dX6_grow_70 : decode cX6_grow 70 = .ok (.iload_n 2, 1) := by decide +kernel
theorem dX6_grow_71 : decode cX6_grow 71 = .ok (.iaload, 1) := by decide +kernel
theorem dX6_grow_72 : decode cX6_grow 72 = .ok (.invokevirtual 156, 3) := by decide +kernel
theorem dX6_grow_75 : decode cX6_grow 75 = .ok (.istore_n 3, 1) := by decide +kernel
theorem dX6_grow_76 : decode cX6_grow 76 = .ok (.iload_n 3, 1) := by decide +kernel
theorem dX6_grow_77 : decode cX6_grow 77 = .ok (.iconst (-1), 1) := by decide +kernel
theorem dX6_grow_78 : decode cX6_grow 78 = .ok (.if_icmp .eq 10, 3) := by decide +kernel
theorem dX6_grow_81 : decode cX6_grow 81 = .ok (.aload_n 0, 1) := by decide +kernel
theorem dX6_grow_82 : decode cX6_grow 82 = .ok (.iload_n 3, 1) := by decide +kernel
theorem dX6_grow_83 : decode cX6_grow 83 = .ok (.invokevirtual 159, 3) := by decide +kernel
theorem dX6_grow_86 : decode cX6_grow 86 = .ok (.iconst 1, 1) := by decide +kernel
theorem dX6_grow_87 : decode cX6_grow 87 = .ok (.ireturn, 1) := by decide +kernel
theorem dX6_grow_88 : decode cX6_grow 88 = .ok (.iinc 2 1, 3) := by decide +kernel
theorem dX6_grow_91 : decode cX6_grow 91 = .ok (.goto (-40), 3) := by decide +kernel
theorem dX6_grow_94 : decode cX6_grow 94 = .ok (.iconst 0, 1) := by decide +kernel
theorem dX6_grow_95 : decode cX6_grow 95 = .ok (.ireturn, 1) := by decide +kernel
theorem dX6_await_0 : decode cX6_await 0 = .ok (.aload_n 0, 1) := by decide +kernel
theorem dX6_await_1 : decode cX6_await 1 = .ok (.getfield 147, 3) := by decide +kernel
theorem dX6_await_4 : decode cX6_await 4 = .ok (.ifCond .lt 32, 3) := by decide +kernel
theorem dX6_await_7 : decode cX6_await 7 = .ok (.aload_n 0, 1) := by decide +kernel
theorem dX6_await_8 : decode cX6_await 8 = .ok (.getfield 147, 3) := by decide +kernel
theorem dX6_await_11 : decode cX6_await 11 = .ok (.bipush 100, 2) := by decide +kernel
theorem dX6_await_13 : decode cX6_await 13 = .ok (.if_icmp .ge 23, 3) := by decide +kernel
theorem dX6_await_16 : decode cX6_await 16 = .ok (.aload_n 0, 1) := by decide +kernel
theorem dX6_await_17 : decode cX6_await 17 = .ok (.getfield 46, 3) := by decide +kernel
theorem dX6_await_20 : decode cX6_await 20 = .ok (.aload_n 0, 1) := by decide +kernel
theorem dX6_await_21 : decode cX6_await 21 = .ok (.getfield 147, 3) := by decide +kernel
theorem dX6_await_24 : decode cX6_await 24 = .ok (.iload_n 1, 1) := by decide +kernel
theorem dX6_await_25 : decode cX6_await 25 = .ok (.iastore, 1) := by decide +kernel
theorem dX6_await_26 : decode cX6_await 26 = .ok (.aload_n 0, 1) := by decide +kernel
theorem dX6_await_27 : decode cX6_await 27 = .ok (.dup, 1) := by decide +kernel
theorem dX6_await_28 : decode cX6_await 28 = .ok (.getfield 147, 3) := by decide +kernel
theorem dX6_await_31 : decode cX6_await 31 = .ok (.iconst 1, 1) := by decide +kernel
theorem dX6_await_32 : decode cX6_await 32 = .ok (.iadd, 1) := by decide +kernel
theorem dX6_await_33 : decode cX6_await 33 = .ok (.putfield 147, 3) := by decide +kernel
theorem dX6_await_36 : decode cX6_await 36 = .ok (.return_, 1) := by decide +kernel
theorem dX6_reachFrom_0 : decode cX6_reachFrom 0 = .ok (.iconst 0, 1) := by decide +kernel
theorem dX6_reachFrom_1 : decode cX6_reachFrom 1 = .ok (.istore_n 2, 1) := by decide +kernel
theorem dX6_reachFrom_2 : decode cX6_reachFrom 2 = .ok (.iload_n 2, 1) := by decide +kernel
theorem dX6_reachFrom_3 : decode cX6_reachFrom 3 = .ok (.bipush 120, 2) := by decide +kernel
theorem dX6_reachFrom_5 : decode cX6_reachFrom 5 = .ok (.if_icmp .ge 73, 3) := by decide +kernel
theorem dX6_reachFrom_8 : decode cX6_reachFrom 8 = .ok (.aload_n 0, 1) := by decide +kernel
theorem dX6_reachFrom_9 : decode cX6_reachFrom 9 = .ok (.iload_n 1, 1) := by decide +kernel
theorem dX6_reachFrom_10 : decode cX6_reachFrom 10 = .ok (.iload_n 2, 1) := by decide +kernel
theorem dX6_reachFrom_11 : decode cX6_reachFrom 11 = .ok (.aload_n 0, 1) := by decide +kernel
theorem dX6_reachFrom_12 : decode cX6_reachFrom 12 = .ok (.getfield 34, 3) := by decide +kernel
theorem dX6_reachFrom_15 : decode cX6_reachFrom 15 = .ok (.invokevirtual 162, 3) := by decide +kernel
theorem dX6_reachFrom_18 : decode cX6_reachFrom 18 = .ok (.ifCond .eq 54, 3) := by decide +kernel
theorem dX6_reachFrom_21 : decode cX6_reachFrom 21 = .ok (.aload_n 0, 1) := by decide +kernel
theorem dX6_reachFrom_22 : decode cX6_reachFrom 22 = .ok (.getfield 34, 3) := by decide +kernel
theorem dX6_reachFrom_25 : decode cX6_reachFrom 25 = .ok (.iload_n 2, 1) := by decide +kernel
theorem dX6_reachFrom_26 : decode cX6_reachFrom 26 = .ok (.bipush 64, 2) := by decide +kernel
theorem dX6_reachFrom_28 : decode cX6_reachFrom 28 = .ok (.idiv, 1) := by decide +kernel
theorem dX6_reachFrom_29 : decode cX6_reachFrom 29 = .ok (.dup2, 1) := by decide +kernel
theorem dX6_reachFrom_30 : decode cX6_reachFrom 30 = .ok (.laload, 1) := by decide +kernel
theorem dX6_reachFrom_31 : decode cX6_reachFrom 31 = .ok (.lconst 1, 1) := by decide +kernel
theorem dX6_reachFrom_32 : decode cX6_reachFrom 32 = .ok (.iload_n 2, 1) := by decide +kernel
theorem dX6_reachFrom_33 : decode cX6_reachFrom 33 = .ok (.bipush 64, 2) := by decide +kernel
theorem dX6_reachFrom_35 : decode cX6_reachFrom 35 = .ok (.irem, 1) := by decide +kernel
theorem dX6_reachFrom_36 : decode cX6_reachFrom 36 = .ok (.lshl, 1) := by decide +kernel
theorem dX6_reachFrom_37 : decode cX6_reachFrom 37 = .ok (.ldc2_w 84, 3) := by decide +kernel
theorem dX6_reachFrom_40 : decode cX6_reachFrom 40 = .ok (.lxor, 1) := by decide +kernel
theorem dX6_reachFrom_41 : decode cX6_reachFrom 41 = .ok (.land, 1) := by decide +kernel
theorem dX6_reachFrom_42 : decode cX6_reachFrom 42 = .ok (.lastore, 1) := by decide +kernel
theorem dX6_reachFrom_43 : decode cX6_reachFrom 43 = .ok (.aload_n 0, 1) := by decide +kernel
theorem dX6_reachFrom_44 : decode cX6_reachFrom 44 = .ok (.getfield 43, 3) := by decide +kernel
theorem dX6_reachFrom_47 : decode cX6_reachFrom 47 = .ok (.iload_n 2, 1) := by decide +kernel
theorem dX6_reachFrom_48 : decode cX6_reachFrom 48 = .ok (.iload_n 1, 1) := by decide +kernel
theorem dX6_reachFrom_49 : decode cX6_reachFrom 49 = .ok (.iastore, 1) := by decide +kernel
theorem dX6_reachFrom_50 : decode cX6_reachFrom 50 = .ok (.aload_n 0, 1) := by decide +kernel
theorem dX6_reachFrom_51 : decode cX6_reachFrom 51 = .ok (.getfield 40, 3) := by decide +kernel
theorem dX6_reachFrom_54 : decode cX6_reachFrom 54 = .ok (.iload_n 2, 1) := by decide +kernel
theorem dX6_reachFrom_55 : decode cX6_reachFrom 55 = .ok (.iaload, 1) := by decide +kernel
theorem dX6_reachFrom_56 : decode cX6_reachFrom 56 = .ok (.iconst (-1), 1) := by decide +kernel
theorem dX6_reachFrom_57 : decode cX6_reachFrom 57 = .ok (.if_icmp .ne 5, 3) := by decide +kernel
theorem dX6_reachFrom_60 : decode cX6_reachFrom 60 = .ok (.iload_n 2, 1) := by decide +kernel
theorem dX6_reachFrom_61 : decode cX6_reachFrom 61 = .ok (.ireturn, 1) := by decide +kernel
theorem dX6_reachFrom_62 : decode cX6_reachFrom 62 = .ok (.aload_n 0, 1) := by decide +kernel
theorem dX6_reachFrom_63 : decode cX6_reachFrom 63 = .ok (.aload_n 0, 1) := by decide +kernel
theorem dX6_reachFrom_64 : decode cX6_reachFrom 64 = .ok (.getfield 40, 3) := by decide +kernel
theorem dX6_reachFrom_67 : decode cX6_reachFrom 67 = .ok (.iload_n 2, 1) := by decide +kernel
theorem dX6_reachFrom_68 : decode cX6_reachFrom 68 = .ok (.iaload, 1) := by decide +kernel
theorem dX6_reachFrom_69 : decode cX6_reachFrom 69 = .ok (.invokevirtual 153, 3) := by decide +kernel
theorem dX6_reachFrom_72 : decode cX6_reachFrom 72 = .ok (.iinc 2 1, 3) := by decide +kernel
theorem dX6_reachFrom_75 : decode cX6_reachFrom 75 = .ok (.goto (-73), 3) := by decide +kernel
theorem dX6_reachFrom_78 : decode cX6_reachFrom 78 = .ok (.iconst (-1), 1) := by decide +kernel
theorem dX6_reachFrom_79 : decode cX6_reachFrom 79 = .ok (.ireturn, 1) := by decide +kernel
theorem dX6_shift_0 : decode cX6_shift 0 = .ok (.iload_n 1, 1) := by decide +kernel
theorem dX6_shift_1 : decode cX6_shift 1 = .ok (.istore_n 2, 1) := by decide +kernel
theorem dX6_shift_2 : decode cX6_shift 2 = .ok (.iconst 0, 1) := by decide +kernel
theorem dX6_shift_3 : decode cX6_shift 3 = .ok (.istore_n 3, 1) := by decide +kernel
theorem dX6_shift_4 : decode cX6_shift 4 = .ok (.iload_n 3, 1) := by decide +kernel
theorem dX6_shift_5 : decode cX6_shift 5 = .ok (.bipush 100, 2) := by decide +kernel
theorem dX6_shift_7 : decode cX6_shift 7 = .ok (.if_icmp .ge 42, 3) := by decide +kernel
theorem dX6_shift_10 : decode cX6_shift 10 = .ok (.iload_n 2, 1) := by decide +kernel
theorem dX6_shift_11 : decode cX6_shift 11 = .ok (.invokestatic 138, 3) := by decide +kernel
theorem dX6_shift_14 : decode cX6_shift 14 = .ok (.ifCond .eq 35, 3) := by decide +kernel
theorem dX6_shift_17 : decode cX6_shift 17 = .ok (.aload_n 0, 1) := by decide +kernel
theorem dX6_shift_18 : decode cX6_shift 18 = .ok (.getfield 43, 3) := by decide +kernel
theorem dX6_shift_21 : decode cX6_shift 21 = .ok (.iload_n 2, 1) := by decide +kernel
theorem dX6_shift_22 : decode cX6_shift 22 = .ok (.iaload, 1) := by decide +kernel
theorem dX6_shift_23 : decode cX6_shift 23 = .ok (.istore 4, 2) := by decide +kernel
theorem dX6_shift_25 : decode cX6_shift 25 = .ok (.aload_n 0, 1) := by decide +kernel
theorem dX6_shift_26 : decode cX6_shift 26 = .ok (.iload 4, 2) := by decide +kernel
theorem dX6_shift_28 : decode cX6_shift 28 = .ok (.invokevirtual 150, 3) := by decide +kernel
theorem dX6_shift_31 : decode cX6_shift 31 = .ok (.istore 5, 2) := by decide +kernel
theorem dX6_shift_33 : decode cX6_shift 33 = .ok (.aload_n 0, 1) := by decide +kernel
theorem dX6_shift_34 : decode cX6_shift 34 = .ok (.iload 4, 2) := by decide +kernel
theorem dX6_shift_36 : decode cX6_shift 36 = .ok (.iload_n 2, 1) := by decide +kernel
theorem dX6_shift_37 : decode cX6_shift 37 = .ok (.invokevirtual 166, 3) := by decide +kernel
theorem dX6_shift_40 : decode cX6_shift 40 = .ok (.iload 5, 2) := by decide +kernel
theorem dX6_shift_42 : decode cX6_shift 42 = .ok (.istore_n 2, 1) := by decide +kernel
theorem dX6_shift_43 : decode cX6_shift 43 = .ok (.iinc 3 1, 3) := by decide +kernel
theorem dX6_shift_46 : decode cX6_shift 46 = .ok (.goto (-42), 3) := by decide +kernel
theorem dX6_shift_49 : decode cX6_shift 49 = .ok (.return_, 1) := by decide +kernel
theorem dX6_put_0 : decode cX6_put 0 = .ok (.aload_n 0, 1) := by decide +kernel
theorem dX6_put_1 : decode cX6_put 1 = .ok (.iload_n 1, 1) := by decide +kernel
theorem dX6_put_2 : decode cX6_put 2 = .ok (.invokevirtual 65, 3) := by decide +kernel
theorem dX6_put_5 : decode cX6_put 5 = .ok (.ifCond .eq 24, 3) := by decide +kernel
theorem dX6_put_8 : decode cX6_put 8 = .ok (.iload_n 2, 1) := by decide +kernel
theorem dX6_put_9 : decode cX6_put 9 = .ok (.invokestatic 138, 3) := by decide +kernel
theorem dX6_put_12 : decode cX6_put 12 = .ok (.ifCond .eq 17, 3) := by decide +kernel
theorem dX6_put_15 : decode cX6_put 15 = .ok (.aload_n 0, 1) := by decide +kernel
theorem dX6_put_16 : decode cX6_put 16 = .ok (.getfield 37, 3) := by decide +kernel
theorem dX6_put_19 : decode cX6_put 19 = .ok (.iload_n 1, 1) := by decide +kernel
theorem dX6_put_20 : decode cX6_put 20 = .ok (.iload_n 2, 1) := by decide +kernel
theorem dX6_put_21 : decode cX6_put 21 = .ok (.iastore, 1) := by decide +kernel
theorem dX6_put_22 : decode cX6_put 22 = .ok (.aload_n 0, 1) := by decide +kernel
theorem dX6_put_23 : decode cX6_put 23 = .ok (.getfield 40, 3) := by decide +kernel
theorem dX6_put_26 : decode cX6_put 26 = .ok (.iload_n 2, 1) := by decide +kernel
theorem dX6_put_27 : decode cX6_put 27 = .ok (.iload_n 1, 1) := by decide +kernel
theorem dX6_put_28 : decode cX6_put 28 = .ok (.iastore, 1) := by decide +kernel
theorem dX6_put_29 : decode cX6_put 29 = .ok (.return_, 1) := by decide +kernel
theorem dX6_settle_0 : decode cX6_settle 0 = .ok (.iconst 0, 1) := by decide +kernel
theorem dX6_settle_1 : decode cX6_settle 1 = .ok (.istore_n 2, 1) := by decide +kernel
theorem dX6_settle_2 : decode cX6_settle 2 = .ok (.iload_n 2, 1) := by decide +kernel
theorem dX6_settle_3 : decode cX6_settle 3 = .ok (.bipush 120, 2) := by decide +kernel
theorem dX6_settle_5 : decode cX6_settle 5 = .ok (.if_icmp .ge 81, 3) := by decide +kernel
theorem dX6_settle_8 : decode cX6_settle 8 = .ok (.aload_n 0, 1) := by decide +kernel
theorem dX6_settle_9 : decode cX6_settle 9 = .ok (.iload_n 1, 1) := by decide +kernel
theorem dX6_settle_10 : decode cX6_settle 10 = .ok (.iload_n 2, 1) := by decide +kernel
theorem dX6_settle_11 : decode cX6_settle 11 = .ok (.aload_n 0, 1) := by decide +kernel
theorem dX6_settle_12 : decode cX6_settle 12 = .ok (.getfield 31, 3) := by decide +kernel
theorem dX6_settle_15 : decode cX6_settle 15 = .ok (.invokevirtual 162, 3) := by decide +kernel
theorem dX6_settle_18 : decode cX6_settle 18 = .ok (.ifCond .eq 62, 3) := by decide +kernel
theorem dX6_settle_21 : decode cX6_settle 21 = .ok (.aload_n 0, 1) := by decide +kernel
theorem dX6_settle_22 : decode cX6_settle 22 = .ok (.getfield 31, 3) := by decide +kernel
theorem dX6_settle_25 : decode cX6_settle 25 = .ok (.iload_n 2, 1) := by decide +kernel
theorem dX6_settle_26 : decode cX6_settle 26 = .ok (.bipush 64, 2) := by decide +kernel
theorem dX6_settle_28 : decode cX6_settle 28 = .ok (.idiv, 1) := by decide +kernel
theorem dX6_settle_29 : decode cX6_settle 29 = .ok (.dup2, 1) := by decide +kernel
theorem dX6_settle_30 : decode cX6_settle 30 = .ok (.laload, 1) := by decide +kernel
theorem dX6_settle_31 : decode cX6_settle 31 = .ok (.lconst 1, 1) := by decide +kernel
theorem dX6_settle_32 : decode cX6_settle 32 = .ok (.iload_n 2, 1) := by decide +kernel
theorem dX6_settle_33 : decode cX6_settle 33 = .ok (.bipush 64, 2) := by decide +kernel
theorem dX6_settle_35 : decode cX6_settle 35 = .ok (.irem, 1) := by decide +kernel
theorem dX6_settle_36 : decode cX6_settle 36 = .ok (.lshl, 1) := by decide +kernel
theorem dX6_settle_37 : decode cX6_settle 37 = .ok (.ldc2_w 84, 3) := by decide +kernel
theorem dX6_settle_40 : decode cX6_settle 40 = .ok (.lxor, 1) := by decide +kernel
theorem dX6_settle_41 : decode cX6_settle 41 = .ok (.land, 1) := by decide +kernel
theorem dX6_settle_42 : decode cX6_settle 42 = .ok (.lastore, 1) := by decide +kernel
theorem dX6_settle_43 : decode cX6_settle 43 = .ok (.aload_n 0, 1) := by decide +kernel
theorem dX6_settle_44 : decode cX6_settle 44 = .ok (.iload_n 1, 1) := by decide +kernel
theorem dX6_settle_45 : decode cX6_settle 45 = .ok (.invokevirtual 150, 3) := by decide +kernel
theorem dX6_settle_48 : decode cX6_settle 48 = .ok (.iload_n 2, 1) := by decide +kernel
theorem dX6_settle_49 : decode cX6_settle 49 = .ok (.if_icmp .eq 12, 3) := by decide +kernel
theorem dX6_settle_52 : decode cX6_settle 52 = .ok (.aload_n 0, 1) := by decide +kernel
theorem dX6_settle_53 : decode cX6_settle 53 = .ok (.iload_n 1, 1) := by decide +kernel
theorem dX6_settle_54 : decode cX6_settle 54 = .ok (.iload_n 2, 1) := by decide +kernel
theorem dX6_settle_55 : decode cX6_settle 55 = .ok (.invokevirtual 169, 3) := by decide +kernel
theorem dX6_settle_58 : decode cX6_settle 58 = .ok (.ifCond .eq 4, 3) := by decide +kernel
theorem dX6_settle_61 : decode cX6_settle 61 = .ok (.return_, 1) := by decide +kernel
theorem dX6_settle_62 : decode cX6_settle 62 = .ok (.aload_n 0, 1) := by decide +kernel
theorem dX6_settle_63 : decode cX6_settle 63 = .ok (.getfield 31, 3) := by decide +kernel
theorem dX6_settle_66 : decode cX6_settle 66 = .ok (.iload_n 2, 1) := by decide +kernel
theorem dX6_settle_67 : decode cX6_settle 67 = .ok (.bipush 64, 2) := by decide +kernel
theorem dX6_settle_69 : decode cX6_settle 69 = .ok (.idiv, 1) := by decide +kernel
theorem dX6_settle_70 : decode cX6_settle 70 = .ok (.dup2, 1) := by decide +kernel
theorem dX6_settle_71 : decode cX6_settle 71 = .ok (.laload, 1) := by decide +kernel
theorem dX6_settle_72 : decode cX6_settle 72 = .ok (.lconst 1, 1) := by decide +kernel
theorem dX6_settle_73 : decode cX6_settle 73 = .ok (.iload_n 2, 1) := by decide +kernel
theorem dX6_settle_74 : decode cX6_settle 74 = .ok (.bipush 64, 2) := by decide +kernel
theorem dX6_settle_76 : decode cX6_settle 76 = .ok (.irem, 1) := by decide +kernel
theorem dX6_settle_77 : decode cX6_settle 77 = .ok (.lshl, 1) := by decide +kernel
theorem dX6_settle_78 : decode cX6_settle 78 = .ok (.lor, 1) := by decide +kernel
theorem dX6_settle_79 : decode cX6_settle 79 = .ok (.lastore, 1) := by decide +kernel
theorem dX6_settle_80 : decode cX6_settle 80 = .ok (.iinc 2 1, 3) := by decide +kernel
theorem dX6_settle_83 : decode cX6_settle 83 = .ok (.goto (-81), 3) := by decide +kernel
theorem dX6_settle_86 : decode cX6_settle 86 = .ok (.return_, 1) := by decide +kernel
theorem dX6_force_0 : decode cX6_force 0 = .ok (.iload_n 2, 1) := by decide +kernel
theorem dX6_force_1 : decode cX6_force 1 = .ok (.invokestatic 138, 3) := by decide +kernel
theorem dX6_force_4 : decode cX6_force 4 = .ok (.ifCond .ne 5, 3) := by decide +kernel
theorem dX6_force_7 : decode cX6_force 7 = .ok (.iconst 0, 1) := by decide +kernel
theorem dX6_force_8 : decode cX6_force 8 = .ok (.ireturn, 1) := by decide +kernel
theorem dX6_force_9 : decode cX6_force 9 = .ok (.aload_n 0, 1) := by decide +kernel
theorem dX6_force_10 : decode cX6_force 10 = .ok (.iload_n 1, 1) := by decide +kernel
theorem dX6_force_11 : decode cX6_force 11 = .ok (.invokevirtual 150, 3) := by decide +kernel
theorem dX6_force_14 : decode cX6_force 14 = .ok (.istore_n 3, 1) := by decide +kernel
theorem dX6_force_15 : decode cX6_force 15 = .ok (.aload_n 0, 1) := by decide +kernel
theorem dX6_force_16 : decode cX6_force 16 = .ok (.getfield 40, 3) := by decide +kernel
theorem dX6_force_19 : decode cX6_force 19 = .ok (.iload_n 2, 1) := by decide +kernel
theorem dX6_force_20 : decode cX6_force 20 = .ok (.iaload, 1) := by decide +kernel
theorem dX6_force_21 : decode cX6_force 21 = .ok (.istore 4, 2) := by decide +kernel
theorem dX6_force_23 : decode cX6_force 23 = .ok (.aload_n 0, 1) := by decide +kernel
theorem dX6_force_24 : decode cX6_force 24 = .ok (.iload_n 1, 1) := by decide +kernel
theorem dX6_force_25 : decode cX6_force 25 = .ok (.iload_n 2, 1) := by decide +kernel
theorem dX6_force_26 : decode cX6_force 26 = .ok (.invokevirtual 166, 3) := by decide +kernel
theorem dX6_force_29 : decode cX6_force 29 = .ok (.iload_n 3, 1) := by decide +kernel
theorem dX6_force_30 : decode cX6_force 30 = .ok (.invokestatic 138, 3) := by decide +kernel
theorem dX6_force_33 : decode cX6_force 33 = .ok (.ifCond .eq 10, 3) := by decide +kernel
theorem dX6_force_36 : decode cX6_force 36 = .ok (.aload_n 0, 1) := by decide +kernel
theorem dX6_force_37 : decode cX6_force 37 = .ok (.getfield 40, 3) := by decide +kernel
theorem dX6_force_40 : decode cX6_force 40 = .ok (.iload_n 3, 1) := by decide +kernel
theorem dX6_force_41 : decode cX6_force 41 = .ok (.iconst (-1), 1) := by decide +kernel
theorem dX6_force_42 : decode cX6_force 42 = .ok (.iastore, 1) := by decide +kernel
theorem dX6_force_43 : decode cX6_force 43 = .ok (.aload_n 0, 1) := by decide +kernel
theorem dX6_force_44 : decode cX6_force 44 = .ok (.iload 4, 2) := by decide +kernel
theorem dX6_force_46 : decode cX6_force 46 = .ok (.invokevirtual 65, 3) := by decide +kernel
theorem dX6_force_49 : decode cX6_force 49 = .ok (.ifCond .ne 5, 3) := by decide +kernel
theorem dX6_force_52 : decode cX6_force 52 = .ok (.iconst 1, 1) := by decide +kernel
theorem dX6_force_53 : decode cX6_force 53 = .ok (.ireturn, 1) := by decide +kernel
theorem dX6_force_54 : decode cX6_force 54 = .ok (.aload_n 0, 1) := by decide +kernel
theorem dX6_force_55 : decode cX6_force 55 = .ok (.getfield 37, 3) := by decide +kernel
theorem dX6_force_58 : decode cX6_force 58 = .ok (.iload 4, 2) := by decide +kernel
theorem dX6_force_60 : decode cX6_force 60 = .ok (.iconst (-1), 1) := by decide +kernel
theorem dX6_force_61 : decode cX6_force 61 = .ok (.iastore, 1) := by decide +kernel
theorem dX6_force_62 : decode cX6_force 62 = .ok (.iload_n 3, 1) := by decide +kernel
theorem dX6_force_63 : decode cX6_force 63 = .ok (.invokestatic 138, 3) := by decide +kernel
theorem dX6_force_66 : decode cX6_force 66 = .ok (.ifCond .eq 13, 3) := by decide +kernel
theorem dX6_force_69 : decode cX6_force 69 = .ok (.aload_n 0, 1) := by decide +kernel
theorem dX6_force_70 : decode cX6_force 70 = .ok (.iload_n 1, 1) := by decide +kernel
theorem dX6_force_71 : decode cX6_force 71 = .ok (.iconst 1, 1) := by decide +kernel
theorem dX6_force_72 : decode cX6_force 72 = .ok (.iadd, 1) := by decide +kernel
theorem dX6_force_73 : decode cX6_force 73 = .ok (.invokevirtual 90, 3) := by decide +kernel
theorem dX6_force_76 : decode cX6_force 76 = .ok (.ifCond .eq 5, 3) := by decide +kernel
theorem dX6_force_79 : decode cX6_force 79 = .ok (.iconst 1, 1) := by decide +kernel
theorem dX6_force_80 : decode cX6_force 80 = .ok (.ireturn, 1) := by decide +kernel
theorem dX6_force_81 : decode cX6_force 81 = .ok (.aload_n 0, 1) := by decide +kernel
theorem dX6_force_82 : decode cX6_force 82 = .ok (.iload 4, 2) := by decide +kernel
theorem dX6_force_84 : decode cX6_force 84 = .ok (.iload_n 2, 1) := by decide +kernel
theorem dX6_force_85 : decode cX6_force 85 = .ok (.invokevirtual 166, 3) := by decide +kernel
theorem dX6_force_88 : decode cX6_force 88 = .ok (.aload_n 0, 1) := by decide +kernel
theorem dX6_force_89 : decode cX6_force 89 = .ok (.iload_n 1, 1) := by decide +kernel
theorem dX6_force_90 : decode cX6_force 90 = .ok (.iload_n 3, 1) := by decide +kernel
theorem dX6_force_91 : decode cX6_force 91 = .ok (.invokevirtual 166, 3) := by decide +kernel
theorem dX6_force_94 : decode cX6_force 94 = .ok (.iconst 0, 1) := by decide +kernel
theorem dX6_force_95 : decode cX6_force 95 = .ok (.ireturn, 1) := by decide +kernel
theorem dX7_init_0 : decode cX7_init 0 = .ok (.aload_n 0, 1) := by decide +kernel
theorem dX7_init_1 : decode cX7_init 1 = .ok (.invokespecial 3, 3) := by decide +kernel
theorem dX7_init_4 : decode cX7_init 4 = .ok (.aload_n 0, 1) := by decide +kernel
theorem dX7_init_5 : decode cX7_init 5 = .ok (.new 9, 3) := by decide +kernel
theorem dX7_init_8 : decode cX7_init 8 = .ok (.dup, 1) := by decide +kernel
theorem dX7_init_9 : decode cX7_init 9 = .ok (.sipush 200, 3) := by decide +kernel
theorem dX7_init_12 : decode cX7_init 12 = .ok (.invokespecial 11, 3) := by decide +kernel
theorem dX7_init_15 : decode cX7_init 15 = .ok (.putfield 14, 3) := by decide +kernel
theorem dX7_init_18 : decode cX7_init 18 = .ok (.aload_n 0, 1) := by decide +kernel
theorem dX7_init_19 : decode cX7_init 19 = .ok (.sipush 200, 3) := by decide +kernel
theorem dX7_init_22 : decode cX7_init 22 = .ok (.newarray .int, 2) := by decide +kernel
theorem dX7_init_24 : decode cX7_init 24 = .ok (.putfield 20, 3) := by decide +kernel
theorem dX7_init_27 : decode cX7_init 27 = .ok (.aload_n 0, 1) := by decide +kernel
theorem dX7_init_28 : decode cX7_init 28 = .ok (.bipush 61, 2) := by decide +kernel
theorem dX7_init_30 : decode cX7_init 30 = .ok (.newarray .int, 2) := by decide +kernel
theorem dX7_init_32 : decode cX7_init 32 = .ok (.putfield 24, 3) := by decide +kernel
theorem dX7_init_35 : decode cX7_init 35 = .ok (.aload_n 0, 1) := by decide +kernel
theorem dX7_init_36 : decode cX7_init 36 = .ok (.sipush 200, 3) := by decide +kernel
theorem dX7_init_39 : decode cX7_init 39 = .ok (.newarray .int, 2) := by decide +kernel
theorem dX7_init_41 : decode cX7_init 41 = .ok (.putfield 27, 3) := by decide +kernel
theorem dX7_init_44 : decode cX7_init 44 = .ok (.aload_n 0, 1) := by decide +kernel
theorem dX7_init_45 : decode cX7_init 45 = .ok (.sipush 200, 3) := by decide +kernel
theorem dX7_init_48 : decode cX7_init 48 = .ok (.newarray .int, 2) := by decide +kernel
theorem dX7_init_50 : decode cX7_init 50 = .ok (.putfield 30, 3) := by decide +kernel
theorem dX7_init_53 : decode cX7_init 53 = .ok (.aload_n 0, 1) := by decide +kernel
theorem dX7_init_54 : decode cX7_init 54 = .ok (.iconst (-1), 1) := by decide +kernel
theorem dX7_init_55 : decode cX7_init 55 = .ok (.putfield 33, 3) := by decide +kernel
theorem dX7_init_58 : decode cX7_init 58 = .ok (.aload_n 0, 1) := by decide +kernel
theorem dX7_init_59 : decode cX7_init 59 = .ok (.iconst (-1), 1) := by decide +kernel
theorem dX7_init_60 : decode cX7_init 60 = .ok (.putfield 37, 3) := by decide +kernel
theorem dX7_init_63 : decode cX7_init 63 = .ok (.aload_n 0, 1) := by decide +kernel
theorem dX7_init_64 : decode cX7_init 64 = .ok (.bipush 60, 2) := by decide +kernel
theorem dX7_init_66 : decode cX7_init 66 = .ok (.newarray .int, 2) := by decide +kernel
theorem dX7_init_68 : decode cX7_init 68 = .ok (.putfield 40, 3) := by decide +kernel
theorem dX7_init_71 : decode cX7_init 71 = .ok (.aload_n 0, 1) := by decide +kernel
theorem dX7_init_72 : decode cX7_init 72 = .ok (.bipush 60, 2) := by decide +kernel
theorem dX7_init_74 : decode cX7_init 74 = .ok (.newarray .long, 2) := by decide +kernel
theorem dX7_init_76 : decode cX7_init 76 = .ok (.putfield 43, 3) := by decide +kernel
theorem dX7_init_79 : decode cX7_init 79 = .ok (.aload_n 0, 1) := by decide +kernel
theorem dX7_init_80 : decode cX7_init 80 = .ok (.bipush 60, 2) := by decide +kernel
theorem dX7_init_82 : decode cX7_init 82 = .ok (.newarray .int, 2) := by decide +kernel
theorem dX7_init_84 : decode cX7_init 84 = .ok (.putfield 47, 3) := by decide +kernel
theorem dX7_init_87 : decode cX7_init 87 = .ok (.aload_n 0, 1) := by decide +kernel
theorem dX7_init_88 : decode cX7_init 88 = .ok (.bipush 60, 2) := by decide +kernel
theorem dX7_init_90 : decode cX7_init 90 = .ok (.newarray .int, 2) := by decide +kernel
theorem dX7_init_92 : decode cX7_init 92 = .ok (.putfield 50, 3) := by decide +kernel
theorem dX7_init_95 : decode cX7_init 95 = .ok (.return_, 1) := by decide +kernel
theorem dX7_total_0 : decode cX7_total 0 = .ok (.aload_n 0, 1) := by decide +kernel
theorem dX7_total_1 : decode cX7_total 1 = .ok (.getfield 14, 3) := by decide +kernel
theorem dX7_total_4 : decode cX7_total 4 = .ok (.invokevirtual 53, 3) := by decide +kernel
theorem dX7_total_7 : decode cX7_total 7 = .ok (.ireturn, 1) := by decide +kernel
theorem dX7_exceedsWhole_0 : decode cX7_exceedsWhole 0 = .ok (.aload_n 0, 1) := by decide +kernel
theorem dX7_exceedsWhole_1 : decode cX7_exceedsWhole 1 = .ok (.iload_n 1, 1) := by decide +kernel
theorem dX7_exceedsWhole_2 : decode cX7_exceedsWhole 2 = .ok (.iload_n 2, 1) := by decide +kernel
theorem dX7_exceedsWhole_3 : decode cX7_exceedsWhole 3 = .ok (.iload_n 3, 1) := by decide +kernel
theorem dX7_exceedsWhole_4 : decode cX7_exceedsWhole 4 = .ok (.invokevirtual 57, 3) := by decide +kernel
theorem dX7_exceedsWhole_7 : decode cX7_exceedsWhole 7 = .ok (.ifCond .eq 5, 3) := by decide +kernel
theorem dX7_exceedsWhole_10 : decode cX7_exceedsWhole 10 = .ok (.iconst 1, 1) := by decide +kernel
theorem dX7_exceedsWhole_11 : decode cX7_exceedsWhole 11 = .ok (.ireturn, 1) := by decide +kernel
theorem dX7_exceedsWhole_12 : decode cX7_exceedsWhole 12 = .ok (.iconst 0, 1) := by decide +kernel
theorem dX7_exceedsWhole_13 : decode cX7_exceedsWhole 13 = .ok (.istore 5, 2) := by decide +kernel
theorem dX7_exceedsWhole_15 : decode cX7_exceedsWhole 15 = .ok (.iload 5, 2) := by decide +kernel
theorem dX7_exceedsWhole_17 : decode cX7_exceedsWhole 17 = .ok (.aload_n 0, 1) := by decide +kernel
theorem dX7_exceedsWhole_18 : decode cX7_exceedsWhole 18 = .ok (.getfield 14, 3) := by decide +kernel
theorem dX7_exceedsWhole_21 : decode cX7_exceedsWhole 21 = .ok (.invokevirtual 53, 3) := by decide +kernel
theorem dX7_exceedsWhole_24 : decode cX7_exceedsWhole 24 = .ok (.if_icmp .ge 65, 3) := by decide +kernel
theorem dX7_exceedsWhole_27 : decode cX7_exceedsWhole 27 = .ok (.aload_n 0, 1) := by decide +kernel
theorem dX7_exceedsWhole_28 : decode cX7_exceedsWhole 28 = .ok (.getfield 14, 3) := by decide +kernel
theorem dX7_exceedsWhole_31 : decode cX7_exceedsWhole 31 = .ok (.iload 5, 2) := by decide +kernel
theorem dX7_exceedsWhole_33 : decode cX7_exceedsWhole 33 = .ok (.invokevirtual 61, 3) := by decide +kernel
theorem dX7_exceedsWhole_36 : decode cX7_exceedsWhole 36 = .ok (.istore 6, 2) := by decide +kernel
theorem dX7_exceedsWhole_38 : decode cX7_exceedsWhole 38 = .ok (.aload_n 0, 1) := by decide +kernel
theorem dX7_exceedsWhole_39 : decode cX7_exceedsWhole 39 = .ok (.getfield 14, 3) := by decide +kernel
theorem dX7_exceedsWhole_42 : decode cX7_exceedsWhole 42 = .ok (.iload 5, 2) := by decide +kernel
theorem dX7_exceedsWhole_44 : decode cX7_exceedsWhole 44 = .ok (.invokevirtual 65, 3) := by decide +kernel
theorem dX7_exceedsWhole_47 : decode cX7_exceedsWhole 47 = .ok (.iload_n 1, 1) := by decide +kernel
theorem dX7_exceedsWhole_48 : decode cX7_exceedsWhole 48 = .ok (.if_icmp .ne 35, 3) := by decide +kernel
theorem dX7_exceedsWhole_51 : decode cX7_exceedsWhole 51 = .ok (.iload 6, 2) := by decide +kernel
theorem dX7_exceedsWhole_53 : decode cX7_exceedsWhole 53 = .ok (.iload_n 3, 1) := by decide +kernel
theorem dX7_exceedsWhole_54 : decode cX7_exceedsWhole 54 = .ok (.if_icmp .le 29, 3) := by decide +kernel
theorem dX7_exceedsWhole_57 : decode cX7_exceedsWhole 57 = .ok (.iload 4, 2) := by decide +kernel
theorem dX7_exceedsWhole_59 : decode cX7_exceedsWhole 59 = .ok (.iconst (-1), 1) := by decide +kernel
theorem dX7_exceedsWhole_60 : decode cX7_exceedsWhole 60 = .ok (.if_icmp .eq 10, 3) := by decide +kernel
theorem dX7_exceedsWhole_63 : decode cX7_exceedsWhole 63 = .ok (.iload 6, 2) := by decide +kernel
theorem dX7_exceedsWhole_65 : decode cX7_exceedsWhole 65 = .ok (.iload 4, 2) := by decide +kernel
theorem dX7_exceedsWhole_67 : decode cX7_exceedsWhole 67 = .ok (.if_icmp .ge 16, 3) := by decide +kernel
theorem dX7_exceedsWhole_70 : decode cX7_exceedsWhole 70 = .ok (.aload_n 0, 1) := by decide +kernel
theorem dX7_exceedsWhole_71 : decode cX7_exceedsWhole 71 = .ok (.iload_n 1, 1) := by decide +kernel
theorem dX7_exceedsWhole_72 : decode cX7_exceedsWhole 72 = .ok (.iload_n 2, 1) := by decide +kernel
theorem dX7_exceedsWhole_73 : decode cX7_exceedsWhole 73 = .ok (.iload 6, 2) := by decide +kernel
theorem dX7_exceedsWhole_75 : decode cX7_exceedsWhole 75 = .ok (.invokevirtual 57, 3) := by decide +kernel
theorem dX7_exceedsWhole_78 : decode cX7_exceedsWhole 78 = .ok (.ifCond .eq 5, 3) := by decide +kernel
theorem dX7_exceedsWhole_81 : decode cX7_exceedsWhole 81 = .ok (.iconst 1, 1) := by decide +kernel
theorem dX7_exceedsWhole_82 : decode cX7_exceedsWhole 82 = .ok (.ireturn, 1) := by decide +kernel
theorem dX7_exceedsWhole_83 : decode cX7_exceedsWhole 83 = .ok (.iinc 5 1, 3) := by decide +kernel
theorem dX7_exceedsWhole_86 : decode cX7_exceedsWhole 86 = .ok (.goto (-71), 3) := by decide +kernel
theorem dX7_exceedsWhole_89 : decode cX7_exceedsWhole 89 = .ok (.iconst 0, 1) := by decide +kernel
theorem dX7_exceedsWhole_90 : decode cX7_exceedsWhole 90 = .ok (.ireturn, 1) := by decide +kernel
theorem dX7_isTooMuch_0 : decode cX7_isTooMuch 0 = .ok (.iload_n 2, 1) := by decide +kernel
theorem dX7_isTooMuch_1 : decode cX7_isTooMuch 1 = .ok (.istore 4, 2) := by decide +kernel
theorem dX7_isTooMuch_3 : decode cX7_isTooMuch 3 = .ok (.iconst 0, 1) := by decide +kernel
theorem dX7_isTooMuch_4 : decode cX7_isTooMuch 4 = .ok (.istore 5, 2) := by decide +kernel
theorem dX7_isTooMuch_6 : decode cX7_isTooMuch 6 = .ok (.iload 5, 2) := by decide +kernel
theorem dX7_isTooMuch_8 : decode cX7_isTooMuch 8 = .ok (.aload_n 0, 1) := by decide +kernel
theorem dX7_isTooMuch_9 : decode cX7_isTooMuch 9 = .ok (.getfield 14, 3) := by decide +kernel
theorem dX7_isTooMuch_12 : decode cX7_isTooMuch 12 = .ok (.invokevirtual 53, 3) := by decide +kernel
theorem dX7_isTooMuch_15 : decode cX7_isTooMuch 15 = .ok (.if_icmp .ge 49, 3) := by decide +kernel
theorem dX7_isTooMuch_18 : decode cX7_isTooMuch 18 = .ok (.aload_n 0, 1) := by decide +kernel
theorem dX7_isTooMuch_19 : decode cX7_isTooMuch 19 = .ok (.getfield 14, 3) := by decide +kernel
theorem dX7_isTooMuch_22 : decode cX7_isTooMuch 22 = .ok (.iload 5, 2) := by decide +kernel
theorem dX7_isTooMuch_24 : decode cX7_isTooMuch 24 = .ok (.invokevirtual 65, 3) := by decide +kernel
theorem dX7_isTooMuch_27 : decode cX7_isTooMuch 27 = .ok (.iload_n 1, 1) := by decide +kernel
theorem dX7_isTooMuch_28 : decode cX7_isTooMuch 28 = .ok (.if_icmp .ne 30, 3) := by decide +kernel
theorem dX7_isTooMuch_31 : decode cX7_isTooMuch 31 = .ok (.aload_n 0, 1) := by decide +kernel
theorem dX7_isTooMuch_32 : decode cX7_isTooMuch 32 = .ok (.getfield 14, 3) := by decide +kernel
theorem dX7_isTooMuch_35 : decode cX7_isTooMuch 35 = .ok (.iload 5, 2) := by decide +kernel
theorem dX7_isTooMuch_37 : decode cX7_isTooMuch 37 = .ok (.iload_n 3, 1) := by decide +kernel
theorem dX7_isTooMuch_38 : decode cX7_isTooMuch 38 = .ok (.invokevirtual 68, 3) := by decide +kernel
theorem dX7_isTooMuch_41 : decode cX7_isTooMuch 41 = .ok (.ifCond .eq 17, 3) := by decide +kernel
theorem dX7_isTooMuch_44 : decode cX7_isTooMuch 44 = .ok (.iload 4, 2) := by decide +kernel
theorem dX7_isTooMuch_46 : decode cX7_isTooMuch 46 = .ok (.aload_n 0, 1) := by decide +kernel
theorem dX7_isTooMuch_47 : decode cX7_isTooMuch 47 = .ok (.getfield 14, 3) := by decide +kernel
theorem dX7_isTooMuch_50 : decode cX7_isTooMuch 50 = .ok (.iload 5, 2) := by decide +kernel
theorem dX7_isTooMuch_52 : decode cX7_isTooMuch 52 = .ok (.invokevirtual 72, 3) := by decide +kernel
theorem dX7_isTooMuch_55 : decode cX7_isTooMuch 55 = .ok (.iadd, 1) := by decide +kernel
theorem dX7_isTooMuch_56 : decode cX7_isTooMuch 56 = .ok (.istore 4, 2) := by decide +kernel
theorem dX7_isTooMuch_58 : decode cX7_isTooMuch 58 = .ok (.iinc 5 1, 3) := by decide +kernel
theorem dX7_isTooMuch_61 : decode cX7_isTooMuch 61 = .ok (.goto (-55), 3) := by decide +kernel
theorem dX7_isTooMuch_64 : decode cX7_isTooMuch 64 = .ok (.iload 4, 2) := by decide +kernel
theorem dX7_isTooMuch_66 : decode cX7_isTooMuch 66 = .ok (.sipush 10000, 3) := by decide +kernel
theorem dX7_isTooMuch_69 : decode cX7_isTooMuch 69 = .ok (.if_icmp .le 7, 3) := by decide +kernel
theorem dX7_isTooMuch_72 : decode cX7_isTooMuch 72 = .ok (.iconst 1, 1) := by decide +kernel
theorem dX7_isTooMuch_73 : decode cX7_isTooMuch 73 = .ok (.goto 4, 3) := by decide +kernel
theorem dX7_isTooMuch_76 : decode cX7_isTooMuch 76 = .ok (.iconst 0, 1) := by decide +kernel
theorem dX7_isTooMuch_77 : decode cX7_isTooMuch 77 = .ok (.ireturn, 1) := by decide +kernel
theorem dX7_add_0 : decode cX7_add 0 = .ok (.aload_n 0, 1) := by decide +kernel
theorem dX7_add_1 : decode cX7_add 1 = .ok (.getfield 14, 3) := by decide +kernel
theorem dX7_add_4 : decode cX7_add 4 = .ok (.iload_n 1, 1) := by decide +kernel
theorem dX7_add_5 : decode cX7_add 5 = .ok (.iload_n 2, 1) := by decide +kernel
theorem dX7_add_6 : decode cX7_add 6 = .ok (.iload_n 3, 1) := by decide +kernel
theorem dX7_add_7 : decode cX7_add 7 = .ok (.iload 4, 2) := by decide +kernel
theorem dX7_add_9 : decode cX7_add 9 = .ok (.iload 5, 2) := by decide +kernel
theorem dX7_add_11 : decode cX7_add 11 = .ok (.iload 6, 2) := by decide +kernel
theorem dX7_add_13 : decode cX7_add 13 = .ok (.invokevirtual 75, 3) := by decide +kernel
theorem dX7_add_16 : decode cX7_add 16 = .ok (.istore 7, 2) := by decide +kernel
theorem dX7_add_18 : decode cX7_add 18 = .ok (.iload 7, 2) := by decide +kernel
theorem dX7_add_20 : decode cX7_add 20 = .ok (.ifCond .lt 11, 3) := by decide +kernel
theorem dX7_add_23 : decode cX7_add 23 = .ok (.iload 7, 2) := by decide +kernel
theorem dX7_add_25 : decode cX7_add 25 = .ok (.sipush 200, 3) := by decide +kernel
theorem dX7_add_28 : decode cX7_add 28 = .ok (.if_icmp .lt 6, 3) := by decide +kernel
theorem dX7_add_31 : decode cX7_add 31 = .ok (.iload 7, 2) := by decide +kernel
theorem dX7_add_33 : decode cX7_add 33 = .ok (.ireturn, 1) := by decide +kernel
theorem dX7_add_34 : decode cX7_add 34 = .ok (.iload 7, 2) := by decide +kernel
theorem dX7_add_36 : decode cX7_add 36 = .ok (.istore 8, 2) := by decide +kernel
theorem dX7_add_38 : decode cX7_add 38 = .ok (.iload 8, 2) := by decide +kernel
theorem dX7_add_40 : decode cX7_add 40 = .ok (.ifCond .le 43, 3) := by decide +kernel
theorem dX7_add_43 : decode cX7_add 43 = .ok (.aload_n 0, 1) := by decide +kernel
theorem dX7_add_44 : decode cX7_add 44 = .ok (.aload_n 0, 1) := by decide +kernel
theorem dX7_add_45 : decode cX7_add 45 = .ok (.getfield 20, 3) := by decide +kernel
theorem dX7_add_48 : decode cX7_add 48 = .ok (.iload 8, 2) := by decide +kernel
theorem dX7_add_50 : decode cX7_add 50 = .ok (.iconst 1, 1) := by decide +kernel
theorem dX7_add_51 : decode cX7_add 51 = .ok (.isub, 1) := by decide +kernel
theorem dX7_add_52 : decode cX7_add 52 = .ok (.iaload, 1) := by decide +kernel
theorem dX7_add_53 : decode cX7_add 53 = .ok (.iload_n 1, 1) := by decide +kernel
theorem dX7_add_54 : decode cX7_add 54 = .ok (.iload_n 2, 1) := by decide +kernel
theorem dX7_add_55 : decode cX7_add 55 = .ok (.invokevirtual 79, 3) := by decide +kernel
theorem dX7_add_58 : decode cX7_add 58 = .ok (.ifCond .eq 25, 3) := by decide +kernel
theorem dX7_add_61 : decode cX7_add 61 = .ok (.aload_n 0, 1) := by decide +kernel
theorem dX7_add_62 : decode cX7_add 62 = .ok (.getfield 20, 3) := by decide +kernel
theorem dX7_add_65 : decode cX7_add 65 = .ok (.iload 8, 2) := by decide +kernel
theorem dX7_add_67 : decode cX7_add 67 = .ok (.aload_n 0, 1) := by decide +kernel
theorem dX7_add_68 : decode cX7_add 68 = .ok (.getfield 20, 3) := by decide +kernel
theorem dX7_add_71 : decode cX7_add 71 = .ok (.iload 8, 2) := by decide +kernel
theorem dX7_add_73 : decode cX7_add 73 = .ok (.iconst 1, 1) := by decide +kernel
theorem dX7_add_74 : decode cX7_add 74 = .ok (.isub, 1) := by decide +kernel
theorem dX7_add_75 : decode cX7_add 75 = .ok (.iaload, 1) := by decide +kernel
theorem dX7_add_76 : decode cX7_add 76 = .ok (.iastore, 1) := by decide +kernel
theorem dX7_add_77 : decode cX7_add 77 = .ok (.iinc 8 (-1), 3) := by decide +kernel
theorem dX7_add_80 : decode cX7_add 80 = .ok (.goto (-42), 3) := by decide +kernel
theorem dX7_add_83 : decode cX7_add 83 = .ok (.aload_n 0, 1) := by decide +kernel
theorem dX7_add_84 : decode cX7_add 84 = .ok (.getfield 20, 3) := by decide +kernel
theorem dX7_add_87 : decode cX7_add 87 = .ok (.iload 8, 2) := by decide +kernel
theorem dX7_add_89 : decode cX7_add 89 = .ok (.iload 7, 2) := by decide +kernel
theorem dX7_add_91 : decode cX7_add 91 = .ok (.iastore, 1) := by decide +kernel
theorem dX7_add_92 : decode cX7_add 92 = .ok (.iload 7, 2) := by decide +kernel
theorem dX7_add_94 : decode cX7_add 94 = .ok (.ireturn, 1) := by decide +kernel
theorem dX7_comesBehind_0 : decode cX7_comesBehind 0 = .ok (.aload_n 0, 1) := by decide +kernel
theorem dX7_comesBehind_1 : decode cX7_comesBehind 1 = .ok (.getfield 14, 3) := by decide +kernel
theorem dX7_comesBehind_4 : decode cX7_comesBehind 4 = .ok (.iload_n 1, 1) := by decide +kernel
theorem dX7_comesBehind_5 : decode cX7_comesBehind 5 = .ok (.invokevirtual 82, 3) := by decide +kernel
theorem dX7_comesBehind_8 : decode cX7_comesBehind 8 = .ok (.istore 4, 2) := by decide +kernel
theorem dX7_comesBehind_10 : decode cX7_comesBehind 10 = .ok (.iload 4, 2) := by decide +kernel
theorem dX7_comesBehind_12 : decode cX7_comesBehind 12 = .ok (.iload_n 2, 1) := by decide +kernel
theorem dX7_comesBehind_13 : decode cX7_comesBehind 13 = .ok (.if_icmp .gt 21, 3) := by decide +kernel
theorem dX7_comesBehind_16 : decode cX7_comesBehind 16 = .ok (.iload 4, 2) := by decide +kernel
theorem dX7_comesBehind_18 : decode cX7_comesBehind 18 = .ok (.iload_n 2, 1) := by decide +kernel
theorem dX7_comesBehind_19 : decode cX7_comesBehind 19 = .ok (.if_icmp .ne 19, 3) := by decide +kernel
theorem dX7_comesBehind_22 : decode cX7_comesBehind 22 = .ok (.aload_n 0, 1) := by decide +kernel
theorem dX7_comesBehind_23 : decode cX7_comesBehind 23 = .ok (.getfield 14, 3) := by decide +kernel
theorem dX7_comesBehind_26 : decode cX7_comesBehind 26 = .ok (.iload_n 1, 1) := by decide +kernel
theorem dX7_comesBehind_27 : decode cX7_comesBehind 27 = .ok (.invokevirtual 65, 3) := by decide +kernel
theorem dX7_comesBehind_30 : decode cX7_comesBehind 30 = .ok (.iload_n 3, 1) := by decide +kernel
theorem dX7_comesBehind_31 : decode cX7_comesBehind 31 = .ok (.if_icmp .le 7, 3) := by decide +kernel
theorem dX7_comesBehind_34 : decode cX7_comesBehind 34 = .ok (.iconst 1, 1) := by decide +kernel
theorem dX7_comesBehind_35 : decode cX7_comesBehind 35 = .ok (.goto 4, 3) := by decide +kernel
theorem dX7_comesBehind_38 : decode cX7_comesBehind 38 = .ok (.iconst 0, 1) := by decide +kernel
theorem dX7_comesBehind_39 : decode cX7_comesBehind 39 = .ok (.ireturn, 1) := by decide +kernel
theorem dX7_load_0 : decode cX7_load 0 = .ok (.aload_n 0, 1) := by decide +kernel
theorem dX7_load_1 : decode cX7_load 1 = .ok (.getfield 14, 3) := by decide +kernel
theorem dX7_load_4 : decode cX7_load 4 = .ok (.invokevirtual 53, 3) := by decide +kernel
theorem dX7_load_7 : decode cX7_load 7 = .ok (.istore_n 3, 1) := by decide +kernel
theorem dX7_load_8 : decode cX7_load 8 = .ok (.iload_n 1, 1) := by decide +kernel
theorem dX7_load_9 : decode cX7_load 9 = .ok (.aload_n 0, 1) := by decide +kernel
theorem dX7_load_10 : decode cX7_load 10 = .ok (.getfield 33, 3) := by decide +kernel
theorem dX7_load_13 : decode cX7_load 13 = .ok (.if_icmp .ne 20, 3) := by decide +kernel
theorem dX7_load_16 : decode cX7_load 16 = .ok (.iload_n 2, 1) := by decide +kernel
theorem dX7_load_17 : decode cX7_load 17 = .ok (.aload_n 0, 1) := by decide +kernel
theorem dX7_load_18 : decode cX7_load 18 = .ok (.getfield 85, 3) := by decide +kernel
theorem dX7_load_21 : decode cX7_load 21 = .ok (.if_icmp .ne 12, 3) := by decide +kernel
theorem dX7_load_24 : decode cX7_load 24 = .ok (.iload_n 3, 1) := by decide +kernel
theorem dX7_load_25 : decode cX7_load 25 = .ok (.aload_n 0, 1) := by decide +kernel
theorem dX7_load_26 : decode cX7_load 26 = .ok (.getfield 37, 3) := by decide +kernel
theorem dX7_load_29 : decode cX7_load 29 = .ok (.if_icmp .ne 4, 3) := by decide +kernel
theorem dX7_load_32 : decode cX7_load 32 = .ok (.return_, 1) := by decide +kernel
theorem dX7_load_33 : decode cX7_load 33 = .ok (.aload_n 0, 1) := by decide +kernel
theorem dX7_load_34 : decode cX7_load 34 = .ok (.iload_n 1, 1) := by decide +kernel
theorem dX7_load_35 : decode cX7_load 35 = .ok (.putfield 33, 3) := by decide +kernel
theorem dX7_load_38 : decode cX7_load 38 = .ok (.aload_n 0, 1) := by decide +kernel
theorem dX7_load_39 : decode cX7_load 39 = .ok (.iload_n 2, 1) := by decide +kernel
theorem dX7_load_40 : decode cX7_load 40 = .ok (.putfield 85, 3) := by decide +kernel
theorem dX7_load_43 : decode cX7_load 43 = .ok (.aload_n 0, 1) := by decide +kernel
theorem dX7_load_44 : decode cX7_load 44 = .ok (.iload_n 3, 1) := by decide +kernel
theorem dX7_load_45 : decode cX7_load 45 = .ok (.putfield 37, 3) := by decide +kernel
theorem dX7_load_48 : decode cX7_load 48 = .ok (.aload_n 0, 1) := by decide +kernel
theorem dX7_load_49 : decode cX7_load 49 = .ok (.iconst 0, 1) := by decide +kernel
theorem dX7_load_50 : decode cX7_load 50 = .ok (.putfield 88, 3) := by decide +kernel
theorem dX7_load_53 : decode cX7_load 53 = .ok (.iconst 0, 1) := by decide +kernel
theorem dX7_load_54 : decode cX7_load 54 = .ok (.istore 4, 2) := by decide +kernel
theorem dX7_load_56 : decode cX7_load 56 = .ok (.iconst 0, 1) := by decide +kernel
theorem dX7_load_57 : decode cX7_load 57 = .ok (.istore 5, 2) := by decide +kernel
theorem dX7_load_59 : decode cX7_load 59 = .ok (.aload_n 0, 1) := by decide +kernel
theorem dX7_load_60 : decode cX7_load 60 = .ok (.getfield 24, 3) := by decide +kernel
theorem dX7_load_63 : decode cX7_load 63 = .ok (.iconst 0, 1) := by decide +kernel
theorem dX7_load_64 : decode cX7_load 64 = .ok (.iconst 0, 1) := by decide +kernel
theorem dX7_load_65 : decode cX7_load 65 = .ok (.iastore, 1) := by decide +kernel
theorem dX7_load_66 : decode cX7_load 66 = .ok (.iconst 0, 1) := by decide +kernel
theorem dX7_load_67 : decode cX7_load 67 = .ok (.istore 6, 2) := by decide +kernel
theorem dX7_load_69 : decode cX7_load 69 = .ok (.iload 6, 2) := by decide +kernel
theorem dX7_load_71 : decode cX7_load 71 = .ok (.iload_n 3, 1) := by decide +kernel
theorem dX7_load_72 : decode cX7_load 72 = .ok (.if_icmp .ge 188, 3) := by decide +kernel
theorem dX7_load_75 : decode cX7_load 75 = .ok (.iload 6, 2) := by decide +kernel
theorem dX7_load_77 : decode cX7_load 77 = .ok (.sipush 200, 3) := by decide +kernel
theorem dX7_load_80 : decode cX7_load 80 = .ok (.if_icmp .ge 180, 3) := by decide +kernel
theorem dX7_load_83 : decode cX7_load 83 = .ok (.aload_n 0, 1) := by decide +kernel
theorem dX7_load_84 : decode cX7_load 84 = .ok (.getfield 20, 3) := by decide +kernel
theorem dX7_load_87 : decode cX7_load 87 = .ok (.iload 6, 2) := by decide +kernel
theorem dX7_load_89 : decode cX7_load 89 = .ok (.iaload, 1) := by decide +kernel
theorem dX7_load_90 : decode cX7_load 90 = .ok (.istore 7, 2) := by decide +kernel
theorem dX7_load_92 : decode cX7_load 92 = .ok (.aload_n 0, 1) := by decide +kernel
theorem dX7_load_93 : decode cX7_load 93 = .ok (.getfield 14, 3) := by decide +kernel
theorem dX7_load_96 : decode cX7_load 96 = .ok (.iload 7, 2) := by decide +kernel
theorem dX7_load_98 : decode cX7_load 98 = .ok (.iload_n 2, 1) := by decide +kernel
theorem dX7_load_99 : decode cX7_load 99 = .ok (.invokevirtual 92, 3) := by decide +kernel
theorem dX7_load_102 : decode cX7_load 102 = .ok (.ifCond .eq 152, 3) := by decide +kernel
theorem dX7_load_105 : decode cX7_load 105 = .ok (.aload_n 0, 1) := by decide +kernel
theorem dX7_load_106 : decode cX7_load 106 = .ok (.getfield 14, 3) := by decide +kernel
theorem dX7_load_109 : decode cX7_load 109 = .ok (.iload 7, 2) := by decide +kernel
theorem dX7_load_111 : decode cX7_load 111 = .ok (.iload_n 1, 1) := by decide +kernel
theorem dX7_load_112 : decode cX7_load 112 = .ok (.invokevirtual 68, 3) := by decide +kernel
theorem dX7_load_115 : decode cX7_load 115 = .ok (.ifCond .ne 6, 3) := by decide +kernel
theorem dX7_load_118 : decode cX7_load 118 = .ok (.goto 136, 3) := by decide +kernel
theorem dX7_load_121 : decode cX7_load 121 = .ok (.iload 4, 2) := by decide +kernel
theorem dX7_load_123 : decode cX7_load 123 = .ok (.aload_n 0, 1) := by decide +kernel
theorem dX7_load_124 : decode cX7_load 124 = .ok (.getfield 14, 3) := by decide +kernel
theorem dX7_load_127 : decode cX7_load 127 = .ok (.iload 7, 2) := by decide +kernel
theorem dX7_load_129 : decode cX7_load 129 = .ok (.invokevirtual 82, 3) := by decide +kernel
theorem dX7_load_132 : decode cX7_load 132 = .ok (.if_icmp .ge 25, 3) := by decide +kernel
theorem dX7_load_135 : decode cX7_load 135 = .ok (.iload 4, 2) := by decide +kernel
theorem dX7_load_137 : decode cX7_load 137 = .ok (.bipush 60, 2) := by decide +kernel
theorem dX7_load_139 : decode cX7_load 139 = .ok (.if_icmp .ge 18, 3) := by decide +kernel
theorem dX7_load_142 : decode cX7_load 142 = .ok (.iinc 4 1, 3) := by decide +kernel
theorem dX7_load_145 : decode cX7_load 145 = .ok (.aload_n 0, 1) := by decide +kernel
theorem dX7_load_146 : decode cX7_load 146 = .ok (.getfield 24, 3) := by decide +kernel
theorem dX7_load_149 : decode cX7_load 149 = .ok (.iload 4, 2) := by decide +kernel
theorem dX7_load_151 : decode cX7_load 151 = .ok (.iload 5, 2) := by decide +kernel
theorem dX7_load_153 : decode cX7_load 153 = .ok (.iastore, 1) := by decide +kernel
theorem dX7_load_154 : decode cX7_load 154 = .ok (.goto (-33), 3) := by decide +kernel
theorem dX7_load_157 : decode cX7_load 157 = .ok (.aload_n 0, 1) := by decide +kernel
theorem dX7_load_158 : decode cX7_load 158 = .ok (.getfield 14, 3) := by decide +kernel
theorem dX7_load_161 : decode cX7_load 161 = .ok (.iload 7, 2) := by decide +kernel
theorem dX7_load_163 : decode cX7_load 163 = .ok (.invokevirtual 65, 3) := by decide +kernel
theorem dX7_load_166 : decode cX7_load 166 = .ok (.istore 8, 2) := by decide +kernel
theorem dX7_load_168 : decode cX7_load 168 = .ok (.iload 5, 2) := by decide +kernel
theorem dX7_load_170 : decode cX7_load 170 = .ok (.aload_n 0, 1) := by decide +kernel
theorem dX7_load_171 : decode cX7_load 171 = .ok (.getfield 24, 3) := by decide +kernel
theorem dX7_load_174 : decode cX7_load 174 = .ok (.iload 4, 2) := by decide +kernel
theorem dX7_load_176 : decode cX7_load 176 = .ok (.iaload, 1) := by decide +kernel
theorem dX7_load_177 : decode cX7_load 177 = .ok (.if_icmp .le 41, 3) := by decide +kernel
theorem dX7_load_180 : decode cX7_load 180 = .ok (.aload_n 0, 1) := by decide +kernel
theorem dX7_load_181 : decode cX7_load 181 = .ok (.getfield 27, 3) := by decide +kernel
theorem dX7_load_184 : decode cX7_load 184 = .ok (.iload 5, 2) := by decide +kernel
theorem dX7_load_186 : decode cX7_load 186 = .ok (.iconst 1, 1) := by decide +kernel
theorem dX7_load_187 : decode cX7_load 187 = .ok (.isub, 1) := by decide +kernel
theorem dX7_load_188 : decode cX7_load 188 = .ok (.iaload, 1) := by decide +kernel
theorem dX7_load_189 : decode cX7_load 189 = .ok (.iload 8, 2) := by decide +kernel
theorem dX7_load_191 : decode cX7_load 191 = .ok (.if_icmp .ne 27, 3) := by decide +kernel
theorem dX7_load_194 : decode cX7_load 194 = .ok (.aload_n 0, 1) := by decide +kernel
theorem dX7_load_195 : decode cX7_load 195 = .ok (.getfield 30, 3) := by decide +kernel
theorem dX7_load_198 : decode cX7_load 198 = .ok (.iload 5, 2) := by decide +kernel
theorem dX7_load_200 : decode cX7_load 200 = .ok (.iconst 1, 1) := by decide +kernel
theorem dX7_load_201 : decode cX7_load 201 = .ok (.isub, 1) := by decide +kernel
theorem dX7_load_202 : decode cX7_load 202 = .ok (.dup2, 1) := by decide +kernel
theorem dX7_load_203 : decode cX7_load 203 = .ok (.iaload, 1) := by decide +kernel
theorem dX7_load_204 : decode cX7_load 204 = .ok (.aload_n 0, 1) := by decide +kernel
theorem dX7_load_205 : decode cX7_load 205 = .ok (.getfield 14, 3) := by decide +kernel
theorem dX7_load_208 : decode cX7_load 208 = .ok (.iload 7, 2) := by decide +kernel
theorem dX7_load_210 : decode cX7_load 210 = .ok (.invokevirtual 72, 3) := by decide +kernel
theorem dX7_load_213 : decode cX7_load 213 = .ok (.iadd, 1) := by decide +kernel
theorem dX7_load_214 : decode cX7_load 214 = .ok (.iastore, 1) := by decide +kernel
theorem dX7_load_215 : decode cX7_load 215 = .ok (.goto 39, 3) := by decide +kernel
theorem dX7_load_218 : decode cX7_load 218 = .ok (.iload 5, 2) := by decide +kernel
theorem dX7_load_220 : decode cX7_load 220 = .ok (.sipush 200, 3) := by decide +kernel
theorem dX7_load_223 : decode cX7_load 223 = .ok (.if_icmp .ge 31, 3) := by decide +kernel
theorem dX7_load_226 : decode cX7_load 226 = .ok (.aload_n 0, 1) := by decide +kernel
theorem dX7_load_227 : decode cX7_load 227 = .ok (.getfield 27, 3) := by decide +kernel
theorem dX7_load_230 : decode cX7_load 230 = .ok (.iload 5, 2) := by decide +kernel
theorem dX7_load_232 : decode cX7_load 232 = .ok (.iload 8, 2) := by decide +kernel
theorem dX7_load_234 : decode cX7_load 234 = .ok (.iastore, 1) := by decide +kernel
theorem dX7_load_235 : decode cX7_load 235 = .ok (.aload_n 0, 1) := by decide +kernel
theorem dX7_load_236 : decode cX7_load 236 = .ok (.getfield 30, 3) := by decide +kernel
theorem dX7_load_239 : decode cX7_load 239 = .ok (.iload 5, 2) := by decide +kernel
theorem dX7_load_241 : decode cX7_load 241 = .ok (.aload_n 0, 1) := by decide +kernel
theorem dX7_load_242 : decode cX7_load 242 = .ok (.getfield 14, 3) := by decide +kernel
theorem dX7_load_245 : decode cX7_load 245 = .ok (.iload 7, 2) := by decide +kernel
theorem dX7_load_247 : decode cX7_load 247 = .ok (.invokevirtual 72, 3) := by decide +kernel
theorem dX7_load_250 : decode cX7_load 250 = .ok (.iastore, 1) := by decide +kernel
theorem dX7_load_251 : decode cX7_load 251 = .ok (.iinc 5 1, 3) := by decide +kernel
theorem dX7_load_254 : decode cX7_load 254 = .ok (.iinc 6 1, 3) := by decide +kernel
theorem dX7_load_257 : decode cX7_load 257 = .ok (.goto (-188), 3) := by decide +kernel
theorem dX7_load_260 : decode cX7_load 260 = .ok (.iload 4, 2) := by decide +kernel
theorem dX7_load_262 : decode cX7_load 262 = .ok (.bipush 60, 2) := by decide +kernel
theorem dX7_load_264 : decode cX7_load 264 = .ok (.if_icmp .ge 18, 3) := by decide +kernel
theorem dX7_load_267 : decode cX7_load 267 = .ok (.iinc 4 1, 3) := by decide +kernel
theorem dX7_load_270 : decode cX7_load 270 = .ok (.aload_n 0, 1) := by decide +kernel
theorem dX7_load_271 : decode cX7_load 271 = .ok (.getfield 24, 3) := by decide +kernel
theorem dX7_load_274 : decode cX7_load 274 = .ok (.iload 4, 2) := by decide +kernel
theorem dX7_load_276 : decode cX7_load 276 = .ok (.iload 5, 2) := by decide +kernel
theorem dX7_load_278 : decode cX7_load 278 = .ok (.iastore, 1) := by decide +kernel
theorem dX7_load_279 : decode cX7_load 279 = .ok (.goto (-19), 3) := by decide +kernel
theorem dX7_load_282 : decode cX7_load 282 = .ok (.return_, 1) := by decide +kernel
theorem dX7_firstArrow_0 : decode cX7_firstArrow 0 = .ok (.iload_n 1, 1) := by decide +kernel
theorem dX7_firstArrow_1 : decode cX7_firstArrow 1 = .ok (.ifCond .lt 18, 3) := by decide +kernel
theorem dX7_firstArrow_4 : decode cX7_firstArrow 4 = .ok (.iload_n 1, 1) := by decide +kernel
theorem dX7_firstArrow_5 : decode cX7_firstArrow 5 = .ok (.bipush 60, 2) := by decide +kernel
theorem dX7_firstArrow_7 : decode cX7_firstArrow 7 = .ok (.if_icmp .ge 12, 3) := by decide +kernel
theorem dX7_firstArrow_10 : decode cX7_firstArrow 10 = .ok (.aload_n 0, 1) := by decide +kernel
theorem dX7_firstArrow_11 : decode cX7_firstArrow 11 = .ok (.getfield 24, 3) := by decide +kernel
theorem dX7_firstArrow_14 : decode cX7_firstArrow 14 = .ok (.iload_n 1, 1) := by decide +kernel
theorem dX7_firstArrow_15 : decode cX7_firstArrow 15 = .ok (.iaload, 1) := by decide +kernel
theorem dX7_firstArrow_16 : decode cX7_firstArrow 16 = .ok (.goto 4, 3) := by decide +kernel
theorem dX7_firstArrow_19 : decode cX7_firstArrow 19 = .ok (.iconst 0, 1) := by decide +kernel
theorem dX7_firstArrow_20 : decode cX7_firstArrow 20 = .ok (.ireturn, 1) := by decide +kernel
theorem dX7_pastArrows_0 : decode cX7_pastArrows 0 = .ok (.iload_n 1, 1) := by decide +kernel
theorem dX7_pastArrows_1 : decode cX7_pastArrows 1 = .ok (.ifCond .lt 20, 3) := by decide +kernel
theorem dX7_pastArrows_4 : decode cX7_pastArrows 4 = .ok (.iload_n 1, 1) := by decide +kernel
theorem dX7_pastArrows_5 : decode cX7_pastArrows 5 = .ok (.bipush 60, 2) := by decide +kernel
theorem dX7_pastArrows_7 : decode cX7_pastArrows 7 = .ok (.if_icmp .ge 14, 3) := by decide +kernel
theorem dX7_pastArrows_10 : decode cX7_pastArrows 10 = .ok (.aload_n 0, 1) := by decide +kernel
theorem dX7_pastArrows_11 : decode cX7_pastArrows 11 = .ok (.getfield 24, 3) := by decide +kernel
theorem dX7_pastArrows_14 : decode cX7_pastArrows 14 = .ok (.iload_n 1, 1) := by decide +kernel
theorem dX7_pastArrows_15 : decode cX7_pastArrows 15 = .ok (.iconst 1, 1) := by decide +kernel
theorem dX7_pastArrows_16 : decode cX7_pastArrows 16 = .ok (.iadd, 1) := by decide +kernel
theorem dX7_pastArrows_17 : decode cX7_pastArrows 17 = .ok (.iaload, 1) := by decide +kernel
theorem dX7_pastArrows_18 : decode cX7_pastArrows 18 = .ok (.goto 4, 3) := by decide +kernel
theorem dX7_pastArrows_21 : decode cX7_pastArrows 21 = .ok (.iconst 0, 1) := by decide +kernel
theorem dX7_pastArrows_22 : decode cX7_pastArrows 22 = .ok (.ireturn, 1) := by decide +kernel
theorem dX7_targetOf_0 : decode cX7_targetOf 0 = .ok (.iload_n 1, 1) := by decide +kernel
theorem dX7_targetOf_1 : decode cX7_targetOf 1 = .ok (.ifCond .lt 19, 3) := by decide +kernel
theorem dX7_targetOf_4 : decode cX7_targetOf 4 = .ok (.iload_n 1, 1) := by decide +kernel
theorem dX7_targetOf_5 : decode cX7_targetOf 5 = .ok (.sipush 200, 3) := by decide +kernel
theorem dX7_targetOf_8 : decode cX7_targetOf 8 = .ok (.if_icmp .ge 12, 3) := by decide +kernel
theorem dX7_targetOf_11 : decode cX7_targetOf 11 = .ok (.aload_n 0, 1) := by decide +kernel
theorem dX7_targetOf_12 : decode cX7_targetOf 12 = .ok (.getfield 27, 3) := by decide +kernel
theorem dX7_targetOf_15 : decode cX7_targetOf 15 = .ok (.iload_n 1, 1) := by decide +kernel
theorem dX7_targetOf_16 : decode cX7_targetOf 16 = .ok (.iaload, 1) := by decide +kernel
theorem dX7_targetOf_17 : decode cX7_targetOf 17 = .ok (.goto 4, 3) := by decide +kernel
theorem dX7_targetOf_20 : decode cX7_targetOf 20 = .ok (.iconst (-1), 1) := by decide +kernel
theorem dX7_targetOf_21 : decode cX7_targetOf 21 = .ok (.ireturn, 1) := by decide +kernel
theorem dX7_partOn_0 : decode cX7_partOn 0 = .ok (.iload_n 1, 1) := by decide +kernel
theorem dX7_partOn_1 : decode cX7_partOn 1 = .ok (.ifCond .lt 19, 3) := by decide +kernel
theorem dX7_partOn_4 : decode cX7_partOn 4 = .ok (.iload_n 1, 1) := by decide +kernel
theorem dX7_partOn_5 : decode cX7_partOn 5 = .ok (.sipush 200, 3) := by decide +kernel
theorem dX7_partOn_8 : decode cX7_partOn 8 = .ok (.if_icmp .ge 12, 3) := by decide +kernel
theorem dX7_partOn_11 : decode cX7_partOn 11 = .ok (.aload_n 0, 1) := by decide +kernel
theorem dX7_partOn_12 : decode cX7_partOn 12 = .ok (.getfield 30, 3) := by decide +kernel
theorem dX7_partOn_15 : decode cX7_partOn 15 = .ok (.iload_n 1, 1) := by decide +kernel
theorem dX7_partOn_16 : decode cX7_partOn 16 = .ok (.iaload, 1) := by decide +kernel
theorem dX7_partOn_17 : decode cX7_partOn 17 = .ok (.goto 4, 3) := by decide +kernel
theorem dX7_partOn_20 : decode cX7_partOn 20 = .ok (.iconst 0, 1) := by decide +kernel
theorem dX7_partOn_21 : decode cX7_partOn 21 = .ok (.ireturn, 1) := by decide +kernel
theorem dX7_headOf_0 : decode cX7_headOf 0 = .ok (.aload_n 0, 1) := by decide +kernel
theorem dX7_headOf_1 : decode cX7_headOf 1 = .ok (.iload_n 2, 1) := by decide +kernel
theorem dX7_headOf_2 : decode cX7_headOf 2 = .ok (.iload_n 3, 1) := by decide +kernel
theorem dX7_headOf_3 : decode cX7_headOf 3 = .ok (.invokevirtual 95, 3) := by decide +kernel
theorem dX7_headOf_6 : decode cX7_headOf 6 = .ok (.aload_n 0, 1) := by decide +kernel
theorem dX7_headOf_7 : decode cX7_headOf 7 = .ok (.getfield 88, 3) := by decide +kernel
theorem dX7_headOf_10 : decode cX7_headOf 10 = .ok (.ifCond .ne 7, 3) := by decide +kernel
theorem dX7_headOf_13 : decode cX7_headOf 13 = .ok (.aload_n 0, 1) := by decide +kernel
theorem dX7_headOf_14 : decode cX7_headOf 14 = .ok (.invokevirtual 99, 3) := by decide +kernel
theorem dX7_headOf_17 : decode cX7_headOf 17 = .ok (.iload_n 1, 1) := by decide +kernel
theorem dX7_headOf_18 : decode cX7_headOf 18 = .ok (.ifCond .lt 18, 3) := by decide +kernel
theorem dX7_headOf_21 : decode cX7_headOf 21 = .ok (.iload_n 1, 1) := by decide +kernel
theorem dX7_headOf_22 : decode cX7_headOf 22 = .ok (.bipush 60, 2) := by decide +kernel
theorem dX7_headOf_24 : decode cX7_headOf 24 = .ok (.if_icmp .ge 12, 3) := by decide +kernel
theorem dX7_headOf_27 : decode cX7_headOf 27 = .ok (.aload_n 0, 1) := by decide +kernel
theorem dX7_headOf_28 : decode cX7_headOf 28 = .ok (.getfield 40, 3) := by decide +kernel
theorem dX7_headOf_31 : decode cX7_headOf 31 = .ok (.iload_n 1, 1) := by decide +kernel
theorem dX7_headOf_32 : decode cX7_headOf 32 = .ok (.iaload, 1) := by decide +kernel
theorem dX7_headOf_33 : decode cX7_headOf 33 = .ok (.goto 4, 3) := by decide +kernel
theorem dX7_headOf_36 : decode cX7_headOf 36 = .ok (.iconst (-1), 1) := by decide +kernel
theorem dX7_headOf_37 : decode cX7_headOf 37 = .ok (.ireturn, 1) := by decide +kernel
theorem dX7_findHeads_0 : decode cX7_findHeads 0 = .ok (.lconst 0, 1) := by decide +kernel
theorem dX7_findHeads_1 : decode cX7_findHeads 1 = .ok (.lstore_n 1, 1) := by decide +kernel
theorem dX7_findHeads_2 : decode cX7_findHeads 2 = .ok (.iconst 0, 1) := by decide +kernel
theorem dX7_findHeads_3 : decode cX7_findHeads 3 = .ok (.istore_n 3, 1) := by decide +kernel
theorem dX7_findHeads_4 : decode cX7_findHeads 4 = .ok (.iload_n 3, 1) := by decide +kernel
theorem dX7_findHeads_5 : decode cX7_findHeads 5 = .ok (.bipush 60, 2) := by decide +kernel
theorem dX7_findHeads_7 : decode cX7_findHeads 7 = .ok (.if_icmp .ge 29, 3) := by decide +kernel
theorem dX7_findHeads_10 : decode cX7_findHeads 10 = .ok (.aload_n 0, 1) := by decide +kernel
theorem dX7_findHeads_11 : decode cX7_findHeads 11 = .ok (.getfield 43, 3) := by decide +kernel
theorem dX7_findHeads_14 : decode cX7_findHeads 14 = .ok (.iload_n 3, 1) := by decide +kernel
theorem dX7_findHeads_15 : decode cX7_findHeads 15 = .ok (.aload_n 0, 1) := by decide +kernel
theorem dX7_findHeads_16 : decode cX7_findHeads 16 = .ok (.iload_n 3, 1) := by decide +kernel
theorem dX7_findHeads_17 : decode cX7_findHeads 17 = .ok (.invokevirtual 102, 3) := by decide +kernel
theorem dX7_findHeads_20 : decode cX7_findHeads 20 = .ok (.lastore, 1) := by decide +kernel
theorem dX7_findHeads_21 : decode cX7_findHeads 21 = .ok (.lload_n 1, 1) := by decide +kernel
theorem dX7_findHeads_22 : decode cX7_findHeads 22 = .ok (.aload_n 0, 1) := by decide +kernel
theorem dX7_findHeads_23 : decode cX7_findHeads 23 = .ok (.getfield 43, 3) := by decide +kernel
theorem dX7_findHeads_26 : decode cX7_findHeads 26 = .ok (.iload_n 3, 1) := by decide +kernel
theorem dX7_findHeads_27 : decode cX7_findHeads 27 = .ok (.laload, 1) := by decide +kernel
theorem dX7_findHeads_28 : decode cX7_findHeads 28 = .ok (.lor, 1) := by decide +kernel
theorem dX7_findHeads_29 : decode cX7_findHeads 29 = .ok (.lstore_n 1, 1) := by decide +kernel
theorem dX7_findHeads_30 : decode cX7_findHeads 30 = .ok (.iinc 3 1, 3) := by decide +kernel
theorem dX7_findHeads_33 : decode cX7_findHeads 33 = .ok (.goto (-29), 3) := by decide +kernel
theorem dX7_findHeads_36 : decode cX7_findHeads 36 = .ok (.iconst 0, 1) := by decide +kernel
theorem dX7_findHeads_37 : decode cX7_findHeads 37 = .ok (.istore_n 3, 1) := by decide +kernel
theorem dX7_findHeads_38 : decode cX7_findHeads 38 = .ok (.iload_n 3, 1) := by decide +kernel
theorem dX7_findHeads_39 : decode cX7_findHeads 39 = .ok (.bipush 60, 2) := by decide +kernel
theorem dX7_findHeads_41 : decode cX7_findHeads 41 = .ok (.if_icmp .ge 21, 3) := by decide +kernel
theorem dX7_findHeads_44 : decode cX7_findHeads 44 = .ok (.aload_n 0, 1) := by decide +kernel
theorem dX7_findHeads_45 : decode cX7_findHeads 45 = .ok (.getfield 40, 3) := by decide +kernel
theorem dX7_findHeads_48 : decode cX7_findHeads 48 = .ok (.iload_n 3, 1) := by decide +kernel
theorem dX7_findHeads_49 : decode cX7_findHeads 49 = .ok (.aload_n 0, 1) := by decide +kernel
theorem dX7_findHeads_50 : decode cX7_findHeads 50 = .ok (.iload_n 3, 1) := by decide +kernel
theorem dX7_findHeads_51 : decode cX7_findHeads 51 = .ok (.lload_n 1, 1) := by decide +kernel
theorem dX7_findHeads_52 : decode cX7_findHeads 52 = .ok (.invokevirtual 106, 3) := by decide +kernel
theorem dX7_findHeads_55 : decode cX7_findHeads 55 = .ok (.iastore, 1) := by decide +kernel
theorem dX7_findHeads_56 : decode cX7_findHeads 56 = .ok (.iinc 3 1, 3) := by decide +kernel
theorem dX7_findHeads_59 : decode cX7_findHeads 59 = .ok (.goto (-21), 3) := by decide +kernel
theorem dX7_findHeads_62 : decode cX7_findHeads 62 = .ok (.aload_n 0, 1) := by decide +kernel
theorem dX7_findHeads_63 : decode cX7_findHeads 63 = .ok (.iconst 1, 1) := by decide +kernel
theorem dX7_findHeads_64 : decode cX7_findHeads 64 = .ok (.putfield 88, 3) := by decide +kernel
theorem dX7_findHeads_67 : decode cX7_findHeads 67 = .ok (.return_, 1) := by decide +kernel
theorem dX7_controlledBy_0 : decode cX7_controlledBy 0 = .ok (.aload_n 0, 1) := by decide +kernel
theorem dX7_controlledBy_1 : decode cX7_controlledBy 1 = .ok (.getfield 47, 3) := by decide +kernel
theorem dX7_controlledBy_4 : decode cX7_controlledBy 4 = .ok (.iconst 0, 1) := by decide +kernel
theorem dX7_controlledBy_5 : decode cX7_controlledBy 5 = .ok (.invokestatic 110, 3) := by decide +kernel
theorem dX7_controlledBy_8 : decode cX7_controlledBy 8 = .ok (.lconst 0, 1) := by decide +kernel
theorem dX7_controlledBy_9 : decode cX7_controlledBy 9 = .ok (.lstore_n 2, 1) := by decide +kernel
theorem dX7_controlledBy_10 : decode cX7_controlledBy 10 = .ok (.iconst 1, 1) := by decide +kernel
theorem dX7_controlledBy_11 : decode cX7_controlledBy 11 = .ok (.istore 4, 2) := by decide +kernel
theorem dX7_controlledBy_13 : decode cX7_controlledBy 13 = .ok (.aload_n 0, 1) := by decide +kernel
theorem dX7_controlledBy_14 : decode cX7_controlledBy 14 = .ok (.getfield 50, 3) := by decide +kernel
theorem dX7_controlledBy_17 : decode cX7_controlledBy 17 = .ok (.iconst 0, 1) := by decide +kernel
theorem dX7_controlledBy_18 : decode cX7_controlledBy 18 = .ok (.iload_n 1, 1) := by decide +kernel
theorem dX7_controlledBy_19 : decode cX7_controlledBy 19 = .ok (.iastore, 1) := by decide +kernel
theorem dX7_controlledBy_20 : decode cX7_controlledBy 20 = .ok (.iconst 0, 1) := by decide +kernel
theorem dX7_controlledBy_21 : decode cX7_controlledBy 21 = .ok (.istore 5, 2) := by decide +kernel
theorem dX7_controlledBy_23 : decode cX7_controlledBy 23 = .ok (.iload 5, 2) := by decide +kernel
theorem dX7_controlledBy_25 : decode cX7_controlledBy 25 = .ok (.iload 4, 2) := by decide +kernel
theorem dX7_controlledBy_27 : decode cX7_controlledBy 27 = .ok (.if_icmp .ge 147, 3) := by decide +kernel
theorem dX7_controlledBy_30 : decode cX7_controlledBy 30 = .ok (.iload 5, 2) := by decide +kernel
theorem dX7_controlledBy_32 : decode cX7_controlledBy 32 = .ok (.bipush 60, 2) := by decide +kernel
theorem dX7_controlledBy_34 : decode cX7_controlledBy 34 = .ok (.if_icmp .ge 140, 3) := by decide +kernel
theorem dX7_controlledBy_37 : decode cX7_controlledBy 37 = .ok (.aload_n 0, 1) := by decide +kernel
theorem dX7_controlledBy_38 : decode cX7_controlledBy 38 = .ok (.aload_n 0, 1) := by decide +kernel
theorem dX7_controlledBy_39 : decode cX7_controlledBy 39 = .ok (.getfield 50, 3) := by decide +kernel
theorem dX7_controlledBy_42 : decode cX7_controlledBy 42 = .ok (.iload 5, 2) := by decide +kernel
theorem dX7_controlledBy_44 : decode cX7_controlledBy 44 = .ok (.iaload, 1) := by decide +kernel
theorem dX7_controlledBy_45 : decode cX7_controlledBy 45 = .ok (.invokevirtual 116, 3) := by decide +kernel
theorem dX7_controlledBy_48 : decode cX7_controlledBy 48 = .ok (.istore 6, 2) := by decide +kernel
theorem dX7_controlledBy_50 : decode cX7_controlledBy 50 = .ok (.aload_n 0, 1) := by decide +kernel
theorem dX7_controlledBy_51 : decode cX7_controlledBy 51 = .ok (.aload_n 0, 1) := by decide +kernel
theorem dX7_controlledBy_52 : decode cX7_controlledBy 52 = .ok (.getfield 50, 3) := by decide +kernel
theorem dX7_controlledBy_55 : decode cX7_controlledBy 55 = .ok (.iload 5, 2) := by decide +kernel
theorem dX7_controlledBy_57 : decode cX7_controlledBy 57 = .ok (.iaload, 1) := by decide +kernel
theorem dX7_controlledBy_58 : decode cX7_controlledBy 58 = .ok (.invokevirtual 119, 3) := by decide +kernel
theorem dX7_controlledBy_61 : decode cX7_controlledBy 61 = .ok (.istore 7, 2) := by decide +kernel
theorem dX7_controlledBy_63 : decode cX7_controlledBy 63 = .ok (.iload 7, 2) := by decide +kernel
theorem dX7_controlledBy_65 : decode cX7_controlledBy 65 = .ok (.iload 6, 2) := by decide +kernel
theorem dX7_controlledBy_67 : decode cX7_controlledBy 67 = .ok (.if_icmp .ge 101, 3) := by decide +kernel
theorem dX7_controlledBy_70 : decode cX7_controlledBy 70 = .ok (.aload_n 0, 1) := by decide +kernel
theorem dX7_controlledBy_71 : decode cX7_controlledBy 71 = .ok (.iload 7, 2) := by decide +kernel
theorem dX7_controlledBy_73 : decode cX7_controlledBy 73 = .ok (.invokevirtual 122, 3) := by decide +kernel
theorem dX7_controlledBy_76 : decode cX7_controlledBy 76 = .ok (.istore 8, 2) := by decide +kernel
theorem dX7_controlledBy_78 : decode cX7_controlledBy 78 = .ok (.iload 8, 2) := by decide +kernel
theorem dX7_controlledBy_80 : decode cX7_controlledBy 80 = .ok (.ifCond .lt 82, 3) := by decide +kernel
theorem dX7_controlledBy_83 : decode cX7_controlledBy 83 = .ok (.iload 8, 2) := by decide +kernel
theorem dX7_controlledBy_85 : decode cX7_controlledBy 85 = .ok (.bipush 60, 2) := by decide +kernel
theorem dX7_controlledBy_87 : decode cX7_controlledBy 87 = .ok (.if_icmp .ge 75, 3) := by decide +kernel
theorem dX7_controlledBy_90 : decode cX7_controlledBy 90 = .ok (.iload 8, 2) := by decide +kernel
theorem dX7_controlledBy_92 : decode cX7_controlledBy 92 = .ok (.iload_n 1, 1) := by decide +kernel
theorem dX7_controlledBy_93 : decode cX7_controlledBy 93 = .ok (.if_icmp .eq 69, 3) := by decide +kernel
theorem dX7_controlledBy_96 : decode cX7_controlledBy 96 = .ok (.lload_n 2, 1) := by decide +kernel
theorem dX7_controlledBy_97 : decode cX7_controlledBy 97 = .ok (.iload 8, 2) := by decide +kernel
theorem dX7_controlledBy_99 : decode cX7_controlledBy 99 = .ok (.lshr, 1) := by decide +kernel
theorem dX7_controlledBy_100 : decode cX7_controlledBy 100 = .ok (.lconst 1, 1) := by decide +kernel
theorem dX7_controlledBy_101 : decode cX7_controlledBy 101 = .ok (.land, 1) := by decide +kernel
theorem dX7_controlledBy_102 : decode cX7_controlledBy 102 = .ok (.lconst 0, 1) := by decide +kernel
theorem dX7_controlledBy_103 : decode cX7_controlledBy 103 = .ok (.lcmp, 1) := by decide +kernel
theorem dX7_controlledBy_104 : decode cX7_controlledBy 104 = .ok (.ifCond .ne 58, 3) := by decide +kernel
theorem dX7_controlledBy_107 : decode cX7_controlledBy 107 = .ok (.aload_n 0, 1) := by decide +kernel
theorem dX7_controlledBy_108 : decode cX7_controlledBy 108 = .ok (.getfield 47, 3) := by decide +kernel
theorem dX7_controlledBy_111 : decode cX7_controlledBy 111 = .ok (.iload 8, 2) := by decide +kernel
theorem dX7_controlledBy_113 : decode cX7_controlledBy 113 = .ok (.dup2, 1) := by decide +kernel
theorem dX7_controlledBy_114 : decode cX7_controlledBy 114 = .ok (.iaload, 1) := by decide +kernel
theorem dX7_controlledBy_115 : decode cX7_controlledBy 115 = .ok (.aload_n 0, 1) := by decide +kernel
theorem dX7_controlledBy_116 : decode cX7_controlledBy 116 = .ok (.iload 7, 2) := by decide +kernel
theorem dX7_controlledBy_118 : decode cX7_controlledBy 118 = .ok (.invokevirtual 125, 3) := by decide +kernel
theorem dX7_controlledBy_121 : decode cX7_controlledBy 121 = .ok (.iadd, 1) := by decide +kernel
theorem dX7_controlledBy_122 : decode cX7_controlledBy 122 = .ok (.iastore, 1) := by decide +kernel
theorem dX7_controlledBy_123 : decode cX7_controlledBy 123 = .ok (.aload_n 0, 1) := by decide +kernel
theorem dX7_controlledBy_124 : decode cX7_controlledBy 124 = .ok (.getfield 47, 3) := by decide +kernel
theorem dX7_controlledBy_127 : decode cX7_controlledBy 127 = .ok (.iload 8, 2) := by decide +kernel
theorem dX7_controlledBy_129 : decode cX7_controlledBy 129 = .ok (.iaload, 1) := by decide +kernel
theorem dX7_controlledBy_130 : decode cX7_controlledBy 130 = .ok (.sipush 5000, 3) := by decide +kernel
theorem dX7_controlledBy_133 : decode cX7_controlledBy 133 = .ok (.if_icmp .le 29, 3) := by decide +kernel
theorem dX7_controlledBy_136 : decode cX7_controlledBy 136 = .ok (.iload 4, 2) := by decide +kernel
theorem dX7_controlledBy_138 : decode cX7_controlledBy 138 = .ok (.bipush 60, 2) := by decide +kernel
theorem dX7_controlledBy_140 : decode cX7_controlledBy 140 = .ok (.if_icmp .ge 22, 3) := by decide +kernel
theorem dX7_controlledBy_143 : decode cX7_controlledBy 143 = .ok (.lload_n 2, 1) := by decide +kernel
theorem dX7_controlledBy_144 : decode cX7_controlledBy 144 = .ok (.lconst 1, 1) := by decide +kernel
theorem dX7_controlledBy_145 : decode cX7_controlledBy 145 = .ok (.iload 8, 2) := by decide +kernel
theorem dX7_controlledBy_147 : decode cX7_controlledBy 147 = .ok (.lshl, 1) := by decide +kernel
theorem dX7_controlledBy_148 : decode cX7_controlledBy 148 = .ok (.lor, 1) := by decide +kernel
theorem dX7_controlledBy_149 : decode cX7_controlledBy 149 = .ok (.lstore_n 2, 1) := by decide +kernel
theorem dX7_controlledBy_150 : decode cX7_controlledBy 150 = .ok (.aload_n 0, 1) := by decide +kernel
theorem dX7_controlledBy_151 : decode cX7_controlledBy 151 = .ok (.getfield 50, 3) := by decide +kernel
theorem dX7_controlledBy_154 : decode cX7_controlledBy 154 = .ok (.iload 4, 2) := by decide +kernel
theorem dX7_controlledBy_156 : decode cX7_controlledBy 156 = .ok (.iload 8, 2) := by decide +kernel
theorem dX7_controlledBy_158 : decode cX7_controlledBy 158 = .ok (.iastore, 1) := by decide +kernel
theorem dX7_controlledBy_159 : decode cX7_controlledBy 159 = .ok (.iinc 4 1, 3) := by decide +kernel
theorem dX7_controlledBy_162 : decode cX7_controlledBy 162 = .ok (.iinc 7 1, 3) := by decide +kernel
theorem dX7_controlledBy_165 : decode cX7_controlledBy 165 = .ok (.goto (-102), 3) := by decide +kernel
theorem dX7_controlledBy_168 : decode cX7_controlledBy 168 = .ok (.iinc 5 1, 3) := by decide +kernel
theorem dX7_controlledBy_171 : decode cX7_controlledBy 171 = .ok (.goto (-148), 3) := by decide +kernel
theorem dX7_controlledBy_174 : decode cX7_controlledBy 174 = .ok (.lload_n 2, 1) := by decide +kernel
theorem dX7_controlledBy_175 : decode cX7_controlledBy 175 = .ok (.lreturn, 1) := by decide +kernel
theorem dX7_headAmong_0 : decode cX7_headAmong 0 = .ok (.iload_n 1, 1) := by decide +kernel
theorem dX7_headAmong_1 : decode cX7_headAmong 1 = .ok (.istore 4, 2) := by decide +kernel
theorem dX7_headAmong_3 : decode cX7_headAmong 3 = .ok (.iconst 0, 1) := by decide +kernel
theorem dX7_headAmong_4 : decode cX7_headAmong 4 = .ok (.istore 5, 2) := by decide +kernel
theorem dX7_headAmong_6 : decode cX7_headAmong 6 = .ok (.iload 5, 2) := by decide +kernel
theorem dX7_headAmong_8 : decode cX7_headAmong 8 = .ok (.bipush 60, 2) := by decide +kernel
theorem dX7_headAmong_10 : decode cX7_headAmong 10 = .ok (.if_icmp .ge 48, 3) := by decide +kernel
theorem dX7_headAmong_13 : decode cX7_headAmong 13 = .ok (.aload_n 0, 1) := by decide +kernel
theorem dX7_headAmong_14 : decode cX7_headAmong 14 = .ok (.getfield 43, 3) := by decide +kernel
theorem dX7_headAmong_17 : decode cX7_headAmong 17 = .ok (.iload 5, 2) := by decide +kernel
theorem dX7_headAmong_19 : decode cX7_headAmong 19 = .ok (.laload, 1) := by decide +kernel
theorem dX7_headAmong_20 : decode cX7_headAmong 20 = .ok (.iload_n 1, 1) := by decide +kernel
theorem dX7_headAmong_21 : decode cX7_headAmong 21 = .ok (.lshr, 1) := by decide +kernel
theorem dX7_headAmong_22 : decode cX7_headAmong 22 = .ok (.lconst 1, 1) := by decide +kernel
theorem dX7_headAmong_23 : decode cX7_headAmong 23 = .ok (.land, 1) := by decide +kernel
theorem dX7_headAmong_24 : decode cX7_headAmong 24 = .ok (.lconst 0, 1) := by decide +kernel
theorem dX7_headAmong_25 : decode cX7_headAmong 25 = .ok (.lcmp, 1) := by decide +kernel
theorem dX7_headAmong_26 : decode cX7_headAmong 26 = .ok (.ifCond .eq 26, 3) := by decide +kernel
theorem dX7_headAmong_29 : decode cX7_headAmong 29 = .ok (.lload_n 2, 1) := by decide +kernel
theorem dX7_headAmong_30 : decode cX7_headAmong 30 = .ok (.iload 5, 2) := by decide +kernel
theorem dX7_headAmong_32 : decode cX7_headAmong 32 = .ok (.lshr, 1) := by decide +kernel
theorem dX7_headAmong_33 : decode cX7_headAmong 33 = .ok (.lconst 1, 1) := by decide +kernel
theorem dX7_headAmong_34 : decode cX7_headAmong 34 = .ok (.land, 1) := by decide +kernel
theorem dX7_headAmong_35 : decode cX7_headAmong 35 = .ok (.lconst 0, 1) := by decide +kernel
theorem dX7_headAmong_36 : decode cX7_headAmong 36 = .ok (.lcmp, 1) := by decide +kernel
theorem dX7_headAmong_37 : decode cX7_headAmong 37 = .ok (.ifCond .ne 6, 3) := by decide +kernel
theorem dX7_headAmong_40 : decode cX7_headAmong 40 = .ok (.iload 5, 2) := by decide +kernel
theorem dX7_headAmong_42 : decode cX7_headAmong 42 = .ok (.ireturn, 1) := by decide +kernel
theorem dX7_headAmong_43 : decode cX7_headAmong 43 = .ok (.iload 4, 2) := by decide +kernel
theorem dX7_headAmong_45 : decode cX7_headAmong 45 = .ok (.iload 5, 2) := by decide +kernel
theorem dX7_headAmong_47 : decode cX7_headAmong 47 = .ok (.invokestatic 128, 3) := by decide +kernel
theorem dX7_headAmong_50 : decode cX7_headAmong 50 = .ok (.istore 4, 2) := by decide +kernel
theorem dX7_headAmong_52 : decode cX7_headAmong 52 = .ok (.iinc 5 1, 3) := by decide +kernel
theorem dX7_headAmong_55 : decode cX7_headAmong 55 = .ok (.goto (-49), 3) := by decide +kernel
theorem dX7_headAmong_58 : decode cX7_headAmong 58 = .ok (.iload 4, 2) := by decide +kernel
theorem dX7_headAmong_60 : decode cX7_headAmong 60 = .ok (.ireturn, 1) := by decide +kernel
theorem dX8_init_0 : decode cX8_init 0 = .ok (.aload_n 0, 1) := by decide +kernel
theorem dX8_init_1 : decode cX8_init 1 = .ok (.invokespecial 3, 3) := by decide +kernel
theorem dX8_init_4 : decode cX8_init 4 = .ok (.aload_n 0, 1) := by decide +kernel
theorem dX8_init_5 : decode cX8_init 5 = .ok (.bipush 60, 2) := by decide +kernel
theorem dX8_init_7 : decode cX8_init 7 = .ok (.newarray .int, 2) := by decide +kernel
theorem dX8_init_9 : decode cX8_init 9 = .ok (.putfield 9, 3) := by decide +kernel
theorem dX8_init_12 : decode cX8_init 12 = .ok (.aload_n 0, 1) := by decide +kernel
theorem dX8_init_13 : decode cX8_init 13 = .ok (.bipush 60, 2) := by decide +kernel
theorem dX8_init_15 : decode cX8_init 15 = .ok (.newarray .long, 2) := by decide +kernel
theorem dX8_init_17 : decode cX8_init 17 = .ok (.putfield 15, 3) := by decide +kernel
theorem dX8_init_20 : decode cX8_init 20 = .ok (.aload_n 0, 1) := by decide +kernel
theorem dX8_init_21 : decode cX8_init 21 = .ok (.new 19, 3) := by decide +kernel
theorem dX8_init_24 : decode cX8_init 24 = .ok (.dup, 1) := by decide +kernel
theorem dX8_init_25 : decode cX8_init 25 = .ok (.bipush 100, 2) := by decide +kernel
theorem dX8_init_27 : decode cX8_init 27 = .ok (.invokespecial 21, 3) := by decide +kernel
theorem dX8_init_30 : decode cX8_init 30 = .ok (.putfield 24, 3) := by decide +kernel
theorem dX8_init_33 : decode cX8_init 33 = .ok (.aload_n 0, 1) := by decide +kernel
theorem dX8_init_34 : decode cX8_init 34 = .ok (.bipush 60, 2) := by decide +kernel
theorem dX8_init_36 : decode cX8_init 36 = .ok (.newarray .int, 2) := by decide +kernel
theorem dX8_init_38 : decode cX8_init 38 = .ok (.putfield 28, 3) := by decide +kernel
theorem dX8_init_41 : decode cX8_init 41 = .ok (.aload_n 0, 1) := by decide +kernel
theorem dX8_init_42 : decode cX8_init 42 = .ok (.iconst (-1), 1) := by decide +kernel
theorem dX8_init_43 : decode cX8_init 43 = .ok (.putfield 31, 3) := by decide +kernel
theorem dX8_init_46 : decode cX8_init 46 = .ok (.return_, 1) := by decide +kernel
theorem dX8_nameOf_0 : decode cX8_nameOf 0 = .ok (.aload_n 0, 1) := by decide +kernel
theorem dX8_nameOf_1 : decode cX8_nameOf 1 = .ok (.ifnull 20, 3) := by decide +kernel
theorem dX8_nameOf_4 : decode cX8_nameOf 4 = .ok (.iload_n 1, 1) := by decide +kernel
theorem dX8_nameOf_5 : decode cX8_nameOf 5 = .ok (.iconst 1, 1) := by decide +kernel
theorem dX8_nameOf_6 : decode cX8_nameOf 6 = .ok (.if_icmp .lt 15, 3) := by decide +kernel
theorem dX8_nameOf_9 : decode cX8_nameOf 9 = .ok (.iload_n 1, 1) := by decide +kernel
theorem dX8_nameOf_10 : decode cX8_nameOf 10 = .ok (.bipush 12, 2) := by decide +kernel
theorem dX8_nameOf_12 : decode cX8_nameOf 12 = .ok (.if_icmp .gt 9, 3) := by decide +kernel
theorem dX8_nameOf_15 : decode cX8_nameOf 15 = .ok (.iload_n 1, 1) := by decide +kernel
theorem dX8_nameOf_16 : decode cX8_nameOf 16 = .ok (.aload_n 0, 1) := by decide +kernel
theorem dX8_nameOf_17 : decode cX8_nameOf 17 = .ok (.arraylength, 1) := by decide +kernel
theorem dX8_nameOf_18 : decode cX8_nameOf 18 = .ok (.if_icmp .le 7, 3) := by decide +kernel
theorem dX8_nameOf_21 : decode cX8_nameOf 21 = .ok (.ldc2_w 35, 3) := by decide +kernel
theorem dX8_nameOf_24 : decode cX8_nameOf 24 = .ok (.lreturn, 1) := by decide +kernel
theorem dX8_nameOf_25 : decode cX8_nameOf 25 = .ok (.lconst 0, 1) := by decide +kernel
theorem dX8_nameOf_26 : decode cX8_nameOf 26 = .ok (.lstore_n 2, 1) := by decide +kernel
theorem dX8_nameOf_27 : decode cX8_nameOf 27 = .ok (.iconst 0, 1) := by decide +kernel
theorem dX8_nameOf_28 : decode cX8_nameOf 28 = .ok (.istore 4, 2) := by decide +kernel
theorem dX8_nameOf_30 : decode cX8_nameOf 30 = .ok (.iload 4, 2) := by decide +kernel
theorem dX8_nameOf_32 : decode cX8_nameOf 32 = .ok (.iload_n 1, 1) := by decide +kernel
theorem dX8_nameOf_33 : decode cX8_nameOf 33 = .ok (.if_icmp .ge 46, 3) := by decide +kernel
theorem dX8_nameOf_36 : decode cX8_nameOf 36 = .ok (.aload_n 0, 1) := by decide +kernel
theorem dX8_nameOf_37 : decode cX8_nameOf 37 = .ok (.iload 4, 2) := by decide +kernel
theorem dX8_nameOf_39 : decode cX8_nameOf 39 = .ok (.iaload, 1) := by decide +kernel
theorem dX8_nameOf_40 : decode cX8_nameOf 40 = .ok (.bipush 97, 2) := by decide +kernel
theorem dX8_nameOf_42 : decode cX8_nameOf 42 = .ok (.if_icmp .lt 12, 3) := by decide +kernel
theorem dX8_nameOf_45 : decode cX8_nameOf 45 = .ok (.aload_n 0, 1) := by decide +kernel
theorem dX8_nameOf_46 : decode cX8_nameOf 46 = .ok (.iload 4, 2) := by decide +kernel
theorem dX8_nameOf_48 : decode cX8_nameOf 48 = .ok (.iaload, 1) := by decide +kernel
theorem dX8_nameOf_49 : decode cX8_nameOf 49 = .ok (.bipush 122, 2) := by decide +kernel
theorem dX8_nameOf_51 : decode cX8_nameOf 51 = .ok (.if_icmp .le 7, 3) := by decide +kernel
theorem dX8_nameOf_54 : decode cX8_nameOf 54 = .ok (.ldc2_w 35, 3) := by decide +kernel
theorem dX8_nameOf_57 : decode cX8_nameOf 57 = .ok (.lreturn, 1) := by decide +kernel
theorem dX8_nameOf_58 : decode cX8_nameOf 58 = .ok (.lload_n 2, 1) := by decide +kernel
theorem dX8_nameOf_59 : decode cX8_nameOf 59 = .ok (.iconst 5, 1) := by decide +kernel
theorem dX8_nameOf_60 : decode cX8_nameOf 60 = .ok (.lshl, 1) := by decide +kernel
theorem dX8_nameOf_61 : decode cX8_nameOf 61 = .ok (.aload_n 0, 1) := by decide +kernel
theorem dX8_nameOf_62 : decode cX8_nameOf 62 = .ok (.iload 4, 2) := by decide +kernel
theorem dX8_nameOf_64 : decode cX8_nameOf 64 = .ok (.iaload, 1) := by decide +kernel
theorem dX8_nameOf_65 : decode cX8_nameOf 65 = .ok (.bipush 97, 2) := by decide +kernel
theorem dX8_nameOf_67 : decode cX8_nameOf 67 = .ok (.isub, 1) := by decide +kernel
theorem dX8_nameOf_68 : decode cX8_nameOf 68 = .ok (.iconst 1, 1) := by decide +kernel
theorem dX8_nameOf_69 : decode cX8_nameOf 69 = .ok (.iadd, 1) := by decide +kernel
theorem dX8_nameOf_70 : decode cX8_nameOf 70 = .ok (.i2l, 1) := by decide +kernel
theorem dX8_nameOf_71 : decode cX8_nameOf 71 = .ok (.lor, 1) := by decide +kernel
theorem dX8_nameOf_72 : decode cX8_nameOf 72 = .ok (.lstore_n 2, 1) := by decide +kernel
theorem dX8_nameOf_73 : decode cX8_nameOf 73 = .ok (.iinc 4 1, 3) := by decide +kernel
theorem dX8_nameOf_76 : decode cX8_nameOf 76 = .ok (.goto (-46), 3) := by decide +kernel
theorem dX8_nameOf_79 : decode cX8_nameOf 79 = .ok (.lload_n 2, 1) := by decide +kernel
theorem dX8_nameOf_80 : decode cX8_nameOf 80 = .ok (.lreturn, 1) := by decide +kernel
theorem dX8_add_0 : decode cX8_add 0 = .ok (.aload_n 0, 1) := by decide +kernel
theorem dX8_add_1 : decode cX8_add 1 = .ok (.getfield 37, 3) := by decide +kernel
theorem dX8_add_4 : decode cX8_add 4 = .ok (.ifCond .lt 29, 3) := by decide +kernel
theorem dX8_add_7 : decode cX8_add 7 = .ok (.aload_n 0, 1) := by decide +kernel
theorem dX8_add_8 : decode cX8_add 8 = .ok (.getfield 37, 3) := by decide +kernel
theorem dX8_add_11 : decode cX8_add 11 = .ok (.bipush 60, 2) := by decide +kernel
theorem dX8_add_13 : decode cX8_add 13 = .ok (.if_icmp .ge 20, 3) := by decide +kernel
theorem dX8_add_16 : decode cX8_add 16 = .ok (.iload_n 1, 1) := by decide +kernel
theorem dX8_add_17 : decode cX8_add 17 = .ok (.ifCond .lt 16, 3) := by decide +kernel
theorem dX8_add_20 : decode cX8_add 20 = .ok (.iload_n 1, 1) := by decide +kernel
theorem dX8_add_21 : decode cX8_add 21 = .ok (.iconst 2, 1) := by decide +kernel
theorem dX8_add_22 : decode cX8_add 22 = .ok (.if_icmp .gt 11, 3) := by decide +kernel
theorem dX8_add_25 : decode cX8_add 25 = .ok (.lload_n 2, 1) := by decide +kernel
theorem dX8_add_26 : decode cX8_add 26 = .ok (.ldc2_w 35, 3) := by decide +kernel
theorem dX8_add_29 : decode cX8_add 29 = .ok (.lcmp, 1) := by decide +kernel
theorem dX8_add_30 : decode cX8_add 30 = .ok (.ifCond .ne 5, 3) := by decide +kernel
theorem dX8_add_33 : decode cX8_add 33 = .ok (.iconst (-1), 1) := by decide +kernel
theorem dX8_add_34 : decode cX8_add 34 = .ok (.ireturn, 1) := by decide +kernel
theorem dX8_add_35 : decode cX8_add 35 = .ok (.aload_n 0, 1) := by decide +kernel
theorem dX8_add_36 : decode cX8_add 36 = .ok (.getfield 9, 3) := by decide +kernel
theorem dX8_add_39 : decode cX8_add 39 = .ok (.aload_n 0, 1) := by decide +kernel
theorem dX8_add_40 : decode cX8_add 40 = .ok (.getfield 37, 3) := by decide +kernel
theorem dX8_add_43 : decode cX8_add 43 = .ok (.iload_n 1, 1) := by decide +kernel
theorem dX8_add_44 : decode cX8_add 44 = .ok (.iastore, 1) := by decide +kernel
theorem dX8_add_45 : decode cX8_add 45 = .ok (.aload_n 0, 1) := by decide +kernel
theorem dX8_add_46 : decode cX8_add 46 = .ok (.getfield 15, 3) := by decide +kernel
theorem dX8_add_49 : decode cX8_add 49 = .ok (.aload_n 0, 1) := by decide +kernel
theorem dX8_add_50 : decode cX8_add 50 = .ok (.getfield 37, 3) := by decide +kernel
theorem dX8_add_53 : decode cX8_add 53 = .ok (.lload_n 2, 1) := by decide +kernel
theorem dX8_add_54 : decode cX8_add 54 = .ok (.lastore, 1) := by decide +kernel
theorem dX8_add_55 : decode cX8_add 55 = .ok (.aload_n 0, 1) := by decide +kernel
theorem dX8_add_56 : decode cX8_add 56 = .ok (.dup, 1) := by decide +kernel
theorem dX8_add_57 : decode cX8_add 57 = .ok (.getfield 37, 3) := by decide +kernel
theorem dX8_add_60 : decode cX8_add 60 = .ok (.iconst 1, 1) := by decide +kernel
theorem dX8_add_61 : decode cX8_add 61 = .ok (.iadd, 1) := by decide +kernel
theorem dX8_add_62 : decode cX8_add 62 = .ok (.putfield 37, 3) := by decide +kernel
theorem dX8_add_65 : decode cX8_add 65 = .ok (.aload_n 0, 1) := by decide +kernel
theorem dX8_add_66 : decode cX8_add 66 = .ok (.getfield 37, 3) := by decide +kernel
theorem dX8_add_69 : decode cX8_add 69 = .ok (.iconst 1, 1) := by decide +kernel
theorem dX8_add_70 : decode cX8_add 70 = .ok (.isub, 1) := by decide +kernel
theorem dX8_add_71 : decode cX8_add 71 = .ok (.ireturn, 1) := by decide +kernel
theorem dX8_total_0 : decode cX8_total 0 = .ok (.aload_n 0, 1) := by decide +kernel
theorem dX8_total_1 : decode cX8_total 1 = .ok (.getfield 37, 3) := by decide +kernel
theorem dX8_total_4 : decode cX8_total 4 = .ok (.ireturn, 1) := by decide +kernel
theorem dX8_has_0 : decode cX8_has 0 = .ok (.iload_n 1, 1) := by decide +kernel
theorem dX8_has_1 : decode cX8_has 1 = .ok (.ifCond .lt 21, 3) := by decide +kernel
theorem dX8_has_4 : decode cX8_has 4 = .ok (.iload_n 1, 1) := by decide +kernel
theorem dX8_has_5 : decode cX8_has 5 = .ok (.aload_n 0, 1) := by decide +kernel
theorem dX8_has_6 : decode cX8_has 6 = .ok (.getfield 37, 3) := by decide +kernel
theorem dX8_has_9 : decode cX8_has 9 = .ok (.if_icmp .ge 13, 3) := by decide +kernel
theorem dX8_has_12 : decode cX8_has 12 = .ok (.iload_n 1, 1) := by decide +kernel
theorem dX8_has_13 : decode cX8_has 13 = .ok (.bipush 60, 2) := by decide +kernel
theorem dX8_has_15 : decode cX8_has 15 = .ok (.if_icmp .ge 7, 3) := by decide +kernel
theorem dX8_has_18 : decode cX8_has 18 = .ok (.iconst 1, 1) := by decide +kernel
theorem dX8_has_19 : decode cX8_has 19 = .ok (.goto 4, 3) := by decide +kernel
theorem dX8_has_22 : decode cX8_has 22 = .ok (.iconst 0, 1) := by decide +kernel
theorem dX8_has_23 : decode cX8_has 23 = .ok (.ireturn, 1) := by decide +kernel
theorem dX8_isPerson_0 : decode cX8_isPerson 0 = .ok (.aload_n 0, 1) := by decide +kernel
theorem dX8_isPerson_1 : decode cX8_isPerson 1 = .ok (.iload_n 1, 1) := by decide +kernel
theorem dX8_isPerson_2 : decode cX8_isPerson 2 = .ok (.invokevirtual 40, 3) := by decide +kernel
theorem dX8_isPerson_5 : decode cX8_isPerson 5 = .ok (.ifCond .eq 16, 3) := by decide +kernel
theorem dX8_isPerson_8 : decode cX8_isPerson 8 = .ok (.aload_n 0, 1) := by decide +kernel
theorem dX8_isPerson_9 : decode cX8_isPerson 9 = .ok (.getfield 9, 3) := by decide +kernel
theorem dX8_isPerson_12 : decode cX8_isPerson 12 = .ok (.iload_n 1, 1) := by decide +kernel
theorem dX8_isPerson_13 : decode cX8_isPerson 13 = .ok (.iaload, 1) := by decide +kernel
theorem dX8_isPerson_14 : decode cX8_isPerson 14 = .ok (.ifCond .ne 7, 3) := by decide +kernel
theorem dX8_isPerson_17 : decode cX8_isPerson 17 = .ok (.iconst 1, 1) := by decide +kernel
theorem dX8_isPerson_18 : decode cX8_isPerson 18 = .ok (.goto 4, 3) := by decide +kernel
theorem dX8_isPerson_21 : decode cX8_isPerson 21 = .ok (.iconst 0, 1) := by decide +kernel
theorem dX8_isPerson_22 : decode cX8_isPerson 22 = .ok (.ireturn, 1) := by decide +kernel
theorem dX8_canBeHeld_0 : decode cX8_canBeHeld 0 = .ok (.aload_n 0, 1) := by decide +kernel
theorem dX8_canBeHeld_1 : decode cX8_canBeHeld 1 = .ok (.iload_n 1, 1) := by decide +kernel
theorem dX8_canBeHeld_2 : decode cX8_canBeHeld 2 = .ok (.invokevirtual 40, 3) := by decide +kernel
theorem dX8_canBeHeld_5 : decode cX8_canBeHeld 5 = .ok (.ifCond .eq 16, 3) := by decide +kernel
theorem dX8_canBeHeld_8 : decode cX8_canBeHeld 8 = .ok (.aload_n 0, 1) := by decide +kernel
theorem dX8_canBeHeld_9 : decode cX8_canBeHeld 9 = .ok (.getfield 9, 3) := by decide +kernel
theorem dX8_canBeHeld_12 : decode cX8_canBeHeld 12 = .ok (.iload_n 1, 1) := by decide +kernel
theorem dX8_canBeHeld_13 : decode cX8_canBeHeld 13 = .ok (.iaload, 1) := by decide +kernel
theorem dX8_canBeHeld_14 : decode cX8_canBeHeld 14 = .ok (.ifCond .eq 7, 3) := by decide +kernel
theorem dX8_canBeHeld_17 : decode cX8_canBeHeld 17 = .ok (.iconst 1, 1) := by decide +kernel
theorem dX8_canBeHeld_18 : decode cX8_canBeHeld 18 = .ok (.goto 4, 3) := by decide +kernel
theorem dX8_canBeHeld_21 : decode cX8_canBeHeld 21 = .ok (.iconst 0, 1) := by decide +kernel
theorem dX8_canBeHeld_22 : decode cX8_canBeHeld 22 = .ok (.ireturn, 1) := by decide +kernel
theorem dX8_isNamed_0 : decode cX8_isNamed 0 = .ok (.aload_n 0, 1) := by decide +kernel
theorem dX8_isNamed_1 : decode cX8_isNamed 1 = .ok (.iload_n 1, 1) := by decide +kernel
theorem dX8_isNamed_2 : decode cX8_isNamed 2 = .ok (.invokevirtual 40, 3) := by decide +kernel
theorem dX8_isNamed_5 : decode cX8_isNamed 5 = .ok (.ifCond .eq 18, 3) := by decide +kernel
theorem dX8_isNamed_8 : decode cX8_isNamed 8 = .ok (.aload_n 0, 1) := by decide +kernel
theorem dX8_isNamed_9 : decode cX8_isNamed 9 = .ok (.getfield 15, 3) := by decide +kernel
theorem dX8_isNamed_12 : decode cX8_isNamed 12 = .ok (.iload_n 1, 1) := by decide +kernel
theorem dX8_isNamed_13 : decode cX8_isNamed 13 = .ok (.laload, 1) := by decide +kernel
theorem dX8_isNamed_14 : decode cX8_isNamed 14 = .ok (.lload_n 2, 1) := by decide +kernel
theorem dX8_isNamed_15 : decode cX8_isNamed 15 = .ok (.lcmp, 1) := by decide +kernel
theorem dX8_isNamed_16 : decode cX8_isNamed 16 = .ok (.ifCond .ne 7, 3) := by decide +kernel
theorem dX8_isNamed_19 : decode cX8_isNamed 19 = .ok (.iconst 1, 1) := by decide +kernel
theorem dX8_isNamed_20 : decode cX8_isNamed 20 = .ok (.goto 4, 3) := by decide +kernel
theorem dX8_isNamed_23 : decode cX8_isNamed 23 = .ok (.iconst 0, 1) := by decide +kernel
theorem dX8_isNamed_24 : decode cX8_isNamed 24 = .ok (.ireturn, 1) := by decide +kernel
theorem dX8_peopleNamed_0 : decode cX8_peopleNamed 0 = .ok (.iconst 0, 1) := by decide +kernel
theorem dX8_peopleNamed_1 : decode cX8_peopleNamed 1 = .ok (.istore_n 3, 1) := by decide +kernel
theorem dX8_peopleNamed_2 : decode cX8_peopleNamed 2 = .ok (.iconst 0, 1) := by decide +kernel
theorem dX8_peopleNamed_3 : decode cX8_peopleNamed 3 = .ok (.istore 4, 2) := by decide +kernel
theorem dX8_peopleNamed_5 : decode cX8_peopleNamed 5 = .ok (.iload 4, 2) := by decide +kernel
theorem dX8_peopleNamed_7 : decode cX8_peopleNamed 7 = .ok (.aload_n 0, 1) := by decide +kernel
theorem dX8_peopleNamed_8 : decode cX8_peopleNamed 8 = .ok (.getfield 37, 3) := by decide +kernel
theorem dX8_peopleNamed_11 : decode cX8_peopleNamed 11 = .ok (.if_icmp .ge 31, 3) := by decide +kernel
theorem dX8_peopleNamed_14 : decode cX8_peopleNamed 14 = .ok (.aload_n 0, 1) := by decide +kernel
theorem dX8_peopleNamed_15 : decode cX8_peopleNamed 15 = .ok (.iload 4, 2) := by decide +kernel
theorem dX8_peopleNamed_17 : decode cX8_peopleNamed 17 = .ok (.invokevirtual 44, 3) := by decide +kernel
theorem dX8_peopleNamed_20 : decode cX8_peopleNamed 20 = .ok (.ifCond .eq 16, 3) := by decide +kernel
theorem dX8_peopleNamed_23 : decode cX8_peopleNamed 23 = .ok (.aload_n 0, 1) := by decide +kernel
theorem dX8_peopleNamed_24 : decode cX8_peopleNamed 24 = .ok (.iload 4, 2) := by decide +kernel
theorem dX8_peopleNamed_26 : decode cX8_peopleNamed 26 = .ok (.lload_n 1, 1) := by decide +kernel
theorem dX8_peopleNamed_27 : decode cX8_peopleNamed 27 = .ok (.invokevirtual 47, 3) := by decide +kernel
theorem dX8_peopleNamed_30 : decode cX8_peopleNamed 30 = .ok (.ifCond .eq 6, 3) := by decide +kernel
theorem dX8_peopleNamed_33 : decode cX8_peopleNamed 33 = .ok (.iinc 3 1, 3) := by decide +kernel
theorem dX8_peopleNamed_36 : decode cX8_peopleNamed 36 = .ok (.iinc 4 1, 3) := by decide +kernel
theorem dX8_peopleNamed_39 : decode cX8_peopleNamed 39 = .ok (.goto (-34), 3) := by decide +kernel
theorem dX8_peopleNamed_42 : decode cX8_peopleNamed 42 = .ok (.iload_n 3, 1) := by decide +kernel
theorem dX8_peopleNamed_43 : decode cX8_peopleNamed 43 = .ok (.ireturn, 1) := by decide +kernel
theorem dX8_addKin_0 : decode cX8_addKin 0 = .ok (.aload_n 0, 1) := by decide +kernel
theorem dX8_addKin_1 : decode cX8_addKin 1 = .ok (.getfield 24, 3) := by decide +kernel
theorem dX8_addKin_4 : decode cX8_addKin 4 = .ok (.iload_n 1, 1) := by decide +kernel
theorem dX8_addKin_5 : decode cX8_addKin 5 = .ok (.iload_n 2, 1) := by decide +kernel
theorem dX8_addKin_6 : decode cX8_addKin 6 = .ok (.iconst 0, 1) := by decide +kernel
theorem dX8_addKin_7 : decode cX8_addKin 7 = .ok (.iload_n 3, 1) := by decide +kernel
theorem dX8_addKin_8 : decode cX8_addKin 8 = .ok (.iload 4, 2) := by decide +kernel
theorem dX8_addKin_10 : decode cX8_addKin 10 = .ok (.iload 5, 2) := by decide +kernel
theorem dX8_addKin_12 : decode cX8_addKin 12 = .ok (.invokevirtual 51, 3) := by decide +kernel
theorem dX8_addKin_15 : decode cX8_addKin 15 = .ok (.ireturn, 1) := by decide +kernel
theorem dX8_totalKin_0 : decode cX8_totalKin 0 = .ok (.aload_n 0, 1) := by decide +kernel
theorem dX8_totalKin_1 : decode cX8_totalKin 1 = .ok (.getfield 24, 3) := by decide +kernel
theorem dX8_totalKin_4 : decode cX8_totalKin 4 = .ok (.invokevirtual 55, 3) := by decide +kernel
theorem dX8_totalKin_7 : decode cX8_totalKin 7 = .ok (.ireturn, 1) := by decide +kernel
theorem dX8_degreeOf_0 : decode cX8_degreeOf 0 = .ok (.aload_n 0, 1) := by decide +kernel
theorem dX8_degreeOf_1 : decode cX8_degreeOf 1 = .ok (.iload_n 1, 1) := by decide +kernel
theorem dX8_degreeOf_2 : decode cX8_degreeOf 2 = .ok (.invokevirtual 40, 3) := by decide +kernel
theorem dX8_degreeOf_5 : decode cX8_degreeOf 5 = .ok (.ifCond .eq 11, 3) := by decide +kernel
theorem dX8_degreeOf_8 : decode cX8_degreeOf 8 = .ok (.aload_n 0, 1) := by decide +kernel
theorem dX8_degreeOf_9 : decode cX8_degreeOf 9 = .ok (.iload_n 2, 1) := by decide +kernel
theorem dX8_degreeOf_10 : decode cX8_degreeOf 10 = .ok (.invokevirtual 40, 3) := by decide +kernel
theorem dX8_degreeOf_13 : decode cX8_degreeOf 13 = .ok (.ifCond .ne 5, 3) := by decide +kernel
theorem dX8_degreeOf_16 : decode cX8_degreeOf 16 = .ok (.iconst 5, 1) := by decide +kernel
theorem dX8_degreeOf_17 : decode cX8_degreeOf 17 = .ok (.ireturn, 1) := by decide +kernel
theorem dX8_degreeOf_18 : decode cX8_degreeOf 18 = .ok (.aload_n 0, 1) := by decide +kernel
theorem dX8_degreeOf_19 : decode cX8_degreeOf 19 = .ok (.iload_n 1, 1) := by decide +kernel
theorem dX8_degreeOf_20 : decode cX8_degreeOf 20 = .ok (.iload_n 3, 1) := by decide +kernel
theorem dX8_degreeOf_21 : decode cX8_degreeOf 21 = .ok (.iload 4, 2) := by decide +kernel
theorem dX8_degreeOf_23 : decode cX8_degreeOf 23 = .ok (.invokevirtual 59, 3) := by decide +kernel
theorem dX8_degreeOf_26 : decode cX8_degreeOf 26 = .ok (.aload_n 0, 1) := by decide +kernel
theorem dX8_degreeOf_27 : decode cX8_degreeOf 27 = .ok (.getfield 28, 3) := by decide +kernel
theorem dX8_degreeOf_30 : decode cX8_degreeOf 30 = .ok (.iload_n 2, 1) := by decide +kernel
theorem dX8_degreeOf_31 : decode cX8_degreeOf 31 = .ok (.iaload, 1) := by decide +kernel
theorem dX8_degreeOf_32 : decode cX8_degreeOf 32 = .ok (.ireturn, 1) := by decide +kernel
theorem dX8_spread_0 : decode cX8_spread 0 = .ok (.aload_n 0, 1) := by decide +kernel
theorem dX8_spread_1 : decode cX8_spread 1 = .ok (.getfield 24, 3) := by decide +kernel
theorem dX8_spread_4 : decode cX8_spread 4 = .ok (.invokevirtual 55, 3) := by decide +kernel
theorem dX8_spread_7 : decode cX8_spread 7 = .ok (.istore 4, 2) := by decide +kernel
theorem dX8_spread_9 : decode cX8_spread 9 = .ok (.iload_n 1, 1) := by decide +kernel
theorem dX8_spread_10 : decode cX8_spread 10 = .ok (.aload_n 0, 1) := by decide +kernel
theorem dX8_spread_11 : decode cX8_spread 11 = .ok (.getfield 31, 3) := by decide +kernel
theorem dX8_spread_14 : decode cX8_spread 14 = .ok (.if_icmp .ne 29, 3) := by decide +kernel
theorem dX8_spread_17 : decode cX8_spread 17 = .ok (.iload_n 2, 1) := by decide +kernel
theorem dX8_spread_18 : decode cX8_spread 18 = .ok (.aload_n 0, 1) := by decide +kernel
theorem dX8_spread_19 : decode cX8_spread 19 = .ok (.getfield 63, 3) := by decide +kernel
theorem dX8_spread_22 : decode cX8_spread 22 = .ok (.if_icmp .ne 21, 3) := by decide +kernel
theorem dX8_spread_25 : decode cX8_spread 25 = .ok (.iload_n 3, 1) := by decide +kernel
theorem dX8_spread_26 : decode cX8_spread 26 = .ok (.aload_n 0, 1) := by decide +kernel
theorem dX8_spread_27 : decode cX8_spread 27 = .ok (.getfield 66, 3) := by decide +kernel
theorem dX8_spread_30 : decode cX8_spread 30 = .ok (.if_icmp .ne 13, 3) := by decide +kernel
theorem dX8_spread_33 : decode cX8_spread 33 = .ok (.iload 4, 2) := by decide +kernel
theorem dX8_spread_35 : decode cX8_spread 35 = .ok (.aload_n 0, 1) := by decide +kernel
theorem dX8_spread_36 : decode cX8_spread 36 = .ok (.getfield 69, 3) := by decide +kernel
theorem dX8_spread_39 : decode cX8_spread 39 = .ok (.if_icmp .ne 4, 3) := by decide +kernel
theorem dX8_spread_42 : decode cX8_spread 42 = .ok (.return_, 1) := by decide +kernel
theorem dX8_spread_43 : decode cX8_spread 43 = .ok (.aload_n 0, 1) := by decide +kernel
theorem dX8_spread_44 : decode cX8_spread 44 = .ok (.iload_n 1, 1) := by decide +kernel
theorem dX8_spread_45 : decode cX8_spread 45 = .ok (.putfield 31, 3) := by decide +kernel
theorem dX8_spread_48 : decode cX8_spread 48 = .ok (.aload_n 0, 1) := by decide +kernel
theorem dX8_spread_49 : decode cX8_spread 49 = .ok (.iload_n 2, 1) := by decide +kernel
theorem dX8_spread_50 : decode cX8_spread 50 = .ok (.putfield 63, 3) := by decide +kernel
theorem dX8_spread_53 : decode cX8_spread 53 = .ok (.aload_n 0, 1) := by decide +kernel
theorem dX8_spread_54 : decode cX8_spread 54 = .ok (.iload_n 3, 1) := by decide +kernel
theorem dX8_spread_55 : decode cX8_spread 55 = .ok (.putfield 66, 3) := by decide +kernel
theorem dX8_spread_58 : decode cX8_spread 58 = .ok (.aload_n 0, 1) := by decide +kernel
theorem dX8_spread_59 : decode cX8_spread 59 = .ok (.iload 4, 2) := by decide +kernel
theorem dX8_spread_61 : decode cX8_spread 61 = .ok (.putfield 69, 3) := by decide +kernel
theorem dX8_spread_64 : decode cX8_spread 64 = .ok (.aload_n 0, 1) := by decide +kernel
theorem dX8_spread_65 : decode cX8_spread 65 = .ok (.getfield 28, 3) := by decide +kernel
theorem dX8_spread_68 : decode cX8_spread 68 = .ok (.iconst 5, 1) := by decide +kernel
theorem dX8_spread_69 : decode cX8_spread 69 = .ok (.invokestatic 72, 3) := by decide +kernel
theorem dX8_spread_72 : decode cX8_spread 72 = .ok (.aload_n 0, 1) := by decide +kernel
theorem dX8_spread_73 : decode cX8_spread 73 = .ok (.iload_n 1, 1) := by decide +kernel
theorem dX8_spread_74 : decode cX8_spread 74 = .ok (.invokevirtual 40, 3) := by decide +kernel
theorem dX8_spread_77 : decode cX8_spread 77 = .ok (.ifCond .eq 10, 3) := by decide +kernel
theorem dX8_spread_80 : decode cX8_spread 80 = .ok (.aload_n 0, 1) := by decide +kernel
theorem dX8_spread_81 : decode cX8_spread 81 = .ok (.getfield 28, 3) := by decide +kernel
theorem dX8_spread_84 : decode cX8_spread 84 = .ok (.iload_n 1, 1) := by decide +kernel
theorem dX8_spread_85 : decode cX8_spread 85 = .ok (.iconst 0, 1) := by decide +kernel
theorem dX8_spread_86 : decode cX8_spread 86 = .ok (.iastore, 1) := by decide +kernel
theorem dX8_spread_87 : decode cX8_spread 87 = .ok (.iconst 1, 1) := by decide +kernel
theorem dX8_spread_88 : decode cX8_spread 88 = .ok (.istore 5, 2) := by decide +kernel
theorem dX8_spread_90 : decode cX8_spread 90 = .ok (.iload 5, 2) := by decide +kernel
theorem dX8_spread_92 : decode cX8_spread 92 = .ok (.iconst 5, 1) := by decide +kernel
theorem dX8_spread_93 : decode cX8_spread 93 = .ok (.if_icmp .ge 99, 3) := by decide +kernel
theorem dX8_spread_96 : decode cX8_spread 96 = .ok (.iconst 0, 1) := by decide +kernel
theorem dX8_spread_97 : decode cX8_spread 97 = .ok (.istore 6, 2) := by decide +kernel
theorem dX8_spread_99 : decode cX8_spread 99 = .ok (.iload 6, 2) := by decide +kernel
theorem dX8_spread_101 : decode cX8_spread 101 = .ok (.iload 4, 2) := by decide +kernel
theorem dX8_spread_103 : decode cX8_spread 103 = .ok (.if_icmp .ge 83, 3) := by decide +kernel
theorem dX8_spread_106 : decode cX8_spread 106 = .ok (.aload_n 0, 1) := by decide +kernel
theorem dX8_spread_107 : decode cX8_spread 107 = .ok (.getfield 24, 3) := by decide +kernel
theorem dX8_spread_110 : decode cX8_spread 110 = .ok (.iload 6, 2) := by decide +kernel
theorem dX8_spread_112 : decode cX8_spread 112 = .ok (.iload_n 3, 1) := by decide +kernel
theorem dX8_spread_113 : decode cX8_spread 113 = .ok (.invokevirtual 78, 3) := by decide +kernel
theorem dX8_spread_116 : decode cX8_spread 116 = .ok (.ifCond .eq 64, 3) := by decide +kernel
theorem dX8_spread_119 : decode cX8_spread 119 = .ok (.aload_n 0, 1) := by decide +kernel
theorem dX8_spread_120 : decode cX8_spread 120 = .ok (.getfield 24, 3) := by decide +kernel
theorem dX8_spread_123 : decode cX8_spread 123 = .ok (.iload 6, 2) := by decide +kernel
theorem dX8_spread_125 : decode cX8_spread 125 = .ok (.iload_n 2, 1) := by decide +kernel
theorem dX8_spread_126 : decode cX8_spread 126 = .ok (.invokevirtual 82, 3) := by decide +kernel
theorem dX8_spread_129 : decode cX8_spread 129 = .ok (.ifCond .eq 51, 3) := by decide +kernel
theorem dX8_spread_132 : decode cX8_spread 132 = .ok (.aload_n 0, 1) := by decide +kernel
theorem dX8_spread_133 : decode cX8_spread 133 = .ok (.aload_n 0, 1) := by decide +kernel
theorem dX8_spread_134 : decode cX8_spread 134 = .ok (.getfield 24, 3) := by decide +kernel
theorem dX8_spread_137 : decode cX8_spread 137 = .ok (.iload 6, 2) := by decide +kernel
theorem dX8_spread_139 : decode cX8_spread 139 = .ok (.invokevirtual 85, 3) := by decide +kernel
theorem dX8_spread_142 : decode cX8_spread 142 = .ok (.aload_n 0, 1) := by decide +kernel
theorem dX8_spread_143 : decode cX8_spread 143 = .ok (.getfield 24, 3) := by decide +kernel
theorem dX8_spread_146 : decode cX8_spread 146 = .ok (.iload 6, 2) := by decide +kernel
theorem dX8_spread_148 : decode cX8_spread 148 = .ok (.invokevirtual 89, 3) := by decide +kernel
theorem dX8_spread_151 : decode cX8_spread 151 = .ok (.iload 5, 2) := by decide +kernel
theorem dX8_spread_153 : decode cX8_spread 153 = .ok (.invokevirtual 92, 3) := by decide +kernel
theorem dX8_spread_156 : decode cX8_spread 156 = .ok (.aload_n 0, 1) := by decide +kernel
theorem dX8_spread_157 : decode cX8_spread 157 = .ok (.aload_n 0, 1) := by decide +kernel
theorem dX8_spread_158 : decode cX8_spread 158 = .ok (.getfield 24, 3) := by decide +kernel
theorem dX8_spread_161 : decode cX8_spread 161 = .ok (.iload 6, 2) := by decide +kernel
theorem dX8_spread_163 : decode cX8_spread 163 = .ok (.invokevirtual 89, 3) := by decide +kernel
theorem dX8_spread_166 : decode cX8_spread 166 = .ok (.aload_n 0, 1) := by decide +kernel
theorem dX8_spread_167 : decode cX8_spread 167 = .ok (.getfield 24, 3) := by decide +kernel
theorem dX8_spread_170 : decode cX8_spread 170 = .ok (.iload 6, 2) := by decide +kernel
theorem dX8_spread_172 : decode cX8_spread 172 = .ok (.invokevirtual 85, 3) := by decide +kernel
theorem dX8_spread_175 : decode cX8_spread 175 = .ok (.iload 5, 2) := by decide +kernel
theorem dX8_spread_177 : decode cX8_spread 177 = .ok (.invokevirtual 92, 3) := by decide +kernel
theorem dX8_spread_180 : decode cX8_spread 180 = .ok (.iinc 6 1, 3) := by decide +kernel
theorem dX8_spread_183 : decode cX8_spread 183 = .ok (.goto (-84), 3) := by decide +kernel
theorem dX8_spread_186 : decode cX8_spread 186 = .ok (.iinc 5 1, 3) := by decide +kernel
theorem dX8_spread_189 : decode cX8_spread 189 = .ok (.goto (-99), 3) := by decide +kernel
theorem dX8_spread_192 : decode cX8_spread 192 = .ok (.return_, 1) := by decide +kernel
theorem dX8_reach_0 : decode cX8_reach 0 = .ok (.iload_n 1, 1) := by decide +kernel
theorem dX8_reach_1 : decode cX8_reach 1 = .ok (.ifCond .lt 23, 3) := by decide +kernel
theorem dX8_reach_4 : decode cX8_reach 4 = .ok (.iload_n 1, 1) := by decide +kernel
theorem dX8_reach_5 : decode cX8_reach 5 = .ok (.bipush 60, 2) := by decide +kernel
theorem dX8_reach_7 : decode cX8_reach 7 = .ok (.if_icmp .ge 17, 3) := by decide +kernel
theorem dX8_reach_10 : decode cX8_reach 10 = .ok (.iload_n 2, 1) := by decide +kernel
theorem dX8_reach_11 : decode cX8_reach 11 = .ok (.ifCond .lt 13, 3) := by decide +kernel
theorem dX8_reach_14 : decode cX8_reach 14 = .ok (.iload_n 2, 1) := by decide +kernel
theorem dX8_reach_15 : decode cX8_reach 15 = .ok (.bipush 60, 2) := by decide +kernel
theorem dX8_reach_17 : decode cX8_reach 17 = .ok (.if_icmp .ge 7, 3) := by decide +kernel
theorem dX8_reach_20 : decode cX8_reach 20 = .ok (.iconst 1, 1) := by decide +kernel
theorem dX8_reach_21 : decode cX8_reach 21 = .ok (.goto 4, 3) := by decide +kernel
theorem dX8_reach_24 : decode cX8_reach 24 = .ok (.iconst 0, 1) := by decide +kernel
theorem dX8_reach_25 : decode cX8_reach 25 = .ok (.istore 4, 2) := by decide +kernel
theorem dX8_reach_27 : decode cX8_reach 27 = .ok (.iload 4, 2) := by decide +kernel
theorem dX8_reach_29 : decode cX8_reach 29 = .ok (.ifCond .eq 32, 3) := by decide +kernel
theorem dX8_reach_32 : decode cX8_reach 32 = .ok (.aload_n 0, 1) := by decide +kernel
theorem dX8_reach_33 : decode cX8_reach 33 = .ok (.getfield 28, 3) := by decide +kernel
theorem dX8_reach_36 : decode cX8_reach 36 = .ok (.iload_n 1, 1) := by decide +kernel
theorem dX8_reach_37 : decode cX8_reach 37 = .ok (.iaload, 1) := by decide +kernel
theorem dX8_reach_38 : decode cX8_reach 38 = .ok (.iload_n 3, 1) := by decide +kernel
theorem dX8_reach_39 : decode cX8_reach 39 = .ok (.iconst 1, 1) := by decide +kernel
theorem dX8_reach_40 : decode cX8_reach 40 = .ok (.isub, 1) := by decide +kernel
theorem dX8_reach_41 : decode cX8_reach 41 = .ok (.if_icmp .ne 20, 3) := by decide +kernel
theorem dX8_reach_44 : decode cX8_reach 44 = .ok (.aload_n 0, 1) := by decide +kernel
theorem dX8_reach_45 : decode cX8_reach 45 = .ok (.getfield 28, 3) := by decide +kernel
theorem dX8_reach_48 : decode cX8_reach 48 = .ok (.iload_n 2, 1) := by decide +kernel
theorem dX8_reach_49 : decode cX8_reach 49 = .ok (.iaload, 1) := by decide +kernel
theorem dX8_reach_50 : decode cX8_reach 50 = .ok (.iconst 5, 1) := by decide +kernel
theorem dX8_reach_51 : decode cX8_reach 51 = .ok (.if_icmp .ne 10, 3) := by decide +kernel
theorem dX8_reach_54 : decode cX8_reach 54 = .ok (.aload_n 0, 1) := by decide +kernel
theorem dX8_reach_55 : decode cX8_reach 55 = .ok (.getfield 28, 3) := by decide +kernel
theorem dX8_reach_58 : decode cX8_reach 58 = .ok (.iload_n 2, 1) := by decide +kernel
theorem dX8_reach_59 : decode cX8_reach 59 = .ok (.iload_n 3, 1) := by decide +kernel
theorem dX8_reach_60 : decode cX8_reach 60 = .ok (.iastore, 1) := by decide +kernel
theorem dX8_reach_61 : decode cX8_reach 61 = .ok (.return_, 1) := by decide +kernel
theorem dX9_init_0 : decode cX9_init 0 = .ok (.aload_n 0, 1) := by decide +kernel
theorem dX9_init_1 : decode cX9_init 1 = .ok (.invokespecial 3, 3) := by decide +kernel
theorem dX9_init_4 : decode cX9_init 4 = .ok (.iload_n 1, 1) := by decide +kernel
theorem dX9_init_5 : decode cX9_init 5 = .ok (.ifCond .ge 7, 3) := by decide +kernel
theorem dX9_init_8 : decode cX9_init 8 = .ok (.iconst 0, 1) := by decide +kernel
theorem dX9_init_9 : decode cX9_init 9 = .ok (.goto 4, 3) := by decide +kernel
theorem dX9_init_12 : decode cX9_init 12 = .ok (.iload_n 1, 1) := by decide +kernel
theorem dX9_init_13 : decode cX9_init 13 = .ok (.istore_n 2, 1) := by decide +kernel
theorem dX9_init_14 : decode cX9_init 14 = .ok (.aload_n 0, 1) := by decide +kernel
theorem dX9_init_15 : decode cX9_init 15 = .ok (.iload_n 2, 1) := by decide +kernel
theorem dX9_init_16 : decode cX9_init 16 = .ok (.newarray .int, 2) := by decide +kernel
theorem dX9_init_18 : decode cX9_init 18 = .ok (.putfield 9, 3) := by decide +kernel
theorem dX9_init_21 : decode cX9_init 21 = .ok (.aload_n 0, 1) := by decide +kernel
theorem dX9_init_22 : decode cX9_init 22 = .ok (.iload_n 2, 1) := by decide +kernel
theorem dX9_init_23 : decode cX9_init 23 = .ok (.newarray .int, 2) := by decide +kernel
theorem dX9_init_25 : decode cX9_init 25 = .ok (.putfield 15, 3) := by decide +kernel
theorem dX9_init_28 : decode cX9_init 28 = .ok (.aload_n 0, 1) := by decide +kernel
theorem dX9_init_29 : decode cX9_init 29 = .ok (.iload_n 2, 1) := by decide +kernel
theorem dX9_init_30 : decode cX9_init 30 = .ok (.newarray .int, 2) := by decide +kernel
theorem dX9_init_32 : decode cX9_init 32 = .ok (.putfield 18, 3) := by decide +kernel
theorem dX9_init_35 : decode cX9_init 35 = .ok (.aload_n 0, 1) := by decide +kernel
theorem dX9_init_36 : decode cX9_init 36 = .ok (.iload_n 2, 1) := by decide +kernel
theorem dX9_init_37 : decode cX9_init 37 = .ok (.newarray .int, 2) := by decide +kernel
theorem dX9_init_39 : decode cX9_init 39 = .ok (.putfield 21, 3) := by decide +kernel
theorem dX9_init_42 : decode cX9_init 42 = .ok (.aload_n 0, 1) := by decide +kernel
theorem dX9_init_43 : decode cX9_init 43 = .ok (.iload_n 2, 1) := by decide +kernel
theorem dX9_init_44 : decode cX9_init 44 = .ok (.newarray .int, 2) := by decide +kernel
theorem dX9_init_46 : decode cX9_init 46 = .ok (.putfield 24, 3) := by decide +kernel
theorem dX9_init_49 : decode cX9_init 49 = .ok (.aload_n 0, 1) := by decide +kernel
theorem dX9_init_50 : decode cX9_init 50 = .ok (.iload_n 2, 1) := by decide +kernel
theorem dX9_init_51 : decode cX9_init 51 = .ok (.newarray .int, 2) := by decide +kernel
theorem dX9_init_53 : decode cX9_init 53 = .ok (.putfield 27, 3) := by decide +kernel
theorem dX9_init_56 : decode cX9_init 56 = .ok (.return_, 1) := by decide +kernel
theorem dX9_add_0 : decode cX9_add 0 = .ok (.aload_n 0, 1) := by decide +kernel
theorem dX9_add_1 : decode cX9_add 1 = .ok (.getfield 30, 3) := by decide +kernel
theorem dX9_add_4 : decode cX9_add 4 = .ok (.ifCond .lt 15, 3) := by decide +kernel
theorem dX9_add_7 : decode cX9_add 7 = .ok (.aload_n 0, 1) := by decide +kernel
theorem dX9_add_8 : decode cX9_add 8 = .ok (.getfield 30, 3) := by decide +kernel
theorem dX9_add_11 : decode cX9_add 11 = .ok (.aload_n 0, 1) := by decide +kernel
theorem dX9_add_12 : decode cX9_add 12 = .ok (.getfield 9, 3) := by decide +kernel
theorem dX9_add_15 : decode cX9_add 15 = .ok (.arraylength, 1) := by decide +kernel
theorem dX9_add_16 : decode cX9_add 16 = .ok (.if_icmp .lt 6, 3) := by decide +kernel
theorem dX9_add_19 : decode cX9_add 19 = .ok (.bipush (-5), 2) := by decide +kernel
theorem dX9_add_21 : decode cX9_add 21 = .ok (.ireturn, 1) := by decide +kernel
theorem dX9_add_22 : decode cX9_add 22 = .ok (.aload_n 0, 1) := by decide +kernel
theorem dX9_add_23 : decode cX9_add 23 = .ok (.getfield 9, 3) := by decide +kernel
theorem dX9_add_26 : decode cX9_add 26 = .ok (.aload_n 0, 1) := by decide +kernel
theorem dX9_add_27 : decode cX9_add 27 = .ok (.getfield 30, 3) := by decide +kernel
theorem dX9_add_30 : decode cX9_add 30 = .ok (.iload_n 1, 1) := by decide +kernel
theorem dX9_add_31 : decode cX9_add 31 = .ok (.iastore, 1) := by decide +kernel
theorem dX9_add_32 : decode cX9_add 32 = .ok (.aload_n 0, 1) := by decide +kernel
theorem dX9_add_33 : decode cX9_add 33 = .ok (.getfield 15, 3) := by decide +kernel
theorem dX9_add_36 : decode cX9_add 36 = .ok (.aload_n 0, 1) := by decide +kernel
theorem dX9_add_37 : decode cX9_add 37 = .ok (.getfield 30, 3) := by decide +kernel
theorem dX9_add_40 : decode cX9_add 40 = .ok (.iload_n 2, 1) := by decide +kernel
theorem dX9_add_41 : decode cX9_add 41 = .ok (.iastore, 1) := by decide +kernel
theorem dX9_add_42 : decode cX9_add 42 = .ok (.aload_n 0, 1) := by decide +kernel
theorem dX9_add_43 : decode cX9_add 43 = .ok (.getfield 18, 3) := by decide +kernel
theorem dX9_add_46 : decode cX9_add 46 = .ok (.aload_n 0, 1) := by decide +kernel
theorem dX9_add_47 : decode cX9_add 47 = .ok (.getfield 30, 3) := by decide +kernel
theorem dX9_add_50 : decode cX9_add 50 = .ok (.iload_n 3, 1) := by decide +kernel
theorem dX9_add_51 : decode cX9_add 51 = .ok (.iastore, 1) := by decide +kernel
theorem dX9_add_52 : decode cX9_add 52 = .ok (.aload_n 0, 1) := by decide +kernel
theorem dX9_add_53 : decode cX9_add 53 = .ok (.getfield 21, 3) := by decide +kernel
theorem dX9_add_56 : decode cX9_add 56 = .ok (.aload_n 0, 1) := by decide +kernel
theorem dX9_add_57 : decode cX9_add 57 = .ok (.getfield 30, 3) := by decide +kernel
theorem dX9_add_60 : decode cX9_add 60 = .ok (.iload 4, 2) := by decide +kernel
theorem dX9_add_62 : decode cX9_add 62 = .ok (.iastore, 1) := by decide +kernel
theorem dX9_add_63 : decode cX9_add 63 = .ok (.aload_n 0, 1) := by decide +kernel
theorem dX9_add_64 : decode cX9_add 64 = .ok (.getfield 24, 3) := by decide +kernel
theorem dX9_add_67 : decode cX9_add 67 = .ok (.aload_n 0, 1) := by decide +kernel
theorem dX9_add_68 : decode cX9_add 68 = .ok (.getfield 30, 3) := by decide +kernel
theorem dX9_add_71 : decode cX9_add 71 = .ok (.iload 5, 2) := by decide +kernel
theorem dX9_add_73 : decode cX9_add 73 = .ok (.iastore, 1) := by decide +kernel
theorem dX9_add_74 : decode cX9_add 74 = .ok (.aload_n 0, 1) := by decide +kernel
theorem dX9_add_75 : decode cX9_add 75 = .ok (.getfield 27, 3) := by decide +kernel
theorem dX9_add_78 : decode cX9_add 78 = .ok (.aload_n 0, 1) := by decide +kernel
theorem dX9_add_79 : decode cX9_add 79 = .ok (.getfield 30, 3) := by decide +kernel
theorem dX9_add_82 : decode cX9_add 82 = .ok (.iload 6, 2) := by decide +kernel
theorem dX9_add_84 : decode cX9_add 84 = .ok (.iastore, 1) := by decide +kernel
theorem dX9_add_85 : decode cX9_add 85 = .ok (.aload_n 0, 1) := by decide +kernel
theorem dX9_add_86 : decode cX9_add 86 = .ok (.dup, 1) := by decide +kernel
theorem dX9_add_87 : decode cX9_add 87 = .ok (.getfield 30, 3) := by decide +kernel
theorem dX9_add_90 : decode cX9_add 90 = .ok (.iconst 1, 1) := by decide +kernel
theorem dX9_add_91 : decode cX9_add 91 = .ok (.iadd, 1) := by decide +kernel
theorem dX9_add_92 : decode cX9_add 92 = .ok (.putfield 30, 3) := by decide +kernel
theorem dX9_add_95 : decode cX9_add 95 = .ok (.aload_n 0, 1) := by decide +kernel
theorem dX9_add_96 : decode cX9_add 96 = .ok (.getfield 30, 3) := by decide +kernel
theorem dX9_add_99 : decode cX9_add 99 = .ok (.iconst 1, 1) := by decide +kernel
theorem dX9_add_100 : decode cX9_add 100 = .ok (.isub, 1) := by decide +kernel
theorem dX9_add_101 : decode cX9_add 101 = .ok (.ireturn, 1) := by decide +kernel
theorem dX9_total_0 : decode cX9_total 0 = .ok (.aload_n 0, 1) := by decide +kernel
theorem dX9_total_1 : decode cX9_total 1 = .ok (.getfield 30, 3) := by decide +kernel
theorem dX9_total_4 : decode cX9_total 4 = .ok (.ireturn, 1) := by decide +kernel
theorem dX9_first_0 : decode cX9_first 0 = .ok (.iload_n 1, 1) := by decide +kernel
theorem dX9_first_1 : decode cX9_first 1 = .ok (.ifCond .lt 21, 3) := by decide +kernel
theorem dX9_first_4 : decode cX9_first 4 = .ok (.iload_n 1, 1) := by decide +kernel
theorem dX9_first_5 : decode cX9_first 5 = .ok (.aload_n 0, 1) := by decide +kernel
theorem dX9_first_6 : decode cX9_first 6 = .ok (.getfield 9, 3) := by decide +kernel
theorem dX9_first_9 : decode cX9_first 9 = .ok (.arraylength, 1) := by decide +kernel
theorem dX9_first_10 : decode cX9_first 10 = .ok (.if_icmp .ge 12, 3) := by decide +kernel
theorem dX9_first_13 : decode cX9_first 13 = .ok (.aload_n 0, 1) := by decide +kernel
theorem dX9_first_14 : decode cX9_first 14 = .ok (.getfield 9, 3) := by decide +kernel
theorem dX9_first_17 : decode cX9_first 17 = .ok (.iload_n 1, 1) := by decide +kernel
theorem dX9_first_18 : decode cX9_first 18 = .ok (.iaload, 1) := by decide +kernel
theorem dX9_first_19 : decode cX9_first 19 = .ok (.goto 4, 3) := by decide +kernel
theorem dX9_first_22 : decode cX9_first 22 = .ok (.iconst (-1), 1) := by decide +kernel
theorem dX9_first_23 : decode cX9_first 23 = .ok (.ireturn, 1) := by decide +kernel
theorem dX9_second_0 : decode cX9_second 0 = .ok (.iload_n 1, 1) := by decide +kernel
theorem dX9_second_1 : decode cX9_second 1 = .ok (.ifCond .lt 21, 3) := by decide +kernel
theorem dX9_second_4 : decode cX9_second 4 = .ok (.iload_n 1, 1) := by decide +kernel
theorem dX9_second_5 : decode cX9_second 5 = .ok (.aload_n 0, 1) := by decide +kernel
theorem dX9_second_6 : decode cX9_second 6 = .ok (.getfield 15, 3) := by decide +kernel
theorem dX9_second_9 : decode cX9_second 9 = .ok (.arraylength, 1) := by decide +kernel
theorem dX9_second_10 : decode cX9_second 10 = .ok (.if_icmp .ge 12, 3) := by decide +kernel
theorem dX9_second_13 : decode cX9_second 13 = .ok (.aload_n 0, 1) := by decide +kernel
theorem dX9_second_14 : decode cX9_second 14 = .ok (.getfield 15, 3) := by decide +kernel
theorem dX9_second_17 : decode cX9_second 17 = .ok (.iload_n 1, 1) := by decide +kernel
theorem dX9_second_18 : decode cX9_second 18 = .ok (.iaload, 1) := by decide +kernel
theorem dX9_second_19 : decode cX9_second 19 = .ok (.goto 4, 3) := by decide +kernel
theorem dX9_second_22 : decode cX9_second 22 = .ok (.iconst (-1), 1) := by decide +kernel
theorem dX9_second_23 : decode cX9_second 23 = .ok (.ireturn, 1) := by decide +kernel
theorem dX9_share_0 : decode cX9_share 0 = .ok (.iload_n 1, 1) := by decide +kernel
theorem dX9_share_1 : decode cX9_share 1 = .ok (.ifCond .lt 21, 3) := by decide +kernel
theorem dX9_share_4 : decode cX9_share 4 = .ok (.iload_n 1, 1) := by decide +kernel
theorem dX9_share_5 : decode cX9_share 5 = .ok (.aload_n 0, 1) := by decide +kernel
theorem dX9_share_6 : decode cX9_share 6 = .ok (.getfield 18, 3) := by decide +kernel
theorem dX9_share_9 : decode cX9_share 9 = .ok (.arraylength, 1) := by decide +kernel
theorem dX9_share_10 : decode cX9_share 10 = .ok (.if_icmp .ge 12, 3) := by decide +kernel
theorem dX9_share_13 : decode cX9_share 13 = .ok (.aload_n 0, 1) := by decide +kernel
theorem dX9_share_14 : decode cX9_share 14 = .ok (.getfield 18, 3) := by decide +kernel
theorem dX9_share_17 : decode cX9_share 17 = .ok (.iload_n 1, 1) := by decide +kernel
theorem dX9_share_18 : decode cX9_share 18 = .ok (.iaload, 1) := by decide +kernel
theorem dX9_share_19 : decode cX9_share 19 = .ok (.goto 4, 3) := by decide +kernel
theorem dX9_share_22 : decode cX9_share 22 = .ok (.iconst 0, 1) := by decide +kernel
theorem dX9_share_23 : decode cX9_share 23 = .ok (.ireturn, 1) := by decide +kernel
theorem dX9_start_0 : decode cX9_start 0 = .ok (.iload_n 1, 1) := by decide +kernel
theorem dX9_start_1 : decode cX9_start 1 = .ok (.ifCond .lt 21, 3) := by decide +kernel
theorem dX9_start_4 : decode cX9_start 4 = .ok (.iload_n 1, 1) := by decide +kernel
theorem dX9_start_5 : decode cX9_start 5 = .ok (.aload_n 0, 1) := by decide +kernel
theorem dX9_start_6 : decode cX9_start 6 = .ok (.getfield 21, 3) := by decide +kernel
theorem dX9_start_9 : decode cX9_start 9 = .ok (.arraylength, 1) := by decide +kernel
theorem dX9_start_10 : decode cX9_start 10 = .ok (.if_icmp .ge 12, 3) := by decide +kernel
theorem dX9_start_13 : decode cX9_start 13 = .ok (.aload_n 0, 1) := by decide +kernel
theorem dX9_start_14 : decode cX9_start 14 = .ok (.getfield 21, 3) := by decide +kernel
theorem dX9_start_17 : decode cX9_start 17 = .ok (.iload_n 1, 1) := by decide +kernel
theorem dX9_start_18 : decode cX9_start 18 = .ok (.iaload, 1) := by decide +kernel
theorem dX9_start_19 : decode cX9_start 19 = .ok (.goto 4, 3) := by decide +kernel
theorem dX9_start_22 : decode cX9_start 22 = .ok (.iconst (-1), 1) := by decide +kernel
theorem dX9_start_23 : decode cX9_start 23 = .ok (.ireturn, 1) := by decide +kernel
theorem dX9_stop_0 : decode cX9_stop 0 = .ok (.iload_n 1, 1) := by decide +kernel
theorem dX9_stop_1 : decode cX9_stop 1 = .ok (.ifCond .lt 21, 3) := by decide +kernel
theorem dX9_stop_4 : decode cX9_stop 4 = .ok (.iload_n 1, 1) := by decide +kernel
theorem dX9_stop_5 : decode cX9_stop 5 = .ok (.aload_n 0, 1) := by decide +kernel
theorem dX9_stop_6 : decode cX9_stop 6 = .ok (.getfield 24, 3) := by decide +kernel
theorem dX9_stop_9 : decode cX9_stop 9 = .ok (.arraylength, 1) := by decide +kernel
theorem dX9_stop_10 : decode cX9_stop 10 = .ok (.if_icmp .ge 12, 3) := by decide +kernel
theorem dX9_stop_13 : decode cX9_stop 13 = .ok (.aload_n 0, 1) := by decide +kernel
theorem dX9_stop_14 : decode cX9_stop 14 = .ok (.getfield 24, 3) := by decide +kernel
theorem dX9_stop_17 : decode cX9_stop 17 = .ok (.iload_n 1, 1) := by decide +kernel
theorem dX9_stop_18 : decode cX9_stop 18 = .ok (.iaload, 1) := by decide +kernel
theorem dX9_stop_19 : decode cX9_stop 19 = .ok (.goto 4, 3) := by decide +kernel
theorem dX9_stop_22 : decode cX9_stop 22 = .ok (.iconst (-1), 1) := by decide +kernel
theorem dX9_stop_23 : decode cX9_stop 23 = .ok (.ireturn, 1) := by decide +kernel
theorem dX9_isKnown_0 : decode cX9_isKnown 0 = .ok (.iload_n 1, 1) := by decide +kernel
theorem dX9_isKnown_1 : decode cX9_isKnown 1 = .ok (.ifCond .lt 34, 3) := by decide +kernel
theorem dX9_isKnown_4 : decode cX9_isKnown 4 = .ok (.iload_n 1, 1) := by decide +kernel
theorem dX9_isKnown_5 : decode cX9_isKnown 5 = .ok (.aload_n 0, 1) := by decide +kernel
theorem dX9_isKnown_6 : decode cX9_isKnown 6 = .ok (.getfield 30, 3) := by decide +kernel
theorem dX9_isKnown_9 : decode cX9_isKnown 9 = .ok (.if_icmp .ge 26, 3) := by decide +kernel
theorem dX9_isKnown_12 : decode cX9_isKnown 12 = .ok (.iload_n 1, 1) := by decide +kernel
theorem dX9_isKnown_13 : decode cX9_isKnown 13 = .ok (.aload_n 0, 1) := by decide +kernel
theorem dX9_isKnown_14 : decode cX9_isKnown 14 = .ok (.getfield 27, 3) := by decide +kernel
theorem dX9_isKnown_17 : decode cX9_isKnown 17 = .ok (.arraylength, 1) := by decide +kernel
theorem dX9_isKnown_18 : decode cX9_isKnown 18 = .ok (.if_icmp .ge 17, 3) := by decide +kernel
theorem dX9_isKnown_21 : decode cX9_isKnown 21 = .ok (.aload_n 0, 1) := by decide +kernel
theorem dX9_isKnown_22 : decode cX9_isKnown 22 = .ok (.getfield 27, 3) := by decide +kernel
theorem dX9_isKnown_25 : decode cX9_isKnown 25 = .ok (.iload_n 1, 1) := by decide +kernel
theorem dX9_isKnown_26 : decode cX9_isKnown 26 = .ok (.iaload, 1) := by decide +kernel
theorem dX9_isKnown_27 : decode cX9_isKnown 27 = .ok (.iload_n 2, 1) := by decide +kernel
theorem dX9_isKnown_28 : decode cX9_isKnown 28 = .ok (.if_icmp .gt 7, 3) := by decide +kernel
theorem dX9_isKnown_31 : decode cX9_isKnown 31 = .ok (.iconst 1, 1) := by decide +kernel
theorem dX9_isKnown_32 : decode cX9_isKnown 32 = .ok (.goto 4, 3) := by decide +kernel
theorem dX9_isKnown_35 : decode cX9_isKnown 35 = .ok (.iconst 0, 1) := by decide +kernel
theorem dX9_isKnown_36 : decode cX9_isKnown 36 = .ok (.ireturn, 1) := by decide +kernel
theorem dX9_covers_0 : decode cX9_covers 0 = .ok (.iload_n 1, 1) := by decide +kernel
theorem dX9_covers_1 : decode cX9_covers 1 = .ok (.ifCond .lt 63, 3) := by decide +kernel
theorem dX9_covers_4 : decode cX9_covers 4 = .ok (.iload_n 1, 1) := by decide +kernel
theorem dX9_covers_5 : decode cX9_covers 5 = .ok (.aload_n 0, 1) := by decide +kernel
theorem dX9_covers_6 : decode cX9_covers 6 = .ok (.getfield 30, 3) := by decide +kernel
theorem dX9_covers_9 : decode cX9_covers 9 = .ok (.if_icmp .ge 55, 3) := by decide +kernel
theorem dX9_covers_12 : decode cX9_covers 12 = .ok (.iload_n 1, 1) := by decide +kernel
theorem dX9_covers_13 : decode cX9_covers 13 = .ok (.aload_n 0, 1) := by decide +kernel
theorem dX9_covers_14 : decode cX9_covers 14 = .ok (.getfield 21, 3) := by decide +kernel
theorem dX9_covers_17 : decode cX9_covers 17 = .ok (.arraylength, 1) := by decide +kernel
theorem dX9_covers_18 : decode cX9_covers 18 = .ok (.if_icmp .ge 46, 3) := by decide +kernel
theorem dX9_covers_21 : decode cX9_covers 21 = .ok (.iload_n 1, 1) := by decide +kernel
theorem dX9_covers_22 : decode cX9_covers 22 = .ok (.aload_n 0, 1) := by decide +kernel
theorem dX9_covers_23 : decode cX9_covers 23 = .ok (.getfield 24, 3) := by decide +kernel
theorem dX9_covers_26 : decode cX9_covers 26 = .ok (.arraylength, 1) := by decide +kernel
theorem dX9_covers_27 : decode cX9_covers 27 = .ok (.if_icmp .ge 37, 3) := by decide +kernel
theorem dX9_covers_30 : decode cX9_covers 30 = .ok (.aload_n 0, 1) := by decide +kernel
theorem dX9_covers_31 : decode cX9_covers 31 = .ok (.getfield 21, 3) := by decide +kernel
theorem dX9_covers_34 : decode cX9_covers 34 = .ok (.iload_n 1, 1) := by decide +kernel
theorem dX9_covers_35 : decode cX9_covers 35 = .ok (.iaload, 1) := by decide +kernel
theorem dX9_covers_36 : decode cX9_covers 36 = .ok (.iload_n 2, 1) := by decide +kernel
theorem dX9_covers_37 : decode cX9_covers 37 = .ok (.if_icmp .gt 27, 3) := by decide +kernel
theorem dX9_covers_40 : decode cX9_covers 40 = .ok (.aload_n 0, 1) := by decide +kernel
theorem dX9_covers_41 : decode cX9_covers 41 = .ok (.getfield 24, 3) := by decide +kernel
theorem dX9_covers_44 : decode cX9_covers 44 = .ok (.iload_n 1, 1) := by decide +kernel
theorem dX9_covers_45 : decode cX9_covers 45 = .ok (.iaload, 1) := by decide +kernel
theorem dX9_covers_46 : decode cX9_covers 46 = .ok (.iconst (-1), 1) := by decide +kernel
theorem dX9_covers_47 : decode cX9_covers 47 = .ok (.if_icmp .eq 13, 3) := by decide +kernel
theorem dX9_covers_50 : decode cX9_covers 50 = .ok (.iload_n 2, 1) := by decide +kernel
theorem dX9_covers_51 : decode cX9_covers 51 = .ok (.aload_n 0, 1) := by decide +kernel
theorem dX9_covers_52 : decode cX9_covers 52 = .ok (.getfield 24, 3) := by decide +kernel
theorem dX9_covers_55 : decode cX9_covers 55 = .ok (.iload_n 1, 1) := by decide +kernel
theorem dX9_covers_56 : decode cX9_covers 56 = .ok (.iaload, 1) := by decide +kernel
theorem dX9_covers_57 : decode cX9_covers 57 = .ok (.if_icmp .ge 7, 3) := by decide +kernel
theorem dX9_covers_60 : decode cX9_covers 60 = .ok (.iconst 1, 1) := by decide +kernel
theorem dX9_covers_61 : decode cX9_covers 61 = .ok (.goto 4, 3) := by decide +kernel
theorem dX9_covers_64 : decode cX9_covers 64 = .ok (.iconst 0, 1) := by decide +kernel
theorem dX9_covers_65 : decode cX9_covers 65 = .ok (.ireturn, 1) := by decide +kernel
theorem dX10_init_0 : decode cX10_init 0 = .ok (.aload_n 0, 1) := by decide +kernel
theorem dX10_init_1 : decode cX10_init 1 = .ok (.invokespecial 3, 3) := by decide +kernel
theorem dX10_init_4 : decode cX10_init 4 = .ok (.return_, 1) := by decide +kernel
theorem dX10_open_0 : decode cX10_open 0 = .ok (.aload_n 0, 1) := by decide +kernel
theorem dX10_open_1 : decode cX10_open 1 = .ok (.aload_n 1, 1) := by decide +kernel
theorem dX10_open_2 : decode cX10_open 2 = .ok (.putfield 9, 3) := by decide +kernel
theorem dX10_open_5 : decode cX10_open 5 = .ok (.aload_n 0, 1) := by decide +kernel
theorem dX10_open_6 : decode cX10_open 6 = .ok (.aload_n 1, 1) := by decide +kernel
theorem dX10_open_7 : decode cX10_open 7 = .ok (.ifnonnull 7, 3) := by decide +kernel
theorem dX10_open_10 : decode cX10_open 10 = .ok (.iconst 0, 1) := by decide +kernel
theorem dX10_open_11 : decode cX10_open 11 = .ok (.goto 13, 3) := by decide +kernel
theorem dX10_open_14 : decode cX10_open 14 = .ok (.iconst 0, 1) := by decide +kernel
theorem dX10_open_15 : decode cX10_open 15 = .ok (.iload_n 2, 1) := by decide +kernel
theorem dX10_open_16 : decode cX10_open 16 = .ok (.aload_n 1, 1) := by decide +kernel
theorem dX10_open_17 : decode cX10_open 17 = .ok (.arraylength, 1) := by decide +kernel
theorem dX10_open_18 : decode cX10_open 18 = .ok (.invokestatic 15, 3) := by decide +kernel
theorem dX10_open_21 : decode cX10_open 21 = .ok (.invokestatic 21, 3) := by decide +kernel
theorem dX10_open_24 : decode cX10_open 24 = .ok (.putfield 24, 3) := by decide +kernel
theorem dX10_open_27 : decode cX10_open 27 = .ok (.aload_n 0, 1) := by decide +kernel
theorem dX10_open_28 : decode cX10_open 28 = .ok (.aload_n 0, 1) := by decide +kernel
theorem dX10_open_29 : decode cX10_open 29 = .ok (.getfield 24, 3) := by decide +kernel
theorem dX10_open_32 : decode cX10_open 32 = .ok (.sipush 500, 3) := by decide +kernel
theorem dX10_open_35 : decode cX10_open 35 = .ok (.invokestatic 15, 3) := by decide +kernel
theorem dX10_open_38 : decode cX10_open 38 = .ok (.putfield 28, 3) := by decide +kernel
theorem dX10_open_41 : decode cX10_open 41 = .ok (.aload_n 0, 1) := by decide +kernel
theorem dX10_open_42 : decode cX10_open 42 = .ok (.iconst 0, 1) := by decide +kernel
theorem dX10_open_43 : decode cX10_open 43 = .ok (.putfield 31, 3) := by decide +kernel
theorem dX10_open_46 : decode cX10_open 46 = .ok (.return_, 1) := by decide +kernel
theorem dX10_kind_0 : decode cX10_kind 0 = .ok (.aload_n 0, 1) := by decide +kernel
theorem dX10_kind_1 : decode cX10_kind 1 = .ok (.getfield 34, 3) := by decide +kernel
theorem dX10_kind_4 : decode cX10_kind 4 = .ok (.ireturn, 1) := by decide +kernel
theorem dX10_value_0 : decode cX10_value 0 = .ok (.aload_n 0, 1) := by decide +kernel
theorem dX10_value_1 : decode cX10_value 1 = .ok (.getfield 37, 3) := by decide +kernel
theorem dX10_value_4 : decode cX10_value 4 = .ok (.ireturn, 1) := by decide +kernel
theorem dX10_place_0 : decode cX10_place 0 = .ok (.aload_n 0, 1) := by decide +kernel
theorem dX10_place_1 : decode cX10_place 1 = .ok (.getfield 40, 3) := by decide +kernel
theorem dX10_place_4 : decode cX10_place 4 = .ok (.ireturn, 1) := by decide +kernel
theorem dX10_isCutOff_0 : decode cX10_isCutOff 0 = .ok (.aload_n 0, 1) := by decide +kernel
theorem dX10_isCutOff_1 : decode cX10_isCutOff 1 = .ok (.getfield 24, 3) := by decide +kernel
theorem dX10_isCutOff_4 : decode cX10_isCutOff 4 = .ok (.sipush 500, 3) := by decide +kernel
theorem dX10_isCutOff_7 : decode cX10_isCutOff 7 = .ok (.if_icmp .le 7, 3) := by decide +kernel
theorem dX10_isCutOff_10 : decode cX10_isCutOff 10 = .ok (.iconst 1, 1) := by decide +kernel
theorem dX10_isCutOff_11 : decode cX10_isCutOff 11 = .ok (.goto 4, 3) := by decide +kernel
theorem dX10_isCutOff_14 : decode cX10_isCutOff 14 = .ok (.iconst 0, 1) := by decide +kernel
theorem dX10_isCutOff_15 : decode cX10_isCutOff 15 = .ok (.ireturn, 1) := by decide +kernel
theorem dX10_byteAt_0 : decode cX10_byteAt 0 = .ok (.aload_n 0, 1) := by decide +kernel
theorem dX10_byteAt_1 : decode cX10_byteAt 1 = .ok (.getfield 9, 3) := by decide +kernel
theorem dX10_byteAt_4 : decode cX10_byteAt 4 = .ok (.ifnull 33, 3) := by decide +kernel
theorem dX10_byteAt_7 : decode cX10_byteAt 7 = .ok (.iload_n 1, 1) := by decide +kernel
theorem dX10_byteAt_8 : decode cX10_byteAt 8 = .ok (.ifCond .lt 29, 3) := by decide +kernel
theorem dX10_byteAt_11 : decode cX10_byteAt 11 = .ok (.iload_n 1, 1) := by decide +kernel
theorem dX10_byteAt_12 : decode cX10_byteAt 12 = .ok (.aload_n 0, 1) := by decide +kernel
theorem dX10_byteAt_13 : decode cX10_byteAt 13 = .ok (.getfield 24, 3) := by decide +kernel
theorem dX10_byteAt_16 : decode cX10_byteAt 16 = .ok (.if_icmp .ge 21, 3) := by decide +kernel
theorem dX10_byteAt_19 : decode cX10_byteAt 19 = .ok (.iload_n 1, 1) := by decide +kernel
theorem dX10_byteAt_20 : decode cX10_byteAt 20 = .ok (.aload_n 0, 1) := by decide +kernel
theorem dX10_byteAt_21 : decode cX10_byteAt 21 = .ok (.getfield 9, 3) := by decide +kernel
theorem dX10_byteAt_24 : decode cX10_byteAt 24 = .ok (.arraylength, 1) := by decide +kernel
theorem dX10_byteAt_25 : decode cX10_byteAt 25 = .ok (.if_icmp .ge 12, 3) := by decide +kernel
theorem dX10_byteAt_28 : decode cX10_byteAt 28 = .ok (.aload_n 0, 1) := by decide +kernel
theorem dX10_byteAt_29 : decode cX10_byteAt 29 = .ok (.getfield 9, 3) := by decide +kernel
theorem dX10_byteAt_32 : decode cX10_byteAt 32 = .ok (.iload_n 1, 1) := by decide +kernel
theorem dX10_byteAt_33 : decode cX10_byteAt 33 = .ok (.iaload, 1) := by decide +kernel
theorem dX10_byteAt_34 : decode cX10_byteAt 34 = .ok (.goto 4, 3) := by decide +kernel
theorem dX10_byteAt_37 : decode cX10_byteAt 37 = .ok (.iconst (-1), 1) := by decide +kernel
theorem dX10_byteAt_38 : decode cX10_byteAt 38 = .ok (.ireturn, 1) := by decide +kernel
theorem dX10_advance_0 : decode cX10_advance 0 = .ok (.aload_n 0, 1) := by decide +kernel
theorem dX10_advance_1 : decode cX10_advance 1 = .ok (.aload_n 0, 1) := by decide +kernel
theorem dX10_advance_2 : decode cX10_advance 2 = .ok (.getfield 31, 3) := by decide +kernel
theorem dX10_advance_5 : decode cX10_advance 5 = .ok (.putfield 40, 3) := by decide +kernel
theorem dX10_advance_8 : decode cX10_advance 8 = .ok (.aload_n 0, 1) := by decide +kernel
theorem dX10_advance_9 : decode cX10_advance 9 = .ok (.getfield 40, 3) := by decide +kernel
theorem dX10_advance_12 : decode cX10_advance 12 = .ok (.aload_n 0, 1) := by decide +kernel
theorem dX10_advance_13 : decode cX10_advance 13 = .ok (.getfield 28, 3) := by decide +kernel
theorem dX10_advance_16 : decode cX10_advance 16 = .ok (.if_icmp .ge 30, 3) := by decide +kernel
theorem dX10_advance_19 : decode cX10_advance 19 = .ok (.aload_n 0, 1) := by decide +kernel
theorem dX10_advance_20 : decode cX10_advance 20 = .ok (.aload_n 0, 1) := by decide +kernel
theorem dX10_advance_21 : decode cX10_advance 21 = .ok (.getfield 40, 3) := by decide +kernel
theorem dX10_advance_24 : decode cX10_advance 24 = .ok (.invokevirtual 43, 3) := by decide +kernel
theorem dX10_advance_27 : decode cX10_advance 27 = .ok (.invokestatic 47, 3) := by decide +kernel
theorem dX10_advance_30 : decode cX10_advance 30 = .ok (.ifCond .eq 16, 3) := by decide +kernel
theorem dX10_advance_33 : decode cX10_advance 33 = .ok (.aload_n 0, 1) := by decide +kernel
theorem dX10_advance_34 : decode cX10_advance 34 = .ok (.dup, 1) := by decide +kernel
theorem dX10_advance_35 : decode cX10_advance 35 = .ok (.getfield 40, 3) := by decide +kernel
theorem dX10_advance_38 : decode cX10_advance 38 = .ok (.iconst 1, 1) := by decide +kernel
theorem dX10_advance_39 : decode cX10_advance 39 = .ok (.iadd, 1) := by decide +kernel
theorem dX10_advance_40 : decode cX10_advance 40 = .ok (.putfield 40, 3) := by decide +kernel
theorem dX10_advance_43 : decode cX10_advance 43 = .ok (.goto (-35), 3) := by decide +kernel
theorem dX10_advance_46 : decode cX10_advance 46 = .ok (.aload_n 0, 1) := by decide +kernel
theorem dX10_advance_47 : decode cX10_advance 47 = .ok (.aload_n 0, 1) := by decide +kernel
theorem dX10_advance_48 : decode cX10_advance 48 = .ok (.getfield 40, 3) := by decide +kernel
theorem dX10_advance_51 : decode cX10_advance 51 = .ok (.putfield 31, 3) := by decide +kernel
theorem dX10_advance_54 : decode cX10_advance 54 = .ok (.aload_n 0, 1) := by decide +kernel
theorem dX10_advance_55 : decode cX10_advance 55 = .ok (.iconst (-1), 1) := by decide +kernel
theorem dX10_advance_56 : decode cX10_advance 56 = .ok (.putfield 37, 3) := by decide +kernel
theorem dX10_advance_59 : decode cX10_advance 59 = .ok (.aload_n 0, 1) := by decide +kernel
theorem dX10_advance_60 : decode cX10_advance 60 = .ok (.getfield 40, 3) := by decide +kernel
theorem dX10_advance_63 : decode cX10_advance 63 = .ok (.aload_n 0, 1) := by decide +kernel
theorem dX10_advance_64 : decode cX10_advance 64 = .ok (.getfield 28, 3) := by decide +kernel
theorem dX10_advance_67 : decode cX10_advance 67 = .ok (.if_icmp .lt 27, 3) := by decide +kernel
theorem dX10_advance_70 : decode cX10_advance 70 = .ok (.aload_n 0, 1) := by decide +kernel
theorem dX10_advance_71 : decode cX10_advance 71 = .ok (.aload_n 0, 1) := by decide +kernel
theorem dX10_advance_72 : decode cX10_advance 72 = .ok (.getfield 28, 3) := by decide +kernel
theorem dX10_advance_75 : decode cX10_advance 75 = .ok (.putfield 40, 3) := by decide +kernel
theorem dX10_advance_78 : decode cX10_advance 78 = .ok (.aload_n 0, 1) := by decide +kernel
theorem dX10_advance_79 : decode cX10_advance 79 = .ok (.aload_n 0, 1) := by decide +kernel
theorem dX10_advance_80 : decode cX10_advance 80 = .ok (.getfield 28, 3) := by decide +kernel
theorem dX10_advance_83 : decode cX10_advance 83 = .ok (.putfield 31, 3) := by decide +kernel
theorem dX10_advance_86 : decode cX10_advance 86 = .ok (.aload_n 0, 1) := by decide +kernel
theorem dX10_advance_87 : decode cX10_advance 87 = .ok (.iconst 0, 1) := by decide +kernel
theorem dX10_advance_88 : decode cX10_advance 88 = .ok (.putfield 34, 3) := by decide +kernel
theorem dX10_advance_91 : decode cX10_advance 91 = .ok (.goto 64, 3) := by decide +kernel
theorem dX10_advance_94 : decode cX10_advance 94 = .ok (.aload_n 0, 1) := by decide +kernel
theorem dX10_advance_95 : decode cX10_advance 95 = .ok (.aload_n 0, 1) := by decide +kernel
theorem dX10_advance_96 : decode cX10_advance 96 = .ok (.getfield 40, 3) := by decide +kernel
theorem dX10_advance_99 : decode cX10_advance 99 = .ok (.invokevirtual 43, 3) := by decide +kernel
theorem dX10_advance_102 : decode cX10_advance 102 = .ok (.invokestatic 51, 3) := by decide +kernel
theorem dX10_advance_105 : decode cX10_advance 105 = .ok (.ifCond .eq 10, 3) := by decide +kernel
theorem dX10_advance_108 : decode cX10_advance 108 = .ok (.aload_n 0, 1) := by decide +kernel
theorem dX10_advance_109 : decode cX10_advance 109 = .ok (.invokevirtual 54, 3) := by decide +kernel
theorem dX10_advance_112 : decode cX10_advance 112 = .ok (.goto 43, 3) := by decide +kernel
theorem dX10_advance_115 : decode cX10_advance 115 = .ok (.aload_n 0, 1) := by decide +kernel
theorem dX10_advance_116 : decode cX10_advance 116 = .ok (.aload_n 0, 1) := by decide +kernel
theorem dX10_advance_117 : decode cX10_advance 117 = .ok (.getfield 40, 3) := by decide +kernel
theorem dX10_advance_120 : decode cX10_advance 120 = .ok (.iconst 1, 1) := by decide +kernel
theorem dX10_advance_121 : decode cX10_advance 121 = .ok (.iadd, 1) := by decide +kernel
theorem dX10_advance_122 : decode cX10_advance 122 = .ok (.putfield 31, 3) := by decide +kernel
theorem dX10_advance_125 : decode cX10_advance 125 = .ok (.aload_n 0, 1) := by decide +kernel
theorem dX10_advance_126 : decode cX10_advance 126 = .ok (.aload_n 0, 1) := by decide +kernel
theorem dX10_advance_127 : decode cX10_advance 127 = .ok (.aload_n 0, 1) := by decide +kernel
theorem dX10_advance_128 : decode cX10_advance 128 = .ok (.getfield 40, 3) := by decide +kernel
theorem dX10_advance_131 : decode cX10_advance 131 = .ok (.invokevirtual 43, 3) := by decide +kernel
theorem dX10_advance_134 : decode cX10_advance 134 = .ok (.invokestatic 57, 3) := by decide +kernel
theorem dX10_advance_137 : decode cX10_advance 137 = .ok (.ifCond .eq 14, 3) := by decide +kernel
theorem dX10_advance_140 : decode cX10_advance 140 = .ok (.aload_n 0, 1) := by decide +kernel
theorem dX10_advance_141 : decode cX10_advance 141 = .ok (.aload_n 0, 1) := by decide +kernel
theorem dX10_advance_142 : decode cX10_advance 142 = .ok (.getfield 40, 3) := by decide +kernel
theorem dX10_advance_145 : decode cX10_advance 145 = .ok (.invokevirtual 43, 3) := by decide +kernel
theorem dX10_advance_148 : decode cX10_advance 148 = .ok (.goto 4, 3) := by decide +kernel
theorem dX10_advance_151 : decode cX10_advance 151 = .ok (.iconst 1, 1) := by decide +kernel
theorem dX10_advance_152 : decode cX10_advance 152 = .ok (.putfield 34, 3) := by decide +kernel
theorem dX10_advance_155 : decode cX10_advance 155 = .ok (.return_, 1) := by decide +kernel
theorem dX10_isBlank_0 : decode cX10_isBlank 0 = .ok (.iload_n 0, 1) := by decide +kernel
theorem dX10_isBlank_1 : decode cX10_isBlank 1 = .ok (.bipush 32, 2) := by decide +kernel
theorem dX10_isBlank_3 : decode cX10_isBlank 3 = .ok (.if_icmp .eq 9, 3) := by decide +kernel
theorem dX10_isBlank_6 : decode cX10_isBlank 6 = .ok (.iload_n 0, 1) := by decide +kernel
theorem dX10_isBlank_7 : decode cX10_isBlank 7 = .ok (.bipush 10, 2) := by decide +kernel
theorem dX10_isBlank_9 : decode cX10_isBlank 9 = .ok (.if_icmp .ne 7, 3) := by decide +kernel
theorem dX10_isBlank_12 : decode cX10_isBlank 12 = .ok (.iconst 1, 1) := by decide +kernel
theorem dX10_isBlank_13 : decode cX10_isBlank 13 = .ok (.goto 4, 3) := by decide +kernel
theorem dX10_isBlank_16 : decode cX10_isBlank 16 = .ok (.iconst 0, 1) := by decide +kernel
theorem dX10_isBlank_17 : decode cX10_isBlank 17 = .ok (.ireturn, 1) := by decide +kernel
theorem dX10_isSign_0 : decode cX10_isSign 0 = .ok (.iload_n 0, 1) := by decide +kernel
theorem dX10_isSign_1 : decode cX10_isSign 1 = .ok (.bipush 59, 2) := by decide +kernel
theorem dX10_isSign_3 : decode cX10_isSign 3 = .ok (.if_icmp .eq 33, 3) := by decide +kernel
theorem dX10_isSign_6 : decode cX10_isSign 6 = .ok (.iload_n 0, 1) := by decide +kernel
theorem dX10_isSign_7 : decode cX10_isSign 7 = .ok (.bipush 40, 2) := by decide +kernel
theorem dX10_isSign_9 : decode cX10_isSign 9 = .ok (.if_icmp .eq 27, 3) := by decide +kernel
theorem dX10_isSign_12 : decode cX10_isSign 12 = .ok (.iload_n 0, 1) := by decide +kernel
theorem dX10_isSign_13 : decode cX10_isSign 13 = .ok (.bipush 41, 2) := by decide +kernel
theorem dX10_isSign_15 : decode cX10_isSign 15 = .ok (.if_icmp .eq 21, 3) := by decide +kernel
theorem dX10_isSign_18 : decode cX10_isSign 18 = .ok (.iload_n 0, 1) := by decide +kernel
theorem dX10_isSign_19 : decode cX10_isSign 19 = .ok (.bipush 60, 2) := by decide +kernel
theorem dX10_isSign_21 : decode cX10_isSign 21 = .ok (.if_icmp .eq 15, 3) := by decide +kernel
theorem dX10_isSign_24 : decode cX10_isSign 24 = .ok (.iload_n 0, 1) := by decide +kernel
theorem dX10_isSign_25 : decode cX10_isSign 25 = .ok (.bipush 61, 2) := by decide +kernel
theorem dX10_isSign_27 : decode cX10_isSign 27 = .ok (.if_icmp .eq 9, 3) := by decide +kernel
theorem dX10_isSign_30 : decode cX10_isSign 30 = .ok (.iload_n 0, 1) := by decide +kernel
theorem dX10_isSign_31 : decode cX10_isSign 31 = .ok (.bipush 62, 2) := by decide +kernel
theorem dX10_isSign_33 : decode cX10_isSign 33 = .ok (.if_icmp .ne 7, 3) := by decide +kernel
theorem dX10_isSign_36 : decode cX10_isSign 36 = .ok (.iconst 1, 1) := by decide +kernel
theorem dX10_isSign_37 : decode cX10_isSign 37 = .ok (.goto 4, 3) := by decide +kernel
theorem dX10_isSign_40 : decode cX10_isSign 40 = .ok (.iconst 0, 1) := by decide +kernel
theorem dX10_isSign_41 : decode cX10_isSign 41 = .ok (.ireturn, 1) := by decide +kernel
theorem dX10_isLetter_0 : decode cX10_isLetter 0 = .ok (.iload_n 0, 1) := by decide +kernel
theorem dX10_isLetter_1 : decode cX10_isLetter 1 = .ok (.bipush 97, 2) := by decide +kernel
theorem dX10_isLetter_3 : decode cX10_isLetter 3 = .ok (.if_icmp .lt 13, 3) := by decide +kernel
theorem dX10_isLetter_6 : decode cX10_isLetter 6 = .ok (.iload_n 0, 1) := by decide +kernel
theorem dX10_isLetter_7 : decode cX10_isLetter 7 = .ok (.bipush 122, 2) := by decide +kernel
theorem dX10_isLetter_9 : decode cX10_isLetter 9 = .ok (.if_icmp .gt 7, 3) := by decide +kernel
theorem dX10_isLetter_12 : decode cX10_isLetter 12 = .ok (.iconst 1, 1) := by decide +kernel
theorem dX10_isLetter_13 : decode cX10_isLetter 13 = .ok (.goto 4, 3) := by decide +kernel
theorem dX10_isLetter_16 : decode cX10_isLetter 16 = .ok (.iconst 0, 1) := by decide +kernel
theorem dX10_isLetter_17 : decode cX10_isLetter 17 = .ok (.ireturn, 1) := by decide +kernel
theorem dX10_isDigit_0 : decode cX10_isDigit 0 = .ok (.iload_n 0, 1) := by decide +kernel
theorem dX10_isDigit_1 : decode cX10_isDigit 1 = .ok (.bipush 48, 2) := by decide +kernel
theorem dX10_isDigit_3 : decode cX10_isDigit 3 = .ok (.if_icmp .lt 13, 3) := by decide +kernel
theorem dX10_isDigit_6 : decode cX10_isDigit 6 = .ok (.iload_n 0, 1) := by decide +kernel
theorem dX10_isDigit_7 : decode cX10_isDigit 7 = .ok (.bipush 57, 2) := by decide +kernel
theorem dX10_isDigit_9 : decode cX10_isDigit 9 = .ok (.if_icmp .gt 7, 3) := by decide +kernel
theorem dX10_isDigit_12 : decode cX10_isDigit 12 = .ok (.iconst 1, 1) := by decide +kernel
theorem dX10_isDigit_13 : decode cX10_isDigit 13 = .ok (.goto 4, 3) := by decide +kernel
theorem dX10_isDigit_16 : decode cX10_isDigit 16 = .ok (.iconst 0, 1) := by decide +kernel
theorem dX10_isDigit_17 : decode cX10_isDigit 17 = .ok (.ireturn, 1) := by decide +kernel
theorem dX10_isPlain_0 : decode cX10_isPlain 0 = .ok (.iload_n 0, 1) := by decide +kernel
theorem dX10_isPlain_1 : decode cX10_isPlain 1 = .ok (.invokestatic 60, 3) := by decide +kernel
theorem dX10_isPlain_4 : decode cX10_isPlain 4 = .ok (.ifCond .ne 10, 3) := by decide +kernel
theorem dX10_isPlain_7 : decode cX10_isPlain 7 = .ok (.iload_n 0, 1) := by decide +kernel
theorem dX10_isPlain_8 : decode cX10_isPlain 8 = .ok (.invokestatic 63, 3) := by decide +kernel
theorem dX10_isPlain_11 : decode cX10_isPlain 11 = .ok (.ifCond .eq 7, 3) := by decide +kernel
theorem dX10_isPlain_14 : decode cX10_isPlain 14 = .ok (.iconst 1, 1) := by decide +kernel
theorem dX10_isPlain_15 : decode cX10_isPlain 15 = .ok (.goto 4, 3) := by decide +kernel
theorem dX10_isPlain_18 : decode cX10_isPlain 18 = .ok (.iconst 0, 1) := by decide +kernel
theorem dX10_isPlain_19 : decode cX10_isPlain 19 = .ok (.ireturn, 1) := by decide +kernel
theorem dX10_takeRun_0 : decode cX10_takeRun 0 = .ok (.iconst 0, 1) := by decide +kernel
theorem dX10_takeRun_1 : decode cX10_takeRun 1 = .ok (.istore_n 1, 1) := by decide +kernel
theorem dX10_takeRun_2 : decode cX10_takeRun 2 = .ok (.iconst 0, 1) := by decide +kernel
theorem dX10_takeRun_3 : decode cX10_takeRun 3 = .ok (.istore_n 2, 1) := by decide +kernel
theorem dX10_takeRun_4 : decode cX10_takeRun 4 = .ok (.iconst 0, 1) := by decide +kernel
theorem dX10_takeRun_5 : decode cX10_takeRun 5 = .ok (.istore_n 3, 1) := by decide +kernel
theorem dX10_takeRun_6 : decode cX10_takeRun 6 = .ok (.aload_n 0, 1) := by decide +kernel
theorem dX10_takeRun_7 : decode cX10_takeRun 7 = .ok (.getfield 31, 3) := by decide +kernel
theorem dX10_takeRun_10 : decode cX10_takeRun 10 = .ok (.aload_n 0, 1) := by decide +kernel
theorem dX10_takeRun_11 : decode cX10_takeRun 11 = .ok (.getfield 24, 3) := by decide +kernel
theorem dX10_takeRun_14 : decode cX10_takeRun 14 = .ok (.if_icmp .ge 80, 3) := by decide +kernel
theorem dX10_takeRun_17 : decode cX10_takeRun 17 = .ok (.aload_n 0, 1) := by decide +kernel
theorem dX10_takeRun_18 : decode cX10_takeRun 18 = .ok (.aload_n 0, 1) := by decide +kernel
theorem dX10_takeRun_19 : decode cX10_takeRun 19 = .ok (.getfield 31, 3) := by decide +kernel
theorem dX10_takeRun_22 : decode cX10_takeRun 22 = .ok (.invokevirtual 43, 3) := by decide +kernel
theorem dX10_takeRun_25 : decode cX10_takeRun 25 = .ok (.invokestatic 51, 3) := by decide +kernel
theorem dX10_takeRun_28 : decode cX10_takeRun 28 = .ok (.ifCond .eq 66, 3) := by decide +kernel
theorem dX10_takeRun_31 : decode cX10_takeRun 31 = .ok (.aload_n 0, 1) := by decide +kernel
theorem dX10_takeRun_32 : decode cX10_takeRun 32 = .ok (.aload_n 0, 1) := by decide +kernel
theorem dX10_takeRun_33 : decode cX10_takeRun 33 = .ok (.getfield 31, 3) := by decide +kernel
theorem dX10_takeRun_36 : decode cX10_takeRun 36 = .ok (.invokevirtual 43, 3) := by decide +kernel
theorem dX10_takeRun_39 : decode cX10_takeRun 39 = .ok (.invokestatic 60, 3) := by decide +kernel
theorem dX10_takeRun_42 : decode cX10_takeRun 42 = .ok (.ifCond .eq 9, 3) := by decide +kernel
theorem dX10_takeRun_45 : decode cX10_takeRun 45 = .ok (.iinc 1 1, 3) := by decide +kernel
theorem dX10_takeRun_48 : decode cX10_takeRun 48 = .ok (.goto 33, 3) := by decide +kernel
theorem dX10_takeRun_51 : decode cX10_takeRun 51 = .ok (.iinc 2 1, 3) := by decide +kernel
theorem dX10_takeRun_54 : decode cX10_takeRun 54 = .ok (.iload_n 2, 1) := by decide +kernel
theorem dX10_takeRun_55 : decode cX10_takeRun 55 = .ok (.bipush 7, 2) := by decide +kernel
theorem dX10_takeRun_57 : decode cX10_takeRun 57 = .ok (.if_icmp .gt 22, 3) := by decide +kernel
theorem dX10_takeRun_60 : decode cX10_takeRun 60 = .ok (.iload_n 3, 1) := by decide +kernel
theorem dX10_takeRun_61 : decode cX10_takeRun 61 = .ok (.bipush 10, 2) := by decide +kernel
theorem dX10_takeRun_63 : decode cX10_takeRun 63 = .ok (.imul, 1) := by decide +kernel
theorem dX10_takeRun_64 : decode cX10_takeRun 64 = .ok (.aload_n 0, 1) := by decide +kernel
theorem dX10_takeRun_65 : decode cX10_takeRun 65 = .ok (.aload_n 0, 1) := by decide +kernel
theorem dX10_takeRun_66 : decode cX10_takeRun 66 = .ok (.getfield 31, 3) := by decide +kernel
theorem dX10_takeRun_69 : decode cX10_takeRun 69 = .ok (.invokevirtual 43, 3) := by decide +kernel
theorem dX10_takeRun_72 : decode cX10_takeRun 72 = .ok (.iadd, 1) := by decide +kernel
theorem dX10_takeRun_73 : decode cX10_takeRun 73 = .ok (.bipush 48, 2) := by decide +kernel
theorem dX10_takeRun_75 : decode cX10_takeRun 75 = .ok (.isub, 1) := by decide +kernel
theorem dX10_takeRun_76 : decode cX10_takeRun 76 = .ok (.goto 4, 3) := by decide +kernel
theorem dX10_takeRun_79 : decode cX10_takeRun 79 = .ok (.iload_n 3, 1) := by decide +kernel
theorem dX10_takeRun_80 : decode cX10_takeRun 80 = .ok (.istore_n 3, 1) := by decide +kernel
theorem dX10_takeRun_81 : decode cX10_takeRun 81 = .ok (.aload_n 0, 1) := by decide +kernel
theorem dX10_takeRun_82 : decode cX10_takeRun 82 = .ok (.dup, 1) := by decide +kernel
theorem dX10_takeRun_83 : decode cX10_takeRun 83 = .ok (.getfield 31, 3) := by decide +kernel
theorem dX10_takeRun_86 : decode cX10_takeRun 86 = .ok (.iconst 1, 1) := by decide +kernel
theorem dX10_takeRun_87 : decode cX10_takeRun 87 = .ok (.iadd, 1) := by decide +kernel
theorem dX10_takeRun_88 : decode cX10_takeRun 88 = .ok (.putfield 31, 3) := by decide +kernel
theorem dX10_takeRun_91 : decode cX10_takeRun 91 = .ok (.goto (-85), 3) := by decide +kernel
theorem dX10_takeRun_94 : decode cX10_takeRun 94 = .ok (.iload_n 2, 1) := by decide +kernel
theorem dX10_takeRun_95 : decode cX10_takeRun 95 = .ok (.ifCond .ne 24, 3) := by decide +kernel
theorem dX10_takeRun_98 : decode cX10_takeRun 98 = .ok (.aload_n 0, 1) := by decide +kernel
theorem dX10_takeRun_99 : decode cX10_takeRun 99 = .ok (.iconst 2, 1) := by decide +kernel
theorem dX10_takeRun_100 : decode cX10_takeRun 100 = .ok (.putfield 34, 3) := by decide +kernel
theorem dX10_takeRun_103 : decode cX10_takeRun 103 = .ok (.aload_n 0, 1) := by decide +kernel
theorem dX10_takeRun_104 : decode cX10_takeRun 104 = .ok (.aload_n 0, 1) := by decide +kernel
theorem dX10_takeRun_105 : decode cX10_takeRun 105 = .ok (.aload_n 0, 1) := by decide +kernel
theorem dX10_takeRun_106 : decode cX10_takeRun 106 = .ok (.getfield 40, 3) := by decide +kernel
theorem dX10_takeRun_109 : decode cX10_takeRun 109 = .ok (.iload_n 1, 1) := by decide +kernel
theorem dX10_takeRun_110 : decode cX10_takeRun 110 = .ok (.invokevirtual 66, 3) := by decide +kernel
theorem dX10_takeRun_113 : decode cX10_takeRun 113 = .ok (.putfield 37, 3) := by decide +kernel
theorem dX10_takeRun_116 : decode cX10_takeRun 116 = .ok (.goto 31, 3) := by decide +kernel
theorem dX10_takeRun_119 : decode cX10_takeRun 119 = .ok (.iload_n 1, 1) := by decide +kernel
theorem dX10_takeRun_120 : decode cX10_takeRun 120 = .ok (.ifCond .ne 22, 3) := by decide +kernel
theorem dX10_takeRun_123 : decode cX10_takeRun 123 = .ok (.iload_n 2, 1) := by decide +kernel
theorem dX10_takeRun_124 : decode cX10_takeRun 124 = .ok (.bipush 7, 2) := by decide +kernel
theorem dX10_takeRun_126 : decode cX10_takeRun 126 = .ok (.if_icmp .gt 16, 3) := by decide +kernel
theorem dX10_takeRun_129 : decode cX10_takeRun 129 = .ok (.aload_n 0, 1) := by decide +kernel
theorem dX10_takeRun_130 : decode cX10_takeRun 130 = .ok (.iconst 3, 1) := by decide +kernel
theorem dX10_takeRun_131 : decode cX10_takeRun 131 = .ok (.putfield 34, 3) := by decide +kernel
theorem dX10_takeRun_134 : decode cX10_takeRun 134 = .ok (.aload_n 0, 1) := by decide +kernel
theorem dX10_takeRun_135 : decode cX10_takeRun 135 = .ok (.iload_n 3, 1) := by decide +kernel
theorem dX10_takeRun_136 : decode cX10_takeRun 136 = .ok (.putfield 37, 3) := by decide +kernel
theorem dX10_takeRun_139 : decode cX10_takeRun 139 = .ok (.goto 8, 3) := by decide +kernel
theorem dX10_takeRun_142 : decode cX10_takeRun 142 = .ok (.aload_n 0, 1) := by decide +kernel
theorem dX10_takeRun_143 : decode cX10_takeRun 143 = .ok (.iconst 1, 1) := by decide +kernel
theorem dX10_takeRun_144 : decode cX10_takeRun 144 = .ok (.putfield 34, 3) := by decide +kernel
theorem dX10_takeRun_147 : decode cX10_takeRun 147 = .ok (.return_, 1) := by decide +kernel
theorem dX10_wordFrom_0 : decode cX10_wordFrom 0 = .ok (.iconst 0, 1) := by decide +kernel
theorem dX10_wordFrom_1 : decode cX10_wordFrom 1 = .ok (.istore_n 3, 1) := by decide +kernel
theorem dX10_wordFrom_2 : decode cX10_wordFrom 2 = .ok (.iconst 0, 1) := by decide +kernel
theorem dX10_wordFrom_3 : decode cX10_wordFrom 3 = .ok (.istore 4, 2) := by decide +kernel
theorem dX10_wordFrom_5 : decode cX10_wordFrom 5 = .ok (.iconst 0, 1) := by decide +kernel
theorem dX10_wordFrom_6 : decode cX10_wordFrom 6 = .ok (.istore 5, 2) := by decide +kernel
theorem dX10_wordFrom_8 : decode cX10_wordFrom 8 = .ok (.iload 5, 2) := by decide +kernel
theorem dX10_wordFrom_10 : decode cX10_wordFrom 10 = .ok (.ldc 69, 2) := by decide +kernel
theorem dX10_wordFrom_12 : decode cX10_wordFrom 12 = .ok (.invokevirtual 71, 3) := by decide +kernel
theorem dX10_wordFrom_15 : decode cX10_wordFrom 15 = .ok (.if_icmp .ge 52, 3) := by decide +kernel
theorem dX10_wordFrom_18 : decode cX10_wordFrom 18 = .ok (.ldc 69, 2) := by decide +kernel
theorem dX10_wordFrom_20 : decode cX10_wordFrom 20 = .ok (.iload 5, 2) := by decide +kernel
theorem dX10_wordFrom_22 : decode cX10_wordFrom 22 = .ok (.invokevirtual 76, 3) := by decide +kernel
theorem dX10_wordFrom_25 : decode cX10_wordFrom 25 = .ok (.bipush 32, 2) := by decide +kernel
theorem dX10_wordFrom_27 : decode cX10_wordFrom 27 = .ok (.if_icmp .ne 34, 3) := by decide +kernel
theorem dX10_wordFrom_30 : decode cX10_wordFrom 30 = .ok (.iload 5, 2) := by decide +kernel
theorem dX10_wordFrom_32 : decode cX10_wordFrom 32 = .ok (.iload 4, 2) := by decide +kernel
theorem dX10_wordFrom_34 : decode cX10_wordFrom 34 = .ok (.isub, 1) := by decide +kernel
theorem dX10_wordFrom_35 : decode cX10_wordFrom 35 = .ok (.iload_n 2, 1) := by decide +kernel
theorem dX10_wordFrom_36 : decode cX10_wordFrom 36 = .ok (.if_icmp .ne 16, 3) := by decide +kernel
theorem dX10_wordFrom_39 : decode cX10_wordFrom 39 = .ok (.aload_n 0, 1) := by decide +kernel
theorem dX10_wordFrom_40 : decode cX10_wordFrom 40 = .ok (.iload_n 1, 1) := by decide +kernel
theorem dX10_wordFrom_41 : decode cX10_wordFrom 41 = .ok (.iload 4, 2) := by decide +kernel
theorem dX10_wordFrom_43 : decode cX10_wordFrom 43 = .ok (.iload_n 2, 1) := by decide +kernel
theorem dX10_wordFrom_44 : decode cX10_wordFrom 44 = .ok (.invokevirtual 80, 3) := by decide +kernel
theorem dX10_wordFrom_47 : decode cX10_wordFrom 47 = .ok (.ifCond .eq 5, 3) := by decide +kernel
theorem dX10_wordFrom_50 : decode cX10_wordFrom 50 = .ok (.iload_n 3, 1) := by decide +kernel
theorem dX10_wordFrom_51 : decode cX10_wordFrom 51 = .ok (.ireturn, 1) := by decide +kernel
theorem dX10_wordFrom_52 : decode cX10_wordFrom 52 = .ok (.iinc 3 1, 3) := by decide +kernel
theorem dX10_wordFrom_55 : decode cX10_wordFrom 55 = .ok (.iload 5, 2) := by decide +kernel
theorem dX10_wordFrom_57 : decode cX10_wordFrom 57 = .ok (.iconst 1, 1) := by decide +kernel
theorem dX10_wordFrom_58 : decode cX10_wordFrom 58 = .ok (.iadd, 1) := by decide +kernel
theorem dX10_wordFrom_59 : decode cX10_wordFrom 59 = .ok (.istore 4, 2) := by decide +kernel
theorem dX10_wordFrom_61 : decode cX10_wordFrom 61 = .ok (.iinc 5 1, 3) := by decide +kernel
theorem dX10_wordFrom_64 : decode cX10_wordFrom 64 = .ok (.goto (-56), 3) := by decide +kernel
theorem dX10_wordFrom_67 : decode cX10_wordFrom 67 = .ok (.iconst (-1), 1) := by decide +kernel
theorem dX10_wordFrom_68 : decode cX10_wordFrom 68 = .ok (.ireturn, 1) := by decide +kernel
theorem dX10_isSpelt_0 : decode cX10_isSpelt 0 = .ok (.iconst 0, 1) := by decide +kernel
theorem dX10_isSpelt_1 : decode cX10_isSpelt 1 = .ok (.istore 4, 2) := by decide +kernel
theorem dX10_isSpelt_3 : decode cX10_isSpelt 3 = .ok (.iload 4, 2) := by decide +kernel
theorem dX10_isSpelt_5 : decode cX10_isSpelt 5 = .ok (.iload_n 3, 1) := by decide +kernel
theorem dX10_isSpelt_6 : decode cX10_isSpelt 6 = .ok (.if_icmp .ge 43, 3) := by decide +kernel
theorem dX10_isSpelt_9 : decode cX10_isSpelt 9 = .ok (.iload_n 2, 1) := by decide +kernel
theorem dX10_isSpelt_10 : decode cX10_isSpelt 10 = .ok (.iload 4, 2) := by decide +kernel
theorem dX10_isSpelt_12 : decode cX10_isSpelt 12 = .ok (.iadd, 1) := by decide +kernel
theorem dX10_isSpelt_13 : decode cX10_isSpelt 13 = .ok (.ldc 69, 2) := by decide +kernel
theorem dX10_isSpelt_15 : decode cX10_isSpelt 15 = .ok (.invokevirtual 71, 3) := by decide +kernel
theorem dX10_isSpelt_18 : decode cX10_isSpelt 18 = .ok (.if_icmp .ge 31, 3) := by decide +kernel
theorem dX10_isSpelt_21 : decode cX10_isSpelt 21 = .ok (.aload_n 0, 1) := by decide +kernel
theorem dX10_isSpelt_22 : decode cX10_isSpelt 22 = .ok (.iload_n 1, 1) := by decide +kernel
theorem dX10_isSpelt_23 : decode cX10_isSpelt 23 = .ok (.iload 4, 2) := by decide +kernel
theorem dX10_isSpelt_25 : decode cX10_isSpelt 25 = .ok (.iadd, 1) := by decide +kernel
theorem dX10_isSpelt_26 : decode cX10_isSpelt 26 = .ok (.invokevirtual 43, 3) := by decide +kernel
theorem dX10_isSpelt_29 : decode cX10_isSpelt 29 = .ok (.ldc 69, 2) := by decide +kernel
theorem dX10_isSpelt_31 : decode cX10_isSpelt 31 = .ok (.iload_n 2, 1) := by decide +kernel
theorem dX10_isSpelt_32 : decode cX10_isSpelt 32 = .ok (.iload 4, 2) := by decide +kernel
theorem dX10_isSpelt_34 : decode cX10_isSpelt 34 = .ok (.iadd, 1) := by decide +kernel
theorem dX10_isSpelt_35 : decode cX10_isSpelt 35 = .ok (.invokevirtual 76, 3) := by decide +kernel
theorem dX10_isSpelt_38 : decode cX10_isSpelt 38 = .ok (.if_icmp .eq 5, 3) := by decide +kernel
theorem dX10_isSpelt_41 : decode cX10_isSpelt 41 = .ok (.iconst 0, 1) := by decide +kernel
theorem dX10_isSpelt_42 : decode cX10_isSpelt 42 = .ok (.ireturn, 1) := by decide +kernel
theorem dX10_isSpelt_43 : decode cX10_isSpelt 43 = .ok (.iinc 4 1, 3) := by decide +kernel
theorem dX10_isSpelt_46 : decode cX10_isSpelt 46 = .ok (.goto (-43), 3) := by decide +kernel
theorem dX10_isSpelt_49 : decode cX10_isSpelt 49 = .ok (.iconst 1, 1) := by decide +kernel
theorem dX10_isSpelt_50 : decode cX10_isSpelt 50 = .ok (.ireturn, 1) := by decide +kernel
theorem dX11_init_0 : decode cX11_init 0 = .ok (.aload_n 0, 1) := by decide +kernel
theorem dX11_init_1 : decode cX11_init 1 = .ok (.invokespecial 1, 3) := by decide +kernel
theorem dX11_init_4 : decode cX11_init 4 = .ok (.aload_n 0, 1) := by decide +kernel
theorem dX11_init_5 : decode cX11_init 5 = .ok (.sipush 540, 3) := by decide +kernel
theorem dX11_init_8 : decode cX11_init 8 = .ok (.newarray .int, 2) := by decide +kernel
theorem dX11_init_10 : decode cX11_init 10 = .ok (.putfield 9, 3) := by decide +kernel
theorem dX11_init_13 : decode cX11_init 13 = .ok (.aload_n 0, 1) := by decide +kernel
theorem dX11_init_14 : decode cX11_init 14 = .ok (.iconst 5, 1) := by decide +kernel
theorem dX11_init_15 : decode cX11_init 15 = .ok (.newarray .int, 2) := by decide +kernel
theorem dX11_init_17 : decode cX11_init 17 = .ok (.putfield 15, 3) := by decide +kernel
theorem dX11_init_20 : decode cX11_init 20 = .ok (.aload_n 0, 1) := by decide +kernel
theorem dX11_init_21 : decode cX11_init 21 = .ok (.new 18, 3) := by decide +kernel
theorem dX11_init_24 : decode cX11_init 24 = .ok (.dup, 1) := by decide +kernel
theorem dX11_init_25 : decode cX11_init 25 = .ok (.invokespecial 20, 3) := by decide +kernel
theorem dX11_init_28 : decode cX11_init 28 = .ok (.putfield 21, 3) := by decide +kernel
theorem dX11_init_31 : decode cX11_init 31 = .ok (.aload_n 0, 1) := by decide +kernel
theorem dX11_init_32 : decode cX11_init 32 = .ok (.new 25, 3) := by decide +kernel
theorem dX11_init_35 : decode cX11_init 35 = .ok (.dup, 1) := by decide +kernel
theorem dX11_init_36 : decode cX11_init 36 = .ok (.invokespecial 27, 3) := by decide +kernel
theorem dX11_init_39 : decode cX11_init 39 = .ok (.putfield 28, 3) := by decide +kernel
theorem dX11_init_42 : decode cX11_init 42 = .ok (.aload_n 0, 1) := by decide +kernel
theorem dX11_init_43 : decode cX11_init 43 = .ok (.new 13, 3) := by decide +kernel
theorem dX11_init_46 : decode cX11_init 46 = .ok (.dup, 1) := by decide +kernel
theorem dX11_init_47 : decode cX11_init 47 = .ok (.aload_n 0, 1) := by decide +kernel
theorem dX11_init_48 : decode cX11_init 48 = .ok (.getfield 28, 3) := by decide +kernel
theorem dX11_init_51 : decode cX11_init 51 = .ok (.invokespecial 32, 3) := by decide +kernel
theorem dX11_init_54 : decode cX11_init 54 = .ok (.putfield 35, 3) := by decide +kernel
theorem dX11_init_57 : decode cX11_init 57 = .ok (.aload_n 0, 1) := by decide +kernel
theorem dX11_init_58 : decode cX11_init 58 = .ok (.new 39, 3) := by decide +kernel
theorem dX11_init_61 : decode cX11_init 61 = .ok (.dup, 1) := by decide +kernel
theorem dX11_init_62 : decode cX11_init 62 = .ok (.bipush 60, 2) := by decide +kernel
theorem dX11_init_64 : decode cX11_init 64 = .ok (.invokespecial 41, 3) := by decide +kernel
theorem dX11_init_67 : decode cX11_init 67 = .ok (.putfield 44, 3) := by decide +kernel
theorem dX11_init_70 : decode cX11_init 70 = .ok (.aload_n 0, 1) := by decide +kernel
theorem dX11_init_71 : decode cX11_init 71 = .ok (.new 48, 3) := by decide +kernel
theorem dX11_init_74 : decode cX11_init 74 = .ok (.dup, 1) := by decide +kernel
theorem dX11_init_75 : decode cX11_init 75 = .ok (.invokespecial 50, 3) := by decide +kernel
theorem dX11_init_78 : decode cX11_init 78 = .ok (.putfield 51, 3) := by decide +kernel
theorem dX11_init_81 : decode cX11_init 81 = .ok (.aload_n 0, 1) := by decide +kernel
theorem dX11_init_82 : decode cX11_init 82 = .ok (.new 55, 3) := by decide +kernel
theorem dX11_init_85 : decode cX11_init 85 = .ok (.dup, 1) := by decide +kernel
theorem dX11_init_86 : decode cX11_init 86 = .ok (.invokespecial 57, 3) := by decide +kernel
theorem dX11_init_89 : decode cX11_init 89 = .ok (.putfield 58, 3) := by decide +kernel
theorem dX11_init_92 : decode cX11_init 92 = .ok (.aload_n 0, 1) := by decide +kernel
theorem dX11_init_93 : decode cX11_init 93 = .ok (.new 62, 3) := by decide +kernel
theorem dX11_init_96 : decode cX11_init 96 = .ok (.dup, 1) := by decide +kernel
theorem dX11_init_97 : decode cX11_init 97 = .ok (.aload_n 0, 1) := by decide +kernel
theorem dX11_init_98 : decode cX11_init 98 = .ok (.getfield 21, 3) := by decide +kernel
theorem dX11_init_101 : decode cX11_init 101 = .ok (.aload_n 0, 1) := by decide +kernel
theorem dX11_init_102 : decode cX11_init 102 = .ok (.getfield 28, 3) := by decide +kernel
theorem dX11_init_105 : decode cX11_init 105 = .ok (.aload_n 0, 1) := by decide +kernel
theorem dX11_init_106 : decode cX11_init 106 = .ok (.getfield 35, 3) := by decide +kernel
theorem dX11_init_109 : decode cX11_init 109 = .ok (.aload_n 0, 1) := by decide +kernel
theorem dX11_init_110 : decode cX11_init 110 = .ok (.getfield 44, 3) := by decide +kernel
theorem dX11_init_113 : decode cX11_init 113 = .ok (.aload_n 0, 1) := by decide +kernel
theorem dX11_init_114 : decode cX11_init 114 = .ok (.getfield 51, 3) := by decide +kernel
theorem dX11_init_117 : decode cX11_init 117 = .ok (.aload_n 0, 1) := by decide +kernel
theorem dX11_init_118 : decode cX11_init 118 = .ok (.getfield 58, 3) := by decide +kernel
theorem dX11_init_121 : decode cX11_init 121 = .ok (.invokespecial 64, 3) := by decide +kernel
theorem dX11_init_124 : decode cX11_init 124 = .ok (.putfield 67, 3) := by decide +kernel
theorem dX11_init_127 : decode cX11_init 127 = .ok (.aload_n 0, 1) := by decide +kernel
theorem dX11_init_128 : decode cX11_init 128 = .ok (.new 71, 3) := by decide +kernel
theorem dX11_init_131 : decode cX11_init 131 = .ok (.dup, 1) := by decide +kernel
theorem dX11_init_132 : decode cX11_init 132 = .ok (.aload_n 0, 1) := by decide +kernel
theorem dX11_init_133 : decode cX11_init 133 = .ok (.getfield 21, 3) := by decide +kernel
theorem dX11_init_136 : decode cX11_init 136 = .ok (.aload_n 0, 1) := by decide +kernel
theorem dX11_init_137 : decode cX11_init 137 = .ok (.getfield 28, 3) := by decide +kernel
theorem dX11_init_140 : decode cX11_init 140 = .ok (.aload_n 0, 1) := by decide +kernel
theorem dX11_init_141 : decode cX11_init 141 = .ok (.getfield 51, 3) := by decide +kernel
theorem dX11_init_144 : decode cX11_init 144 = .ok (.invokespecial 73, 3) := by decide +kernel
theorem dX11_init_147 : decode cX11_init 147 = .ok (.putfield 76, 3) := by decide +kernel
theorem dX11_init_150 : decode cX11_init 150 = .ok (.aload_n 0, 1) := by decide +kernel
theorem dX11_init_151 : decode cX11_init 151 = .ok (.new 80, 3) := by decide +kernel
theorem dX11_init_154 : decode cX11_init 154 = .ok (.dup, 1) := by decide +kernel
theorem dX11_init_155 : decode cX11_init 155 = .ok (.aload_n 0, 1) := by decide +kernel
theorem dX11_init_156 : decode cX11_init 156 = .ok (.getfield 67, 3) := by decide +kernel
theorem dX11_init_159 : decode cX11_init 159 = .ok (.invokespecial 82, 3) := by decide +kernel
theorem dX11_init_162 : decode cX11_init 162 = .ok (.putfield 85, 3) := by decide +kernel
theorem dX11_init_165 : decode cX11_init 165 = .ok (.return_, 1) := by decide +kernel
theorem dX11_feed_0 : decode cX11_feed 0 = .ok (.aload_n 0, 1) := by decide +kernel
theorem dX11_feed_1 : decode cX11_feed 1 = .ok (.getfield 89, 3) := by decide +kernel
theorem dX11_feed_4 : decode cX11_feed 4 = .ok (.ifCond .lt 16, 3) := by decide +kernel
theorem dX11_feed_7 : decode cX11_feed 7 = .ok (.aload_n 0, 1) := by decide +kernel
theorem dX11_feed_8 : decode cX11_feed 8 = .ok (.getfield 89, 3) := by decide +kernel
theorem dX11_feed_11 : decode cX11_feed 11 = .ok (.bipush 20, 2) := by decide +kernel
theorem dX11_feed_13 : decode cX11_feed 13 = .ok (.iadd, 1) := by decide +kernel
theorem dX11_feed_14 : decode cX11_feed 14 = .ok (.sipush 540, 3) := by decide +kernel
theorem dX11_feed_17 : decode cX11_feed 17 = .ok (.if_icmp .le 5, 3) := by decide +kernel
theorem dX11_feed_20 : decode cX11_feed 20 = .ok (.iconst (-1), 1) := by decide +kernel
theorem dX11_feed_21 : decode cX11_feed 21 = .ok (.ireturn, 1) := by decide +kernel
theorem dX11_feed_22 : decode cX11_feed 22 = .ok (.aload_n 0, 1) := by decide +kernel
theorem dX11_feed_23 : decode cX11_feed 23 = .ok (.iload_n 1, 1) := by decide +kernel
theorem dX11_feed_24 : decode cX11_feed 24 = .ok (.invokevirtual 93, 3) := by decide +kernel
theorem dX11_feed_27 : decode cX11_feed 27 = .ok (.aload_n 0, 1) := by decide +kernel
theorem dX11_feed_28 : decode cX11_feed 28 = .ok (.iload_n 2, 1) := by decide +kernel
theorem dX11_feed_29 : decode cX11_feed 29 = .ok (.invokevirtual 93, 3) := by decide +kernel
theorem dX11_feed_32 : decode cX11_feed 32 = .ok (.aload_n 0, 1) := by decide +kernel
theorem dX11_feed_33 : decode cX11_feed 33 = .ok (.iload_n 3, 1) := by decide +kernel
theorem dX11_feed_34 : decode cX11_feed 34 = .ok (.invokevirtual 93, 3) := by decide +kernel
theorem dX11_feed_37 : decode cX11_feed 37 = .ok (.aload_n 0, 1) := by decide +kernel
theorem dX11_feed_38 : decode cX11_feed 38 = .ok (.iload 4, 2) := by decide +kernel
theorem dX11_feed_40 : decode cX11_feed 40 = .ok (.invokevirtual 93, 3) := by decide +kernel
theorem dX11_feed_43 : decode cX11_feed 43 = .ok (.aload_n 0, 1) := by decide +kernel
theorem dX11_feed_44 : decode cX11_feed 44 = .ok (.iload 5, 2) := by decide +kernel
theorem dX11_feed_46 : decode cX11_feed 46 = .ok (.invokevirtual 93, 3) := by decide +kernel
theorem dX11_feed_49 : decode cX11_feed 49 = .ok (.aload_n 0, 1) := by decide +kernel
theorem dX11_feed_50 : decode cX11_feed 50 = .ok (.getfield 89, 3) := by decide +kernel
theorem dX11_feed_53 : decode cX11_feed 53 = .ok (.ireturn, 1) := by decide +kernel
theorem dX11_putNumber_0 : decode cX11_putNumber 0 = .ok (.bipush 24, 2) := by decide +kernel
theorem dX11_putNumber_2 : decode cX11_putNumber 2 = .ok (.istore_n 2, 1) := by decide +kernel
theorem dX11_putNumber_3 : decode cX11_putNumber 3 = .ok (.iload_n 2, 1) := by decide +kernel
theorem dX11_putNumber_4 : decode cX11_putNumber 4 = .ok (.ifCond .lt 52, 3) := by decide +kernel
theorem dX11_putNumber_7 : decode cX11_putNumber 7 = .ok (.aload_n 0, 1) := by decide +kernel
theorem dX11_putNumber_8 : decode cX11_putNumber 8 = .ok (.getfield 89, 3) := by decide +kernel
theorem dX11_putNumber_11 : decode cX11_putNumber 11 = .ok (.ifCond .lt 39, 3) := by decide +kernel
theorem dX11_putNumber_14 : decode cX11_putNumber 14 = .ok (.aload_n 0, 1) := by decide +kernel
theorem dX11_putNumber_15 : decode cX11_putNumber 15 = .ok (.getfield 89, 3) := by decide +kernel
theorem dX11_putNumber_18 : decode cX11_putNumber 18 = .ok (.sipush 540, 3) := by decide +kernel
theorem dX11_putNumber_21 : decode cX11_putNumber 21 = .ok (.if_icmp .ge 29, 3) := by decide +kernel
theorem dX11_putNumber_24 : decode cX11_putNumber 24 = .ok (.aload_n 0, 1) := by decide +kernel
theorem dX11_putNumber_25 : decode cX11_putNumber 25 = .ok (.getfield 9, 3) := by decide +kernel
theorem dX11_putNumber_28 : decode cX11_putNumber 28 = .ok (.aload_n 0, 1) := by decide +kernel
theorem dX11_putNumber_29 : decode cX11_putNumber 29 = .ok (.getfield 89, 3) := by decide +kernel
theorem dX11_putNumber_32 : decode cX11_putNumber 32 = .ok (.iload_n 1, 1) := by decide +kernel
theorem dX11_putNumber_33 : decode cX11_putNumber 33 = .ok (.iload_n 2, 1) := by decide +kernel
theorem dX11_putNumber_34 : decode cX11_putNumber 34 = .ok (.ishr, 1) := by decide +kernel
theorem dX11_putNumber_35 : decode cX11_putNumber 35 = .ok (.sipush 255, 3) := by decide +kernel
theorem dX11_putNumber_38 : decode cX11_putNumber 38 = .ok (.iand, 1) := by decide +kernel
theorem dX11_putNumber_39 : decode cX11_putNumber 39 = .ok (.iastore, 1) := by decide +kernel
theorem dX11_putNumber_40 : decode cX11_putNumber 40 = .ok (.aload_n 0, 1) := by decide +kernel
theorem dX11_putNumber_41 : decode cX11_putNumber 41 = .ok (.dup, 1) := by decide +kernel
theorem dX11_putNumber_42 : decode cX11_putNumber 42 = .ok (.getfield 89, 3) := by decide +kernel
theorem dX11_putNumber_45 : decode cX11_putNumber 45 = .ok (.iconst 1, 1) := by decide +kernel
theorem dX11_putNumber_46 : decode cX11_putNumber 46 = .ok (.iadd, 1) := by decide +kernel
theorem dX11_putNumber_47 : decode cX11_putNumber 47 = .ok (.putfield 89, 3) := by decide +kernel
theorem dX11_putNumber_50 : decode cX11_putNumber 50 = .ok (.iinc 2 (-8), 3) := by decide +kernel
theorem dX11_putNumber_53 : decode cX11_putNumber 53 = .ok (.goto (-50), 3) := by decide +kernel
theorem dX11_putNumber_56 : decode cX11_putNumber 56 = .ok (.return_, 1) := by decide +kernel
theorem dX11_end_0 : decode cX11_end 0 = .ok (.iload_n 1, 1) := by decide +kernel
theorem dX11_end_1 : decode cX11_end 1 = .ok (.ifCond .lt 11, 3) := by decide +kernel
theorem dX11_end_4 : decode cX11_end 4 = .ok (.iload_n 1, 1) := by decide +kernel
theorem dX11_end_5 : decode cX11_end 5 = .ok (.aload_n 0, 1) := by decide +kernel
theorem dX11_end_6 : decode cX11_end 6 = .ok (.getfield 89, 3) := by decide +kernel
theorem dX11_end_9 : decode cX11_end 9 = .ok (.if_icmp .le 5, 3) := by decide +kernel
theorem dX11_end_12 : decode cX11_end 12 = .ok (.iconst 0, 1) := by decide +kernel
theorem dX11_end_13 : decode cX11_end 13 = .ok (.ireturn, 1) := by decide +kernel
theorem dX11_end_14 : decode cX11_end 14 = .ok (.aload_n 0, 1) := by decide +kernel
theorem dX11_end_15 : decode cX11_end 15 = .ok (.iload_n 1, 1) := by decide +kernel
theorem dX11_end_16 : decode cX11_end 16 = .ok (.putfield 89, 3) := by decide +kernel
theorem dX11_end_19 : decode cX11_end 19 = .ok (.iconst 1, 1) := by decide +kernel
theorem dX11_end_20 : decode cX11_end 20 = .ok (.ireturn, 1) := by decide +kernel
theorem dX11_next_0 : decode cX11_next 0 = .ok (.iload_n 1, 1) := by decide +kernel
theorem dX11_next_1 : decode cX11_next 1 = .ok (.ifCond .lt 22, 3) := by decide +kernel
theorem dX11_next_4 : decode cX11_next 4 = .ok (.iload_n 1, 1) := by decide +kernel
theorem dX11_next_5 : decode cX11_next 5 = .ok (.sipush 9999, 3) := by decide +kernel
theorem dX11_next_8 : decode cX11_next 8 = .ok (.if_icmp .gt 15, 3) := by decide +kernel
theorem dX11_next_11 : decode cX11_next 11 = .ok (.aload_n 0, 1) := by decide +kernel
theorem dX11_next_12 : decode cX11_next 12 = .ok (.getfield 96, 3) := by decide +kernel
theorem dX11_next_15 : decode cX11_next 15 = .ok (.iload_n 1, 1) := by decide +kernel
theorem dX11_next_16 : decode cX11_next 16 = .ok (.iadd, 1) := by decide +kernel
theorem dX11_next_17 : decode cX11_next 17 = .ok (.sipush 9999, 3) := by decide +kernel
theorem dX11_next_20 : decode cX11_next 20 = .ok (.if_icmp .le 5, 3) := by decide +kernel
theorem dX11_next_23 : decode cX11_next 23 = .ok (.iconst (-1), 1) := by decide +kernel
theorem dX11_next_24 : decode cX11_next 24 = .ok (.ireturn, 1) := by decide +kernel
theorem dX11_next_25 : decode cX11_next 25 = .ok (.aload_n 0, 1) := by decide +kernel
theorem dX11_next_26 : decode cX11_next 26 = .ok (.dup, 1) := by decide +kernel
theorem dX11_next_27 : decode cX11_next 27 = .ok (.getfield 96, 3) := by decide +kernel
theorem dX11_next_30 : decode cX11_next 30 = .ok (.iload_n 1, 1) := by decide +kernel
theorem dX11_next_31 : decode cX11_next 31 = .ok (.iadd, 1) := by decide +kernel
theorem dX11_next_32 : decode cX11_next 32 = .ok (.putfield 96, 3) := by decide +kernel
theorem dX11_next_35 : decode cX11_next 35 = .ok (.aload_n 0, 1) := by decide +kernel
theorem dX11_next_36 : decode cX11_next 36 = .ok (.getfield 96, 3) := by decide +kernel
theorem dX11_next_39 : decode cX11_next 39 = .ok (.ireturn, 1) := by decide +kernel
theorem dX11_party_0 : decode cX11_party 0 = .ok (.aload_n 0, 1) := by decide +kernel
theorem dX11_party_1 : decode cX11_party 1 = .ok (.getfield 21, 3) := by decide +kernel
theorem dX11_party_4 : decode cX11_party 4 = .ok (.iload_n 1, 1) := by decide +kernel
theorem dX11_party_5 : decode cX11_party 5 = .ok (.aload_n 0, 1) := by decide +kernel
theorem dX11_party_6 : decode cX11_party 6 = .ok (.invokevirtual 99, 3) := by decide +kernel
theorem dX11_party_9 : decode cX11_party 9 = .ok (.invokevirtual 103, 3) := by decide +kernel
theorem dX11_party_12 : decode cX11_party 12 = .ok (.ireturn, 1) := by decide +kernel
theorem dX11_takeName_0 : decode cX11_takeName 0 = .ok (.aload_n 0, 1) := by decide +kernel
theorem dX11_takeName_1 : decode cX11_takeName 1 = .ok (.getfield 89, 3) := by decide +kernel
theorem dX11_takeName_4 : decode cX11_takeName 4 = .ok (.istore_n 1, 1) := by decide +kernel
theorem dX11_takeName_5 : decode cX11_takeName 5 = .ok (.aload_n 0, 1) := by decide +kernel
theorem dX11_takeName_6 : decode cX11_takeName 6 = .ok (.iconst 0, 1) := by decide +kernel
theorem dX11_takeName_7 : decode cX11_takeName 7 = .ok (.putfield 89, 3) := by decide +kernel
theorem dX11_takeName_10 : decode cX11_takeName 10 = .ok (.aload_n 0, 1) := by decide +kernel
theorem dX11_takeName_11 : decode cX11_takeName 11 = .ok (.getfield 9, 3) := by decide +kernel
theorem dX11_takeName_14 : decode cX11_takeName 14 = .ok (.iload_n 1, 1) := by decide +kernel
theorem dX11_takeName_15 : decode cX11_takeName 15 = .ok (.invokestatic 107, 3) := by decide +kernel
theorem dX11_takeName_18 : decode cX11_takeName 18 = .ok (.lreturn, 1) := by decide +kernel
theorem dX11_owns_0 : decode cX11_owns 0 = .ok (.aload_n 0, 1) := by decide +kernel
theorem dX11_owns_1 : decode cX11_owns 1 = .ok (.getfield 21, 3) := by decide +kernel
theorem dX11_owns_4 : decode cX11_owns 4 = .ok (.iload_n 1, 1) := by decide +kernel
theorem dX11_owns_5 : decode cX11_owns 5 = .ok (.invokevirtual 111, 3) := by decide +kernel
theorem dX11_owns_8 : decode cX11_owns 8 = .ok (.ifCond .eq 31, 3) := by decide +kernel
theorem dX11_owns_11 : decode cX11_owns 11 = .ok (.aload_n 0, 1) := by decide +kernel
theorem dX11_owns_12 : decode cX11_owns 12 = .ok (.getfield 21, 3) := by decide +kernel
theorem dX11_owns_15 : decode cX11_owns 15 = .ok (.iload_n 2, 1) := by decide +kernel
theorem dX11_owns_16 : decode cX11_owns 16 = .ok (.invokevirtual 115, 3) := by decide +kernel
theorem dX11_owns_19 : decode cX11_owns 19 = .ok (.ifCond .eq 20, 3) := by decide +kernel
theorem dX11_owns_22 : decode cX11_owns 22 = .ok (.iload_n 1, 1) := by decide +kernel
theorem dX11_owns_23 : decode cX11_owns 23 = .ok (.iload_n 2, 1) := by decide +kernel
theorem dX11_owns_24 : decode cX11_owns 24 = .ok (.if_icmp .eq 15, 3) := by decide +kernel
theorem dX11_owns_27 : decode cX11_owns 27 = .ok (.iload_n 3, 1) := by decide +kernel
theorem dX11_owns_28 : decode cX11_owns 28 = .ok (.iconst 1, 1) := by decide +kernel
theorem dX11_owns_29 : decode cX11_owns 29 = .ok (.if_icmp .lt 10, 3) := by decide +kernel
theorem dX11_owns_32 : decode cX11_owns 32 = .ok (.iload_n 3, 1) := by decide +kernel
theorem dX11_owns_33 : decode cX11_owns 33 = .ok (.sipush 10000, 3) := by decide +kernel
theorem dX11_owns_36 : decode cX11_owns 36 = .ok (.if_icmp .le 6, 3) := by decide +kernel
theorem dX11_owns_39 : decode cX11_owns 39 = .ok (.bipush (-2), 2) := by decide +kernel
theorem dX11_owns_41 : decode cX11_owns 41 = .ok (.ireturn, 1) := by decide +kernel
theorem dX11_owns_42 : decode cX11_owns 42 = .ok (.iload 4, 2) := by decide +kernel
theorem dX11_owns_44 : decode cX11_owns 44 = .ok (.iload 5, 2) := by decide +kernel
theorem dX11_owns_46 : decode cX11_owns 46 = .ok (.iconst 1, 1) := by decide +kernel
theorem dX11_owns_47 : decode cX11_owns 47 = .ok (.invokestatic 118, 3) := by decide +kernel
theorem dX11_owns_50 : decode cX11_owns 50 = .ok (.ifCond .ne 6, 3) := by decide +kernel
theorem dX11_owns_53 : decode cX11_owns 53 = .ok (.bipush (-3), 2) := by decide +kernel
theorem dX11_owns_55 : decode cX11_owns 55 = .ok (.ireturn, 1) := by decide +kernel
theorem dX11_owns_56 : decode cX11_owns 56 = .ok (.aload_n 0, 1) := by decide +kernel
theorem dX11_owns_57 : decode cX11_owns 57 = .ok (.getfield 28, 3) := by decide +kernel
theorem dX11_owns_60 : decode cX11_owns 60 = .ok (.iload_n 2, 1) := by decide +kernel
theorem dX11_owns_61 : decode cX11_owns 61 = .ok (.iload_n 3, 1) := by decide +kernel
theorem dX11_owns_62 : decode cX11_owns 62 = .ok (.iload 4, 2) := by decide +kernel
theorem dX11_owns_64 : decode cX11_owns 64 = .ok (.iload 5, 2) := by decide +kernel
theorem dX11_owns_66 : decode cX11_owns 66 = .ok (.invokevirtual 122, 3) := by decide +kernel
theorem dX11_owns_69 : decode cX11_owns 69 = .ok (.ifCond .eq 6, 3) := by decide +kernel
theorem dX11_owns_72 : decode cX11_owns 72 = .ok (.bipush (-4), 2) := by decide +kernel
theorem dX11_owns_74 : decode cX11_owns 74 = .ok (.ireturn, 1) := by decide +kernel
theorem dX11_owns_75 : decode cX11_owns 75 = .ok (.aload_n 0, 1) := by decide +kernel
theorem dX11_owns_76 : decode cX11_owns 76 = .ok (.getfield 28, 3) := by decide +kernel
theorem dX11_owns_79 : decode cX11_owns 79 = .ok (.iload_n 1, 1) := by decide +kernel
theorem dX11_owns_80 : decode cX11_owns 80 = .ok (.iload_n 2, 1) := by decide +kernel
theorem dX11_owns_81 : decode cX11_owns 81 = .ok (.iload_n 3, 1) := by decide +kernel
theorem dX11_owns_82 : decode cX11_owns 82 = .ok (.iload 4, 2) := by decide +kernel
theorem dX11_owns_84 : decode cX11_owns 84 = .ok (.iload 5, 2) := by decide +kernel
theorem dX11_owns_86 : decode cX11_owns 86 = .ok (.aload_n 0, 1) := by decide +kernel
theorem dX11_owns_87 : decode cX11_owns 87 = .ok (.getfield 96, 3) := by decide +kernel
theorem dX11_owns_90 : decode cX11_owns 90 = .ok (.invokevirtual 126, 3) := by decide +kernel
theorem dX11_owns_93 : decode cX11_owns 93 = .ok (.ireturn, 1) := by decide +kernel
theorem dX11_isSpan_0 : decode cX11_isSpan 0 = .ok (.iload_n 0, 1) := by decide +kernel
theorem dX11_isSpan_1 : decode cX11_isSpan 1 = .ok (.invokestatic 129, 3) := by decide +kernel
theorem dX11_isSpan_4 : decode cX11_isSpan 4 = .ok (.ifCond .ne 5, 3) := by decide +kernel
theorem dX11_isSpan_7 : decode cX11_isSpan 7 = .ok (.iconst 0, 1) := by decide +kernel
theorem dX11_isSpan_8 : decode cX11_isSpan 8 = .ok (.ireturn, 1) := by decide +kernel
theorem dX11_isSpan_9 : decode cX11_isSpan 9 = .ok (.iload_n 1, 1) := by decide +kernel
theorem dX11_isSpan_10 : decode cX11_isSpan 10 = .ok (.iconst (-1), 1) := by decide +kernel
theorem dX11_isSpan_11 : decode cX11_isSpan 11 = .ok (.if_icmp .eq 17, 3) := by decide +kernel
theorem dX11_isSpan_14 : decode cX11_isSpan 14 = .ok (.iload_n 1, 1) := by decide +kernel
theorem dX11_isSpan_15 : decode cX11_isSpan 15 = .ok (.invokestatic 129, 3) := by decide +kernel
theorem dX11_isSpan_18 : decode cX11_isSpan 18 = .ok (.ifCond .eq 14, 3) := by decide +kernel
theorem dX11_isSpan_21 : decode cX11_isSpan 21 = .ok (.iload_n 1, 1) := by decide +kernel
theorem dX11_isSpan_22 : decode cX11_isSpan 22 = .ok (.iload_n 0, 1) := by decide +kernel
theorem dX11_isSpan_23 : decode cX11_isSpan 23 = .ok (.iload_n 2, 1) := by decide +kernel
theorem dX11_isSpan_24 : decode cX11_isSpan 24 = .ok (.iadd, 1) := by decide +kernel
theorem dX11_isSpan_25 : decode cX11_isSpan 25 = .ok (.if_icmp .lt 7, 3) := by decide +kernel
theorem dX11_isSpan_28 : decode cX11_isSpan 28 = .ok (.iconst 1, 1) := by decide +kernel
theorem dX11_isSpan_29 : decode cX11_isSpan 29 = .ok (.goto 4, 3) := by decide +kernel
