theorem dX12_isHere_93 : decode cX12_isHere 93 = .ok (.aload_n 1, 1) := by decide +kernel
theorem dX12_isHere_94 : decode cX12_isHere 94 = .ok (.iload_n 3, 1) := by decide +kernel
theorem dX12_isHere_95 : decode cX12_isHere 95 = .ok (.caload, 1) := by decide +kernel
theorem dX12_isHere_96 : decode cX12_isHere 96 = .ok (.if_icmp .eq 5, 3) := by decide +kernel
theorem dX12_isHere_99 : decode cX12_isHere 99 = .ok (.iconst 0, 1) := by decide +kernel
theorem dX12_isHere_100 : decode cX12_isHere 100 = .ok (.ireturn, 1) := by decide +kernel
theorem dX12_isHere_101 : decode cX12_isHere 101 = .ok (.iinc 3 1, 3) := by decide +kernel
theorem dX12_isHere_104 : decode cX12_isHere 104 = .ok (.goto (-28), 3) := by decide +kernel
theorem dX12_isHere_107 : decode cX12_isHere 107 = .ok (.iconst 1, 1) := by decide +kernel
theorem dX12_isHere_108 : decode cX12_isHere 108 = .ok (.ireturn, 1) := by decide +kernel
theorem dX12_takes_0 : decode cX12_takes 0 = .ok (.aload_n 0, 1) := by decide +kernel
theorem dX12_takes_1 : decode cX12_takes 1 = .ok (.aload_n 1, 1) := by decide +kernel
theorem dX12_takes_2 : decode cX12_takes 2 = .ok (.invokevirtual 248, 3) := by decide +kernel
theorem dX12_takes_5 : decode cX12_takes 5 = .ok (.ifCond .ne 5, 3) := by decide +kernel
theorem dX12_takes_8 : decode cX12_takes 8 = .ok (.iconst 0, 1) := by decide +kernel
theorem dX12_takes_9 : decode cX12_takes 9 = .ok (.ireturn, 1) := by decide +kernel
theorem dX12_takes_10 : decode cX12_takes 10 = .ok (.aload_n 0, 1) := by decide +kernel
theorem dX12_takes_11 : decode cX12_takes 11 = .ok (.dup, 1) := by decide +kernel
theorem dX12_takes_12 : decode cX12_takes 12 = .ok (.getfield 231, 3) := by decide +kernel
theorem dX12_takes_15 : decode cX12_takes 15 = .ok (.aload_n 1, 1) := by decide +kernel
theorem dX12_takes_16 : decode cX12_takes 16 = .ok (.arraylength, 1) := by decide +kernel
theorem dX12_takes_17 : decode cX12_takes 17 = .ok (.iadd, 1) := by decide +kernel
theorem dX12_takes_18 : decode cX12_takes 18 = .ok (.putfield 231, 3) := by decide +kernel
theorem dX12_takes_21 : decode cX12_takes 21 = .ok (.aload_n 0, 1) := by decide +kernel
theorem dX12_takes_22 : decode cX12_takes 22 = .ok (.aload_n 0, 1) := by decide +kernel
theorem dX12_takes_23 : decode cX12_takes 23 = .ok (.getfield 231, 3) := by decide +kernel
theorem dX12_takes_26 : decode cX12_takes 26 = .ok (.putfield 245, 3) := by decide +kernel
theorem dX12_takes_29 : decode cX12_takes 29 = .ok (.iconst 1, 1) := by decide +kernel
theorem dX12_takes_30 : decode cX12_takes 30 = .ok (.ireturn, 1) := by decide +kernel
theorem dX12_asks_0 : decode cX12_asks 0 = .ok (.aload_n 0, 1) := by decide +kernel
theorem dX12_asks_1 : decode cX12_asks 1 = .ok (.getfield 225, 3) := by decide +kernel
theorem dX12_asks_4 : decode cX12_asks 4 = .ok (.ifCond .ne 20, 3) := by decide +kernel
theorem dX12_asks_7 : decode cX12_asks 7 = .ok (.aload_n 0, 1) := by decide +kernel
theorem dX12_asks_8 : decode cX12_asks 8 = .ok (.aload_n 1, 1) := by decide +kernel
theorem dX12_asks_9 : decode cX12_asks 9 = .ok (.invokevirtual 252, 3) := by decide +kernel
theorem dX12_asks_12 : decode cX12_asks 12 = .ok (.ifCond .ne 12, 3) := by decide +kernel
theorem dX12_asks_15 : decode cX12_asks 15 = .ok (.aload_n 0, 1) := by decide +kernel
theorem dX12_asks_16 : decode cX12_asks 16 = .ok (.iconst 1, 1) := by decide +kernel
theorem dX12_asks_17 : decode cX12_asks 17 = .ok (.aload_n 0, 1) := by decide +kernel
theorem dX12_asks_18 : decode cX12_asks 18 = .ok (.getfield 231, 3) := by decide +kernel
theorem dX12_asks_21 : decode cX12_asks 21 = .ok (.invokevirtual 255, 3) := by decide +kernel
theorem dX12_asks_24 : decode cX12_asks 24 = .ok (.return_, 1) := by decide +kernel
theorem dX12_takesSign_0 : decode cX12_takesSign 0 = .ok (.aload_n 0, 1) := by decide +kernel
theorem dX12_takesSign_1 : decode cX12_takesSign 1 = .ok (.getfield 225, 3) := by decide +kernel
theorem dX12_takesSign_4 : decode cX12_takesSign 4 = .ok (.ifCond .ne 11, 3) := by decide +kernel
theorem dX12_takesSign_7 : decode cX12_takesSign 7 = .ok (.aload_n 0, 1) := by decide +kernel
theorem dX12_takesSign_8 : decode cX12_takesSign 8 = .ok (.invokevirtual 237, 3) := by decide +kernel
theorem dX12_takesSign_11 : decode cX12_takesSign 11 = .ok (.iload_n 1, 1) := by decide +kernel
theorem dX12_takesSign_12 : decode cX12_takesSign 12 = .ok (.if_icmp .eq 5, 3) := by decide +kernel
theorem dX12_takesSign_15 : decode cX12_takesSign 15 = .ok (.iconst 0, 1) := by decide +kernel
theorem dX12_takesSign_16 : decode cX12_takesSign 16 = .ok (.ireturn, 1) := by decide +kernel
theorem dX12_takesSign_17 : decode cX12_takesSign 17 = .ok (.aload_n 0, 1) := by decide +kernel
theorem dX12_takesSign_18 : decode cX12_takesSign 18 = .ok (.dup, 1) := by decide +kernel
theorem dX12_takesSign_19 : decode cX12_takesSign 19 = .ok (.getfield 231, 3) := by decide +kernel
theorem dX12_takesSign_22 : decode cX12_takesSign 22 = .ok (.iconst 1, 1) := by decide +kernel
theorem dX12_takesSign_23 : decode cX12_takesSign 23 = .ok (.iadd, 1) := by decide +kernel
theorem dX12_takesSign_24 : decode cX12_takesSign 24 = .ok (.putfield 231, 3) := by decide +kernel
theorem dX12_takesSign_27 : decode cX12_takesSign 27 = .ok (.iconst 1, 1) := by decide +kernel
theorem dX12_takesSign_28 : decode cX12_takesSign 28 = .ok (.ireturn, 1) := by decide +kernel
theorem dX12_asksSign_0 : decode cX12_asksSign 0 = .ok (.aload_n 0, 1) := by decide +kernel
theorem dX12_asksSign_1 : decode cX12_asksSign 1 = .ok (.getfield 225, 3) := by decide +kernel
theorem dX12_asksSign_4 : decode cX12_asksSign 4 = .ok (.ifCond .ne 20, 3) := by decide +kernel
theorem dX12_asksSign_7 : decode cX12_asksSign 7 = .ok (.aload_n 0, 1) := by decide +kernel
theorem dX12_asksSign_8 : decode cX12_asksSign 8 = .ok (.iload_n 1, 1) := by decide +kernel
theorem dX12_asksSign_9 : decode cX12_asksSign 9 = .ok (.invokevirtual 259, 3) := by decide +kernel
theorem dX12_asksSign_12 : decode cX12_asksSign 12 = .ok (.ifCond .ne 12, 3) := by decide +kernel
theorem dX12_asksSign_15 : decode cX12_asksSign 15 = .ok (.aload_n 0, 1) := by decide +kernel
theorem dX12_asksSign_16 : decode cX12_asksSign 16 = .ok (.iconst 1, 1) := by decide +kernel
theorem dX12_asksSign_17 : decode cX12_asksSign 17 = .ok (.aload_n 0, 1) := by decide +kernel
theorem dX12_asksSign_18 : decode cX12_asksSign 18 = .ok (.getfield 231, 3) := by decide +kernel
theorem dX12_asksSign_21 : decode cX12_asksSign 21 = .ok (.invokevirtual 255, 3) := by decide +kernel
theorem dX12_asksSign_24 : decode cX12_asksSign 24 = .ok (.return_, 1) := by decide +kernel
theorem dX12_number_0 : decode cX12_number 0 = .ok (.aload_n 0, 1) := by decide +kernel
theorem dX12_number_1 : decode cX12_number 1 = .ok (.getfield 225, 3) := by decide +kernel
theorem dX12_number_4 : decode cX12_number 4 = .ok (.ifCond .eq 5, 3) := by decide +kernel
theorem dX12_number_7 : decode cX12_number 7 = .ok (.iconst 0, 1) := by decide +kernel
theorem dX12_number_8 : decode cX12_number 8 = .ok (.ireturn, 1) := by decide +kernel
theorem dX12_number_9 : decode cX12_number 9 = .ok (.aload_n 0, 1) := by decide +kernel
theorem dX12_number_10 : decode cX12_number 10 = .ok (.invokevirtual 237, 3) := by decide +kernel
theorem dX12_number_13 : decode cX12_number 13 = .ok (.invokestatic 262, 3) := by decide +kernel
theorem dX12_number_16 : decode cX12_number 16 = .ok (.ifCond .eq 14, 3) := by decide +kernel
theorem dX12_number_19 : decode cX12_number 19 = .ok (.aload_n 0, 1) := by decide +kernel
theorem dX12_number_20 : decode cX12_number 20 = .ok (.getfield 231, 3) := by decide +kernel
theorem dX12_number_23 : decode cX12_number 23 = .ok (.aload_n 0, 1) := by decide +kernel
theorem dX12_number_24 : decode cX12_number 24 = .ok (.getfield 245, 3) := by decide +kernel
theorem dX12_number_27 : decode cX12_number 27 = .ok (.if_icmp .ne 14, 3) := by decide +kernel
theorem dX12_number_30 : decode cX12_number 30 = .ok (.aload_n 0, 1) := by decide +kernel
theorem dX12_number_31 : decode cX12_number 31 = .ok (.iconst 1, 1) := by decide +kernel
theorem dX12_number_32 : decode cX12_number 32 = .ok (.aload_n 0, 1) := by decide +kernel
theorem dX12_number_33 : decode cX12_number 33 = .ok (.getfield 231, 3) := by decide +kernel
theorem dX12_number_36 : decode cX12_number 36 = .ok (.invokevirtual 255, 3) := by decide +kernel
theorem dX12_number_39 : decode cX12_number 39 = .ok (.iconst 0, 1) := by decide +kernel
theorem dX12_number_40 : decode cX12_number 40 = .ok (.ireturn, 1) := by decide +kernel
theorem dX12_number_41 : decode cX12_number 41 = .ok (.aload_n 0, 1) := by decide +kernel
theorem dX12_number_42 : decode cX12_number 42 = .ok (.getfield 231, 3) := by decide +kernel
theorem dX12_number_45 : decode cX12_number 45 = .ok (.istore_n 3, 1) := by decide +kernel
theorem dX12_number_46 : decode cX12_number 46 = .ok (.iconst 0, 1) := by decide +kernel
theorem dX12_number_47 : decode cX12_number 47 = .ok (.istore 4, 2) := by decide +kernel
theorem dX12_number_49 : decode cX12_number 49 = .ok (.aload_n 0, 1) := by decide +kernel
theorem dX12_number_50 : decode cX12_number 50 = .ok (.getfield 231, 3) := by decide +kernel
theorem dX12_number_53 : decode cX12_number 53 = .ok (.aload_n 0, 1) := by decide +kernel
theorem dX12_number_54 : decode cX12_number 54 = .ok (.getfield 234, 3) := by decide +kernel
theorem dX12_number_57 : decode cX12_number 57 = .ok (.if_icmp .ge 72, 3) := by decide +kernel
theorem dX12_number_60 : decode cX12_number 60 = .ok (.aload_n 0, 1) := by decide +kernel
theorem dX12_number_61 : decode cX12_number 61 = .ok (.getfield 7, 3) := by decide +kernel
theorem dX12_number_64 : decode cX12_number 64 = .ok (.aload_n 0, 1) := by decide +kernel
theorem dX12_number_65 : decode cX12_number 65 = .ok (.getfield 231, 3) := by decide +kernel
theorem dX12_number_68 : decode cX12_number 68 = .ok (.iaload, 1) := by decide +kernel
theorem dX12_number_69 : decode cX12_number 69 = .ok (.invokestatic 262, 3) := by decide +kernel
theorem dX12_number_72 : decode cX12_number 72 = .ok (.ifCond .eq 57, 3) := by decide +kernel
theorem dX12_number_75 : decode cX12_number 75 = .ok (.aload_n 0, 1) := by decide +kernel
theorem dX12_number_76 : decode cX12_number 76 = .ok (.getfield 231, 3) := by decide +kernel
theorem dX12_number_79 : decode cX12_number 79 = .ok (.iload_n 3, 1) := by decide +kernel
theorem dX12_number_80 : decode cX12_number 80 = .ok (.isub, 1) := by decide +kernel
theorem dX12_number_81 : decode cX12_number 81 = .ok (.iconst 4, 1) := by decide +kernel
theorem dX12_number_82 : decode cX12_number 82 = .ok (.if_icmp .ne 14, 3) := by decide +kernel
theorem dX12_number_85 : decode cX12_number 85 = .ok (.aload_n 0, 1) := by decide +kernel
theorem dX12_number_86 : decode cX12_number 86 = .ok (.iconst 1, 1) := by decide +kernel
theorem dX12_number_87 : decode cX12_number 87 = .ok (.aload_n 0, 1) := by decide +kernel
theorem dX12_number_88 : decode cX12_number 88 = .ok (.getfield 231, 3) := by decide +kernel
theorem dX12_number_91 : decode cX12_number 91 = .ok (.invokevirtual 255, 3) := by decide +kernel
theorem dX12_number_94 : decode cX12_number 94 = .ok (.iconst 0, 1) := by decide +kernel
theorem dX12_number_95 : decode cX12_number 95 = .ok (.ireturn, 1) := by decide +kernel
theorem dX12_number_96 : decode cX12_number 96 = .ok (.bipush 10, 2) := by decide +kernel
theorem dX12_number_98 : decode cX12_number 98 = .ok (.iload 4, 2) := by decide +kernel
theorem dX12_number_100 : decode cX12_number 100 = .ok (.imul, 1) := by decide +kernel
theorem dX12_number_101 : decode cX12_number 101 = .ok (.aload_n 0, 1) := by decide +kernel
theorem dX12_number_102 : decode cX12_number 102 = .ok (.getfield 7, 3) := by decide +kernel
theorem dX12_number_105 : decode cX12_number 105 = .ok (.aload_n 0, 1) := by decide +kernel
theorem dX12_number_106 : decode cX12_number 106 = .ok (.getfield 231, 3) := by decide +kernel
theorem dX12_number_109 : decode cX12_number 109 = .ok (.iaload, 1) := by decide +kernel
theorem dX12_number_110 : decode cX12_number 110 = .ok (.iadd, 1) := by decide +kernel
theorem dX12_number_111 : decode cX12_number 111 = .ok (.bipush 48, 2) := by decide +kernel
theorem dX12_number_113 : decode cX12_number 113 = .ok (.isub, 1) := by decide +kernel
theorem dX12_number_114 : decode cX12_number 114 = .ok (.istore 4, 2) := by decide +kernel
theorem dX12_number_116 : decode cX12_number 116 = .ok (.aload_n 0, 1) := by decide +kernel
theorem dX12_number_117 : decode cX12_number 117 = .ok (.dup, 1) := by decide +kernel
theorem dX12_number_118 : decode cX12_number 118 = .ok (.getfield 231, 3) := by decide +kernel
theorem dX12_number_121 : decode cX12_number 121 = .ok (.iconst 1, 1) := by decide +kernel
theorem dX12_number_122 : decode cX12_number 122 = .ok (.iadd, 1) := by decide +kernel
theorem dX12_number_123 : decode cX12_number 123 = .ok (.putfield 231, 3) := by decide +kernel
theorem dX12_number_126 : decode cX12_number 126 = .ok (.goto (-77), 3) := by decide +kernel
theorem dX12_number_129 : decode cX12_number 129 = .ok (.aload_n 0, 1) := by decide +kernel
theorem dX12_number_130 : decode cX12_number 130 = .ok (.aload_n 0, 1) := by decide +kernel
theorem dX12_number_131 : decode cX12_number 131 = .ok (.getfield 231, 3) := by decide +kernel
theorem dX12_number_134 : decode cX12_number 134 = .ok (.putfield 245, 3) := by decide +kernel
theorem dX12_number_137 : decode cX12_number 137 = .ok (.aload_n 0, 1) := by decide +kernel
theorem dX12_number_138 : decode cX12_number 138 = .ok (.iload_n 3, 1) := by decide +kernel
theorem dX12_number_139 : decode cX12_number 139 = .ok (.putfield 265, 3) := by decide +kernel
theorem dX12_number_142 : decode cX12_number 142 = .ok (.iload 4, 2) := by decide +kernel
theorem dX12_number_144 : decode cX12_number 144 = .ok (.i2l, 1) := by decide +kernel
theorem dX12_number_145 : decode cX12_number 145 = .ok (.iload_n 1, 1) := by decide +kernel
theorem dX12_number_146 : decode cX12_number 146 = .ok (.i2l, 1) := by decide +kernel
theorem dX12_number_147 : decode cX12_number 147 = .ok (.iload_n 2, 1) := by decide +kernel
theorem dX12_number_148 : decode cX12_number 148 = .ok (.i2l, 1) := by decide +kernel
theorem dX12_number_149 : decode cX12_number 149 = .ok (.invokestatic 268, 3) := by decide +kernel
theorem dX12_number_152 : decode cX12_number 152 = .ok (.ifCond .ne 12, 3) := by decide +kernel
theorem dX12_number_155 : decode cX12_number 155 = .ok (.aload_n 0, 1) := by decide +kernel
theorem dX12_number_156 : decode cX12_number 156 = .ok (.iconst 2, 1) := by decide +kernel
theorem dX12_number_157 : decode cX12_number 157 = .ok (.aload_n 0, 1) := by decide +kernel
theorem dX12_number_158 : decode cX12_number 158 = .ok (.getfield 265, 3) := by decide +kernel
theorem dX12_number_161 : decode cX12_number 161 = .ok (.invokevirtual 255, 3) := by decide +kernel
theorem dX12_number_164 : decode cX12_number 164 = .ok (.iload 4, 2) := by decide +kernel
theorem dX12_number_166 : decode cX12_number 166 = .ok (.ireturn, 1) := by decide +kernel
theorem dX12_isOwnHere_0 : decode cX12_isOwnHere 0 = .ok (.aload_n 0, 1) := by decide +kernel
theorem dX12_isOwnHere_1 : decode cX12_isOwnHere 1 = .ok (.aload_n 0, 1) := by decide +kernel
theorem dX12_isOwnHere_2 : decode cX12_isOwnHere 2 = .ok (.getfield 20, 3) := by decide +kernel
theorem dX12_isOwnHere_5 : decode cX12_isOwnHere 5 = .ok (.invokevirtual 248, 3) := by decide +kernel
theorem dX12_isOwnHere_8 : decode cX12_isOwnHere 8 = .ok (.ifCond .ne 58, 3) := by decide +kernel
theorem dX12_isOwnHere_11 : decode cX12_isOwnHere 11 = .ok (.aload_n 0, 1) := by decide +kernel
theorem dX12_isOwnHere_12 : decode cX12_isOwnHere 12 = .ok (.aload_n 0, 1) := by decide +kernel
theorem dX12_isOwnHere_13 : decode cX12_isOwnHere 13 = .ok (.getfield 24, 3) := by decide +kernel
theorem dX12_isOwnHere_16 : decode cX12_isOwnHere 16 = .ok (.invokevirtual 248, 3) := by decide +kernel
theorem dX12_isOwnHere_19 : decode cX12_isOwnHere 19 = .ok (.ifCond .ne 47, 3) := by decide +kernel
theorem dX12_isOwnHere_22 : decode cX12_isOwnHere 22 = .ok (.aload_n 0, 1) := by decide +kernel
theorem dX12_isOwnHere_23 : decode cX12_isOwnHere 23 = .ok (.aload_n 0, 1) := by decide +kernel
theorem dX12_isOwnHere_24 : decode cX12_isOwnHere 24 = .ok (.getfield 27, 3) := by decide +kernel
theorem dX12_isOwnHere_27 : decode cX12_isOwnHere 27 = .ok (.invokevirtual 248, 3) := by decide +kernel
theorem dX12_isOwnHere_30 : decode cX12_isOwnHere 30 = .ok (.ifCond .ne 36, 3) := by decide +kernel
theorem dX12_isOwnHere_33 : decode cX12_isOwnHere 33 = .ok (.aload_n 0, 1) := by decide +kernel
theorem dX12_isOwnHere_34 : decode cX12_isOwnHere 34 = .ok (.aload_n 0, 1) := by decide +kernel
theorem dX12_isOwnHere_35 : decode cX12_isOwnHere 35 = .ok (.getfield 30, 3) := by decide +kernel
theorem dX12_isOwnHere_38 : decode cX12_isOwnHere 38 = .ok (.invokevirtual 248, 3) := by decide +kernel
theorem dX12_isOwnHere_41 : decode cX12_isOwnHere 41 = .ok (.ifCond .ne 25, 3) := by decide +kernel
theorem dX12_isOwnHere_44 : decode cX12_isOwnHere 44 = .ok (.aload_n 0, 1) := by decide +kernel
theorem dX12_isOwnHere_45 : decode cX12_isOwnHere 45 = .ok (.aload_n 0, 1) := by decide +kernel
theorem dX12_isOwnHere_46 : decode cX12_isOwnHere 46 = .ok (.getfield 33, 3) := by decide +kernel
theorem dX12_isOwnHere_49 : decode cX12_isOwnHere 49 = .ok (.invokevirtual 248, 3) := by decide +kernel
theorem dX12_isOwnHere_52 : decode cX12_isOwnHere 52 = .ok (.ifCond .ne 14, 3) := by decide +kernel
theorem dX12_isOwnHere_55 : decode cX12_isOwnHere 55 = .ok (.aload_n 0, 1) := by decide +kernel
theorem dX12_isOwnHere_56 : decode cX12_isOwnHere 56 = .ok (.aload_n 0, 1) := by decide +kernel
theorem dX12_isOwnHere_57 : decode cX12_isOwnHere 57 = .ok (.getfield 36, 3) := by decide +kernel
theorem dX12_isOwnHere_60 : decode cX12_isOwnHere 60 = .ok (.invokevirtual 248, 3) := by decide +kernel
theorem dX12_isOwnHere_63 : decode cX12_isOwnHere 63 = .ok (.ifCond .eq 7, 3) := by decide +kernel
theorem dX12_isOwnHere_66 : decode cX12_isOwnHere 66 = .ok (.iconst 1, 1) := by decide +kernel
theorem dX12_isOwnHere_67 : decode cX12_isOwnHere 67 = .ok (.goto 4, 3) := by decide +kernel
theorem dX12_isOwnHere_70 : decode cX12_isOwnHere 70 = .ok (.iconst 0, 1) := by decide +kernel
theorem dX12_isOwnHere_71 : decode cX12_isOwnHere 71 = .ok (.istore_n 1, 1) := by decide +kernel
theorem dX12_isOwnHere_72 : decode cX12_isOwnHere 72 = .ok (.iload_n 1, 1) := by decide +kernel
theorem dX12_isOwnHere_73 : decode cX12_isOwnHere 73 = .ok (.ifCond .ne 69, 3) := by decide +kernel
theorem dX12_isOwnHere_76 : decode cX12_isOwnHere 76 = .ok (.aload_n 0, 1) := by decide +kernel
theorem dX12_isOwnHere_77 : decode cX12_isOwnHere 77 = .ok (.aload_n 0, 1) := by decide +kernel
theorem dX12_isOwnHere_78 : decode cX12_isOwnHere 78 = .ok (.getfield 39, 3) := by decide +kernel
theorem dX12_isOwnHere_81 : decode cX12_isOwnHere 81 = .ok (.invokevirtual 248, 3) := by decide +kernel
theorem dX12_isOwnHere_84 : decode cX12_isOwnHere 84 = .ok (.ifCond .ne 58, 3) := by decide +kernel
theorem dX12_isOwnHere_87 : decode cX12_isOwnHere 87 = .ok (.aload_n 0, 1) := by decide +kernel
theorem dX12_isOwnHere_88 : decode cX12_isOwnHere 88 = .ok (.aload_n 0, 1) := by decide +kernel
theorem dX12_isOwnHere_89 : decode cX12_isOwnHere 89 = .ok (.getfield 42, 3) := by decide +kernel
theorem dX12_isOwnHere_92 : decode cX12_isOwnHere 92 = .ok (.invokevirtual 248, 3) := by decide +kernel
theorem dX12_isOwnHere_95 : decode cX12_isOwnHere 95 = .ok (.ifCond .ne 47, 3) := by decide +kernel
theorem dX12_isOwnHere_98 : decode cX12_isOwnHere 98 = .ok (.aload_n 0, 1) := by decide +kernel
theorem dX12_isOwnHere_99 : decode cX12_isOwnHere 99 = .ok (.aload_n 0, 1) := by decide +kernel
theorem dX12_isOwnHere_100 : decode cX12_isOwnHere 100 = .ok (.getfield 45, 3) := by decide +kernel
theorem dX12_isOwnHere_103 : decode cX12_isOwnHere 103 = .ok (.invokevirtual 248, 3) := by decide +kernel
theorem dX12_isOwnHere_106 : decode cX12_isOwnHere 106 = .ok (.ifCond .ne 36, 3) := by decide +kernel
theorem dX12_isOwnHere_109 : decode cX12_isOwnHere 109 = .ok (.aload_n 0, 1) := by decide +kernel
theorem dX12_isOwnHere_110 : decode cX12_isOwnHere 110 = .ok (.aload_n 0, 1) := by decide +kernel
theorem dX12_isOwnHere_111 : decode cX12_isOwnHere 111 = .ok (.getfield 48, 3) := by decide +kernel
theorem dX12_isOwnHere_114 : decode cX12_isOwnHere 114 = .ok (.invokevirtual 248, 3) := by decide +kernel
theorem dX12_isOwnHere_117 : decode cX12_isOwnHere 117 = .ok (.ifCond .ne 25, 3) := by decide +kernel
theorem dX12_isOwnHere_120 : decode cX12_isOwnHere 120 = .ok (.aload_n 0, 1) := by decide +kernel
theorem dX12_isOwnHere_121 : decode cX12_isOwnHere 121 = .ok (.aload_n 0, 1) := by decide +kernel
theorem dX12_isOwnHere_122 : decode cX12_isOwnHere 122 = .ok (.getfield 51, 3) := by decide +kernel
theorem dX12_isOwnHere_125 : decode cX12_isOwnHere 125 = .ok (.invokevirtual 248, 3) := by decide +kernel
theorem dX12_isOwnHere_128 : decode cX12_isOwnHere 128 = .ok (.ifCond .ne 14, 3) := by decide +kernel
theorem dX12_isOwnHere_131 : decode cX12_isOwnHere 131 = .ok (.aload_n 0, 1) := by decide +kernel
theorem dX12_isOwnHere_132 : decode cX12_isOwnHere 132 = .ok (.aload_n 0, 1) := by decide +kernel
theorem dX12_isOwnHere_133 : decode cX12_isOwnHere 133 = .ok (.getfield 54, 3) := by decide +kernel
theorem dX12_isOwnHere_136 : decode cX12_isOwnHere 136 = .ok (.invokevirtual 248, 3) := by decide +kernel
theorem dX12_isOwnHere_139 : decode cX12_isOwnHere 139 = .ok (.ifCond .eq 7, 3) := by decide +kernel
theorem dX12_isOwnHere_142 : decode cX12_isOwnHere 142 = .ok (.iconst 1, 1) := by decide +kernel
theorem dX12_isOwnHere_143 : decode cX12_isOwnHere 143 = .ok (.goto 4, 3) := by decide +kernel
theorem dX12_isOwnHere_146 : decode cX12_isOwnHere 146 = .ok (.iconst 0, 1) := by decide +kernel
theorem dX12_isOwnHere_147 : decode cX12_isOwnHere 147 = .ok (.istore_n 1, 1) := by decide +kernel
theorem dX12_isOwnHere_148 : decode cX12_isOwnHere 148 = .ok (.iload_n 1, 1) := by decide +kernel
theorem dX12_isOwnHere_149 : decode cX12_isOwnHere 149 = .ok (.ifCond .ne 69, 3) := by decide +kernel
theorem dX12_isOwnHere_152 : decode cX12_isOwnHere 152 = .ok (.aload_n 0, 1) := by decide +kernel
theorem dX12_isOwnHere_153 : decode cX12_isOwnHere 153 = .ok (.aload_n 0, 1) := by decide +kernel
theorem dX12_isOwnHere_154 : decode cX12_isOwnHere 154 = .ok (.getfield 57, 3) := by decide +kernel
theorem dX12_isOwnHere_157 : decode cX12_isOwnHere 157 = .ok (.invokevirtual 248, 3) := by decide +kernel
theorem dX12_isOwnHere_160 : decode cX12_isOwnHere 160 = .ok (.ifCond .ne 58, 3) := by decide +kernel
theorem dX12_isOwnHere_163 : decode cX12_isOwnHere 163 = .ok (.aload_n 0, 1) := by decide +kernel
theorem dX12_isOwnHere_164 : decode cX12_isOwnHere 164 = .ok (.aload_n 0, 1) := by decide +kernel
theorem dX12_isOwnHere_165 : decode cX12_isOwnHere 165 = .ok (.getfield 60, 3) := by decide +kernel
theorem dX12_isOwnHere_168 : decode cX12_isOwnHere 168 = .ok (.invokevirtual 248, 3) := by decide +kernel
theorem dX12_isOwnHere_171 : decode cX12_isOwnHere 171 = .ok (.ifCond .ne 47, 3) := by decide +kernel
theorem dX12_isOwnHere_174 : decode cX12_isOwnHere 174 = .ok (.aload_n 0, 1) := by decide +kernel
theorem dX12_isOwnHere_175 : decode cX12_isOwnHere 175 = .ok (.aload_n 0, 1) := by decide +kernel
theorem dX12_isOwnHere_176 : decode cX12_isOwnHere 176 = .ok (.getfield 63, 3) := by decide +kernel
theorem dX12_isOwnHere_179 : decode cX12_isOwnHere 179 = .ok (.invokevirtual 248, 3) := by decide +kernel
theorem dX12_isOwnHere_182 : decode cX12_isOwnHere 182 = .ok (.ifCond .ne 36, 3) := by decide +kernel
theorem dX12_isOwnHere_185 : decode cX12_isOwnHere 185 = .ok (.aload_n 0, 1) := by decide +kernel
theorem dX12_isOwnHere_186 : decode cX12_isOwnHere 186 = .ok (.aload_n 0, 1) := by decide +kernel
theorem dX12_isOwnHere_187 : decode cX12_isOwnHere 187 = .ok (.getfield 66, 3) := by decide +kernel
theorem dX12_isOwnHere_190 : decode cX12_isOwnHere 190 = .ok (.invokevirtual 248, 3) := by decide +kernel
theorem dX12_isOwnHere_193 : decode cX12_isOwnHere 193 = .ok (.ifCond .ne 25, 3) := by decide +kernel
theorem dX12_isOwnHere_196 : decode cX12_isOwnHere 196 = .ok (.aload_n 0, 1) := by decide +kernel
theorem dX12_isOwnHere_197 : decode cX12_isOwnHere 197 = .ok (.aload_n 0, 1) := by decide +kernel
theorem dX12_isOwnHere_198 : decode cX12_isOwnHere 198 = .ok (.getfield 69, 3) := by decide +kernel
theorem dX12_isOwnHere_201 : decode cX12_isOwnHere 201 = .ok (.invokevirtual 248, 3) := by decide +kernel
theorem dX12_isOwnHere_204 : decode cX12_isOwnHere 204 = .ok (.ifCond .ne 14, 3) := by decide +kernel
theorem dX12_isOwnHere_207 : decode cX12_isOwnHere 207 = .ok (.aload_n 0, 1) := by decide +kernel
theorem dX12_isOwnHere_208 : decode cX12_isOwnHere 208 = .ok (.aload_n 0, 1) := by decide +kernel
theorem dX12_isOwnHere_209 : decode cX12_isOwnHere 209 = .ok (.getfield 72, 3) := by decide +kernel
theorem dX12_isOwnHere_212 : decode cX12_isOwnHere 212 = .ok (.invokevirtual 248, 3) := by decide +kernel
theorem dX12_isOwnHere_215 : decode cX12_isOwnHere 215 = .ok (.ifCond .eq 7, 3) := by decide +kernel
theorem dX12_isOwnHere_218 : decode cX12_isOwnHere 218 = .ok (.iconst 1, 1) := by decide +kernel
theorem dX12_isOwnHere_219 : decode cX12_isOwnHere 219 = .ok (.goto 4, 3) := by decide +kernel
theorem dX12_isOwnHere_222 : decode cX12_isOwnHere 222 = .ok (.iconst 0, 1) := by decide +kernel
theorem dX12_isOwnHere_223 : decode cX12_isOwnHere 223 = .ok (.istore_n 1, 1) := by decide +kernel
theorem dX12_isOwnHere_224 : decode cX12_isOwnHere 224 = .ok (.iload_n 1, 1) := by decide +kernel
theorem dX12_isOwnHere_225 : decode cX12_isOwnHere 225 = .ok (.ifCond .ne 69, 3) := by decide +kernel
theorem dX12_isOwnHere_228 : decode cX12_isOwnHere 228 = .ok (.aload_n 0, 1) := by decide +kernel
theorem dX12_isOwnHere_229 : decode cX12_isOwnHere 229 = .ok (.aload_n 0, 1) := by decide +kernel
theorem dX12_isOwnHere_230 : decode cX12_isOwnHere 230 = .ok (.getfield 75, 3) := by decide +kernel
theorem dX12_isOwnHere_233 : decode cX12_isOwnHere 233 = .ok (.invokevirtual 248, 3) := by decide +kernel
theorem dX12_isOwnHere_236 : decode cX12_isOwnHere 236 = .ok (.ifCond .ne 58, 3) := by decide +kernel
theorem dX12_isOwnHere_239 : decode cX12_isOwnHere 239 = .ok (.aload_n 0, 1) := by decide +kernel
theorem dX12_isOwnHere_240 : decode cX12_isOwnHere 240 = .ok (.aload_n 0, 1) := by decide +kernel
theorem dX12_isOwnHere_241 : decode cX12_isOwnHere 241 = .ok (.getfield 78, 3) := by decide +kernel
theorem dX12_isOwnHere_244 : decode cX12_isOwnHere 244 = .ok (.invokevirtual 248, 3) := by decide +kernel
theorem dX12_isOwnHere_247 : decode cX12_isOwnHere 247 = .ok (.ifCond .ne 47, 3) := by decide +kernel
theorem dX12_isOwnHere_250 : decode cX12_isOwnHere 250 = .ok (.aload_n 0, 1) := by decide +kernel
theorem dX12_isOwnHere_251 : decode cX12_isOwnHere 251 = .ok (.aload_n 0, 1) := by decide +kernel
theorem dX12_isOwnHere_252 : decode cX12_isOwnHere 252 = .ok (.getfield 81, 3) := by decide +kernel
theorem dX12_isOwnHere_255 : decode cX12_isOwnHere 255 = .ok (.invokevirtual 248, 3) := by decide +kernel
theorem dX12_isOwnHere_258 : decode cX12_isOwnHere 258 = .ok (.ifCond .ne 36, 3) := by decide +kernel
theorem dX12_isOwnHere_261 : decode cX12_isOwnHere 261 = .ok (.aload_n 0, 1) := by decide +kernel
theorem dX12_isOwnHere_262 : decode cX12_isOwnHere 262 = .ok (.aload_n 0, 1) := by decide +kernel
theorem dX12_isOwnHere_263 : decode cX12_isOwnHere 263 = .ok (.getfield 84, 3) := by decide +kernel
theorem dX12_isOwnHere_266 : decode cX12_isOwnHere 266 = .ok (.invokevirtual 248, 3) := by decide +kernel
theorem dX12_isOwnHere_269 : decode cX12_isOwnHere 269 = .ok (.ifCond .ne 25, 3) := by decide +kernel
theorem dX12_isOwnHere_272 : decode cX12_isOwnHere 272 = .ok (.aload_n 0, 1) := by decide +kernel
theorem dX12_isOwnHere_273 : decode cX12_isOwnHere 273 = .ok (.aload_n 0, 1) := by decide +kernel
theorem dX12_isOwnHere_274 : decode cX12_isOwnHere 274 = .ok (.getfield 87, 3) := by decide +kernel
theorem dX12_isOwnHere_277 : decode cX12_isOwnHere 277 = .ok (.invokevirtual 248, 3) := by decide +kernel
theorem dX12_isOwnHere_280 : decode cX12_isOwnHere 280 = .ok (.ifCond .ne 14, 3) := by decide +kernel
theorem dX12_isOwnHere_283 : decode cX12_isOwnHere 283 = .ok (.aload_n 0, 1) := by decide +kernel
theorem dX12_isOwnHere_284 : decode cX12_isOwnHere 284 = .ok (.aload_n 0, 1) := by decide +kernel
theorem dX12_isOwnHere_285 : decode cX12_isOwnHere 285 = .ok (.getfield 90, 3) := by decide +kernel
theorem dX12_isOwnHere_288 : decode cX12_isOwnHere 288 = .ok (.invokevirtual 248, 3) := by decide +kernel
theorem dX12_isOwnHere_291 : decode cX12_isOwnHere 291 = .ok (.ifCond .eq 7, 3) := by decide +kernel
theorem dX12_isOwnHere_294 : decode cX12_isOwnHere 294 = .ok (.iconst 1, 1) := by decide +kernel
theorem dX12_isOwnHere_295 : decode cX12_isOwnHere 295 = .ok (.goto 4, 3) := by decide +kernel
theorem dX12_isOwnHere_298 : decode cX12_isOwnHere 298 = .ok (.iconst 0, 1) := by decide +kernel
theorem dX12_isOwnHere_299 : decode cX12_isOwnHere 299 = .ok (.istore_n 1, 1) := by decide +kernel
theorem dX12_isOwnHere_300 : decode cX12_isOwnHere 300 = .ok (.iload_n 1, 1) := by decide +kernel
theorem dX12_isOwnHere_301 : decode cX12_isOwnHere 301 = .ok (.ifCond .ne 14, 3) := by decide +kernel
theorem dX12_isOwnHere_304 : decode cX12_isOwnHere 304 = .ok (.aload_n 0, 1) := by decide +kernel
theorem dX12_isOwnHere_305 : decode cX12_isOwnHere 305 = .ok (.aload_n 0, 1) := by decide +kernel
theorem dX12_isOwnHere_306 : decode cX12_isOwnHere 306 = .ok (.getfield 93, 3) := by decide +kernel
theorem dX12_isOwnHere_309 : decode cX12_isOwnHere 309 = .ok (.invokevirtual 248, 3) := by decide +kernel
theorem dX12_isOwnHere_312 : decode cX12_isOwnHere 312 = .ok (.ifCond .eq 7, 3) := by decide +kernel
theorem dX12_isOwnHere_315 : decode cX12_isOwnHere 315 = .ok (.iconst 1, 1) := by decide +kernel
theorem dX12_isOwnHere_316 : decode cX12_isOwnHere 316 = .ok (.goto 4, 3) := by decide +kernel
theorem dX12_isOwnHere_319 : decode cX12_isOwnHere 319 = .ok (.iconst 0, 1) := by decide +kernel
theorem dX12_isOwnHere_320 : decode cX12_isOwnHere 320 = .ok (.istore_n 1, 1) := by decide +kernel
theorem dX12_isOwnHere_321 : decode cX12_isOwnHere 321 = .ok (.iload_n 1, 1) := by decide +kernel
theorem dX12_isOwnHere_322 : decode cX12_isOwnHere 322 = .ok (.ireturn, 1) := by decide +kernel
theorem dX12_name_0 : decode cX12_name 0 = .ok (.aload_n 0, 1) := by decide +kernel
theorem dX12_name_1 : decode cX12_name 1 = .ok (.getfield 225, 3) := by decide +kernel
theorem dX12_name_4 : decode cX12_name 4 = .ok (.ifCond .eq 5, 3) := by decide +kernel
theorem dX12_name_7 : decode cX12_name 7 = .ok (.lconst 0, 1) := by decide +kernel
theorem dX12_name_8 : decode cX12_name 8 = .ok (.lreturn, 1) := by decide +kernel
theorem dX12_name_9 : decode cX12_name 9 = .ok (.aload_n 0, 1) := by decide +kernel
theorem dX12_name_10 : decode cX12_name 10 = .ok (.invokevirtual 237, 3) := by decide +kernel
theorem dX12_name_13 : decode cX12_name 13 = .ok (.invokestatic 241, 3) := by decide +kernel
theorem dX12_name_16 : decode cX12_name 16 = .ok (.ifCond .eq 21, 3) := by decide +kernel
theorem dX12_name_19 : decode cX12_name 19 = .ok (.aload_n 0, 1) := by decide +kernel
theorem dX12_name_20 : decode cX12_name 20 = .ok (.getfield 231, 3) := by decide +kernel
theorem dX12_name_23 : decode cX12_name 23 = .ok (.aload_n 0, 1) := by decide +kernel
theorem dX12_name_24 : decode cX12_name 24 = .ok (.getfield 245, 3) := by decide +kernel
theorem dX12_name_27 : decode cX12_name 27 = .ok (.if_icmp .eq 10, 3) := by decide +kernel
theorem dX12_name_30 : decode cX12_name 30 = .ok (.aload_n 0, 1) := by decide +kernel
theorem dX12_name_31 : decode cX12_name 31 = .ok (.invokevirtual 272, 3) := by decide +kernel
theorem dX12_name_34 : decode cX12_name 34 = .ok (.ifCond .eq 14, 3) := by decide +kernel
theorem dX12_name_37 : decode cX12_name 37 = .ok (.aload_n 0, 1) := by decide +kernel
theorem dX12_name_38 : decode cX12_name 38 = .ok (.iconst 1, 1) := by decide +kernel
theorem dX12_name_39 : decode cX12_name 39 = .ok (.aload_n 0, 1) := by decide +kernel
theorem dX12_name_40 : decode cX12_name 40 = .ok (.getfield 231, 3) := by decide +kernel
theorem dX12_name_43 : decode cX12_name 43 = .ok (.invokevirtual 255, 3) := by decide +kernel
theorem dX12_name_46 : decode cX12_name 46 = .ok (.lconst 0, 1) := by decide +kernel
theorem dX12_name_47 : decode cX12_name 47 = .ok (.lreturn, 1) := by decide +kernel
theorem dX12_name_48 : decode cX12_name 48 = .ok (.aload_n 0, 1) := by decide +kernel
theorem dX12_name_49 : decode cX12_name 49 = .ok (.aload_n 0, 1) := by decide +kernel
theorem dX12_name_50 : decode cX12_name 50 = .ok (.getfield 231, 3) := by decide +kernel
theorem dX12_name_53 : decode cX12_name 53 = .ok (.putfield 276, 3) := by decide +kernel
theorem dX12_name_56 : decode cX12_name 56 = .ok (.lconst 0, 1) := by decide +kernel
theorem dX12_name_57 : decode cX12_name 57 = .ok (.lstore_n 1, 1) := by decide +kernel
theorem dX12_name_58 : decode cX12_name 58 = .ok (.aload_n 0, 1) := by decide +kernel
theorem dX12_name_59 : decode cX12_name 59 = .ok (.getfield 231, 3) := by decide +kernel
theorem dX12_name_62 : decode cX12_name 62 = .ok (.aload_n 0, 1) := by decide +kernel
theorem dX12_name_63 : decode cX12_name 63 = .ok (.getfield 234, 3) := by decide +kernel
theorem dX12_name_66 : decode cX12_name 66 = .ok (.if_icmp .ge 79, 3) := by decide +kernel
theorem dX12_name_69 : decode cX12_name 69 = .ok (.aload_n 0, 1) := by decide +kernel
theorem dX12_name_70 : decode cX12_name 70 = .ok (.getfield 7, 3) := by decide +kernel
theorem dX12_name_73 : decode cX12_name 73 = .ok (.aload_n 0, 1) := by decide +kernel
theorem dX12_name_74 : decode cX12_name 74 = .ok (.getfield 231, 3) := by decide +kernel
theorem dX12_name_77 : decode cX12_name 77 = .ok (.iaload, 1) := by decide +kernel
theorem dX12_name_78 : decode cX12_name 78 = .ok (.invokestatic 241, 3) := by decide +kernel
theorem dX12_name_81 : decode cX12_name 81 = .ok (.ifCond .eq 64, 3) := by decide +kernel
theorem dX12_name_84 : decode cX12_name 84 = .ok (.aload_n 0, 1) := by decide +kernel
theorem dX12_name_85 : decode cX12_name 85 = .ok (.getfield 231, 3) := by decide +kernel
theorem dX12_name_88 : decode cX12_name 88 = .ok (.aload_n 0, 1) := by decide +kernel
theorem dX12_name_89 : decode cX12_name 89 = .ok (.getfield 276, 3) := by decide +kernel
theorem dX12_name_92 : decode cX12_name 92 = .ok (.isub, 1) := by decide +kernel
theorem dX12_name_93 : decode cX12_name 93 = .ok (.bipush 6, 2) := by decide +kernel
theorem dX12_name_95 : decode cX12_name 95 = .ok (.if_icmp .ne 14, 3) := by decide +kernel
theorem dX12_name_98 : decode cX12_name 98 = .ok (.aload_n 0, 1) := by decide +kernel
theorem dX12_name_99 : decode cX12_name 99 = .ok (.iconst 1, 1) := by decide +kernel
theorem dX12_name_100 : decode cX12_name 100 = .ok (.aload_n 0, 1) := by decide +kernel
theorem dX12_name_101 : decode cX12_name 101 = .ok (.getfield 231, 3) := by decide +kernel
theorem dX12_name_104 : decode cX12_name 104 = .ok (.invokevirtual 255, 3) := by decide +kernel
theorem dX12_name_107 : decode cX12_name 107 = .ok (.lconst 0, 1) := by decide +kernel
theorem dX12_name_108 : decode cX12_name 108 = .ok (.lreturn, 1) := by decide +kernel
theorem dX12_name_109 : decode cX12_name 109 = .ok (.ldc2_w 279, 3) := by decide +kernel
theorem dX12_name_112 : decode cX12_name 112 = .ok (.lload_n 1, 1) := by decide +kernel
theorem dX12_name_113 : decode cX12_name 113 = .ok (.lmul, 1) := by decide +kernel
theorem dX12_name_114 : decode cX12_name 114 = .ok (.aload_n 0, 1) := by decide +kernel
theorem dX12_name_115 : decode cX12_name 115 = .ok (.getfield 7, 3) := by decide +kernel
theorem dX12_name_118 : decode cX12_name 118 = .ok (.aload_n 0, 1) := by decide +kernel
theorem dX12_name_119 : decode cX12_name 119 = .ok (.getfield 231, 3) := by decide +kernel
theorem dX12_name_122 : decode cX12_name 122 = .ok (.iaload, 1) := by decide +kernel
theorem dX12_name_123 : decode cX12_name 123 = .ok (.i2l, 1) := by decide +kernel
theorem dX12_name_124 : decode cX12_name 124 = .ok (.ladd, 1) := by decide +kernel
theorem dX12_name_125 : decode cX12_name 125 = .ok (.ldc2_w 281, 3) := by decide +kernel
theorem dX12_name_128 : decode cX12_name 128 = .ok (.lsub, 1) := by decide +kernel
theorem dX12_name_129 : decode cX12_name 129 = .ok (.lconst 1, 1) := by decide +kernel
theorem dX12_name_130 : decode cX12_name 130 = .ok (.ladd, 1) := by decide +kernel
theorem dX12_name_131 : decode cX12_name 131 = .ok (.lstore_n 1, 1) := by decide +kernel
theorem dX12_name_132 : decode cX12_name 132 = .ok (.aload_n 0, 1) := by decide +kernel
theorem dX12_name_133 : decode cX12_name 133 = .ok (.dup, 1) := by decide +kernel
theorem dX12_name_134 : decode cX12_name 134 = .ok (.getfield 231, 3) := by decide +kernel
theorem dX12_name_137 : decode cX12_name 137 = .ok (.iconst 1, 1) := by decide +kernel
theorem dX12_name_138 : decode cX12_name 138 = .ok (.iadd, 1) := by decide +kernel
theorem dX12_name_139 : decode cX12_name 139 = .ok (.putfield 231, 3) := by decide +kernel
theorem dX12_name_142 : decode cX12_name 142 = .ok (.goto (-84), 3) := by decide +kernel
theorem dX12_name_145 : decode cX12_name 145 = .ok (.aload_n 0, 1) := by decide +kernel
theorem dX12_name_146 : decode cX12_name 146 = .ok (.aload_n 0, 1) := by decide +kernel
theorem dX12_name_147 : decode cX12_name 147 = .ok (.getfield 231, 3) := by decide +kernel
theorem dX12_name_150 : decode cX12_name 150 = .ok (.putfield 245, 3) := by decide +kernel
theorem dX12_name_153 : decode cX12_name 153 = .ok (.lload_n 1, 1) := by decide +kernel
theorem dX12_name_154 : decode cX12_name 154 = .ok (.lreturn, 1) := by decide +kernel
theorem dX12_isAllowed_0 : decode cX12_isAllowed 0 = .ok (.aload_n 0, 1) := by decide +kernel
theorem dX12_isAllowed_1 : decode cX12_isAllowed 1 = .ok (.getfield 283, 3) := by decide +kernel
theorem dX12_isAllowed_4 : decode cX12_isAllowed 4 = .ok (.tableswitch 61 0 2 #[28, 39, 49], 28) := by decide +kernel
theorem dX12_isAllowed_32 : decode cX12_isAllowed 32 = .ok (.iload_n 1, 1) := by decide +kernel
theorem dX12_isAllowed_33 : decode cX12_isAllowed 33 = .ok (.iconst 3, 1) := by decide +kernel
theorem dX12_isAllowed_34 : decode cX12_isAllowed 34 = .ok (.if_icmp .ge 7, 3) := by decide +kernel
theorem dX12_isAllowed_37 : decode cX12_isAllowed 37 = .ok (.iconst 1, 1) := by decide +kernel
theorem dX12_isAllowed_38 : decode cX12_isAllowed 38 = .ok (.goto 4, 3) := by decide +kernel
theorem dX12_isAllowed_41 : decode cX12_isAllowed 41 = .ok (.iconst 0, 1) := by decide +kernel
theorem dX12_isAllowed_42 : decode cX12_isAllowed 42 = .ok (.ireturn, 1) := by decide +kernel
theorem dX12_isAllowed_43 : decode cX12_isAllowed 43 = .ok (.iload_n 1, 1) := by decide +kernel
theorem dX12_isAllowed_44 : decode cX12_isAllowed 44 = .ok (.ifCond .ne 7, 3) := by decide +kernel
theorem dX12_isAllowed_47 : decode cX12_isAllowed 47 = .ok (.iconst 1, 1) := by decide +kernel
theorem dX12_isAllowed_48 : decode cX12_isAllowed 48 = .ok (.goto 4, 3) := by decide +kernel
theorem dX12_isAllowed_51 : decode cX12_isAllowed 51 = .ok (.iconst 0, 1) := by decide +kernel
theorem dX12_isAllowed_52 : decode cX12_isAllowed 52 = .ok (.ireturn, 1) := by decide +kernel
theorem dX12_isAllowed_53 : decode cX12_isAllowed 53 = .ok (.iload_n 1, 1) := by decide +kernel
theorem dX12_isAllowed_54 : decode cX12_isAllowed 54 = .ok (.i2l, 1) := by decide +kernel
theorem dX12_isAllowed_55 : decode cX12_isAllowed 55 = .ok (.ldc2_w 286, 3) := by decide +kernel
theorem dX12_isAllowed_58 : decode cX12_isAllowed 58 = .ok (.ldc2_w 288, 3) := by decide +kernel
theorem dX12_isAllowed_61 : decode cX12_isAllowed 61 = .ok (.invokestatic 268, 3) := by decide +kernel
theorem dX12_isAllowed_64 : decode cX12_isAllowed 64 = .ok (.ireturn, 1) := by decide +kernel
theorem dX12_isAllowed_65 : decode cX12_isAllowed 65 = .ok (.iload_n 1, 1) := by decide +kernel
theorem dX12_isAllowed_66 : decode cX12_isAllowed 66 = .ok (.iconst 2, 1) := by decide +kernel
theorem dX12_isAllowed_67 : decode cX12_isAllowed 67 = .ok (.if_icmp .le 7, 3) := by decide +kernel
theorem dX12_isAllowed_70 : decode cX12_isAllowed 70 = .ok (.iconst 1, 1) := by decide +kernel
theorem dX12_isAllowed_71 : decode cX12_isAllowed 71 = .ok (.goto 4, 3) := by decide +kernel
theorem dX12_isAllowed_74 : decode cX12_isAllowed 74 = .ok (.iconst 0, 1) := by decide +kernel
theorem dX12_isAllowed_75 : decode cX12_isAllowed 75 = .ok (.ireturn, 1) := by decide +kernel
theorem dX12_machineTold_0 : decode cX12_machineTold 0 = .ok (.aload_n 0, 1) := by decide +kernel
theorem dX12_machineTold_1 : decode cX12_machineTold 1 = .ok (.aload_n 0, 1) := by decide +kernel
theorem dX12_machineTold_2 : decode cX12_machineTold 2 = .ok (.getfield 20, 3) := by decide +kernel
theorem dX12_machineTold_5 : decode cX12_machineTold 5 = .ok (.invokevirtual 290, 3) := by decide +kernel
theorem dX12_machineTold_8 : decode cX12_machineTold 8 = .ok (.aload_n 0, 1) := by decide +kernel
theorem dX12_machineTold_9 : decode cX12_machineTold 9 = .ok (.getfield 96, 3) := by decide +kernel
theorem dX12_machineTold_12 : decode cX12_machineTold 12 = .ok (.iconst 0, 1) := by decide +kernel
theorem dX12_machineTold_13 : decode cX12_machineTold 13 = .ok (.aload_n 0, 1) := by decide +kernel
theorem dX12_machineTold_14 : decode cX12_machineTold 14 = .ok (.bipush 64, 2) := by decide +kernel
theorem dX12_machineTold_16 : decode cX12_machineTold 16 = .ok (.sipush 1024, 3) := by decide +kernel
theorem dX12_machineTold_19 : decode cX12_machineTold 19 = .ok (.invokevirtual 294, 3) := by decide +kernel
theorem dX12_machineTold_22 : decode cX12_machineTold 22 = .ok (.iastore, 1) := by decide +kernel
theorem dX12_machineTold_23 : decode cX12_machineTold 23 = .ok (.aload_n 0, 1) := by decide +kernel
theorem dX12_machineTold_24 : decode cX12_machineTold 24 = .ok (.aload_n 0, 1) := by decide +kernel
theorem dX12_machineTold_25 : decode cX12_machineTold 25 = .ok (.getfield 24, 3) := by decide +kernel
theorem dX12_machineTold_28 : decode cX12_machineTold 28 = .ok (.invokevirtual 290, 3) := by decide +kernel
theorem dX12_machineTold_31 : decode cX12_machineTold 31 = .ok (.aload_n 0, 1) := by decide +kernel
theorem dX12_machineTold_32 : decode cX12_machineTold 32 = .ok (.getfield 96, 3) := by decide +kernel
theorem dX12_machineTold_35 : decode cX12_machineTold 35 = .ok (.iconst 1, 1) := by decide +kernel
theorem dX12_machineTold_36 : decode cX12_machineTold 36 = .ok (.aload_n 0, 1) := by decide +kernel
theorem dX12_machineTold_37 : decode cX12_machineTold 37 = .ok (.iconst 4, 1) := by decide +kernel
theorem dX12_machineTold_38 : decode cX12_machineTold 38 = .ok (.bipush 8, 2) := by decide +kernel
theorem dX12_machineTold_40 : decode cX12_machineTold 40 = .ok (.invokevirtual 294, 3) := by decide +kernel
theorem dX12_machineTold_43 : decode cX12_machineTold 43 = .ok (.iastore, 1) := by decide +kernel
theorem dX12_machineTold_44 : decode cX12_machineTold 44 = .ok (.aload_n 0, 1) := by decide +kernel
theorem dX12_machineTold_45 : decode cX12_machineTold 45 = .ok (.bipush 59, 2) := by decide +kernel
theorem dX12_machineTold_47 : decode cX12_machineTold 47 = .ok (.invokevirtual 298, 3) := by decide +kernel
theorem dX12_machineTold_50 : decode cX12_machineTold 50 = .ok (.return_, 1) := by decide +kernel
theorem dX12_shelfTold_0 : decode cX12_shelfTold 0 = .ok (.aload_n 0, 1) := by decide +kernel
theorem dX12_shelfTold_1 : decode cX12_shelfTold 1 = .ok (.getfield 225, 3) := by decide +kernel
theorem dX12_shelfTold_4 : decode cX12_shelfTold 4 = .ok (.ifCond .ne 19, 3) := by decide +kernel
theorem dX12_shelfTold_7 : decode cX12_shelfTold 7 = .ok (.aload_n 0, 1) := by decide +kernel
theorem dX12_shelfTold_8 : decode cX12_shelfTold 8 = .ok (.getfield 96, 3) := by decide +kernel
theorem dX12_shelfTold_11 : decode cX12_shelfTold 11 = .ok (.iconst 2, 1) := by decide +kernel
theorem dX12_shelfTold_12 : decode cX12_shelfTold 12 = .ok (.iaload, 1) := by decide +kernel
theorem dX12_shelfTold_13 : decode cX12_shelfTold 13 = .ok (.iconst 4, 1) := by decide +kernel
theorem dX12_shelfTold_14 : decode cX12_shelfTold 14 = .ok (.if_icmp .ne 9, 3) := by decide +kernel
theorem dX12_shelfTold_17 : decode cX12_shelfTold 17 = .ok (.aload_n 0, 1) := by decide +kernel
theorem dX12_shelfTold_18 : decode cX12_shelfTold 18 = .ok (.iconst 5, 1) := by decide +kernel
theorem dX12_shelfTold_19 : decode cX12_shelfTold 19 = .ok (.iload_n 1, 1) := by decide +kernel
theorem dX12_shelfTold_20 : decode cX12_shelfTold 20 = .ok (.invokevirtual 255, 3) := by decide +kernel
theorem dX12_shelfTold_23 : decode cX12_shelfTold 23 = .ok (.aload_n 0, 1) := by decide +kernel
theorem dX12_shelfTold_24 : decode cX12_shelfTold 24 = .ok (.invokevirtual 302, 3) := by decide +kernel
theorem dX12_shelfTold_27 : decode cX12_shelfTold 27 = .ok (.lstore_n 2, 1) := by decide +kernel
theorem dX12_shelfTold_28 : decode cX12_shelfTold 28 = .ok (.iconst 0, 1) := by decide +kernel
theorem dX12_shelfTold_29 : decode cX12_shelfTold 29 = .ok (.istore 4, 2) := by decide +kernel
theorem dX12_shelfTold_31 : decode cX12_shelfTold 31 = .ok (.iload 4, 2) := by decide +kernel
theorem dX12_shelfTold_33 : decode cX12_shelfTold 33 = .ok (.aload_n 0, 1) := by decide +kernel
theorem dX12_shelfTold_34 : decode cX12_shelfTold 34 = .ok (.getfield 96, 3) := by decide +kernel
theorem dX12_shelfTold_37 : decode cX12_shelfTold 37 = .ok (.iconst 2, 1) := by decide +kernel
theorem dX12_shelfTold_38 : decode cX12_shelfTold 38 = .ok (.iaload, 1) := by decide +kernel
theorem dX12_shelfTold_39 : decode cX12_shelfTold 39 = .ok (.if_icmp .ge 37, 3) := by decide +kernel
theorem dX12_shelfTold_42 : decode cX12_shelfTold 42 = .ok (.aload_n 0, 1) := by decide +kernel
theorem dX12_shelfTold_43 : decode cX12_shelfTold 43 = .ok (.getfield 225, 3) := by decide +kernel
theorem dX12_shelfTold_46 : decode cX12_shelfTold 46 = .ok (.ifCond .ne 24, 3) := by decide +kernel
theorem dX12_shelfTold_49 : decode cX12_shelfTold 49 = .ok (.aload_n 0, 1) := by decide +kernel
theorem dX12_shelfTold_50 : decode cX12_shelfTold 50 = .ok (.getfield 99, 3) := by decide +kernel
theorem dX12_shelfTold_53 : decode cX12_shelfTold 53 = .ok (.iload 4, 2) := by decide +kernel
theorem dX12_shelfTold_55 : decode cX12_shelfTold 55 = .ok (.laload, 1) := by decide +kernel
theorem dX12_shelfTold_56 : decode cX12_shelfTold 56 = .ok (.lload_n 2, 1) := by decide +kernel
theorem dX12_shelfTold_57 : decode cX12_shelfTold 57 = .ok (.lcmp, 1) := by decide +kernel
theorem dX12_shelfTold_58 : decode cX12_shelfTold 58 = .ok (.ifCond .ne 12, 3) := by decide +kernel
theorem dX12_shelfTold_61 : decode cX12_shelfTold 61 = .ok (.aload_n 0, 1) := by decide +kernel
theorem dX12_shelfTold_62 : decode cX12_shelfTold 62 = .ok (.iconst 3, 1) := by decide +kernel
theorem dX12_shelfTold_63 : decode cX12_shelfTold 63 = .ok (.aload_n 0, 1) := by decide +kernel
theorem dX12_shelfTold_64 : decode cX12_shelfTold 64 = .ok (.getfield 276, 3) := by decide +kernel
theorem dX12_shelfTold_67 : decode cX12_shelfTold 67 = .ok (.invokevirtual 255, 3) := by decide +kernel
theorem dX12_shelfTold_70 : decode cX12_shelfTold 70 = .ok (.iinc 4 1, 3) := by decide +kernel
theorem dX12_shelfTold_73 : decode cX12_shelfTold 73 = .ok (.goto (-42), 3) := by decide +kernel
theorem dX12_shelfTold_76 : decode cX12_shelfTold 76 = .ok (.aload_n 0, 1) := by decide +kernel
theorem dX12_shelfTold_77 : decode cX12_shelfTold 77 = .ok (.aload_n 0, 1) := by decide +kernel
theorem dX12_shelfTold_78 : decode cX12_shelfTold 78 = .ok (.getfield 30, 3) := by decide +kernel
theorem dX12_shelfTold_81 : decode cX12_shelfTold 81 = .ok (.invokevirtual 290, 3) := by decide +kernel
theorem dX12_shelfTold_84 : decode cX12_shelfTold 84 = .ok (.aload_n 0, 1) := by decide +kernel
theorem dX12_shelfTold_85 : decode cX12_shelfTold 85 = .ok (.iconst 1, 1) := by decide +kernel
theorem dX12_shelfTold_86 : decode cX12_shelfTold 86 = .ok (.bipush 7, 2) := by decide +kernel
theorem dX12_shelfTold_88 : decode cX12_shelfTold 88 = .ok (.invokevirtual 294, 3) := by decide +kernel
theorem dX12_shelfTold_91 : decode cX12_shelfTold 91 = .ok (.istore 4, 2) := by decide +kernel
theorem dX12_shelfTold_93 : decode cX12_shelfTold 93 = .ok (.aload_n 0, 1) := by decide +kernel
theorem dX12_shelfTold_94 : decode cX12_shelfTold 94 = .ok (.getfield 225, 3) := by decide +kernel
theorem dX12_shelfTold_97 : decode cX12_shelfTold 97 = .ok (.ifCond .eq 4, 3) := by decide +kernel
theorem dX12_shelfTold_100 : decode cX12_shelfTold 100 = .ok (.return_, 1) := by decide +kernel
theorem dX12_shelfTold_101 : decode cX12_shelfTold 101 = .ok (.aload_n 0, 1) := by decide +kernel
theorem dX12_shelfTold_102 : decode cX12_shelfTold 102 = .ok (.getfield 99, 3) := by decide +kernel
theorem dX12_shelfTold_105 : decode cX12_shelfTold 105 = .ok (.aload_n 0, 1) := by decide +kernel
theorem dX12_shelfTold_106 : decode cX12_shelfTold 106 = .ok (.getfield 96, 3) := by decide +kernel
theorem dX12_shelfTold_109 : decode cX12_shelfTold 109 = .ok (.iconst 2, 1) := by decide +kernel
theorem dX12_shelfTold_110 : decode cX12_shelfTold 110 = .ok (.iaload, 1) := by decide +kernel
theorem dX12_shelfTold_111 : decode cX12_shelfTold 111 = .ok (.lload_n 2, 1) := by decide +kernel
theorem dX12_shelfTold_112 : decode cX12_shelfTold 112 = .ok (.lastore, 1) := by decide +kernel
theorem dX12_shelfTold_113 : decode cX12_shelfTold 113 = .ok (.aload_n 0, 1) := by decide +kernel
theorem dX12_shelfTold_114 : decode cX12_shelfTold 114 = .ok (.getfield 103, 3) := by decide +kernel
theorem dX12_shelfTold_117 : decode cX12_shelfTold 117 = .ok (.aload_n 0, 1) := by decide +kernel
theorem dX12_shelfTold_118 : decode cX12_shelfTold 118 = .ok (.getfield 96, 3) := by decide +kernel
theorem dX12_shelfTold_121 : decode cX12_shelfTold 121 = .ok (.iconst 2, 1) := by decide +kernel
theorem dX12_shelfTold_122 : decode cX12_shelfTold 122 = .ok (.iaload, 1) := by decide +kernel
theorem dX12_shelfTold_123 : decode cX12_shelfTold 123 = .ok (.iload 4, 2) := by decide +kernel
theorem dX12_shelfTold_125 : decode cX12_shelfTold 125 = .ok (.iastore, 1) := by decide +kernel
theorem dX12_shelfTold_126 : decode cX12_shelfTold 126 = .ok (.aload_n 0, 1) := by decide +kernel
theorem dX12_shelfTold_127 : decode cX12_shelfTold 127 = .ok (.getfield 96, 3) := by decide +kernel
theorem dX12_shelfTold_130 : decode cX12_shelfTold 130 = .ok (.iconst 2, 1) := by decide +kernel
theorem dX12_shelfTold_131 : decode cX12_shelfTold 131 = .ok (.dup2, 1) := by decide +kernel
theorem dX12_shelfTold_132 : decode cX12_shelfTold 132 = .ok (.iaload, 1) := by decide +kernel
theorem dX12_shelfTold_133 : decode cX12_shelfTold 133 = .ok (.iconst 1, 1) := by decide +kernel
theorem dX12_shelfTold_134 : decode cX12_shelfTold 134 = .ok (.iadd, 1) := by decide +kernel
theorem dX12_shelfTold_135 : decode cX12_shelfTold 135 = .ok (.iastore, 1) := by decide +kernel
theorem dX12_shelfTold_136 : decode cX12_shelfTold 136 = .ok (.return_, 1) := by decide +kernel
theorem dX12_codesTold_0 : decode cX12_codesTold 0 = .ok (.aload_n 0, 1) := by decide +kernel
theorem dX12_codesTold_1 : decode cX12_codesTold 1 = .ok (.getfield 225, 3) := by decide +kernel
theorem dX12_codesTold_4 : decode cX12_codesTold 4 = .ok (.ifCond .ne 19, 3) := by decide +kernel
theorem dX12_codesTold_7 : decode cX12_codesTold 7 = .ok (.aload_n 0, 1) := by decide +kernel
theorem dX12_codesTold_8 : decode cX12_codesTold 8 = .ok (.getfield 106, 3) := by decide +kernel
theorem dX12_codesTold_11 : decode cX12_codesTold 11 = .ok (.iload_n 1, 1) := by decide +kernel
theorem dX12_codesTold_12 : decode cX12_codesTold 12 = .ok (.iaload, 1) := by decide +kernel
theorem dX12_codesTold_13 : decode cX12_codesTold 13 = .ok (.iconst (-1), 1) := by decide +kernel
theorem dX12_codesTold_14 : decode cX12_codesTold 14 = .ok (.if_icmp .eq 9, 3) := by decide +kernel
theorem dX12_codesTold_17 : decode cX12_codesTold 17 = .ok (.aload_n 0, 1) := by decide +kernel
theorem dX12_codesTold_18 : decode cX12_codesTold 18 = .ok (.iconst 5, 1) := by decide +kernel
theorem dX12_codesTold_19 : decode cX12_codesTold 19 = .ok (.iload_n 2, 1) := by decide +kernel
theorem dX12_codesTold_20 : decode cX12_codesTold 20 = .ok (.invokevirtual 255, 3) := by decide +kernel
theorem dX12_codesTold_23 : decode cX12_codesTold 23 = .ok (.aload_n 0, 1) := by decide +kernel
theorem dX12_codesTold_24 : decode cX12_codesTold 24 = .ok (.getfield 225, 3) := by decide +kernel
theorem dX12_codesTold_27 : decode cX12_codesTold 27 = .ok (.ifCond .eq 4, 3) := by decide +kernel
theorem dX12_codesTold_30 : decode cX12_codesTold 30 = .ok (.return_, 1) := by decide +kernel
theorem dX12_codesTold_31 : decode cX12_codesTold 31 = .ok (.aload_n 0, 1) := by decide +kernel
theorem dX12_codesTold_32 : decode cX12_codesTold 32 = .ok (.iload_n 1, 1) := by decide +kernel
theorem dX12_codesTold_33 : decode cX12_codesTold 33 = .ok (.putfield 283, 3) := by decide +kernel
theorem dX12_codesTold_36 : decode cX12_codesTold 36 = .ok (.aload_n 0, 1) := by decide +kernel
theorem dX12_codesTold_37 : decode cX12_codesTold 37 = .ok (.iconst 0, 1) := by decide +kernel
theorem dX12_codesTold_38 : decode cX12_codesTold 38 = .ok (.putfield 306, 3) := by decide +kernel
theorem dX12_codesTold_41 : decode cX12_codesTold 41 = .ok (.aload_n 0, 1) := by decide +kernel
theorem dX12_codesTold_42 : decode cX12_codesTold 42 = .ok (.iconst 0, 1) := by decide +kernel
theorem dX12_codesTold_43 : decode cX12_codesTold 43 = .ok (.putfield 309, 3) := by decide +kernel
theorem dX12_codesTold_46 : decode cX12_codesTold 46 = .ok (.aload_n 0, 1) := by decide +kernel
theorem dX12_codesTold_47 : decode cX12_codesTold 47 = .ok (.iconst 0, 1) := by decide +kernel
theorem dX12_codesTold_48 : decode cX12_codesTold 48 = .ok (.putfield 312, 3) := by decide +kernel
theorem dX12_codesTold_51 : decode cX12_codesTold 51 = .ok (.aload_n 0, 1) := by decide +kernel
theorem dX12_codesTold_52 : decode cX12_codesTold 52 = .ok (.iconst 0, 1) := by decide +kernel
theorem dX12_codesTold_53 : decode cX12_codesTold 53 = .ok (.putfield 315, 3) := by decide +kernel
theorem dX12_codesTold_56 : decode cX12_codesTold 56 = .ok (.iload_n 1, 1) := by decide +kernel
theorem dX12_codesTold_57 : decode cX12_codesTold 57 = .ok (.iconst 2, 1) := by decide +kernel
theorem dX12_codesTold_58 : decode cX12_codesTold 58 = .ok (.if_icmp .ne 10, 3) := by decide +kernel
theorem dX12_codesTold_61 : decode cX12_codesTold 61 = .ok (.aload_n 0, 1) := by decide +kernel
theorem dX12_codesTold_62 : decode cX12_codesTold 62 = .ok (.invokevirtual 318, 3) := by decide +kernel
theorem dX12_codesTold_65 : decode cX12_codesTold 65 = .ok (.goto 7, 3) := by decide +kernel
theorem dX12_codesTold_68 : decode cX12_codesTold 68 = .ok (.aload_n 0, 1) := by decide +kernel
theorem dX12_codesTold_69 : decode cX12_codesTold 69 = .ok (.invokevirtual 321, 3) := by decide +kernel
theorem dX12_codesTold_72 : decode cX12_codesTold 72 = .ok (.aload_n 0, 1) := by decide +kernel
theorem dX12_codesTold_73 : decode cX12_codesTold 73 = .ok (.getfield 225, 3) := by decide +kernel
theorem dX12_codesTold_76 : decode cX12_codesTold 76 = .ok (.ifCond .eq 4, 3) := by decide +kernel
theorem dX12_codesTold_79 : decode cX12_codesTold 79 = .ok (.return_, 1) := by decide +kernel
theorem dX12_codesTold_80 : decode cX12_codesTold 80 = .ok (.aload_n 0, 1) := by decide +kernel
theorem dX12_codesTold_81 : decode cX12_codesTold 81 = .ok (.getfield 106, 3) := by decide +kernel
theorem dX12_codesTold_84 : decode cX12_codesTold 84 = .ok (.iload_n 1, 1) := by decide +kernel
theorem dX12_codesTold_85 : decode cX12_codesTold 85 = .ok (.aload_n 0, 1) := by decide +kernel
theorem dX12_codesTold_86 : decode cX12_codesTold 86 = .ok (.getfield 324, 3) := by decide +kernel
theorem dX12_codesTold_89 : decode cX12_codesTold 89 = .ok (.iastore, 1) := by decide +kernel
theorem dX12_codesTold_90 : decode cX12_codesTold 90 = .ok (.iconst 0, 1) := by decide +kernel
theorem dX12_codesTold_91 : decode cX12_codesTold 91 = .ok (.istore_n 3, 1) := by decide +kernel
theorem dX12_codesTold_92 : decode cX12_codesTold 92 = .ok (.iload_n 3, 1) := by decide +kernel
theorem dX12_codesTold_93 : decode cX12_codesTold 93 = .ok (.aload_n 0, 1) := by decide +kernel
theorem dX12_codesTold_94 : decode cX12_codesTold 94 = .ok (.getfield 306, 3) := by decide +kernel
theorem dX12_codesTold_97 : decode cX12_codesTold 97 = .ok (.if_icmp .ge 34, 3) := by decide +kernel
theorem dX12_codesTold_100 : decode cX12_codesTold 100 = .ok (.aload_n 0, 1) := by decide +kernel
theorem dX12_codesTold_101 : decode cX12_codesTold 101 = .ok (.getfield 112, 3) := by decide +kernel
theorem dX12_codesTold_104 : decode cX12_codesTold 104 = .ok (.aload_n 0, 1) := by decide +kernel
theorem dX12_codesTold_105 : decode cX12_codesTold 105 = .ok (.getfield 324, 3) := by decide +kernel
theorem dX12_codesTold_108 : decode cX12_codesTold 108 = .ok (.aload_n 0, 1) := by decide +kernel
theorem dX12_codesTold_109 : decode cX12_codesTold 109 = .ok (.getfield 210, 3) := by decide +kernel
theorem dX12_codesTold_112 : decode cX12_codesTold 112 = .ok (.iload_n 3, 1) := by decide +kernel
theorem dX12_codesTold_113 : decode cX12_codesTold 113 = .ok (.iaload, 1) := by decide +kernel
theorem dX12_codesTold_114 : decode cX12_codesTold 114 = .ok (.iastore, 1) := by decide +kernel
theorem dX12_codesTold_115 : decode cX12_codesTold 115 = .ok (.aload_n 0, 1) := by decide +kernel
theorem dX12_codesTold_116 : decode cX12_codesTold 116 = .ok (.dup, 1) := by decide +kernel
theorem dX12_codesTold_117 : decode cX12_codesTold 117 = .ok (.getfield 324, 3) := by decide +kernel
theorem dX12_codesTold_120 : decode cX12_codesTold 120 = .ok (.iconst 1, 1) := by decide +kernel
theorem dX12_codesTold_121 : decode cX12_codesTold 121 = .ok (.iadd, 1) := by decide +kernel
theorem dX12_codesTold_122 : decode cX12_codesTold 122 = .ok (.putfield 324, 3) := by decide +kernel
theorem dX12_codesTold_125 : decode cX12_codesTold 125 = .ok (.iinc 3 1, 3) := by decide +kernel
theorem dX12_codesTold_128 : decode cX12_codesTold 128 = .ok (.goto (-36), 3) := by decide +kernel
theorem dX12_codesTold_131 : decode cX12_codesTold 131 = .ok (.aload_n 0, 1) := by decide +kernel
theorem dX12_codesTold_132 : decode cX12_codesTold 132 = .ok (.getfield 109, 3) := by decide +kernel
theorem dX12_codesTold_135 : decode cX12_codesTold 135 = .ok (.iload_n 1, 1) := by decide +kernel
theorem dX12_codesTold_136 : decode cX12_codesTold 136 = .ok (.aload_n 0, 1) := by decide +kernel
theorem dX12_codesTold_137 : decode cX12_codesTold 137 = .ok (.getfield 324, 3) := by decide +kernel
theorem dX12_codesTold_140 : decode cX12_codesTold 140 = .ok (.iastore, 1) := by decide +kernel
theorem dX12_codesTold_141 : decode cX12_codesTold 141 = .ok (.return_, 1) := by decide +kernel
theorem dX12_statementTold_0 : decode cX12_statementTold 0 = .ok (.aload_n 0, 1) := by decide +kernel
theorem dX12_statementTold_1 : decode cX12_statementTold 1 = .ok (.getfield 231, 3) := by decide +kernel
theorem dX12_statementTold_4 : decode cX12_statementTold 4 = .ok (.istore_n 1, 1) := by decide +kernel
theorem dX12_statementTold_5 : decode cX12_statementTold 5 = .ok (.aload_n 0, 1) := by decide +kernel
theorem dX12_statementTold_6 : decode cX12_statementTold 6 = .ok (.getfield 327, 3) := by decide +kernel
theorem dX12_statementTold_9 : decode cX12_statementTold 9 = .ok (.bipush 40, 2) := by decide +kernel
theorem dX12_statementTold_11 : decode cX12_statementTold 11 = .ok (.if_icmp .ne 10, 3) := by decide +kernel
theorem dX12_statementTold_14 : decode cX12_statementTold 14 = .ok (.aload_n 0, 1) := by decide +kernel
theorem dX12_statementTold_15 : decode cX12_statementTold 15 = .ok (.iconst 5, 1) := by decide +kernel
theorem dX12_statementTold_16 : decode cX12_statementTold 16 = .ok (.iload_n 1, 1) := by decide +kernel
theorem dX12_statementTold_17 : decode cX12_statementTold 17 = .ok (.invokevirtual 255, 3) := by decide +kernel
theorem dX12_statementTold_20 : decode cX12_statementTold 20 = .ok (.return_, 1) := by decide +kernel
theorem dX12_statementTold_21 : decode cX12_statementTold 21 = .ok (.aload_n 0, 1) := by decide +kernel
theorem dX12_statementTold_22 : decode cX12_statementTold 22 = .ok (.aload_n 0, 1) := by decide +kernel
theorem dX12_statementTold_23 : decode cX12_statementTold 23 = .ok (.getfield 27, 3) := by decide +kernel
theorem dX12_statementTold_26 : decode cX12_statementTold 26 = .ok (.invokevirtual 252, 3) := by decide +kernel
theorem dX12_statementTold_29 : decode cX12_statementTold 29 = .ok (.ifCond .eq 11, 3) := by decide +kernel
theorem dX12_statementTold_32 : decode cX12_statementTold 32 = .ok (.aload_n 0, 1) := by decide +kernel
theorem dX12_statementTold_33 : decode cX12_statementTold 33 = .ok (.iload_n 1, 1) := by decide +kernel
theorem dX12_statementTold_34 : decode cX12_statementTold 34 = .ok (.invokevirtual 330, 3) := by decide +kernel
theorem dX12_statementTold_37 : decode cX12_statementTold 37 = .ok (.goto 57, 3) := by decide +kernel
theorem dX12_statementTold_40 : decode cX12_statementTold 40 = .ok (.aload_n 0, 1) := by decide +kernel
theorem dX12_statementTold_41 : decode cX12_statementTold 41 = .ok (.aload_n 0, 1) := by decide +kernel
theorem dX12_statementTold_42 : decode cX12_statementTold 42 = .ok (.getfield 33, 3) := by decide +kernel
theorem dX12_statementTold_45 : decode cX12_statementTold 45 = .ok (.invokevirtual 252, 3) := by decide +kernel
theorem dX12_statementTold_48 : decode cX12_statementTold 48 = .ok (.ifCond .eq 12, 3) := by decide +kernel
theorem dX12_statementTold_51 : decode cX12_statementTold 51 = .ok (.aload_n 0, 1) := by decide +kernel
theorem dX12_statementTold_52 : decode cX12_statementTold 52 = .ok (.iconst 0, 1) := by decide +kernel
theorem dX12_statementTold_53 : decode cX12_statementTold 53 = .ok (.iload_n 1, 1) := by decide +kernel
theorem dX12_statementTold_54 : decode cX12_statementTold 54 = .ok (.invokevirtual 333, 3) := by decide +kernel
theorem dX12_statementTold_57 : decode cX12_statementTold 57 = .ok (.goto 37, 3) := by decide +kernel
theorem dX12_statementTold_60 : decode cX12_statementTold 60 = .ok (.aload_n 0, 1) := by decide +kernel
theorem dX12_statementTold_61 : decode cX12_statementTold 61 = .ok (.aload_n 0, 1) := by decide +kernel
theorem dX12_statementTold_62 : decode cX12_statementTold 62 = .ok (.getfield 36, 3) := by decide +kernel
theorem dX12_statementTold_65 : decode cX12_statementTold 65 = .ok (.invokevirtual 252, 3) := by decide +kernel
theorem dX12_statementTold_68 : decode cX12_statementTold 68 = .ok (.ifCond .eq 12, 3) := by decide +kernel
theorem dX12_statementTold_71 : decode cX12_statementTold 71 = .ok (.aload_n 0, 1) := by decide +kernel
theorem dX12_statementTold_72 : decode cX12_statementTold 72 = .ok (.iconst 1, 1) := by decide +kernel
theorem dX12_statementTold_73 : decode cX12_statementTold 73 = .ok (.iload_n 1, 1) := by decide +kernel
theorem dX12_statementTold_74 : decode cX12_statementTold 74 = .ok (.invokevirtual 333, 3) := by decide +kernel
theorem dX12_statementTold_77 : decode cX12_statementTold 77 = .ok (.goto 17, 3) := by decide +kernel
theorem dX12_statementTold_80 : decode cX12_statementTold 80 = .ok (.aload_n 0, 1) := by decide +kernel
theorem dX12_statementTold_81 : decode cX12_statementTold 81 = .ok (.aload_n 0, 1) := by decide +kernel
theorem dX12_statementTold_82 : decode cX12_statementTold 82 = .ok (.getfield 39, 3) := by decide +kernel
theorem dX12_statementTold_85 : decode cX12_statementTold 85 = .ok (.invokevirtual 290, 3) := by decide +kernel
theorem dX12_statementTold_88 : decode cX12_statementTold 88 = .ok (.aload_n 0, 1) := by decide +kernel
theorem dX12_statementTold_89 : decode cX12_statementTold 89 = .ok (.iconst 2, 1) := by decide +kernel
theorem dX12_statementTold_90 : decode cX12_statementTold 90 = .ok (.iload_n 1, 1) := by decide +kernel
theorem dX12_statementTold_91 : decode cX12_statementTold 91 = .ok (.invokevirtual 333, 3) := by decide +kernel
theorem dX12_statementTold_94 : decode cX12_statementTold 94 = .ok (.aload_n 0, 1) := by decide +kernel
theorem dX12_statementTold_95 : decode cX12_statementTold 95 = .ok (.bipush 59, 2) := by decide +kernel
theorem dX12_statementTold_97 : decode cX12_statementTold 97 = .ok (.invokevirtual 298, 3) := by decide +kernel
theorem dX12_statementTold_100 : decode cX12_statementTold 100 = .ok (.aload_n 0, 1) := by decide +kernel
theorem dX12_statementTold_101 : decode cX12_statementTold 101 = .ok (.dup, 1) := by decide +kernel
theorem dX12_statementTold_102 : decode cX12_statementTold 102 = .ok (.getfield 327, 3) := by decide +kernel
theorem dX12_statementTold_105 : decode cX12_statementTold 105 = .ok (.iconst 1, 1) := by decide +kernel
theorem dX12_statementTold_106 : decode cX12_statementTold 106 = .ok (.iadd, 1) := by decide +kernel
theorem dX12_statementTold_107 : decode cX12_statementTold 107 = .ok (.putfield 327, 3) := by decide +kernel
theorem dX12_statementTold_110 : decode cX12_statementTold 110 = .ok (.return_, 1) := by decide +kernel
theorem dX12_machine_0 : decode cX12_machine 0 = .ok (.aload_n 0, 1) := by decide +kernel
theorem dX12_machine_1 : decode cX12_machine 1 = .ok (.aload_n 0, 1) := by decide +kernel
theorem dX12_machine_2 : decode cX12_machine 2 = .ok (.getfield 222, 3) := by decide +kernel
theorem dX12_machine_5 : decode cX12_machine 5 = .ok (.putfield 234, 3) := by decide +kernel
theorem dX12_machine_8 : decode cX12_machine 8 = .ok (.aload_n 0, 1) := by decide +kernel
theorem dX12_machine_9 : decode cX12_machine 9 = .ok (.iconst 0, 1) := by decide +kernel
theorem dX12_machine_10 : decode cX12_machine 10 = .ok (.putfield 222, 3) := by decide +kernel
theorem dX12_machine_13 : decode cX12_machine 13 = .ok (.aload_n 0, 1) := by decide +kernel
theorem dX12_machine_14 : decode cX12_machine 14 = .ok (.iconst 0, 1) := by decide +kernel
theorem dX12_machine_15 : decode cX12_machine 15 = .ok (.putfield 231, 3) := by decide +kernel
theorem dX12_machine_18 : decode cX12_machine 18 = .ok (.aload_n 0, 1) := by decide +kernel
theorem dX12_machine_19 : decode cX12_machine 19 = .ok (.iconst (-1), 1) := by decide +kernel
theorem dX12_machine_20 : decode cX12_machine 20 = .ok (.putfield 245, 3) := by decide +kernel
theorem dX12_machine_23 : decode cX12_machine 23 = .ok (.aload_n 0, 1) := by decide +kernel
theorem dX12_machine_24 : decode cX12_machine 24 = .ok (.iconst 0, 1) := by decide +kernel
theorem dX12_machine_25 : decode cX12_machine 25 = .ok (.putfield 225, 3) := by decide +kernel
theorem dX12_machine_28 : decode cX12_machine 28 = .ok (.aload_n 0, 1) := by decide +kernel
theorem dX12_machine_29 : decode cX12_machine 29 = .ok (.iconst (-1), 1) := by decide +kernel
theorem dX12_machine_30 : decode cX12_machine 30 = .ok (.putfield 228, 3) := by decide +kernel
theorem dX12_machine_33 : decode cX12_machine 33 = .ok (.aload_n 0, 1) := by decide +kernel
theorem dX12_machine_34 : decode cX12_machine 34 = .ok (.iconst 0, 1) := by decide +kernel
theorem dX12_machine_35 : decode cX12_machine 35 = .ok (.putfield 324, 3) := by decide +kernel
theorem dX12_machine_38 : decode cX12_machine 38 = .ok (.aload_n 0, 1) := by decide +kernel
theorem dX12_machine_39 : decode cX12_machine 39 = .ok (.getfield 96, 3) := by decide +kernel
theorem dX12_machine_42 : decode cX12_machine 42 = .ok (.iconst 2, 1) := by decide +kernel
theorem dX12_machine_43 : decode cX12_machine 43 = .ok (.iconst 0, 1) := by decide +kernel
theorem dX12_machine_44 : decode cX12_machine 44 = .ok (.iastore, 1) := by decide +kernel
theorem dX12_machine_45 : decode cX12_machine 45 = .ok (.iconst 0, 1) := by decide +kernel
theorem dX12_machine_46 : decode cX12_machine 46 = .ok (.istore_n 1, 1) := by decide +kernel
theorem dX12_machine_47 : decode cX12_machine 47 = .ok (.iload_n 1, 1) := by decide +kernel
theorem dX12_machine_48 : decode cX12_machine 48 = .ok (.iconst 3, 1) := by decide +kernel
theorem dX12_machine_49 : decode cX12_machine 49 = .ok (.if_icmp .ge 16, 3) := by decide +kernel
theorem dX12_machine_52 : decode cX12_machine 52 = .ok (.aload_n 0, 1) := by decide +kernel
theorem dX12_machine_53 : decode cX12_machine 53 = .ok (.getfield 106, 3) := by decide +kernel
theorem dX12_machine_56 : decode cX12_machine 56 = .ok (.iload_n 1, 1) := by decide +kernel
theorem dX12_machine_57 : decode cX12_machine 57 = .ok (.iconst (-1), 1) := by decide +kernel
theorem dX12_machine_58 : decode cX12_machine 58 = .ok (.iastore, 1) := by decide +kernel
theorem dX12_machine_59 : decode cX12_machine 59 = .ok (.iinc 1 1, 3) := by decide +kernel
theorem dX12_machine_62 : decode cX12_machine 62 = .ok (.goto (-15), 3) := by decide +kernel
theorem dX12_machine_65 : decode cX12_machine 65 = .ok (.aload_n 0, 1) := by decide +kernel
theorem dX12_machine_66 : decode cX12_machine 66 = .ok (.invokevirtual 336, 3) := by decide +kernel
theorem dX12_machine_69 : decode cX12_machine 69 = .ok (.aload_n 0, 1) := by decide +kernel
theorem dX12_machine_70 : decode cX12_machine 70 = .ok (.iconst 1, 1) := by decide +kernel
theorem dX12_machine_71 : decode cX12_machine 71 = .ok (.putfield 327, 3) := by decide +kernel
theorem dX12_machine_74 : decode cX12_machine 74 = .ok (.aload_n 0, 1) := by decide +kernel
theorem dX12_machine_75 : decode cX12_machine 75 = .ok (.getfield 225, 3) := by decide +kernel
theorem dX12_machine_78 : decode cX12_machine 78 = .ok (.ifCond .ne 18, 3) := by decide +kernel
theorem dX12_machine_81 : decode cX12_machine 81 = .ok (.aload_n 0, 1) := by decide +kernel
theorem dX12_machine_82 : decode cX12_machine 82 = .ok (.invokevirtual 237, 3) := by decide +kernel
theorem dX12_machine_85 : decode cX12_machine 85 = .ok (.iconst (-1), 1) := by decide +kernel
theorem dX12_machine_86 : decode cX12_machine 86 = .ok (.if_icmp .eq 10, 3) := by decide +kernel
theorem dX12_machine_89 : decode cX12_machine 89 = .ok (.aload_n 0, 1) := by decide +kernel
theorem dX12_machine_90 : decode cX12_machine 90 = .ok (.invokevirtual 339, 3) := by decide +kernel
theorem dX12_machine_93 : decode cX12_machine 93 = .ok (.goto (-19), 3) := by decide +kernel
theorem dX12_machine_96 : decode cX12_machine 96 = .ok (.aload_n 0, 1) := by decide +kernel
theorem dX12_machine_97 : decode cX12_machine 97 = .ok (.aload_n 0, 1) := by decide +kernel
theorem dX12_machine_98 : decode cX12_machine 98 = .ok (.getfield 225, 3) := by decide +kernel
theorem dX12_machine_101 : decode cX12_machine 101 = .ok (.putfield 342, 3) := by decide +kernel
theorem dX12_machine_104 : decode cX12_machine 104 = .ok (.aload_n 0, 1) := by decide +kernel
theorem dX12_machine_105 : decode cX12_machine 105 = .ok (.aload_n 0, 1) := by decide +kernel
theorem dX12_machine_106 : decode cX12_machine 106 = .ok (.getfield 228, 3) := by decide +kernel
theorem dX12_machine_109 : decode cX12_machine 109 = .ok (.putfield 13, 3) := by decide +kernel
theorem dX12_machine_112 : decode cX12_machine 112 = .ok (.aload_n 0, 1) := by decide +kernel
theorem dX12_machine_113 : decode cX12_machine 113 = .ok (.getfield 225, 3) := by decide +kernel
theorem dX12_machine_116 : decode cX12_machine 116 = .ok (.ifCond .eq 9, 3) := by decide +kernel
theorem dX12_machine_119 : decode cX12_machine 119 = .ok (.aload_n 0, 1) := by decide +kernel
theorem dX12_machine_120 : decode cX12_machine 120 = .ok (.iconst 1, 1) := by decide +kernel
theorem dX12_machine_121 : decode cX12_machine 121 = .ok (.invokevirtual 345, 3) := by decide +kernel
theorem dX12_machine_124 : decode cX12_machine 124 = .ok (.ireturn, 1) := by decide +kernel
theorem dX12_machine_125 : decode cX12_machine 125 = .ok (.aload_n 0, 1) := by decide +kernel
theorem dX12_machine_126 : decode cX12_machine 126 = .ok (.invokevirtual 349, 3) := by decide +kernel
theorem dX12_machine_129 : decode cX12_machine 129 = .ok (.aload_n 0, 1) := by decide +kernel
theorem dX12_machine_130 : decode cX12_machine 130 = .ok (.getfield 327, 3) := by decide +kernel
theorem dX12_machine_133 : decode cX12_machine 133 = .ok (.ireturn, 1) := by decide +kernel
theorem dX12_stands_0 : decode cX12_stands 0 = .ok (.aload_n 0, 1) := by decide +kernel
theorem dX12_stands_1 : decode cX12_stands 1 = .ok (.iconst 1, 1) := by decide +kernel
theorem dX12_stands_2 : decode cX12_stands 2 = .ok (.putfield 352, 3) := by decide +kernel
theorem dX12_stands_5 : decode cX12_stands 5 = .ok (.iconst 0, 1) := by decide +kernel
theorem dX12_stands_6 : decode cX12_stands 6 = .ok (.istore_n 1, 1) := by decide +kernel
theorem dX12_stands_7 : decode cX12_stands 7 = .ok (.iload_n 1, 1) := by decide +kernel
theorem dX12_stands_8 : decode cX12_stands 8 = .ok (.iconst 3, 1) := by decide +kernel
theorem dX12_stands_9 : decode cX12_stands 9 = .ok (.if_icmp .ge 23, 3) := by decide +kernel
theorem dX12_stands_12 : decode cX12_stands 12 = .ok (.aload_n 0, 1) := by decide +kernel
theorem dX12_stands_13 : decode cX12_stands 13 = .ok (.getfield 96, 3) := by decide +kernel
theorem dX12_stands_16 : decode cX12_stands 16 = .ok (.iconst 3, 1) := by decide +kernel
theorem dX12_stands_17 : decode cX12_stands 17 = .ok (.iload_n 1, 1) := by decide +kernel
theorem dX12_stands_18 : decode cX12_stands 18 = .ok (.iadd, 1) := by decide +kernel
theorem dX12_stands_19 : decode cX12_stands 19 = .ok (.aload_n 0, 1) := by decide +kernel
theorem dX12_stands_20 : decode cX12_stands 20 = .ok (.getfield 96, 3) := by decide +kernel
theorem dX12_stands_23 : decode cX12_stands 23 = .ok (.iload_n 1, 1) := by decide +kernel
theorem dX12_stands_24 : decode cX12_stands 24 = .ok (.iaload, 1) := by decide +kernel
theorem dX12_stands_25 : decode cX12_stands 25 = .ok (.iastore, 1) := by decide +kernel
theorem dX12_stands_26 : decode cX12_stands 26 = .ok (.iinc 1 1, 3) := by decide +kernel
theorem dX12_stands_29 : decode cX12_stands 29 = .ok (.goto (-22), 3) := by decide +kernel
theorem dX12_stands_32 : decode cX12_stands 32 = .ok (.iconst 0, 1) := by decide +kernel
theorem dX12_stands_33 : decode cX12_stands 33 = .ok (.istore_n 1, 1) := by decide +kernel
theorem dX12_stands_34 : decode cX12_stands 34 = .ok (.iload_n 1, 1) := by decide +kernel
theorem dX12_stands_35 : decode cX12_stands 35 = .ok (.iconst 3, 1) := by decide +kernel
theorem dX12_stands_36 : decode cX12_stands 36 = .ok (.if_icmp .ge 37, 3) := by decide +kernel
theorem dX12_stands_39 : decode cX12_stands 39 = .ok (.aload_n 0, 1) := by decide +kernel
theorem dX12_stands_40 : decode cX12_stands 40 = .ok (.getfield 106, 3) := by decide +kernel
theorem dX12_stands_43 : decode cX12_stands 43 = .ok (.iconst 3, 1) := by decide +kernel
theorem dX12_stands_44 : decode cX12_stands 44 = .ok (.iload_n 1, 1) := by decide +kernel
theorem dX12_stands_45 : decode cX12_stands 45 = .ok (.iadd, 1) := by decide +kernel
theorem dX12_stands_46 : decode cX12_stands 46 = .ok (.aload_n 0, 1) := by decide +kernel
theorem dX12_stands_47 : decode cX12_stands 47 = .ok (.getfield 106, 3) := by decide +kernel
theorem dX12_stands_50 : decode cX12_stands 50 = .ok (.iload_n 1, 1) := by decide +kernel
theorem dX12_stands_51 : decode cX12_stands 51 = .ok (.iaload, 1) := by decide +kernel
theorem dX12_stands_52 : decode cX12_stands 52 = .ok (.iastore, 1) := by decide +kernel
theorem dX12_stands_53 : decode cX12_stands 53 = .ok (.aload_n 0, 1) := by decide +kernel
theorem dX12_stands_54 : decode cX12_stands 54 = .ok (.getfield 109, 3) := by decide +kernel
theorem dX12_stands_57 : decode cX12_stands 57 = .ok (.iconst 3, 1) := by decide +kernel
theorem dX12_stands_58 : decode cX12_stands 58 = .ok (.iload_n 1, 1) := by decide +kernel
theorem dX12_stands_59 : decode cX12_stands 59 = .ok (.iadd, 1) := by decide +kernel
theorem dX12_stands_60 : decode cX12_stands 60 = .ok (.aload_n 0, 1) := by decide +kernel
theorem dX12_stands_61 : decode cX12_stands 61 = .ok (.getfield 109, 3) := by decide +kernel
theorem dX12_stands_64 : decode cX12_stands 64 = .ok (.iload_n 1, 1) := by decide +kernel
theorem dX12_stands_65 : decode cX12_stands 65 = .ok (.iaload, 1) := by decide +kernel
theorem dX12_stands_66 : decode cX12_stands 66 = .ok (.iastore, 1) := by decide +kernel
theorem dX12_stands_67 : decode cX12_stands 67 = .ok (.iinc 1 1, 3) := by decide +kernel
theorem dX12_stands_70 : decode cX12_stands 70 = .ok (.goto (-36), 3) := by decide +kernel
theorem dX12_stands_73 : decode cX12_stands 73 = .ok (.iconst 0, 1) := by decide +kernel
theorem dX12_stands_74 : decode cX12_stands 74 = .ok (.istore_n 1, 1) := by decide +kernel
theorem dX12_stands_75 : decode cX12_stands 75 = .ok (.iload_n 1, 1) := by decide +kernel
theorem dX12_stands_76 : decode cX12_stands 76 = .ok (.iconst 4, 1) := by decide +kernel
theorem dX12_stands_77 : decode cX12_stands 77 = .ok (.if_icmp .ge 37, 3) := by decide +kernel
theorem dX12_stands_80 : decode cX12_stands 80 = .ok (.aload_n 0, 1) := by decide +kernel
theorem dX12_stands_81 : decode cX12_stands 81 = .ok (.getfield 99, 3) := by decide +kernel
theorem dX12_stands_84 : decode cX12_stands 84 = .ok (.iconst 4, 1) := by decide +kernel
theorem dX12_stands_85 : decode cX12_stands 85 = .ok (.iload_n 1, 1) := by decide +kernel
theorem dX12_stands_86 : decode cX12_stands 86 = .ok (.iadd, 1) := by decide +kernel
theorem dX12_stands_87 : decode cX12_stands 87 = .ok (.aload_n 0, 1) := by decide +kernel
theorem dX12_stands_88 : decode cX12_stands 88 = .ok (.getfield 99, 3) := by decide +kernel
theorem dX12_stands_91 : decode cX12_stands 91 = .ok (.iload_n 1, 1) := by decide +kernel
theorem dX12_stands_92 : decode cX12_stands 92 = .ok (.laload, 1) := by decide +kernel
theorem dX12_stands_93 : decode cX12_stands 93 = .ok (.lastore, 1) := by decide +kernel
theorem dX12_stands_94 : decode cX12_stands 94 = .ok (.aload_n 0, 1) := by decide +kernel
theorem dX12_stands_95 : decode cX12_stands 95 = .ok (.getfield 103, 3) := by decide +kernel
theorem dX12_stands_98 : decode cX12_stands 98 = .ok (.iconst 4, 1) := by decide +kernel
theorem dX12_stands_99 : decode cX12_stands 99 = .ok (.iload_n 1, 1) := by decide +kernel
theorem dX12_stands_100 : decode cX12_stands 100 = .ok (.iadd, 1) := by decide +kernel
theorem dX12_stands_101 : decode cX12_stands 101 = .ok (.aload_n 0, 1) := by decide +kernel
theorem dX12_stands_102 : decode cX12_stands 102 = .ok (.getfield 103, 3) := by decide +kernel
theorem dX12_stands_105 : decode cX12_stands 105 = .ok (.iload_n 1, 1) := by decide +kernel
theorem dX12_stands_106 : decode cX12_stands 106 = .ok (.iaload, 1) := by decide +kernel
theorem dX12_stands_107 : decode cX12_stands 107 = .ok (.iastore, 1) := by decide +kernel
theorem dX12_stands_108 : decode cX12_stands 108 = .ok (.iinc 1 1, 3) := by decide +kernel
theorem dX12_stands_111 : decode cX12_stands 111 = .ok (.goto (-36), 3) := by decide +kernel
theorem dX12_stands_114 : decode cX12_stands 114 = .ok (.iconst 0, 1) := by decide +kernel
theorem dX12_stands_115 : decode cX12_stands 115 = .ok (.istore_n 1, 1) := by decide +kernel
theorem dX12_stands_116 : decode cX12_stands 116 = .ok (.iload_n 1, 1) := by decide +kernel
theorem dX12_stands_117 : decode cX12_stands 117 = .ok (.aload_n 0, 1) := by decide +kernel
theorem dX12_stands_118 : decode cX12_stands 118 = .ok (.getfield 324, 3) := by decide +kernel
theorem dX12_stands_121 : decode cX12_stands 121 = .ok (.if_icmp .ge 25, 3) := by decide +kernel
theorem dX12_stands_124 : decode cX12_stands 124 = .ok (.aload_n 0, 1) := by decide +kernel
theorem dX12_stands_125 : decode cX12_stands 125 = .ok (.getfield 112, 3) := by decide +kernel
theorem dX12_stands_128 : decode cX12_stands 128 = .ok (.sipush 1600, 3) := by decide +kernel
theorem dX12_stands_131 : decode cX12_stands 131 = .ok (.iload_n 1, 1) := by decide +kernel
theorem dX12_stands_132 : decode cX12_stands 132 = .ok (.iadd, 1) := by decide +kernel
theorem dX12_stands_133 : decode cX12_stands 133 = .ok (.aload_n 0, 1) := by decide +kernel
theorem dX12_stands_134 : decode cX12_stands 134 = .ok (.getfield 112, 3) := by decide +kernel
theorem dX12_stands_137 : decode cX12_stands 137 = .ok (.iload_n 1, 1) := by decide +kernel
theorem dX12_stands_138 : decode cX12_stands 138 = .ok (.iaload, 1) := by decide +kernel
theorem dX12_stands_139 : decode cX12_stands 139 = .ok (.iastore, 1) := by decide +kernel
theorem dX12_stands_140 : decode cX12_stands 140 = .ok (.iinc 1 1, 3) := by decide +kernel
theorem dX12_stands_143 : decode cX12_stands 143 = .ok (.goto (-27), 3) := by decide +kernel
theorem dX12_stands_146 : decode cX12_stands 146 = .ok (.iconst 0, 1) := by decide +kernel
theorem dX12_stands_147 : decode cX12_stands 147 = .ok (.istore_n 1, 1) := by decide +kernel
theorem dX12_stands_148 : decode cX12_stands 148 = .ok (.iload_n 1, 1) := by decide +kernel
theorem dX12_stands_149 : decode cX12_stands 149 = .ok (.sipush 1498, 3) := by decide +kernel
theorem dX12_stands_152 : decode cX12_stands 152 = .ok (.if_icmp .ge 16, 3) := by decide +kernel
theorem dX12_stands_155 : decode cX12_stands 155 = .ok (.aload_n 0, 1) := by decide +kernel
theorem dX12_stands_156 : decode cX12_stands 156 = .ok (.getfield 115, 3) := by decide +kernel
theorem dX12_stands_159 : decode cX12_stands 159 = .ok (.iload_n 1, 1) := by decide +kernel
theorem dX12_stands_160 : decode cX12_stands 160 = .ok (.iconst 0, 1) := by decide +kernel
theorem dX12_stands_161 : decode cX12_stands 161 = .ok (.iastore, 1) := by decide +kernel
theorem dX12_stands_162 : decode cX12_stands 162 = .ok (.iinc 1 1, 3) := by decide +kernel
theorem dX12_stands_165 : decode cX12_stands 165 = .ok (.goto (-17), 3) := by decide +kernel
theorem dX12_stands_168 : decode cX12_stands 168 = .ok (.iconst 0, 1) := by decide +kernel
theorem dX12_stands_169 : decode cX12_stands 169 = .ok (.istore_n 1, 1) := by decide +kernel
theorem dX12_stands_170 : decode cX12_stands 170 = .ok (.iload_n 1, 1) := by decide +kernel
theorem dX12_stands_171 : decode cX12_stands 171 = .ok (.bipush 16, 2) := by decide +kernel
theorem dX12_stands_173 : decode cX12_stands 173 = .ok (.if_icmp .ge 23, 3) := by decide +kernel
theorem dX12_stands_176 : decode cX12_stands 176 = .ok (.aload_n 0, 1) := by decide +kernel
theorem dX12_stands_177 : decode cX12_stands 177 = .ok (.getfield 115, 3) := by decide +kernel
theorem dX12_stands_180 : decode cX12_stands 180 = .ok (.sipush 128, 3) := by decide +kernel
theorem dX12_stands_183 : decode cX12_stands 183 = .ok (.bipush 8, 2) := by decide +kernel
theorem dX12_stands_185 : decode cX12_stands 185 = .ok (.iload_n 1, 1) := by decide +kernel
theorem dX12_stands_186 : decode cX12_stands 186 = .ok (.imul, 1) := by decide +kernel
theorem dX12_stands_187 : decode cX12_stands 187 = .ok (.iadd, 1) := by decide +kernel
theorem dX12_stands_188 : decode cX12_stands 188 = .ok (.iconst (-1), 1) := by decide +kernel
theorem dX12_stands_189 : decode cX12_stands 189 = .ok (.iastore, 1) := by decide +kernel
theorem dX12_stands_190 : decode cX12_stands 190 = .ok (.iinc 1 1, 3) := by decide +kernel
theorem dX12_stands_193 : decode cX12_stands 193 = .ok (.goto (-23), 3) := by decide +kernel
theorem dX12_stands_196 : decode cX12_stands 196 = .ok (.aload_n 0, 1) := by decide +kernel
theorem dX12_stands_197 : decode cX12_stands 197 = .ok (.iconst 0, 1) := by decide +kernel
theorem dX12_stands_198 : decode cX12_stands 198 = .ok (.sipush 4096, 3) := by decide +kernel
theorem dX12_stands_201 : decode cX12_stands 201 = .ok (.invokevirtual 356, 3) := by decide +kernel
theorem dX12_stands_204 : decode cX12_stands 204 = .ok (.aload_n 0, 1) := by decide +kernel
theorem dX12_stands_205 : decode cX12_stands 205 = .ok (.bipush 120, 2) := by decide +kernel
theorem dX12_stands_207 : decode cX12_stands 207 = .ok (.invokevirtual 359, 3) := by decide +kernel
theorem dX12_stands_210 : decode cX12_stands 210 = .ok (.aload_n 0, 1) := by decide +kernel
theorem dX12_stands_211 : decode cX12_stands 211 = .ok (.getfield 115, 3) := by decide +kernel
theorem dX12_stands_214 : decode cX12_stands 214 = .ok (.bipush 120, 2) := by decide +kernel
theorem dX12_stands_216 : decode cX12_stands 216 = .ok (.iconst 1, 1) := by decide +kernel
theorem dX12_stands_217 : decode cX12_stands 217 = .ok (.iastore, 1) := by decide +kernel
theorem dX12_stands_218 : decode cX12_stands 218 = .ok (.aload_n 0, 1) := by decide +kernel
theorem dX12_stands_219 : decode cX12_stands 219 = .ok (.getfield 115, 3) := by decide +kernel
theorem dX12_stands_222 : decode cX12_stands 222 = .ok (.bipush 125, 2) := by decide +kernel
theorem dX12_stands_224 : decode cX12_stands 224 = .ok (.bipush 7, 2) := by decide +kernel
theorem dX12_stands_226 : decode cX12_stands 226 = .ok (.iastore, 1) := by decide +kernel
theorem dX12_stands_227 : decode cX12_stands 227 = .ok (.aload_n 0, 1) := by decide +kernel
theorem dX12_stands_228 : decode cX12_stands 228 = .ok (.iconst 0, 1) := by decide +kernel
theorem dX12_stands_229 : decode cX12_stands 229 = .ok (.putfield 362, 3) := by decide +kernel
theorem dX12_stands_232 : decode cX12_stands 232 = .ok (.aload_n 0, 1) := by decide +kernel
theorem dX12_stands_233 : decode cX12_stands 233 = .ok (.iconst 0, 1) := by decide +kernel
theorem dX12_stands_234 : decode cX12_stands 234 = .ok (.putfield 365, 3) := by decide +kernel
theorem dX12_stands_237 : decode cX12_stands 237 = .ok (.return_, 1) := by decide +kernel
theorem dX12_fault_0 : decode cX12_fault 0 = .ok (.iload_n 1, 1) := by decide +kernel
theorem dX12_fault_1 : decode cX12_fault 1 = .ok (.ifCond .ne 10, 3) := by decide +kernel
theorem dX12_fault_4 : decode cX12_fault 4 = .ok (.aload_n 0, 1) := by decide +kernel
theorem dX12_fault_5 : decode cX12_fault 5 = .ok (.getfield 342, 3) := by decide +kernel
theorem dX12_fault_8 : decode cX12_fault 8 = .ok (.goto 16, 3) := by decide +kernel
theorem dX12_fault_11 : decode cX12_fault 11 = .ok (.iload_n 1, 1) := by decide +kernel
theorem dX12_fault_12 : decode cX12_fault 12 = .ok (.iconst 1, 1) := by decide +kernel
theorem dX12_fault_13 : decode cX12_fault 13 = .ok (.if_icmp .ne 10, 3) := by decide +kernel
theorem dX12_fault_16 : decode cX12_fault 16 = .ok (.aload_n 0, 1) := by decide +kernel
theorem dX12_fault_17 : decode cX12_fault 17 = .ok (.getfield 13, 3) := by decide +kernel
theorem dX12_fault_20 : decode cX12_fault 20 = .ok (.goto 4, 3) := by decide +kernel
theorem dX12_fault_23 : decode cX12_fault 23 = .ok (.iconst (-1), 1) := by decide +kernel
theorem dX12_fault_24 : decode cX12_fault 24 = .ok (.ireturn, 1) := by decide +kernel
theorem dX12_mantissa_0 : decode cX12_mantissa 0 = .ok (.aload_n 0, 1) := by decide +kernel
theorem dX12_mantissa_1 : decode cX12_mantissa 1 = .ok (.getfield 96, 3) := by decide +kernel
theorem dX12_mantissa_4 : decode cX12_mantissa 4 = .ok (.iconst 4, 1) := by decide +kernel
theorem dX12_mantissa_5 : decode cX12_mantissa 5 = .ok (.iaload, 1) := by decide +kernel
theorem dX12_mantissa_6 : decode cX12_mantissa 6 = .ok (.ireturn, 1) := by decide +kernel
theorem dX12_shelfMany_0 : decode cX12_shelfMany 0 = .ok (.aload_n 0, 1) := by decide +kernel
theorem dX12_shelfMany_1 : decode cX12_shelfMany 1 = .ok (.getfield 96, 3) := by decide +kernel
theorem dX12_shelfMany_4 : decode cX12_shelfMany 4 = .ok (.iconst 5, 1) := by decide +kernel
theorem dX12_shelfMany_5 : decode cX12_shelfMany 5 = .ok (.iaload, 1) := by decide +kernel
theorem dX12_shelfMany_6 : decode cX12_shelfMany 6 = .ok (.ireturn, 1) := by decide +kernel
theorem dX12_isPointer_0 : decode cX12_isPointer 0 = .ok (.aload_n 0, 1) := by decide +kernel
theorem dX12_isPointer_1 : decode cX12_isPointer 1 = .ok (.getfield 352, 3) := by decide +kernel
theorem dX12_isPointer_4 : decode cX12_isPointer 4 = .ok (.ifCond .eq 18, 3) := by decide +kernel
theorem dX12_isPointer_7 : decode cX12_isPointer 7 = .ok (.lload_n 1, 1) := by decide +kernel
theorem dX12_isPointer_8 : decode cX12_isPointer 8 = .ok (.lconst 0, 1) := by decide +kernel
theorem dX12_isPointer_9 : decode cX12_isPointer 9 = .ok (.ldc2_w 368, 3) := by decide +kernel
theorem dX12_isPointer_12 : decode cX12_isPointer 12 = .ok (.invokestatic 268, 3) := by decide +kernel
theorem dX12_isPointer_15 : decode cX12_isPointer 15 = .ok (.ifCond .eq 7, 3) := by decide +kernel
theorem dX12_isPointer_18 : decode cX12_isPointer 18 = .ok (.iconst 1, 1) := by decide +kernel
theorem dX12_isPointer_19 : decode cX12_isPointer 19 = .ok (.goto 4, 3) := by decide +kernel
theorem dX12_isPointer_22 : decode cX12_isPointer 22 = .ok (.iconst 0, 1) := by decide +kernel
theorem dX12_isPointer_23 : decode cX12_isPointer 23 = .ok (.ireturn, 1) := by decide +kernel
theorem dX12_isShelf_0 : decode cX12_isShelf 0 = .ok (.iload_n 1, 1) := by decide +kernel
theorem dX12_isShelf_1 : decode cX12_isShelf 1 = .ok (.i2l, 1) := by decide +kernel
theorem dX12_isShelf_2 : decode cX12_isShelf 2 = .ok (.lconst 0, 1) := by decide +kernel
theorem dX12_isShelf_3 : decode cX12_isShelf 3 = .ok (.aload_n 0, 1) := by decide +kernel
theorem dX12_isShelf_4 : decode cX12_isShelf 4 = .ok (.invokevirtual 370, 3) := by decide +kernel
theorem dX12_isShelf_7 : decode cX12_isShelf 7 = .ok (.iconst 1, 1) := by decide +kernel
theorem dX12_isShelf_8 : decode cX12_isShelf 8 = .ok (.isub, 1) := by decide +kernel
theorem dX12_isShelf_9 : decode cX12_isShelf 9 = .ok (.i2l, 1) := by decide +kernel
theorem dX12_isShelf_10 : decode cX12_isShelf 10 = .ok (.invokestatic 268, 3) := by decide +kernel
theorem dX12_isShelf_13 : decode cX12_isShelf 13 = .ok (.ireturn, 1) := by decide +kernel
theorem dX12_isCoded_0 : decode cX12_isCoded 0 = .ok (.aload_n 0, 1) := by decide +kernel
theorem dX12_isCoded_1 : decode cX12_isCoded 1 = .ok (.getfield 106, 3) := by decide +kernel
theorem dX12_isCoded_4 : decode cX12_isCoded 4 = .ok (.iconst 3, 1) := by decide +kernel
theorem dX12_isCoded_5 : decode cX12_isCoded 5 = .ok (.iload_n 1, 1) := by decide +kernel
theorem dX12_isCoded_6 : decode cX12_isCoded 6 = .ok (.iadd, 1) := by decide +kernel
theorem dX12_isCoded_7 : decode cX12_isCoded 7 = .ok (.iaload, 1) := by decide +kernel
theorem dX12_isCoded_8 : decode cX12_isCoded 8 = .ok (.iconst (-1), 1) := by decide +kernel
theorem dX12_isCoded_9 : decode cX12_isCoded 9 = .ok (.if_icmp .eq 7, 3) := by decide +kernel
theorem dX12_isCoded_12 : decode cX12_isCoded 12 = .ok (.iconst 1, 1) := by decide +kernel
theorem dX12_isCoded_13 : decode cX12_isCoded 13 = .ok (.goto 4, 3) := by decide +kernel
theorem dX12_isCoded_16 : decode cX12_isCoded 16 = .ok (.iconst 0, 1) := by decide +kernel
theorem dX12_isCoded_17 : decode cX12_isCoded 17 = .ok (.ireturn, 1) := by decide +kernel
theorem dX12_codesTell_0 : decode cX12_codesTell 0 = .ok (.aload_n 0, 1) := by decide +kernel
theorem dX12_codesTell_1 : decode cX12_codesTell 1 = .ok (.iload_n 1, 1) := by decide +kernel
theorem dX12_codesTell_2 : decode cX12_codesTell 2 = .ok (.putfield 283, 3) := by decide +kernel
theorem dX12_codesTell_5 : decode cX12_codesTell 5 = .ok (.aload_n 0, 1) := by decide +kernel
theorem dX12_codesTell_6 : decode cX12_codesTell 6 = .ok (.iconst 0, 1) := by decide +kernel
theorem dX12_codesTell_7 : decode cX12_codesTell 7 = .ok (.putfield 373, 3) := by decide +kernel
theorem dX12_codesTell_10 : decode cX12_codesTell 10 = .ok (.aload_n 0, 1) := by decide +kernel
theorem dX12_codesTell_11 : decode cX12_codesTell 11 = .ok (.getfield 106, 3) := by decide +kernel
theorem dX12_codesTell_14 : decode cX12_codesTell 14 = .ok (.iconst 3, 1) := by decide +kernel
theorem dX12_codesTell_15 : decode cX12_codesTell 15 = .ok (.iload_n 1, 1) := by decide +kernel
theorem dX12_codesTell_16 : decode cX12_codesTell 16 = .ok (.iadd, 1) := by decide +kernel
theorem dX12_codesTell_17 : decode cX12_codesTell 17 = .ok (.iaload, 1) := by decide +kernel
theorem dX12_codesTell_18 : decode cX12_codesTell 18 = .ok (.istore_n 2, 1) := by decide +kernel
theorem dX12_codesTell_19 : decode cX12_codesTell 19 = .ok (.iload_n 2, 1) := by decide +kernel
theorem dX12_codesTell_20 : decode cX12_codesTell 20 = .ok (.aload_n 0, 1) := by decide +kernel
theorem dX12_codesTell_21 : decode cX12_codesTell 21 = .ok (.getfield 109, 3) := by decide +kernel
theorem dX12_codesTell_24 : decode cX12_codesTell 24 = .ok (.iconst 3, 1) := by decide +kernel
theorem dX12_codesTell_25 : decode cX12_codesTell 25 = .ok (.iload_n 1, 1) := by decide +kernel
theorem dX12_codesTell_26 : decode cX12_codesTell 26 = .ok (.iadd, 1) := by decide +kernel
theorem dX12_codesTell_27 : decode cX12_codesTell 27 = .ok (.iaload, 1) := by decide +kernel
theorem dX12_codesTell_28 : decode cX12_codesTell 28 = .ok (.if_icmp .ge 114, 3) := by decide +kernel
theorem dX12_codesTell_31 : decode cX12_codesTell 31 = .ok (.aload_n 0, 1) := by decide +kernel
theorem dX12_codesTell_32 : decode cX12_codesTell 32 = .ok (.getfield 112, 3) := by decide +kernel
theorem dX12_codesTell_35 : decode cX12_codesTell 35 = .ok (.sipush 1600, 3) := by decide +kernel
theorem dX12_codesTell_38 : decode cX12_codesTell 38 = .ok (.iload_n 2, 1) := by decide +kernel
theorem dX12_codesTell_39 : decode cX12_codesTell 39 = .ok (.iadd, 1) := by decide +kernel
theorem dX12_codesTell_40 : decode cX12_codesTell 40 = .ok (.iaload, 1) := by decide +kernel
theorem dX12_codesTell_41 : decode cX12_codesTell 41 = .ok (.istore_n 3, 1) := by decide +kernel
theorem dX12_codesTell_42 : decode cX12_codesTell 42 = .ok (.iload_n 3, 1) := by decide +kernel
theorem dX12_codesTell_43 : decode cX12_codesTell 43 = .ok (.sipush 1000, 3) := by decide +kernel
theorem dX12_codesTell_46 : decode cX12_codesTell 46 = .ok (.if_icmp .lt 16, 3) := by decide +kernel
theorem dX12_codesTell_49 : decode cX12_codesTell 49 = .ok (.aload_n 0, 1) := by decide +kernel
theorem dX12_codesTell_50 : decode cX12_codesTell 50 = .ok (.iload_n 3, 1) := by decide +kernel
theorem dX12_codesTell_51 : decode cX12_codesTell 51 = .ok (.sipush 1000, 3) := by decide +kernel
theorem dX12_codesTell_54 : decode cX12_codesTell 54 = .ok (.isub, 1) := by decide +kernel
theorem dX12_codesTell_55 : decode cX12_codesTell 55 = .ok (.i2l, 1) := by decide +kernel
theorem dX12_codesTell_56 : decode cX12_codesTell 56 = .ok (.invokevirtual 376, 3) := by decide +kernel
theorem dX12_codesTell_59 : decode cX12_codesTell 59 = .ok (.goto 77, 3) := by decide +kernel
theorem dX12_codesTell_62 : decode cX12_codesTell 62 = .ok (.iload_n 3, 1) := by decide +kernel
theorem dX12_codesTell_63 : decode cX12_codesTell 63 = .ok (.bipush 40, 2) := by decide +kernel
theorem dX12_codesTell_65 : decode cX12_codesTell 65 = .ok (.if_icmp .lt 19, 3) := by decide +kernel
theorem dX12_codesTell_68 : decode cX12_codesTell 68 = .ok (.aload_n 0, 1) := by decide +kernel
theorem dX12_codesTell_69 : decode cX12_codesTell 69 = .ok (.aload_n 0, 1) := by decide +kernel
theorem dX12_codesTell_70 : decode cX12_codesTell 70 = .ok (.iload_n 3, 1) := by decide +kernel
theorem dX12_codesTell_71 : decode cX12_codesTell 71 = .ok (.bipush 40, 2) := by decide +kernel
theorem dX12_codesTell_73 : decode cX12_codesTell 73 = .ok (.isub, 1) := by decide +kernel
theorem dX12_codesTell_74 : decode cX12_codesTell 74 = .ok (.iconst 0, 1) := by decide +kernel
theorem dX12_codesTell_75 : decode cX12_codesTell 75 = .ok (.invokevirtual 380, 3) := by decide +kernel
theorem dX12_codesTell_78 : decode cX12_codesTell 78 = .ok (.invokevirtual 376, 3) := by decide +kernel
theorem dX12_codesTell_81 : decode cX12_codesTell 81 = .ok (.goto 55, 3) := by decide +kernel
theorem dX12_codesTell_84 : decode cX12_codesTell 84 = .ok (.iload_n 3, 1) := by decide +kernel
theorem dX12_codesTell_85 : decode cX12_codesTell 85 = .ok (.bipush 13, 2) := by decide +kernel
theorem dX12_codesTell_87 : decode cX12_codesTell 87 = .ok (.if_icmp .ne 11, 3) := by decide +kernel
theorem dX12_codesTell_90 : decode cX12_codesTell 90 = .ok (.aload_n 0, 1) := by decide +kernel
theorem dX12_codesTell_91 : decode cX12_codesTell 91 = .ok (.lconst 1, 1) := by decide +kernel
theorem dX12_codesTell_92 : decode cX12_codesTell 92 = .ok (.invokevirtual 376, 3) := by decide +kernel
theorem dX12_codesTell_95 : decode cX12_codesTell 95 = .ok (.goto 41, 3) := by decide +kernel
theorem dX12_codesTell_98 : decode cX12_codesTell 98 = .ok (.iload_n 3, 1) := by decide +kernel
theorem dX12_codesTell_99 : decode cX12_codesTell 99 = .ok (.bipush 12, 2) := by decide +kernel
theorem dX12_codesTell_101 : decode cX12_codesTell 101 = .ok (.if_icmp .ne 30, 3) := by decide +kernel
theorem dX12_codesTell_104 : decode cX12_codesTell 104 = .ok (.aload_n 0, 1) := by decide +kernel
theorem dX12_codesTell_105 : decode cX12_codesTell 105 = .ok (.getfield 216, 3) := by decide +kernel
theorem dX12_codesTell_108 : decode cX12_codesTell 108 = .ok (.aload_n 0, 1) := by decide +kernel
theorem dX12_codesTell_109 : decode cX12_codesTell 109 = .ok (.getfield 373, 3) := by decide +kernel
theorem dX12_codesTell_112 : decode cX12_codesTell 112 = .ok (.iconst 1, 1) := by decide +kernel
theorem dX12_codesTell_113 : decode cX12_codesTell 113 = .ok (.isub, 1) := by decide +kernel
theorem dX12_codesTell_114 : decode cX12_codesTell 114 = .ok (.lconst 1, 1) := by decide +kernel
theorem dX12_codesTell_115 : decode cX12_codesTell 115 = .ok (.aload_n 0, 1) := by decide +kernel
theorem dX12_codesTell_116 : decode cX12_codesTell 116 = .ok (.getfield 216, 3) := by decide +kernel
theorem dX12_codesTell_119 : decode cX12_codesTell 119 = .ok (.aload_n 0, 1) := by decide +kernel
theorem dX12_codesTell_120 : decode cX12_codesTell 120 = .ok (.getfield 373, 3) := by decide +kernel
theorem dX12_codesTell_123 : decode cX12_codesTell 123 = .ok (.iconst 1, 1) := by decide +kernel
theorem dX12_codesTell_124 : decode cX12_codesTell 124 = .ok (.isub, 1) := by decide +kernel
theorem dX12_codesTell_125 : decode cX12_codesTell 125 = .ok (.laload, 1) := by decide +kernel
theorem dX12_codesTell_126 : decode cX12_codesTell 126 = .ok (.lsub, 1) := by decide +kernel
theorem dX12_codesTell_127 : decode cX12_codesTell 127 = .ok (.lastore, 1) := by decide +kernel
theorem dX12_codesTell_128 : decode cX12_codesTell 128 = .ok (.goto 8, 3) := by decide +kernel
theorem dX12_codesTell_131 : decode cX12_codesTell 131 = .ok (.aload_n 0, 1) := by decide +kernel
theorem dX12_codesTell_132 : decode cX12_codesTell 132 = .ok (.iload_n 3, 1) := by decide +kernel
theorem dX12_codesTell_133 : decode cX12_codesTell 133 = .ok (.invokevirtual 384, 3) := by decide +kernel
theorem dX12_codesTell_136 : decode cX12_codesTell 136 = .ok (.iinc 2 1, 3) := by decide +kernel
theorem dX12_codesTell_139 : decode cX12_codesTell 139 = .ok (.goto (-120), 3) := by decide +kernel
theorem dX12_codesTell_142 : decode cX12_codesTell 142 = .ok (.aload_n 0, 1) := by decide +kernel
theorem dX12_codesTell_143 : decode cX12_codesTell 143 = .ok (.getfield 216, 3) := by decide +kernel
theorem dX12_codesTell_146 : decode cX12_codesTell 146 = .ok (.iconst 0, 1) := by decide +kernel
theorem dX12_codesTell_147 : decode cX12_codesTell 147 = .ok (.laload, 1) := by decide +kernel
theorem dX12_codesTell_148 : decode cX12_codesTell 148 = .ok (.lreturn, 1) := by decide +kernel
theorem dX12_encodesBy_0 : decode cX12_encodesBy 0 = .ok (.iconst 1, 1) := by decide +kernel
theorem dX12_encodesBy_1 : decode cX12_encodesBy 1 = .ok (.iload_n 1, 1) := by decide +kernel
theorem dX12_encodesBy_2 : decode cX12_encodesBy 2 = .ok (.iconst 1, 1) := by decide +kernel
theorem dX12_encodesBy_3 : decode cX12_encodesBy 3 = .ok (.isub, 1) := by decide +kernel
theorem dX12_encodesBy_4 : decode cX12_encodesBy 4 = .ok (.ishl, 1) := by decide +kernel
theorem dX12_encodesBy_5 : decode cX12_encodesBy 5 = .ok (.istore 4, 2) := by decide +kernel
theorem dX12_encodesBy_7 : decode cX12_encodesBy 7 = .ok (.aload_n 0, 1) := by decide +kernel
theorem dX12_encodesBy_8 : decode cX12_encodesBy 8 = .ok (.iconst 0, 1) := by decide +kernel
theorem dX12_encodesBy_9 : decode cX12_encodesBy 9 = .ok (.putfield 387, 3) := by decide +kernel
theorem dX12_encodesBy_12 : decode cX12_encodesBy 12 = .ok (.iload_n 2, 1) := by decide +kernel
theorem dX12_encodesBy_13 : decode cX12_encodesBy 13 = .ok (.iload_n 3, 1) := by decide +kernel
theorem dX12_encodesBy_14 : decode cX12_encodesBy 14 = .ok (.iadd, 1) := by decide +kernel
theorem dX12_encodesBy_15 : decode cX12_encodesBy 15 = .ok (.iconst 1, 1) := by decide +kernel
theorem dX12_encodesBy_16 : decode cX12_encodesBy 16 = .ok (.aload_n 0, 1) := by decide +kernel
theorem dX12_encodesBy_17 : decode cX12_encodesBy 17 = .ok (.getfield 387, 3) := by decide +kernel
theorem dX12_encodesBy_20 : decode cX12_encodesBy 20 = .ok (.ishl, 1) := by decide +kernel
theorem dX12_encodesBy_21 : decode cX12_encodesBy 21 = .ok (.iadd, 1) := by decide +kernel
theorem dX12_encodesBy_22 : decode cX12_encodesBy 22 = .ok (.iconst 1, 1) := by decide +kernel
theorem dX12_encodesBy_23 : decode cX12_encodesBy 23 = .ok (.isub, 1) := by decide +kernel
theorem dX12_encodesBy_24 : decode cX12_encodesBy 24 = .ok (.aload_n 0, 1) := by decide +kernel
theorem dX12_encodesBy_25 : decode cX12_encodesBy 25 = .ok (.getfield 387, 3) := by decide +kernel
theorem dX12_encodesBy_28 : decode cX12_encodesBy 28 = .ok (.ishr, 1) := by decide +kernel
theorem dX12_encodesBy_29 : decode cX12_encodesBy 29 = .ok (.iload_n 2, 1) := by decide +kernel
theorem dX12_encodesBy_30 : decode cX12_encodesBy 30 = .ok (.aload_n 0, 1) := by decide +kernel
theorem dX12_encodesBy_31 : decode cX12_encodesBy 31 = .ok (.getfield 387, 3) := by decide +kernel
theorem dX12_encodesBy_34 : decode cX12_encodesBy 34 = .ok (.ishr, 1) := by decide +kernel
theorem dX12_encodesBy_35 : decode cX12_encodesBy 35 = .ok (.isub, 1) := by decide +kernel
theorem dX12_encodesBy_36 : decode cX12_encodesBy 36 = .ok (.iload 4, 2) := by decide +kernel
theorem dX12_encodesBy_38 : decode cX12_encodesBy 38 = .ok (.if_icmp .le 16, 3) := by decide +kernel
theorem dX12_encodesBy_41 : decode cX12_encodesBy 41 = .ok (.aload_n 0, 1) := by decide +kernel
theorem dX12_encodesBy_42 : decode cX12_encodesBy 42 = .ok (.dup, 1) := by decide +kernel
theorem dX12_encodesBy_43 : decode cX12_encodesBy 43 = .ok (.getfield 387, 3) := by decide +kernel
theorem dX12_encodesBy_46 : decode cX12_encodesBy 46 = .ok (.iconst 1, 1) := by decide +kernel
theorem dX12_encodesBy_47 : decode cX12_encodesBy 47 = .ok (.iadd, 1) := by decide +kernel
theorem dX12_encodesBy_48 : decode cX12_encodesBy 48 = .ok (.putfield 387, 3) := by decide +kernel
theorem dX12_encodesBy_51 : decode cX12_encodesBy 51 = .ok (.goto (-39), 3) := by decide +kernel
theorem dX12_encodesBy_54 : decode cX12_encodesBy 54 = .ok (.aload_n 0, 1) := by decide +kernel
theorem dX12_encodesBy_55 : decode cX12_encodesBy 55 = .ok (.iload_n 2, 1) := by decide +kernel
theorem dX12_encodesBy_56 : decode cX12_encodesBy 56 = .ok (.aload_n 0, 1) := by decide +kernel
theorem dX12_encodesBy_57 : decode cX12_encodesBy 57 = .ok (.getfield 387, 3) := by decide +kernel
theorem dX12_encodesBy_60 : decode cX12_encodesBy 60 = .ok (.ishr, 1) := by decide +kernel
theorem dX12_encodesBy_61 : decode cX12_encodesBy 61 = .ok (.aload_n 0, 1) := by decide +kernel
theorem dX12_encodesBy_62 : decode cX12_encodesBy 62 = .ok (.getfield 387, 3) := by decide +kernel
theorem dX12_encodesBy_65 : decode cX12_encodesBy 65 = .ok (.ishl, 1) := by decide +kernel
theorem dX12_encodesBy_66 : decode cX12_encodesBy 66 = .ok (.putfield 390, 3) := by decide +kernel
theorem dX12_encodesBy_69 : decode cX12_encodesBy 69 = .ok (.aload_n 0, 1) := by decide +kernel
theorem dX12_encodesBy_70 : decode cX12_encodesBy 70 = .ok (.iload_n 2, 1) := by decide +kernel
theorem dX12_encodesBy_71 : decode cX12_encodesBy 71 = .ok (.iload_n 3, 1) := by decide +kernel
theorem dX12_encodesBy_72 : decode cX12_encodesBy 72 = .ok (.iadd, 1) := by decide +kernel
theorem dX12_encodesBy_73 : decode cX12_encodesBy 73 = .ok (.iconst 1, 1) := by decide +kernel
theorem dX12_encodesBy_74 : decode cX12_encodesBy 74 = .ok (.aload_n 0, 1) := by decide +kernel
theorem dX12_encodesBy_75 : decode cX12_encodesBy 75 = .ok (.getfield 387, 3) := by decide +kernel
theorem dX12_encodesBy_78 : decode cX12_encodesBy 78 = .ok (.ishl, 1) := by decide +kernel
theorem dX12_encodesBy_79 : decode cX12_encodesBy 79 = .ok (.iadd, 1) := by decide +kernel
theorem dX12_encodesBy_80 : decode cX12_encodesBy 80 = .ok (.iconst 1, 1) := by decide +kernel
theorem dX12_encodesBy_81 : decode cX12_encodesBy 81 = .ok (.isub, 1) := by decide +kernel
theorem dX12_encodesBy_82 : decode cX12_encodesBy 82 = .ok (.aload_n 0, 1) := by decide +kernel
theorem dX12_encodesBy_83 : decode cX12_encodesBy 83 = .ok (.getfield 387, 3) := by decide +kernel
theorem dX12_encodesBy_86 : decode cX12_encodesBy 86 = .ok (.ishr, 1) := by decide +kernel
theorem dX12_encodesBy_87 : decode cX12_encodesBy 87 = .ok (.aload_n 0, 1) := by decide +kernel
theorem dX12_encodesBy_88 : decode cX12_encodesBy 88 = .ok (.getfield 387, 3) := by decide +kernel
theorem dX12_encodesBy_91 : decode cX12_encodesBy 91 = .ok (.ishl, 1) := by decide +kernel
theorem dX12_encodesBy_92 : decode cX12_encodesBy 92 = .ok (.putfield 393, 3) := by decide +kernel
theorem dX12_encodesBy_95 : decode cX12_encodesBy 95 = .ok (.return_, 1) := by decide +kernel
theorem dX12_encodes_0 : decode cX12_encodes 0 = .ok (.aload_n 0, 1) := by decide +kernel
theorem dX12_encodes_1 : decode cX12_encodes 1 = .ok (.aload_n 0, 1) := by decide +kernel
theorem dX12_encodes_2 : decode cX12_encodes 2 = .ok (.invokevirtual 396, 3) := by decide +kernel
theorem dX12_encodes_5 : decode cX12_encodes 5 = .ok (.iload_n 1, 1) := by decide +kernel
theorem dX12_encodes_6 : decode cX12_encodes 6 = .ok (.iload_n 2, 1) := by decide +kernel
theorem dX12_encodes_7 : decode cX12_encodes 7 = .ok (.invokevirtual 399, 3) := by decide +kernel
theorem dX12_encodes_10 : decode cX12_encodes 10 = .ok (.return_, 1) := by decide +kernel
theorem dX12_modulo_0 : decode cX12_modulo 0 = .ok (.iload_n 1, 1) := by decide +kernel
theorem dX12_modulo_1 : decode cX12_modulo 1 = .ok (.iconst 1, 1) := by decide +kernel
theorem dX12_modulo_2 : decode cX12_modulo 2 = .ok (.aload_n 0, 1) := by decide +kernel
theorem dX12_modulo_3 : decode cX12_modulo 3 = .ok (.invokevirtual 396, 3) := by decide +kernel
theorem dX12_modulo_6 : decode cX12_modulo 6 = .ok (.ishl, 1) := by decide +kernel
theorem dX12_modulo_7 : decode cX12_modulo 7 = .ok (.iconst 1, 1) := by decide +kernel
theorem dX12_modulo_8 : decode cX12_modulo 8 = .ok (.isub, 1) := by decide +kernel
theorem dX12_modulo_9 : decode cX12_modulo 9 = .ok (.iand, 1) := by decide +kernel
theorem dX12_modulo_10 : decode cX12_modulo 10 = .ok (.ireturn, 1) := by decide +kernel
theorem dX12_laysBounds_0 : decode cX12_laysBounds 0 = .ok (.aload_n 0, 1) := by decide +kernel
theorem dX12_laysBounds_1 : decode cX12_laysBounds 1 = .ok (.getfield 115, 3) := by decide +kernel
theorem dX12_laysBounds_4 : decode cX12_laysBounds 4 = .ok (.iload_n 1, 1) := by decide +kernel
theorem dX12_laysBounds_5 : decode cX12_laysBounds 5 = .ok (.iconst 2, 1) := by decide +kernel
theorem dX12_laysBounds_6 : decode cX12_laysBounds 6 = .ok (.iadd, 1) := by decide +kernel
theorem dX12_laysBounds_7 : decode cX12_laysBounds 7 = .ok (.aload_n 0, 1) := by decide +kernel
theorem dX12_laysBounds_8 : decode cX12_laysBounds 8 = .ok (.getfield 387, 3) := by decide +kernel
theorem dX12_laysBounds_11 : decode cX12_laysBounds 11 = .ok (.iastore, 1) := by decide +kernel
theorem dX12_laysBounds_12 : decode cX12_laysBounds 12 = .ok (.aload_n 0, 1) := by decide +kernel
theorem dX12_laysBounds_13 : decode cX12_laysBounds 13 = .ok (.getfield 115, 3) := by decide +kernel
theorem dX12_laysBounds_16 : decode cX12_laysBounds 16 = .ok (.iload_n 1, 1) := by decide +kernel
theorem dX12_laysBounds_17 : decode cX12_laysBounds 17 = .ok (.iconst 3, 1) := by decide +kernel
theorem dX12_laysBounds_18 : decode cX12_laysBounds 18 = .ok (.iadd, 1) := by decide +kernel
theorem dX12_laysBounds_19 : decode cX12_laysBounds 19 = .ok (.aload_n 0, 1) := by decide +kernel
theorem dX12_laysBounds_20 : decode cX12_laysBounds 20 = .ok (.aload_n 0, 1) := by decide +kernel
theorem dX12_laysBounds_21 : decode cX12_laysBounds 21 = .ok (.getfield 390, 3) := by decide +kernel
theorem dX12_laysBounds_24 : decode cX12_laysBounds 24 = .ok (.aload_n 0, 1) := by decide +kernel
theorem dX12_laysBounds_25 : decode cX12_laysBounds 25 = .ok (.getfield 387, 3) := by decide +kernel
theorem dX12_laysBounds_28 : decode cX12_laysBounds 28 = .ok (.ishr, 1) := by decide +kernel
theorem dX12_laysBounds_29 : decode cX12_laysBounds 29 = .ok (.invokevirtual 403, 3) := by decide +kernel
theorem dX12_laysBounds_32 : decode cX12_laysBounds 32 = .ok (.iastore, 1) := by decide +kernel
theorem dX12_laysBounds_33 : decode cX12_laysBounds 33 = .ok (.aload_n 0, 1) := by decide +kernel
theorem dX12_laysBounds_34 : decode cX12_laysBounds 34 = .ok (.getfield 115, 3) := by decide +kernel
theorem dX12_laysBounds_37 : decode cX12_laysBounds 37 = .ok (.iload_n 1, 1) := by decide +kernel
theorem dX12_laysBounds_38 : decode cX12_laysBounds 38 = .ok (.iconst 4, 1) := by decide +kernel
theorem dX12_laysBounds_39 : decode cX12_laysBounds 39 = .ok (.iadd, 1) := by decide +kernel
theorem dX12_laysBounds_40 : decode cX12_laysBounds 40 = .ok (.aload_n 0, 1) := by decide +kernel
theorem dX12_laysBounds_41 : decode cX12_laysBounds 41 = .ok (.aload_n 0, 1) := by decide +kernel
theorem dX12_laysBounds_42 : decode cX12_laysBounds 42 = .ok (.getfield 393, 3) := by decide +kernel
theorem dX12_laysBounds_45 : decode cX12_laysBounds 45 = .ok (.aload_n 0, 1) := by decide +kernel
theorem dX12_laysBounds_46 : decode cX12_laysBounds 46 = .ok (.getfield 387, 3) := by decide +kernel
theorem dX12_laysBounds_49 : decode cX12_laysBounds 49 = .ok (.ishr, 1) := by decide +kernel
theorem dX12_laysBounds_50 : decode cX12_laysBounds 50 = .ok (.invokevirtual 403, 3) := by decide +kernel
theorem dX12_laysBounds_53 : decode cX12_laysBounds 53 = .ok (.iastore, 1) := by decide +kernel
theorem dX12_laysBounds_54 : decode cX12_laysBounds 54 = .ok (.return_, 1) := by decide +kernel
theorem dX12_edgeOf_0 : decode cX12_edgeOf 0 = .ok (.aload_n 0, 1) := by decide +kernel
theorem dX12_edgeOf_1 : decode cX12_edgeOf 1 = .ok (.aload_n 0, 1) := by decide +kernel
theorem dX12_edgeOf_2 : decode cX12_edgeOf 2 = .ok (.getfield 115, 3) := by decide +kernel
theorem dX12_edgeOf_5 : decode cX12_edgeOf 5 = .ok (.iload_n 1, 1) := by decide +kernel
theorem dX12_edgeOf_6 : decode cX12_edgeOf 6 = .ok (.iconst 3, 1) := by decide +kernel
theorem dX12_edgeOf_7 : decode cX12_edgeOf 7 = .ok (.iadd, 1) := by decide +kernel
theorem dX12_edgeOf_8 : decode cX12_edgeOf 8 = .ok (.iaload, 1) := by decide +kernel
theorem dX12_edgeOf_9 : decode cX12_edgeOf 9 = .ok (.iconst 1, 1) := by decide +kernel
theorem dX12_edgeOf_10 : decode cX12_edgeOf 10 = .ok (.aload_n 0, 1) := by decide +kernel
theorem dX12_edgeOf_11 : decode cX12_edgeOf 11 = .ok (.invokevirtual 396, 3) := by decide +kernel
theorem dX12_edgeOf_14 : decode cX12_edgeOf 14 = .ok (.iconst 2, 1) := by decide +kernel
theorem dX12_edgeOf_15 : decode cX12_edgeOf 15 = .ok (.isub, 1) := by decide +kernel
theorem dX12_edgeOf_16 : decode cX12_edgeOf 16 = .ok (.ishl, 1) := by decide +kernel
theorem dX12_edgeOf_17 : decode cX12_edgeOf 17 = .ok (.isub, 1) := by decide +kernel
theorem dX12_edgeOf_18 : decode cX12_edgeOf 18 = .ok (.invokevirtual 403, 3) := by decide +kernel
theorem dX12_edgeOf_21 : decode cX12_edgeOf 21 = .ok (.ireturn, 1) := by decide +kernel
theorem dX12_baseFrom_0 : decode cX12_baseFrom 0 = .ok (.aload_n 0, 1) := by decide +kernel
theorem dX12_baseFrom_1 : decode cX12_baseFrom 1 = .ok (.getfield 115, 3) := by decide +kernel
theorem dX12_baseFrom_4 : decode cX12_baseFrom 4 = .ok (.iload_n 1, 1) := by decide +kernel
theorem dX12_baseFrom_5 : decode cX12_baseFrom 5 = .ok (.iconst 2, 1) := by decide +kernel
theorem dX12_baseFrom_6 : decode cX12_baseFrom 6 = .ok (.iadd, 1) := by decide +kernel
theorem dX12_baseFrom_7 : decode cX12_baseFrom 7 = .ok (.iaload, 1) := by decide +kernel
theorem dX12_baseFrom_8 : decode cX12_baseFrom 8 = .ok (.istore_n 3, 1) := by decide +kernel
theorem dX12_baseFrom_9 : decode cX12_baseFrom 9 = .ok (.aload_n 0, 1) := by decide +kernel
theorem dX12_baseFrom_10 : decode cX12_baseFrom 10 = .ok (.iload_n 1, 1) := by decide +kernel
theorem dX12_baseFrom_11 : decode cX12_baseFrom 11 = .ok (.invokevirtual 406, 3) := by decide +kernel
theorem dX12_baseFrom_14 : decode cX12_baseFrom 14 = .ok (.istore 4, 2) := by decide +kernel
theorem dX12_baseFrom_16 : decode cX12_baseFrom 16 = .ok (.aload_n 0, 1) := by decide +kernel
theorem dX12_baseFrom_17 : decode cX12_baseFrom 17 = .ok (.iload_n 2, 1) := by decide +kernel
theorem dX12_baseFrom_18 : decode cX12_baseFrom 18 = .ok (.iload_n 3, 1) := by decide +kernel
theorem dX12_baseFrom_19 : decode cX12_baseFrom 19 = .ok (.ishr, 1) := by decide +kernel
theorem dX12_baseFrom_20 : decode cX12_baseFrom 20 = .ok (.invokevirtual 403, 3) := by decide +kernel
theorem dX12_baseFrom_23 : decode cX12_baseFrom 23 = .ok (.iload 4, 2) := by decide +kernel
theorem dX12_baseFrom_25 : decode cX12_baseFrom 25 = .ok (.if_icmp .ge 7, 3) := by decide +kernel
theorem dX12_baseFrom_28 : decode cX12_baseFrom 28 = .ok (.iconst 1, 1) := by decide +kernel
theorem dX12_baseFrom_29 : decode cX12_baseFrom 29 = .ok (.goto 4, 3) := by decide +kernel
theorem dX12_baseFrom_32 : decode cX12_baseFrom 32 = .ok (.iconst 0, 1) := by decide +kernel
theorem dX12_baseFrom_33 : decode cX12_baseFrom 33 = .ok (.istore 5, 2) := by decide +kernel
theorem dX12_baseFrom_35 : decode cX12_baseFrom 35 = .ok (.aload_n 0, 1) := by decide +kernel
theorem dX12_baseFrom_36 : decode cX12_baseFrom 36 = .ok (.getfield 115, 3) := by decide +kernel
theorem dX12_baseFrom_39 : decode cX12_baseFrom 39 = .ok (.iload_n 1, 1) := by decide +kernel
theorem dX12_baseFrom_40 : decode cX12_baseFrom 40 = .ok (.iconst 3, 1) := by decide +kernel
theorem dX12_baseFrom_41 : decode cX12_baseFrom 41 = .ok (.iadd, 1) := by decide +kernel
theorem dX12_baseFrom_42 : decode cX12_baseFrom 42 = .ok (.iaload, 1) := by decide +kernel
theorem dX12_baseFrom_43 : decode cX12_baseFrom 43 = .ok (.iload 4, 2) := by decide +kernel
theorem dX12_baseFrom_45 : decode cX12_baseFrom 45 = .ok (.if_icmp .ge 7, 3) := by decide +kernel
theorem dX12_baseFrom_48 : decode cX12_baseFrom 48 = .ok (.iconst 1, 1) := by decide +kernel
theorem dX12_baseFrom_49 : decode cX12_baseFrom 49 = .ok (.goto 4, 3) := by decide +kernel
theorem dX12_baseFrom_52 : decode cX12_baseFrom 52 = .ok (.iconst 0, 1) := by decide +kernel
theorem dX12_baseFrom_53 : decode cX12_baseFrom 53 = .ok (.istore 6, 2) := by decide +kernel
theorem dX12_baseFrom_55 : decode cX12_baseFrom 55 = .ok (.iload_n 2, 1) := by decide +kernel
theorem dX12_baseFrom_56 : decode cX12_baseFrom 56 = .ok (.iload_n 3, 1) := by decide +kernel
theorem dX12_baseFrom_57 : decode cX12_baseFrom 57 = .ok (.aload_n 0, 1) := by decide +kernel
theorem dX12_baseFrom_58 : decode cX12_baseFrom 58 = .ok (.invokevirtual 396, 3) := by decide +kernel
theorem dX12_baseFrom_61 : decode cX12_baseFrom 61 = .ok (.iadd, 1) := by decide +kernel
theorem dX12_baseFrom_62 : decode cX12_baseFrom 62 = .ok (.ishr, 1) := by decide +kernel
theorem dX12_baseFrom_63 : decode cX12_baseFrom 63 = .ok (.iload 5, 2) := by decide +kernel
theorem dX12_baseFrom_65 : decode cX12_baseFrom 65 = .ok (.iload 6, 2) := by decide +kernel
theorem dX12_baseFrom_67 : decode cX12_baseFrom 67 = .ok (.if_icmp .ne 7, 3) := by decide +kernel
theorem dX12_baseFrom_70 : decode cX12_baseFrom 70 = .ok (.iconst 0, 1) := by decide +kernel
theorem dX12_baseFrom_71 : decode cX12_baseFrom 71 = .ok (.goto 13, 3) := by decide +kernel
theorem dX12_baseFrom_74 : decode cX12_baseFrom 74 = .ok (.iload 5, 2) := by decide +kernel
theorem dX12_baseFrom_76 : decode cX12_baseFrom 76 = .ok (.ifCond .eq 7, 3) := by decide +kernel
theorem dX12_baseFrom_79 : decode cX12_baseFrom 79 = .ok (.iconst (-1), 1) := by decide +kernel
theorem dX12_baseFrom_80 : decode cX12_baseFrom 80 = .ok (.goto 4, 3) := by decide +kernel
theorem dX12_baseFrom_83 : decode cX12_baseFrom 83 = .ok (.iconst 1, 1) := by decide +kernel
theorem dX12_baseFrom_84 : decode cX12_baseFrom 84 = .ok (.iadd, 1) := by decide +kernel
theorem dX12_baseFrom_85 : decode cX12_baseFrom 85 = .ok (.istore 7, 2) := by decide +kernel
theorem dX12_baseFrom_87 : decode cX12_baseFrom 87 = .ok (.iload 7, 2) := by decide +kernel
theorem dX12_baseFrom_89 : decode cX12_baseFrom 89 = .ok (.iload_n 3, 1) := by decide +kernel
theorem dX12_baseFrom_90 : decode cX12_baseFrom 90 = .ok (.aload_n 0, 1) := by decide +kernel
theorem dX12_baseFrom_91 : decode cX12_baseFrom 91 = .ok (.invokevirtual 396, 3) := by decide +kernel
theorem dX12_baseFrom_94 : decode cX12_baseFrom 94 = .ok (.iadd, 1) := by decide +kernel
theorem dX12_baseFrom_95 : decode cX12_baseFrom 95 = .ok (.ishl, 1) := by decide +kernel
theorem dX12_baseFrom_96 : decode cX12_baseFrom 96 = .ok (.aload_n 0, 1) := by decide +kernel
theorem dX12_baseFrom_97 : decode cX12_baseFrom 97 = .ok (.getfield 115, 3) := by decide +kernel
theorem dX12_baseFrom_100 : decode cX12_baseFrom 100 = .ok (.iload_n 1, 1) := by decide +kernel
theorem dX12_baseFrom_101 : decode cX12_baseFrom 101 = .ok (.iconst 3, 1) := by decide +kernel
theorem dX12_baseFrom_102 : decode cX12_baseFrom 102 = .ok (.iadd, 1) := by decide +kernel
theorem dX12_baseFrom_103 : decode cX12_baseFrom 103 = .ok (.iaload, 1) := by decide +kernel
theorem dX12_baseFrom_104 : decode cX12_baseFrom 104 = .ok (.iload_n 3, 1) := by decide +kernel
theorem dX12_baseFrom_105 : decode cX12_baseFrom 105 = .ok (.ishl, 1) := by decide +kernel
theorem dX12_baseFrom_106 : decode cX12_baseFrom 106 = .ok (.iadd, 1) := by decide +kernel
theorem dX12_baseFrom_107 : decode cX12_baseFrom 107 = .ok (.sipush 4095, 3) := by decide +kernel
theorem dX12_baseFrom_110 : decode cX12_baseFrom 110 = .ok (.iand, 1) := by decide +kernel
theorem dX12_baseFrom_111 : decode cX12_baseFrom 111 = .ok (.ireturn, 1) := by decide +kernel
theorem dX12_baseOf_0 : decode cX12_baseOf 0 = .ok (.aload_n 0, 1) := by decide +kernel
theorem dX12_baseOf_1 : decode cX12_baseOf 1 = .ok (.iload_n 1, 1) := by decide +kernel
theorem dX12_baseOf_2 : decode cX12_baseOf 2 = .ok (.aload_n 0, 1) := by decide +kernel
theorem dX12_baseOf_3 : decode cX12_baseOf 3 = .ok (.getfield 115, 3) := by decide +kernel
theorem dX12_baseOf_6 : decode cX12_baseOf 6 = .ok (.iload_n 1, 1) := by decide +kernel
theorem dX12_baseOf_7 : decode cX12_baseOf 7 = .ok (.iconst 1, 1) := by decide +kernel
theorem dX12_baseOf_8 : decode cX12_baseOf 8 = .ok (.iadd, 1) := by decide +kernel
theorem dX12_baseOf_9 : decode cX12_baseOf 9 = .ok (.iaload, 1) := by decide +kernel
theorem dX12_baseOf_10 : decode cX12_baseOf 10 = .ok (.invokevirtual 409, 3) := by decide +kernel
theorem dX12_baseOf_13 : decode cX12_baseOf 13 = .ok (.ireturn, 1) := by decide +kernel
theorem dX12_lengthOf_0 : decode cX12_lengthOf 0 = .ok (.aload_n 0, 1) := by decide +kernel
theorem dX12_lengthOf_1 : decode cX12_lengthOf 1 = .ok (.aload_n 0, 1) := by decide +kernel
theorem dX12_lengthOf_2 : decode cX12_lengthOf 2 = .ok (.getfield 115, 3) := by decide +kernel
theorem dX12_lengthOf_5 : decode cX12_lengthOf 5 = .ok (.iload_n 1, 1) := by decide +kernel
theorem dX12_lengthOf_6 : decode cX12_lengthOf 6 = .ok (.iconst 4, 1) := by decide +kernel
theorem dX12_lengthOf_7 : decode cX12_lengthOf 7 = .ok (.iadd, 1) := by decide +kernel
theorem dX12_lengthOf_8 : decode cX12_lengthOf 8 = .ok (.iaload, 1) := by decide +kernel
theorem dX12_lengthOf_9 : decode cX12_lengthOf 9 = .ok (.aload_n 0, 1) := by decide +kernel
theorem dX12_lengthOf_10 : decode cX12_lengthOf 10 = .ok (.getfield 115, 3) := by decide +kernel
theorem dX12_lengthOf_13 : decode cX12_lengthOf 13 = .ok (.iload_n 1, 1) := by decide +kernel
theorem dX12_lengthOf_14 : decode cX12_lengthOf 14 = .ok (.iconst 3, 1) := by decide +kernel
theorem dX12_lengthOf_15 : decode cX12_lengthOf 15 = .ok (.iadd, 1) := by decide +kernel
theorem dX12_lengthOf_16 : decode cX12_lengthOf 16 = .ok (.iaload, 1) := by decide +kernel
theorem dX12_lengthOf_17 : decode cX12_lengthOf 17 = .ok (.isub, 1) := by decide +kernel
theorem dX12_lengthOf_18 : decode cX12_lengthOf 18 = .ok (.invokevirtual 403, 3) := by decide +kernel
theorem dX12_lengthOf_21 : decode cX12_lengthOf 21 = .ok (.aload_n 0, 1) := by decide +kernel
theorem dX12_lengthOf_22 : decode cX12_lengthOf 22 = .ok (.getfield 115, 3) := by decide +kernel
theorem dX12_lengthOf_25 : decode cX12_lengthOf 25 = .ok (.iload_n 1, 1) := by decide +kernel
theorem dX12_lengthOf_26 : decode cX12_lengthOf 26 = .ok (.iconst 2, 1) := by decide +kernel
theorem dX12_lengthOf_27 : decode cX12_lengthOf 27 = .ok (.iadd, 1) := by decide +kernel
theorem dX12_lengthOf_28 : decode cX12_lengthOf 28 = .ok (.iaload, 1) := by decide +kernel
theorem dX12_lengthOf_29 : decode cX12_lengthOf 29 = .ok (.ishl, 1) := by decide +kernel
theorem dX12_lengthOf_30 : decode cX12_lengthOf 30 = .ok (.ireturn, 1) := by decide +kernel
theorem dX12_isWithin_0 : decode cX12_isWithin 0 = .ok (.aload_n 0, 1) := by decide +kernel
theorem dX12_isWithin_1 : decode cX12_isWithin 1 = .ok (.iload_n 1, 1) := by decide +kernel
theorem dX12_isWithin_2 : decode cX12_isWithin 2 = .ok (.invokevirtual 412, 3) := by decide +kernel
theorem dX12_isWithin_5 : decode cX12_isWithin 5 = .ok (.istore_n 3, 1) := by decide +kernel
theorem dX12_isWithin_6 : decode cX12_isWithin 6 = .ok (.iload_n 2, 1) := by decide +kernel
theorem dX12_isWithin_7 : decode cX12_isWithin 7 = .ok (.iload_n 3, 1) := by decide +kernel
theorem dX12_isWithin_8 : decode cX12_isWithin 8 = .ok (.if_icmp .lt 18, 3) := by decide +kernel
theorem dX12_isWithin_11 : decode cX12_isWithin 11 = .ok (.iload_n 2, 1) := by decide +kernel
theorem dX12_isWithin_12 : decode cX12_isWithin 12 = .ok (.iload_n 3, 1) := by decide +kernel
theorem dX12_isWithin_13 : decode cX12_isWithin 13 = .ok (.aload_n 0, 1) := by decide +kernel
theorem dX12_isWithin_14 : decode cX12_isWithin 14 = .ok (.iload_n 1, 1) := by decide +kernel
theorem dX12_isWithin_15 : decode cX12_isWithin 15 = .ok (.invokevirtual 415, 3) := by decide +kernel
theorem dX12_isWithin_18 : decode cX12_isWithin 18 = .ok (.iadd, 1) := by decide +kernel
theorem dX12_isWithin_19 : decode cX12_isWithin 19 = .ok (.if_icmp .ge 7, 3) := by decide +kernel
theorem dX12_isWithin_22 : decode cX12_isWithin 22 = .ok (.iconst 1, 1) := by decide +kernel
theorem dX12_isWithin_23 : decode cX12_isWithin 23 = .ok (.goto 4, 3) := by decide +kernel
theorem dX12_isWithin_26 : decode cX12_isWithin 26 = .ok (.iconst 0, 1) := by decide +kernel
theorem dX12_isWithin_27 : decode cX12_isWithin 27 = .ok (.ireturn, 1) := by decide +kernel
theorem dX12_doesFit_0 : decode cX12_doesFit 0 = .ok (.aload_n 0, 1) := by decide +kernel
theorem dX12_doesFit_1 : decode cX12_doesFit 1 = .ok (.iload_n 1, 1) := by decide +kernel
theorem dX12_doesFit_2 : decode cX12_doesFit 2 = .ok (.aload_n 0, 1) := by decide +kernel
theorem dX12_doesFit_3 : decode cX12_doesFit 3 = .ok (.getfield 115, 3) := by decide +kernel
theorem dX12_doesFit_6 : decode cX12_doesFit 6 = .ok (.iload_n 1, 1) := by decide +kernel
theorem dX12_doesFit_7 : decode cX12_doesFit 7 = .ok (.iconst 1, 1) := by decide +kernel
theorem dX12_doesFit_8 : decode cX12_doesFit 8 = .ok (.iadd, 1) := by decide +kernel
theorem dX12_doesFit_9 : decode cX12_doesFit 9 = .ok (.iaload, 1) := by decide +kernel
theorem dX12_doesFit_10 : decode cX12_doesFit 10 = .ok (.iload_n 2, 1) := by decide +kernel
theorem dX12_doesFit_11 : decode cX12_doesFit 11 = .ok (.iadd, 1) := by decide +kernel
theorem dX12_doesFit_12 : decode cX12_doesFit 12 = .ok (.sipush 4095, 3) := by decide +kernel
theorem dX12_doesFit_15 : decode cX12_doesFit 15 = .ok (.iand, 1) := by decide +kernel
theorem dX12_doesFit_16 : decode cX12_doesFit 16 = .ok (.invokevirtual 409, 3) := by decide +kernel
theorem dX12_doesFit_19 : decode cX12_doesFit 19 = .ok (.aload_n 0, 1) := by decide +kernel
theorem dX12_doesFit_20 : decode cX12_doesFit 20 = .ok (.iload_n 1, 1) := by decide +kernel
theorem dX12_doesFit_21 : decode cX12_doesFit 21 = .ok (.invokevirtual 412, 3) := by decide +kernel
theorem dX12_doesFit_24 : decode cX12_doesFit 24 = .ok (.if_icmp .ne 7, 3) := by decide +kernel
theorem dX12_doesFit_27 : decode cX12_doesFit 27 = .ok (.iconst 1, 1) := by decide +kernel
theorem dX12_doesFit_28 : decode cX12_doesFit 28 = .ok (.goto 4, 3) := by decide +kernel
theorem dX12_doesFit_31 : decode cX12_doesFit 31 = .ok (.iconst 0, 1) := by decide +kernel
theorem dX12_doesFit_32 : decode cX12_doesFit 32 = .ok (.ireturn, 1) := by decide +kernel
theorem dX12_isQuick_0 : decode cX12_isQuick 0 = .ok (.aload_n 0, 1) := by decide +kernel
theorem dX12_isQuick_1 : decode cX12_isQuick 1 = .ok (.getfield 115, 3) := by decide +kernel
theorem dX12_isQuick_4 : decode cX12_isQuick 4 = .ok (.iload_n 1, 1) := by decide +kernel
theorem dX12_isQuick_5 : decode cX12_isQuick 5 = .ok (.iconst 2, 1) := by decide +kernel
theorem dX12_isQuick_6 : decode cX12_isQuick 6 = .ok (.iadd, 1) := by decide +kernel
theorem dX12_isQuick_7 : decode cX12_isQuick 7 = .ok (.iaload, 1) := by decide +kernel
theorem dX12_isQuick_8 : decode cX12_isQuick 8 = .ok (.istore_n 3, 1) := by decide +kernel
theorem dX12_isQuick_9 : decode cX12_isQuick 9 = .ok (.iload_n 2, 1) := by decide +kernel
theorem dX12_isQuick_10 : decode cX12_isQuick 10 = .ok (.iload_n 3, 1) := by decide +kernel
theorem dX12_isQuick_11 : decode cX12_isQuick 11 = .ok (.aload_n 0, 1) := by decide +kernel
theorem dX12_isQuick_12 : decode cX12_isQuick 12 = .ok (.invokevirtual 396, 3) := by decide +kernel
theorem dX12_isQuick_15 : decode cX12_isQuick 15 = .ok (.iadd, 1) := by decide +kernel
theorem dX12_isQuick_16 : decode cX12_isQuick 16 = .ok (.ishr, 1) := by decide +kernel
theorem dX12_isQuick_17 : decode cX12_isQuick 17 = .ok (.istore 4, 2) := by decide +kernel
theorem dX12_isQuick_19 : decode cX12_isQuick 19 = .ok (.aload_n 0, 1) := by decide +kernel
theorem dX12_isQuick_20 : decode cX12_isQuick 20 = .ok (.iload_n 2, 1) := by decide +kernel
theorem dX12_isQuick_21 : decode cX12_isQuick 21 = .ok (.iload_n 3, 1) := by decide +kernel
theorem dX12_isQuick_22 : decode cX12_isQuick 22 = .ok (.ishr, 1) := by decide +kernel
theorem dX12_isQuick_23 : decode cX12_isQuick 23 = .ok (.invokevirtual 403, 3) := by decide +kernel
theorem dX12_isQuick_26 : decode cX12_isQuick 26 = .ok (.istore 5, 2) := by decide +kernel
theorem dX12_isQuick_28 : decode cX12_isQuick 28 = .ok (.aload_n 0, 1) := by decide +kernel
theorem dX12_isQuick_29 : decode cX12_isQuick 29 = .ok (.aload_n 0, 1) := by decide +kernel
theorem dX12_isQuick_30 : decode cX12_isQuick 30 = .ok (.iload_n 1, 1) := by decide +kernel
theorem dX12_isQuick_31 : decode cX12_isQuick 31 = .ok (.invokevirtual 406, 3) := by decide +kernel
theorem dX12_isQuick_34 : decode cX12_isQuick 34 = .ok (.aload_n 0, 1) := by decide +kernel
theorem dX12_isQuick_35 : decode cX12_isQuick 35 = .ok (.getfield 115, 3) := by decide +kernel
theorem dX12_isQuick_38 : decode cX12_isQuick 38 = .ok (.iload_n 1, 1) := by decide +kernel
theorem dX12_isQuick_39 : decode cX12_isQuick 39 = .ok (.iconst 1, 1) := by decide +kernel
theorem dX12_isQuick_40 : decode cX12_isQuick 40 = .ok (.iadd, 1) := by decide +kernel
theorem dX12_isQuick_41 : decode cX12_isQuick 41 = .ok (.iaload, 1) := by decide +kernel
theorem dX12_isQuick_42 : decode cX12_isQuick 42 = .ok (.iload_n 3, 1) := by decide +kernel
theorem dX12_isQuick_43 : decode cX12_isQuick 43 = .ok (.ishr, 1) := by decide +kernel
theorem dX12_isQuick_44 : decode cX12_isQuick 44 = .ok (.isub, 1) := by decide +kernel
theorem dX12_isQuick_45 : decode cX12_isQuick 45 = .ok (.invokevirtual 403, 3) := by decide +kernel
theorem dX12_isQuick_48 : decode cX12_isQuick 48 = .ok (.istore 6, 2) := by decide +kernel
theorem dX12_isQuick_50 : decode cX12_isQuick 50 = .ok (.iload 4, 2) := by decide +kernel
theorem dX12_isQuick_52 : decode cX12_isQuick 52 = .ok (.ifCond .ne 12, 3) := by decide +kernel
theorem dX12_isQuick_55 : decode cX12_isQuick 55 = .ok (.iload 5, 2) := by decide +kernel
theorem dX12_isQuick_57 : decode cX12_isQuick 57 = .ok (.iload 6, 2) := by decide +kernel
theorem dX12_isQuick_59 : decode cX12_isQuick 59 = .ok (.iconst 1, 1) := by decide +kernel
theorem dX12_isQuick_60 : decode cX12_isQuick 60 = .ok (.isub, 1) := by decide +kernel
theorem dX12_isQuick_61 : decode cX12_isQuick 61 = .ok (.if_icmp .lt 21, 3) := by decide +kernel
theorem dX12_isQuick_64 : decode cX12_isQuick 64 = .ok (.iload 4, 2) := by decide +kernel
theorem dX12_isQuick_66 : decode cX12_isQuick 66 = .ok (.iconst (-1), 1) := by decide +kernel
theorem dX12_isQuick_67 : decode cX12_isQuick 67 = .ok (.if_icmp .ne 19, 3) := by decide +kernel
theorem dX12_isQuick_70 : decode cX12_isQuick 70 = .ok (.iload 5, 2) := by decide +kernel
theorem dX12_isQuick_72 : decode cX12_isQuick 72 = .ok (.iload 6, 2) := by decide +kernel
theorem dX12_isQuick_74 : decode cX12_isQuick 74 = .ok (.if_icmp .lt 12, 3) := by decide +kernel
theorem dX12_isQuick_77 : decode cX12_isQuick 77 = .ok (.iload 6, 2) := by decide +kernel
theorem dX12_isQuick_79 : decode cX12_isQuick 79 = .ok (.ifCond .eq 7, 3) := by decide +kernel
theorem dX12_isQuick_82 : decode cX12_isQuick 82 = .ok (.iconst 1, 1) := by decide +kernel
theorem dX12_isQuick_83 : decode cX12_isQuick 83 = .ok (.goto 4, 3) := by decide +kernel
theorem dX12_isQuick_86 : decode cX12_isQuick 86 = .ok (.iconst 0, 1) := by decide +kernel
theorem dX12_isQuick_87 : decode cX12_isQuick 87 = .ok (.ireturn, 1) := by decide +kernel
theorem dX12_isOpen_0 : decode cX12_isOpen 0 = .ok (.aload_n 0, 1) := by decide +kernel
theorem dX12_isOpen_1 : decode cX12_isOpen 1 = .ok (.iload_n 1, 1) := by decide +kernel
theorem dX12_isOpen_2 : decode cX12_isOpen 2 = .ok (.i2l, 1) := by decide +kernel
theorem dX12_isOpen_3 : decode cX12_isOpen 3 = .ok (.invokevirtual 418, 3) := by decide +kernel
theorem dX12_isOpen_6 : decode cX12_isOpen 6 = .ok (.ifCond .eq 35, 3) := by decide +kernel
theorem dX12_isOpen_9 : decode cX12_isOpen 9 = .ok (.aload_n 0, 1) := by decide +kernel
theorem dX12_isOpen_10 : decode cX12_isOpen 10 = .ok (.getfield 115, 3) := by decide +kernel
theorem dX12_isOpen_13 : decode cX12_isOpen 13 = .ok (.bipush 8, 2) := by decide +kernel
theorem dX12_isOpen_15 : decode cX12_isOpen 15 = .ok (.iload_n 1, 1) := by decide +kernel
theorem dX12_isOpen_16 : decode cX12_isOpen 16 = .ok (.imul, 1) := by decide +kernel
theorem dX12_isOpen_17 : decode cX12_isOpen 17 = .ok (.iaload, 1) := by decide +kernel
theorem dX12_isOpen_18 : decode cX12_isOpen 18 = .ok (.iconst 1, 1) := by decide +kernel
theorem dX12_isOpen_19 : decode cX12_isOpen 19 = .ok (.if_icmp .ne 22, 3) := by decide +kernel
theorem dX12_isOpen_22 : decode cX12_isOpen 22 = .ok (.aload_n 0, 1) := by decide +kernel
theorem dX12_isOpen_23 : decode cX12_isOpen 23 = .ok (.getfield 115, 3) := by decide +kernel
theorem dX12_isOpen_26 : decode cX12_isOpen 26 = .ok (.bipush 8, 2) := by decide +kernel
theorem dX12_isOpen_28 : decode cX12_isOpen 28 = .ok (.iload_n 1, 1) := by decide +kernel
theorem dX12_isOpen_29 : decode cX12_isOpen 29 = .ok (.imul, 1) := by decide +kernel
theorem dX12_isOpen_30 : decode cX12_isOpen 30 = .ok (.bipush 6, 2) := by decide +kernel
theorem dX12_isOpen_32 : decode cX12_isOpen 32 = .ok (.iadd, 1) := by decide +kernel
theorem dX12_isOpen_33 : decode cX12_isOpen 33 = .ok (.iaload, 1) := by decide +kernel
theorem dX12_isOpen_34 : decode cX12_isOpen 34 = .ok (.ifCond .ne 7, 3) := by decide +kernel
theorem dX12_isOpen_37 : decode cX12_isOpen 37 = .ok (.iconst 1, 1) := by decide +kernel
theorem dX12_isOpen_38 : decode cX12_isOpen 38 = .ok (.goto 4, 3) := by decide +kernel
theorem dX12_isOpen_41 : decode cX12_isOpen 41 = .ok (.iconst 0, 1) := by decide +kernel
theorem dX12_isOpen_42 : decode cX12_isOpen 42 = .ok (.ireturn, 1) := by decide +kernel
theorem dX12_objectMany_0 : decode cX12_objectMany 0 = .ok (.aload_n 0, 1) := by decide +kernel
theorem dX12_objectMany_1 : decode cX12_objectMany 1 = .ok (.getfield 115, 3) := by decide +kernel
theorem dX12_objectMany_4 : decode cX12_objectMany 4 = .ok (.sipush 256, 3) := by decide +kernel
theorem dX12_objectMany_7 : decode cX12_objectMany 7 = .ok (.iaload, 1) := by decide +kernel
theorem dX12_objectMany_8 : decode cX12_objectMany 8 = .ok (.ireturn, 1) := by decide +kernel
theorem dX12_objectOf_0 : decode cX12_objectOf 0 = .ok (.aload_n 0, 1) := by decide +kernel
theorem dX12_objectOf_1 : decode cX12_objectOf 1 = .ok (.getfield 115, 3) := by decide +kernel
theorem dX12_objectOf_4 : decode cX12_objectOf 4 = .ok (.sipush 257, 3) := by decide +kernel
theorem dX12_objectOf_7 : decode cX12_objectOf 7 = .ok (.iconst 3, 1) := by decide +kernel
theorem dX12_objectOf_8 : decode cX12_objectOf 8 = .ok (.iload_n 1, 1) := by decide +kernel
theorem dX12_objectOf_9 : decode cX12_objectOf 9 = .ok (.imul, 1) := by decide +kernel
theorem dX12_objectOf_10 : decode cX12_objectOf 10 = .ok (.iadd, 1) := by decide +kernel
theorem dX12_objectOf_11 : decode cX12_objectOf 11 = .ok (.iload_n 2, 1) := by decide +kernel
theorem dX12_objectOf_12 : decode cX12_objectOf 12 = .ok (.iadd, 1) := by decide +kernel
theorem dX12_objectOf_13 : decode cX12_objectOf 13 = .ok (.iaload, 1) := by decide +kernel
theorem dX12_objectOf_14 : decode cX12_objectOf 14 = .ok (.ireturn, 1) := by decide +kernel
theorem dX12_laysHoles_0 : decode cX12_laysHoles 0 = .ok (.bipush 16, 2) := by decide +kernel
theorem dX12_laysHoles_2 : decode cX12_laysHoles 2 = .ok (.istore_n 1, 1) := by decide +kernel
theorem dX12_laysHoles_3 : decode cX12_laysHoles 3 = .ok (.aload_n 0, 1) := by decide +kernel
theorem dX12_laysHoles_4 : decode cX12_laysHoles 4 = .ok (.iconst 0, 1) := by decide +kernel
theorem dX12_laysHoles_5 : decode cX12_laysHoles 5 = .ok (.putfield 422, 3) := by decide +kernel
theorem dX12_laysHoles_8 : decode cX12_laysHoles 8 = .ok (.iconst 0, 1) := by decide +kernel
theorem dX12_laysHoles_9 : decode cX12_laysHoles 9 = .ok (.istore_n 2, 1) := by decide +kernel
theorem dX12_laysHoles_10 : decode cX12_laysHoles 10 = .ok (.iload_n 2, 1) := by decide +kernel
theorem dX12_laysHoles_11 : decode cX12_laysHoles 11 = .ok (.aload_n 0, 1) := by decide +kernel
theorem dX12_laysHoles_12 : decode cX12_laysHoles 12 = .ok (.invokevirtual 425, 3) := by decide +kernel
theorem dX12_laysHoles_15 : decode cX12_laysHoles 15 = .ok (.if_icmp .gt 93, 3) := by decide +kernel
theorem dX12_laysHoles_18 : decode cX12_laysHoles 18 = .ok (.iload_n 2, 1) := by decide +kernel
theorem dX12_laysHoles_19 : decode cX12_laysHoles 19 = .ok (.aload_n 0, 1) := by decide +kernel
theorem dX12_laysHoles_20 : decode cX12_laysHoles 20 = .ok (.invokevirtual 425, 3) := by decide +kernel
theorem dX12_laysHoles_23 : decode cX12_laysHoles 23 = .ok (.if_icmp .ge 12, 3) := by decide +kernel
theorem dX12_laysHoles_26 : decode cX12_laysHoles 26 = .ok (.aload_n 0, 1) := by decide +kernel
theorem dX12_laysHoles_27 : decode cX12_laysHoles 27 = .ok (.iload_n 2, 1) := by decide +kernel
theorem dX12_laysHoles_28 : decode cX12_laysHoles 28 = .ok (.iconst 0, 1) := by decide +kernel
theorem dX12_laysHoles_29 : decode cX12_laysHoles 29 = .ok (.invokevirtual 428, 3) := by decide +kernel
theorem dX12_laysHoles_32 : decode cX12_laysHoles 32 = .ok (.goto 9, 3) := by decide +kernel
theorem dX12_laysHoles_35 : decode cX12_laysHoles 35 = .ok (.aload_n 0, 1) := by decide +kernel
theorem dX12_laysHoles_36 : decode cX12_laysHoles 36 = .ok (.getfield 96, 3) := by decide +kernel
theorem dX12_laysHoles_39 : decode cX12_laysHoles 39 = .ok (.iconst 3, 1) := by decide +kernel
theorem dX12_laysHoles_40 : decode cX12_laysHoles 40 = .ok (.iaload, 1) := by decide +kernel
theorem dX12_laysHoles_41 : decode cX12_laysHoles 41 = .ok (.istore_n 3, 1) := by decide +kernel
theorem dX12_laysHoles_42 : decode cX12_laysHoles 42 = .ok (.iload_n 3, 1) := by decide +kernel
theorem dX12_laysHoles_43 : decode cX12_laysHoles 43 = .ok (.iload_n 1, 1) := by decide +kernel
theorem dX12_laysHoles_44 : decode cX12_laysHoles 44 = .ok (.if_icmp .le 41, 3) := by decide +kernel
theorem dX12_laysHoles_47 : decode cX12_laysHoles 47 = .ok (.aload_n 0, 1) := by decide +kernel
theorem dX12_laysHoles_48 : decode cX12_laysHoles 48 = .ok (.getfield 118, 3) := by decide +kernel
theorem dX12_laysHoles_51 : decode cX12_laysHoles 51 = .ok (.iconst 2, 1) := by decide +kernel
theorem dX12_laysHoles_52 : decode cX12_laysHoles 52 = .ok (.aload_n 0, 1) := by decide +kernel
theorem dX12_laysHoles_53 : decode cX12_laysHoles 53 = .ok (.getfield 422, 3) := by decide +kernel
theorem dX12_laysHoles_56 : decode cX12_laysHoles 56 = .ok (.imul, 1) := by decide +kernel
theorem dX12_laysHoles_57 : decode cX12_laysHoles 57 = .ok (.iload_n 1, 1) := by decide +kernel
theorem dX12_laysHoles_58 : decode cX12_laysHoles 58 = .ok (.iastore, 1) := by decide +kernel
theorem dX12_laysHoles_59 : decode cX12_laysHoles 59 = .ok (.aload_n 0, 1) := by decide +kernel
theorem dX12_laysHoles_60 : decode cX12_laysHoles 60 = .ok (.getfield 118, 3) := by decide +kernel
theorem dX12_laysHoles_63 : decode cX12_laysHoles 63 = .ok (.iconst 2, 1) := by decide +kernel
theorem dX12_laysHoles_64 : decode cX12_laysHoles 64 = .ok (.aload_n 0, 1) := by decide +kernel
theorem dX12_laysHoles_65 : decode cX12_laysHoles 65 = .ok (.getfield 422, 3) := by decide +kernel
theorem dX12_laysHoles_68 : decode cX12_laysHoles 68 = .ok (.imul, 1) := by decide +kernel
theorem dX12_laysHoles_69 : decode cX12_laysHoles 69 = .ok (.iconst 1, 1) := by decide +kernel
theorem dX12_laysHoles_70 : decode cX12_laysHoles 70 = .ok (.iadd, 1) := by decide +kernel
theorem dX12_laysHoles_71 : decode cX12_laysHoles 71 = .ok (.iload_n 3, 1) := by decide +kernel
theorem dX12_laysHoles_72 : decode cX12_laysHoles 72 = .ok (.iload_n 1, 1) := by decide +kernel
theorem dX12_laysHoles_73 : decode cX12_laysHoles 73 = .ok (.isub, 1) := by decide +kernel
theorem dX12_laysHoles_74 : decode cX12_laysHoles 74 = .ok (.iastore, 1) := by decide +kernel
theorem dX12_laysHoles_75 : decode cX12_laysHoles 75 = .ok (.aload_n 0, 1) := by decide +kernel
theorem dX12_laysHoles_76 : decode cX12_laysHoles 76 = .ok (.dup, 1) := by decide +kernel
theorem dX12_laysHoles_77 : decode cX12_laysHoles 77 = .ok (.getfield 422, 3) := by decide +kernel
theorem dX12_laysHoles_80 : decode cX12_laysHoles 80 = .ok (.iconst 1, 1) := by decide +kernel
theorem dX12_laysHoles_81 : decode cX12_laysHoles 81 = .ok (.iadd, 1) := by decide +kernel
theorem dX12_laysHoles_82 : decode cX12_laysHoles 82 = .ok (.putfield 422, 3) := by decide +kernel
theorem dX12_laysHoles_85 : decode cX12_laysHoles 85 = .ok (.iload_n 2, 1) := by decide +kernel
theorem dX12_laysHoles_86 : decode cX12_laysHoles 86 = .ok (.aload_n 0, 1) := by decide +kernel
theorem dX12_laysHoles_87 : decode cX12_laysHoles 87 = .ok (.invokevirtual 425, 3) := by decide +kernel
theorem dX12_laysHoles_90 : decode cX12_laysHoles 90 = .ok (.if_icmp .ge 12, 3) := by decide +kernel
theorem dX12_laysHoles_93 : decode cX12_laysHoles 93 = .ok (.iload_n 3, 1) := by decide +kernel
theorem dX12_laysHoles_94 : decode cX12_laysHoles 94 = .ok (.aload_n 0, 1) := by decide +kernel
theorem dX12_laysHoles_95 : decode cX12_laysHoles 95 = .ok (.iload_n 2, 1) := by decide +kernel
theorem dX12_laysHoles_96 : decode cX12_laysHoles 96 = .ok (.iconst 1, 1) := by decide +kernel
theorem dX12_laysHoles_97 : decode cX12_laysHoles 97 = .ok (.invokevirtual 428, 3) := by decide +kernel
theorem dX12_laysHoles_100 : decode cX12_laysHoles 100 = .ok (.iadd, 1) := by decide +kernel
theorem dX12_laysHoles_101 : decode cX12_laysHoles 101 = .ok (.istore_n 1, 1) := by decide +kernel
theorem dX12_laysHoles_102 : decode cX12_laysHoles 102 = .ok (.iinc 2 1, 3) := by decide +kernel
theorem dX12_laysHoles_105 : decode cX12_laysHoles 105 = .ok (.goto (-95), 3) := by decide +kernel
theorem dX12_laysHoles_108 : decode cX12_laysHoles 108 = .ok (.return_, 1) := by decide +kernel
theorem dX12_roomFor_0 : decode cX12_roomFor 0 = .ok (.aload_n 0, 1) := by decide +kernel
theorem dX12_roomFor_1 : decode cX12_roomFor 1 = .ok (.invokevirtual 425, 3) := by decide +kernel
theorem dX12_roomFor_4 : decode cX12_roomFor 4 = .ok (.bipush 32, 2) := by decide +kernel
theorem dX12_roomFor_6 : decode cX12_roomFor 6 = .ok (.if_icmp .ne 5, 3) := by decide +kernel
theorem dX12_roomFor_9 : decode cX12_roomFor 9 = .ok (.iconst (-1), 1) := by decide +kernel
theorem dX12_roomFor_10 : decode cX12_roomFor 10 = .ok (.ireturn, 1) := by decide +kernel
theorem dX12_roomFor_11 : decode cX12_roomFor 11 = .ok (.aload_n 0, 1) := by decide +kernel
theorem dX12_roomFor_12 : decode cX12_roomFor 12 = .ok (.iload_n 1, 1) := by decide +kernel
theorem dX12_roomFor_13 : decode cX12_roomFor 13 = .ok (.putfield 431, 3) := by decide +kernel
theorem dX12_roomFor_16 : decode cX12_roomFor 16 = .ok (.iload_n 1, 1) := by decide +kernel
theorem dX12_roomFor_17 : decode cX12_roomFor 17 = .ok (.aload_n 0, 1) := by decide +kernel
theorem dX12_roomFor_18 : decode cX12_roomFor 18 = .ok (.iconst 1, 1) := by decide +kernel
theorem dX12_roomFor_19 : decode cX12_roomFor 19 = .ok (.invokevirtual 434, 3) := by decide +kernel
theorem dX12_roomFor_22 : decode cX12_roomFor 22 = .ok (.ifCond .eq 16, 3) := by decide +kernel
theorem dX12_roomFor_25 : decode cX12_roomFor 25 = .ok (.aload_n 0, 1) := by decide +kernel
theorem dX12_roomFor_26 : decode cX12_roomFor 26 = .ok (.iconst 1, 1) := by decide +kernel
theorem dX12_roomFor_27 : decode cX12_roomFor 27 = .ok (.invokevirtual 437, 3) := by decide +kernel
theorem dX12_roomFor_30 : decode cX12_roomFor 30 = .ok (.bipush 99, 2) := by decide +kernel
theorem dX12_roomFor_32 : decode cX12_roomFor 32 = .ok (.invokestatic 441, 3) := by decide +kernel
theorem dX12_roomFor_35 : decode cX12_roomFor 35 = .ok (.goto 4, 3) := by decide +kernel
theorem dX12_roomFor_38 : decode cX12_roomFor 38 = .ok (.iconst 0, 1) := by decide +kernel
theorem dX12_roomFor_39 : decode cX12_roomFor 39 = .ok (.iadd, 1) := by decide +kernel
theorem dX12_roomFor_40 : decode cX12_roomFor 40 = .ok (.istore_n 2, 1) := by decide +kernel
theorem dX12_roomFor_41 : decode cX12_roomFor 41 = .ok (.aload_n 0, 1) := by decide +kernel
theorem dX12_roomFor_42 : decode cX12_roomFor 42 = .ok (.iconst 0, 1) := by decide +kernel
theorem dX12_roomFor_43 : decode cX12_roomFor 43 = .ok (.iload_n 2, 1) := by decide +kernel
theorem dX12_roomFor_44 : decode cX12_roomFor 44 = .ok (.invokevirtual 356, 3) := by decide +kernel
theorem dX12_roomFor_47 : decode cX12_roomFor 47 = .ok (.aload_n 0, 1) := by decide +kernel
theorem dX12_roomFor_48 : decode cX12_roomFor 48 = .ok (.getfield 387, 3) := by decide +kernel
theorem dX12_roomFor_51 : decode cX12_roomFor 51 = .ok (.istore_n 3, 1) := by decide +kernel
theorem dX12_roomFor_52 : decode cX12_roomFor 52 = .ok (.aload_n 0, 1) := by decide +kernel
theorem dX12_roomFor_53 : decode cX12_roomFor 53 = .ok (.aload_n 0, 1) := by decide +kernel
theorem dX12_roomFor_54 : decode cX12_roomFor 54 = .ok (.getfield 393, 3) := by decide +kernel
theorem dX12_roomFor_57 : decode cX12_roomFor 57 = .ok (.putfield 445, 3) := by decide +kernel
theorem dX12_roomFor_60 : decode cX12_roomFor 60 = .ok (.aload_n 0, 1) := by decide +kernel
theorem dX12_roomFor_61 : decode cX12_roomFor 61 = .ok (.invokevirtual 448, 3) := by decide +kernel
theorem dX12_roomFor_64 : decode cX12_roomFor 64 = .ok (.iconst (-1), 1) := by decide +kernel
theorem dX12_roomFor_65 : decode cX12_roomFor 65 = .ok (.istore 4, 2) := by decide +kernel
theorem dX12_roomFor_67 : decode cX12_roomFor 67 = .ok (.lconst 0, 1) := by decide +kernel
theorem dX12_roomFor_68 : decode cX12_roomFor 68 = .ok (.lstore 5, 2) := by decide +kernel
theorem dX12_roomFor_70 : decode cX12_roomFor 70 = .ok (.iconst 0, 1) := by decide +kernel
theorem dX12_roomFor_71 : decode cX12_roomFor 71 = .ok (.istore 7, 2) := by decide +kernel
theorem dX12_roomFor_73 : decode cX12_roomFor 73 = .ok (.iload 7, 2) := by decide +kernel
theorem dX12_roomFor_75 : decode cX12_roomFor 75 = .ok (.aload_n 0, 1) := by decide +kernel
theorem dX12_roomFor_76 : decode cX12_roomFor 76 = .ok (.getfield 422, 3) := by decide +kernel
theorem dX12_roomFor_79 : decode cX12_roomFor 79 = .ok (.if_icmp .ge 148, 3) := by decide +kernel
theorem dX12_roomFor_82 : decode cX12_roomFor 82 = .ok (.aload_n 0, 1) := by decide +kernel
theorem dX12_roomFor_83 : decode cX12_roomFor 83 = .ok (.getfield 118, 3) := by decide +kernel
theorem dX12_roomFor_86 : decode cX12_roomFor 86 = .ok (.iconst 2, 1) := by decide +kernel
theorem dX12_roomFor_87 : decode cX12_roomFor 87 = .ok (.iload 7, 2) := by decide +kernel
theorem dX12_roomFor_89 : decode cX12_roomFor 89 = .ok (.imul, 1) := by decide +kernel
theorem dX12_roomFor_90 : decode cX12_roomFor 90 = .ok (.iaload, 1) := by decide +kernel
theorem dX12_roomFor_91 : decode cX12_roomFor 91 = .ok (.iconst 1, 1) := by decide +kernel
theorem dX12_roomFor_92 : decode cX12_roomFor 92 = .ok (.iload_n 3, 1) := by decide +kernel
theorem dX12_roomFor_93 : decode cX12_roomFor 93 = .ok (.ishl, 1) := by decide +kernel
theorem dX12_roomFor_94 : decode cX12_roomFor 94 = .ok (.iadd, 1) := by decide +kernel
theorem dX12_roomFor_95 : decode cX12_roomFor 95 = .ok (.iconst 1, 1) := by decide +kernel
theorem dX12_roomFor_96 : decode cX12_roomFor 96 = .ok (.isub, 1) := by decide +kernel
theorem dX12_roomFor_97 : decode cX12_roomFor 97 = .ok (.iload_n 3, 1) := by decide +kernel
theorem dX12_roomFor_98 : decode cX12_roomFor 98 = .ok (.ishr, 1) := by decide +kernel
theorem dX12_roomFor_99 : decode cX12_roomFor 99 = .ok (.iload_n 3, 1) := by decide +kernel
theorem dX12_roomFor_100 : decode cX12_roomFor 100 = .ok (.ishl, 1) := by decide +kernel
theorem dX12_roomFor_101 : decode cX12_roomFor 101 = .ok (.istore 8, 2) := by decide +kernel
theorem dX12_roomFor_103 : decode cX12_roomFor 103 = .ok (.iload 8, 2) := by decide +kernel
theorem dX12_roomFor_105 : decode cX12_roomFor 105 = .ok (.aload_n 0, 1) := by decide +kernel
theorem dX12_roomFor_106 : decode cX12_roomFor 106 = .ok (.getfield 445, 3) := by decide +kernel
theorem dX12_roomFor_109 : decode cX12_roomFor 109 = .ok (.iadd, 1) := by decide +kernel
theorem dX12_roomFor_110 : decode cX12_roomFor 110 = .ok (.aload_n 0, 1) := by decide +kernel
theorem dX12_roomFor_111 : decode cX12_roomFor 111 = .ok (.getfield 118, 3) := by decide +kernel
theorem dX12_roomFor_114 : decode cX12_roomFor 114 = .ok (.iconst 2, 1) := by decide +kernel
theorem dX12_roomFor_115 : decode cX12_roomFor 115 = .ok (.iload 7, 2) := by decide +kernel
theorem dX12_roomFor_117 : decode cX12_roomFor 117 = .ok (.imul, 1) := by decide +kernel
theorem dX12_roomFor_118 : decode cX12_roomFor 118 = .ok (.iaload, 1) := by decide +kernel
theorem dX12_roomFor_119 : decode cX12_roomFor 119 = .ok (.aload_n 0, 1) := by decide +kernel
theorem dX12_roomFor_120 : decode cX12_roomFor 120 = .ok (.getfield 118, 3) := by decide +kernel
theorem dX12_roomFor_123 : decode cX12_roomFor 123 = .ok (.iconst 2, 1) := by decide +kernel
theorem dX12_roomFor_124 : decode cX12_roomFor 124 = .ok (.iload 7, 2) := by decide +kernel
theorem dX12_roomFor_126 : decode cX12_roomFor 126 = .ok (.imul, 1) := by decide +kernel
theorem dX12_roomFor_127 : decode cX12_roomFor 127 = .ok (.iconst 1, 1) := by decide +kernel
theorem dX12_roomFor_128 : decode cX12_roomFor 128 = .ok (.iadd, 1) := by decide +kernel
theorem dX12_roomFor_129 : decode cX12_roomFor 129 = .ok (.iaload, 1) := by decide +kernel
theorem dX12_roomFor_130 : decode cX12_roomFor 130 = .ok (.iadd, 1) := by decide +kernel
theorem dX12_roomFor_131 : decode cX12_roomFor 131 = .ok (.if_icmp .le 6, 3) := by decide +kernel
theorem dX12_roomFor_134 : decode cX12_roomFor 134 = .ok (.goto 87, 3) := by decide +kernel
theorem dX12_roomFor_137 : decode cX12_roomFor 137 = .ok (.aload_n 0, 1) := by decide +kernel
theorem dX12_roomFor_138 : decode cX12_roomFor 138 = .ok (.aload_n 0, 1) := by decide +kernel
theorem dX12_roomFor_139 : decode cX12_roomFor 139 = .ok (.getfield 445, 3) := by decide +kernel
theorem dX12_roomFor_142 : decode cX12_roomFor 142 = .ok (.putfield 431, 3) := by decide +kernel
theorem dX12_roomFor_145 : decode cX12_roomFor 145 = .ok (.aload_n 0, 1) := by decide +kernel
theorem dX12_roomFor_146 : decode cX12_roomFor 146 = .ok (.aload_n 0, 1) := by decide +kernel
theorem dX12_roomFor_147 : decode cX12_roomFor 147 = .ok (.getfield 118, 3) := by decide +kernel
theorem dX12_roomFor_150 : decode cX12_roomFor 150 = .ok (.iconst 2, 1) := by decide +kernel
theorem dX12_roomFor_151 : decode cX12_roomFor 151 = .ok (.iload 7, 2) := by decide +kernel
theorem dX12_roomFor_153 : decode cX12_roomFor 153 = .ok (.imul, 1) := by decide +kernel
theorem dX12_roomFor_154 : decode cX12_roomFor 154 = .ok (.iaload, 1) := by decide +kernel
theorem dX12_roomFor_155 : decode cX12_roomFor 155 = .ok (.putfield 451, 3) := by decide +kernel
theorem dX12_roomFor_158 : decode cX12_roomFor 158 = .ok (.aload_n 0, 1) := by decide +kernel
theorem dX12_roomFor_159 : decode cX12_roomFor 159 = .ok (.aload_n 0, 1) := by decide +kernel
theorem dX12_roomFor_160 : decode cX12_roomFor 160 = .ok (.getfield 118, 3) := by decide +kernel
theorem dX12_roomFor_163 : decode cX12_roomFor 163 = .ok (.iconst 2, 1) := by decide +kernel
theorem dX12_roomFor_164 : decode cX12_roomFor 164 = .ok (.iload 7, 2) := by decide +kernel
theorem dX12_roomFor_166 : decode cX12_roomFor 166 = .ok (.imul, 1) := by decide +kernel
theorem dX12_roomFor_167 : decode cX12_roomFor 167 = .ok (.iconst 1, 1) := by decide +kernel
theorem dX12_roomFor_168 : decode cX12_roomFor 168 = .ok (.iadd, 1) := by decide +kernel
theorem dX12_roomFor_169 : decode cX12_roomFor 169 = .ok (.iaload, 1) := by decide +kernel
theorem dX12_roomFor_170 : decode cX12_roomFor 170 = .ok (.putfield 454, 3) := by decide +kernel
theorem dX12_roomFor_173 : decode cX12_roomFor 173 = .ok (.aload_n 0, 1) := by decide +kernel
theorem dX12_roomFor_174 : decode cX12_roomFor 174 = .ok (.iconst 0, 1) := by decide +kernel
theorem dX12_roomFor_175 : decode cX12_roomFor 175 = .ok (.invokevirtual 434, 3) := by decide +kernel
theorem dX12_roomFor_178 : decode cX12_roomFor 178 = .ok (.ifCond .eq 11, 3) := by decide +kernel
theorem dX12_roomFor_181 : decode cX12_roomFor 181 = .ok (.aload_n 0, 1) := by decide +kernel
theorem dX12_roomFor_182 : decode cX12_roomFor 182 = .ok (.iconst 0, 1) := by decide +kernel
theorem dX12_roomFor_183 : decode cX12_roomFor 183 = .ok (.invokevirtual 437, 3) := by decide +kernel
theorem dX12_roomFor_186 : decode cX12_roomFor 186 = .ok (.goto 8, 3) := by decide +kernel
theorem dX12_roomFor_189 : decode cX12_roomFor 189 = .ok (.aload_n 0, 1) := by decide +kernel
theorem dX12_roomFor_190 : decode cX12_roomFor 190 = .ok (.getfield 451, 3) := by decide +kernel
theorem dX12_roomFor_193 : decode cX12_roomFor 193 = .ok (.i2l, 1) := by decide +kernel
theorem dX12_roomFor_194 : decode cX12_roomFor 194 = .ok (.lstore 9, 2) := by decide +kernel
theorem dX12_roomFor_196 : decode cX12_roomFor 196 = .ok (.iload 4, 2) := by decide +kernel
theorem dX12_roomFor_198 : decode cX12_roomFor 198 = .ok (.iconst (-1), 1) := by decide +kernel
theorem dX12_roomFor_199 : decode cX12_roomFor 199 = .ok (.if_icmp .eq 14, 3) := by decide +kernel
theorem dX12_roomFor_202 : decode cX12_roomFor 202 = .ok (.lload 9, 2) := by decide +kernel
theorem dX12_roomFor_204 : decode cX12_roomFor 204 = .ok (.lload 5, 2) := by decide +kernel
theorem dX12_roomFor_206 : decode cX12_roomFor 206 = .ok (.lcmp, 1) := by decide +kernel
theorem dX12_roomFor_207 : decode cX12_roomFor 207 = .ok (.ifCond .lt 6, 3) := by decide +kernel
theorem dX12_roomFor_210 : decode cX12_roomFor 210 = .ok (.goto 11, 3) := by decide +kernel
theorem dX12_roomFor_213 : decode cX12_roomFor 213 = .ok (.iload 8, 2) := by decide +kernel
theorem dX12_roomFor_215 : decode cX12_roomFor 215 = .ok (.istore 4, 2) := by decide +kernel
theorem dX12_roomFor_217 : decode cX12_roomFor 217 = .ok (.lload 9, 2) := by decide +kernel
theorem dX12_roomFor_219 : decode cX12_roomFor 219 = .ok (.lstore 5, 2) := by decide +kernel
theorem dX12_roomFor_221 : decode cX12_roomFor 221 = .ok (.iinc 7 1, 3) := by decide +kernel
theorem dX12_roomFor_224 : decode cX12_roomFor 224 = .ok (.goto (-151), 3) := by decide +kernel
theorem dX12_roomFor_227 : decode cX12_roomFor 227 = .ok (.iload 4, 2) := by decide +kernel
theorem dX12_roomFor_229 : decode cX12_roomFor 229 = .ok (.ireturn, 1) := by decide +kernel
theorem dX12_isKept_0 : decode cX12_isKept 0 = .ok (.aload_n 0, 1) := by decide +kernel
theorem dX12_isKept_1 : decode cX12_isKept 1 = .ok (.getfield 115, 3) := by decide +kernel
theorem dX12_isKept_4 : decode cX12_isKept 4 = .ok (.sipush 1377, 3) := by decide +kernel
theorem dX12_isKept_7 : decode cX12_isKept 7 = .ok (.iaload, 1) := by decide +kernel
theorem dX12_isKept_8 : decode cX12_isKept 8 = .ok (.bipush 40, 2) := by decide +kernel
theorem dX12_isKept_10 : decode cX12_isKept 10 = .ok (.if_icmp .ne 41, 3) := by decide +kernel
theorem dX12_isKept_13 : decode cX12_isKept 13 = .ok (.sipush 1378, 3) := by decide +kernel
theorem dX12_isKept_16 : decode cX12_isKept 16 = .ok (.istore 4, 2) := by decide +kernel
theorem dX12_isKept_18 : decode cX12_isKept 18 = .ok (.iload 4, 2) := by decide +kernel
theorem dX12_isKept_20 : decode cX12_isKept 20 = .ok (.sipush 1495, 3) := by decide +kernel
theorem dX12_isKept_23 : decode cX12_isKept 23 = .ok (.if_icmp .ge 25, 3) := by decide +kernel
theorem dX12_isKept_26 : decode cX12_isKept 26 = .ok (.aload_n 0, 1) := by decide +kernel
theorem dX12_isKept_27 : decode cX12_isKept 27 = .ok (.getfield 115, 3) := by decide +kernel
theorem dX12_isKept_30 : decode cX12_isKept 30 = .ok (.iload 4, 2) := by decide +kernel
theorem dX12_isKept_32 : decode cX12_isKept 32 = .ok (.aload_n 0, 1) := by decide +kernel
theorem dX12_isKept_33 : decode cX12_isKept 33 = .ok (.getfield 115, 3) := by decide +kernel
theorem dX12_isKept_36 : decode cX12_isKept 36 = .ok (.iload 4, 2) := by decide +kernel
theorem dX12_isKept_38 : decode cX12_isKept 38 = .ok (.iconst 3, 1) := by decide +kernel
theorem dX12_isKept_39 : decode cX12_isKept 39 = .ok (.iadd, 1) := by decide +kernel
theorem dX12_isKept_40 : decode cX12_isKept 40 = .ok (.iaload, 1) := by decide +kernel
theorem dX12_isKept_41 : decode cX12_isKept 41 = .ok (.iastore, 1) := by decide +kernel
theorem dX12_isKept_42 : decode cX12_isKept 42 = .ok (.iinc 4 1, 3) := by decide +kernel
theorem dX12_isKept_45 : decode cX12_isKept 45 = .ok (.goto (-27), 3) := by decide +kernel
theorem dX12_isKept_48 : decode cX12_isKept 48 = .ok (.goto 15, 3) := by decide +kernel
theorem dX12_isKept_51 : decode cX12_isKept 51 = .ok (.aload_n 0, 1) := by decide +kernel
theorem dX12_isKept_52 : decode cX12_isKept 52 = .ok (.getfield 115, 3) := by decide +kernel
theorem dX12_isKept_55 : decode cX12_isKept 55 = .ok (.sipush 1377, 3) := by decide +kernel
theorem dX12_isKept_58 : decode cX12_isKept 58 = .ok (.dup2, 1) := by decide +kernel
theorem dX12_isKept_59 : decode cX12_isKept 59 = .ok (.iaload, 1) := by decide +kernel
theorem dX12_isKept_60 : decode cX12_isKept 60 = .ok (.iconst 1, 1) := by decide +kernel
theorem dX12_isKept_61 : decode cX12_isKept 61 = .ok (.iadd, 1) := by decide +kernel
theorem dX12_isKept_62 : decode cX12_isKept 62 = .ok (.iastore, 1) := by decide +kernel
theorem dX12_isKept_63 : decode cX12_isKept 63 = .ok (.sipush 1378, 3) := by decide +kernel
theorem dX12_isKept_66 : decode cX12_isKept 66 = .ok (.iconst 3, 1) := by decide +kernel
theorem dX12_isKept_67 : decode cX12_isKept 67 = .ok (.aload_n 0, 1) := by decide +kernel
theorem dX12_isKept_68 : decode cX12_isKept 68 = .ok (.getfield 115, 3) := by decide +kernel
theorem dX12_isKept_71 : decode cX12_isKept 71 = .ok (.sipush 1377, 3) := by decide +kernel
theorem dX12_isKept_74 : decode cX12_isKept 74 = .ok (.iaload, 1) := by decide +kernel
theorem dX12_isKept_75 : decode cX12_isKept 75 = .ok (.imul, 1) := by decide +kernel
theorem dX12_isKept_76 : decode cX12_isKept 76 = .ok (.iadd, 1) := by decide +kernel
theorem dX12_isKept_77 : decode cX12_isKept 77 = .ok (.iconst 3, 1) := by decide +kernel
theorem dX12_isKept_78 : decode cX12_isKept 78 = .ok (.isub, 1) := by decide +kernel
theorem dX12_isKept_79 : decode cX12_isKept 79 = .ok (.istore 4, 2) := by decide +kernel
theorem dX12_isKept_81 : decode cX12_isKept 81 = .ok (.aload_n 0, 1) := by decide +kernel
theorem dX12_isKept_82 : decode cX12_isKept 82 = .ok (.getfield 115, 3) := by decide +kernel
theorem dX12_isKept_85 : decode cX12_isKept 85 = .ok (.iload 4, 2) := by decide +kernel
theorem dX12_isKept_87 : decode cX12_isKept 87 = .ok (.iload_n 1, 1) := by decide +kernel
theorem dX12_isKept_88 : decode cX12_isKept 88 = .ok (.iastore, 1) := by decide +kernel
theorem dX12_isKept_89 : decode cX12_isKept 89 = .ok (.aload_n 0, 1) := by decide +kernel
theorem dX12_isKept_90 : decode cX12_isKept 90 = .ok (.getfield 115, 3) := by decide +kernel
theorem dX12_isKept_93 : decode cX12_isKept 93 = .ok (.iload 4, 2) := by decide +kernel
theorem dX12_isKept_95 : decode cX12_isKept 95 = .ok (.iconst 1, 1) := by decide +kernel
theorem dX12_isKept_96 : decode cX12_isKept 96 = .ok (.iadd, 1) := by decide +kernel
theorem dX12_isKept_97 : decode cX12_isKept 97 = .ok (.iload_n 2, 1) := by decide +kernel
theorem dX12_isKept_98 : decode cX12_isKept 98 = .ok (.iastore, 1) := by decide +kernel
theorem dX12_isKept_99 : decode cX12_isKept 99 = .ok (.aload_n 0, 1) := by decide +kernel
theorem dX12_isKept_100 : decode cX12_isKept 100 = .ok (.getfield 115, 3) := by decide +kernel
theorem dX12_isKept_103 : decode cX12_isKept 103 = .ok (.iload 4, 2) := by decide +kernel
theorem dX12_isKept_105 : decode cX12_isKept 105 = .ok (.iconst 2, 1) := by decide +kernel
theorem dX12_isKept_106 : decode cX12_isKept 106 = .ok (.iadd, 1) := by decide +kernel
theorem dX12_isKept_107 : decode cX12_isKept 107 = .ok (.iload_n 3, 1) := by decide +kernel
theorem dX12_isKept_108 : decode cX12_isKept 108 = .ok (.iastore, 1) := by decide +kernel
theorem dX12_isKept_109 : decode cX12_isKept 109 = .ok (.return_, 1) := by decide +kernel
theorem dX12_allocates_0 : decode cX12_allocates 0 = .ok (.aload_n 0, 1) := by decide +kernel
theorem dX12_allocates_1 : decode cX12_allocates 1 = .ok (.invokevirtual 425, 3) := by decide +kernel
theorem dX12_allocates_4 : decode cX12_allocates 4 = .ok (.istore 4, 2) := by decide +kernel
theorem dX12_allocates_6 : decode cX12_allocates 6 = .ok (.iload 4, 2) := by decide +kernel
theorem dX12_allocates_8 : decode cX12_allocates 8 = .ok (.ifCond .le 63, 3) := by decide +kernel
theorem dX12_allocates_11 : decode cX12_allocates 11 = .ok (.aload_n 0, 1) := by decide +kernel
theorem dX12_allocates_12 : decode cX12_allocates 12 = .ok (.iload 4, 2) := by decide +kernel
theorem dX12_allocates_14 : decode cX12_allocates 14 = .ok (.iconst 1, 1) := by decide +kernel
theorem dX12_allocates_15 : decode cX12_allocates 15 = .ok (.isub, 1) := by decide +kernel
theorem dX12_allocates_16 : decode cX12_allocates 16 = .ok (.iconst 0, 1) := by decide +kernel
theorem dX12_allocates_17 : decode cX12_allocates 17 = .ok (.invokevirtual 428, 3) := by decide +kernel
theorem dX12_allocates_20 : decode cX12_allocates 20 = .ok (.iload_n 2, 1) := by decide +kernel
theorem dX12_allocates_21 : decode cX12_allocates 21 = .ok (.if_icmp .le 50, 3) := by decide +kernel
theorem dX12_allocates_24 : decode cX12_allocates 24 = .ok (.iconst 0, 1) := by decide +kernel
theorem dX12_allocates_25 : decode cX12_allocates 25 = .ok (.istore 5, 2) := by decide +kernel
theorem dX12_allocates_27 : decode cX12_allocates 27 = .ok (.iload 5, 2) := by decide +kernel
theorem dX12_allocates_29 : decode cX12_allocates 29 = .ok (.iconst 3, 1) := by decide +kernel
theorem dX12_allocates_30 : decode cX12_allocates 30 = .ok (.if_icmp .ge 35, 3) := by decide +kernel
theorem dX12_allocates_33 : decode cX12_allocates 33 = .ok (.aload_n 0, 1) := by decide +kernel
theorem dX12_allocates_34 : decode cX12_allocates 34 = .ok (.getfield 115, 3) := by decide +kernel
theorem dX12_allocates_37 : decode cX12_allocates 37 = .ok (.sipush 257, 3) := by decide +kernel
theorem dX12_allocates_40 : decode cX12_allocates 40 = .ok (.iconst 3, 1) := by decide +kernel
theorem dX12_allocates_41 : decode cX12_allocates 41 = .ok (.iload 4, 2) := by decide +kernel
theorem dX12_allocates_43 : decode cX12_allocates 43 = .ok (.imul, 1) := by decide +kernel
theorem dX12_allocates_44 : decode cX12_allocates 44 = .ok (.iadd, 1) := by decide +kernel
theorem dX12_allocates_45 : decode cX12_allocates 45 = .ok (.iload 5, 2) := by decide +kernel
theorem dX12_allocates_47 : decode cX12_allocates 47 = .ok (.iadd, 1) := by decide +kernel
theorem dX12_allocates_48 : decode cX12_allocates 48 = .ok (.aload_n 0, 1) := by decide +kernel
theorem dX12_allocates_49 : decode cX12_allocates 49 = .ok (.iload 4, 2) := by decide +kernel
theorem dX12_allocates_51 : decode cX12_allocates 51 = .ok (.iconst 1, 1) := by decide +kernel
theorem dX12_allocates_52 : decode cX12_allocates 52 = .ok (.isub, 1) := by decide +kernel
theorem dX12_allocates_53 : decode cX12_allocates 53 = .ok (.iload 5, 2) := by decide +kernel
theorem dX12_allocates_55 : decode cX12_allocates 55 = .ok (.invokevirtual 428, 3) := by decide +kernel
theorem dX12_allocates_58 : decode cX12_allocates 58 = .ok (.iastore, 1) := by decide +kernel
theorem dX12_allocates_59 : decode cX12_allocates 59 = .ok (.iinc 5 1, 3) := by decide +kernel
theorem dX12_allocates_62 : decode cX12_allocates 62 = .ok (.goto (-35), 3) := by decide +kernel
theorem dX12_allocates_65 : decode cX12_allocates 65 = .ok (.iinc 4 (-1), 3) := by decide +kernel
theorem dX12_allocates_68 : decode cX12_allocates 68 = .ok (.goto (-62), 3) := by decide +kernel
theorem dX12_allocates_71 : decode cX12_allocates 71 = .ok (.aload_n 0, 1) := by decide +kernel
theorem dX12_allocates_72 : decode cX12_allocates 72 = .ok (.getfield 115, 3) := by decide +kernel
theorem dX12_allocates_75 : decode cX12_allocates 75 = .ok (.sipush 257, 3) := by decide +kernel
theorem dX12_allocates_78 : decode cX12_allocates 78 = .ok (.iconst 3, 1) := by decide +kernel
theorem dX12_allocates_79 : decode cX12_allocates 79 = .ok (.iload 4, 2) := by decide +kernel
theorem dX12_allocates_81 : decode cX12_allocates 81 = .ok (.imul, 1) := by decide +kernel
theorem dX12_allocates_82 : decode cX12_allocates 82 = .ok (.iadd, 1) := by decide +kernel
theorem dX12_allocates_83 : decode cX12_allocates 83 = .ok (.iload_n 2, 1) := by decide +kernel
theorem dX12_allocates_84 : decode cX12_allocates 84 = .ok (.iastore, 1) := by decide +kernel
theorem dX12_allocates_85 : decode cX12_allocates 85 = .ok (.aload_n 0, 1) := by decide +kernel
theorem dX12_allocates_86 : decode cX12_allocates 86 = .ok (.getfield 115, 3) := by decide +kernel
theorem dX12_allocates_89 : decode cX12_allocates 89 = .ok (.sipush 257, 3) := by decide +kernel
theorem dX12_allocates_92 : decode cX12_allocates 92 = .ok (.iconst 3, 1) := by decide +kernel
theorem dX12_allocates_93 : decode cX12_allocates 93 = .ok (.iload 4, 2) := by decide +kernel
theorem dX12_allocates_95 : decode cX12_allocates 95 = .ok (.imul, 1) := by decide +kernel
theorem dX12_allocates_96 : decode cX12_allocates 96 = .ok (.iadd, 1) := by decide +kernel
theorem dX12_allocates_97 : decode cX12_allocates 97 = .ok (.iconst 1, 1) := by decide +kernel
theorem dX12_allocates_98 : decode cX12_allocates 98 = .ok (.iadd, 1) := by decide +kernel
theorem dX12_allocates_99 : decode cX12_allocates 99 = .ok (.aload_n 0, 1) := by decide +kernel
theorem dX12_allocates_100 : decode cX12_allocates 100 = .ok (.getfield 445, 3) := by decide +kernel
theorem dX12_allocates_103 : decode cX12_allocates 103 = .ok (.iastore, 1) := by decide +kernel
theorem dX12_allocates_104 : decode cX12_allocates 104 = .ok (.aload_n 0, 1) := by decide +kernel
theorem dX12_allocates_105 : decode cX12_allocates 105 = .ok (.getfield 115, 3) := by decide +kernel
theorem dX12_allocates_108 : decode cX12_allocates 108 = .ok (.sipush 257, 3) := by decide +kernel
theorem dX12_allocates_111 : decode cX12_allocates 111 = .ok (.iconst 3, 1) := by decide +kernel
theorem dX12_allocates_112 : decode cX12_allocates 112 = .ok (.iload 4, 2) := by decide +kernel
theorem dX12_allocates_114 : decode cX12_allocates 114 = .ok (.imul, 1) := by decide +kernel
theorem dX12_allocates_115 : decode cX12_allocates 115 = .ok (.iadd, 1) := by decide +kernel
theorem dX12_allocates_116 : decode cX12_allocates 116 = .ok (.iconst 2, 1) := by decide +kernel
theorem dX12_allocates_117 : decode cX12_allocates 117 = .ok (.iadd, 1) := by decide +kernel
theorem dX12_allocates_118 : decode cX12_allocates 118 = .ok (.iload_n 3, 1) := by decide +kernel
theorem dX12_allocates_119 : decode cX12_allocates 119 = .ok (.iastore, 1) := by decide +kernel
theorem dX12_allocates_120 : decode cX12_allocates 120 = .ok (.aload_n 0, 1) := by decide +kernel
theorem dX12_allocates_121 : decode cX12_allocates 121 = .ok (.getfield 115, 3) := by decide +kernel
theorem dX12_allocates_124 : decode cX12_allocates 124 = .ok (.sipush 256, 3) := by decide +kernel
theorem dX12_allocates_127 : decode cX12_allocates 127 = .ok (.dup2, 1) := by decide +kernel
theorem dX12_allocates_128 : decode cX12_allocates 128 = .ok (.iaload, 1) := by decide +kernel
theorem dX12_allocates_129 : decode cX12_allocates 129 = .ok (.iconst 1, 1) := by decide +kernel
theorem dX12_allocates_130 : decode cX12_allocates 130 = .ok (.iadd, 1) := by decide +kernel
theorem dX12_allocates_131 : decode cX12_allocates 131 = .ok (.iastore, 1) := by decide +kernel
theorem dX12_allocates_132 : decode cX12_allocates 132 = .ok (.bipush 8, 2) := by decide +kernel
theorem dX12_allocates_134 : decode cX12_allocates 134 = .ok (.iload_n 1, 1) := by decide +kernel
theorem dX12_allocates_135 : decode cX12_allocates 135 = .ok (.imul, 1) := by decide +kernel
theorem dX12_allocates_136 : decode cX12_allocates 136 = .ok (.istore 5, 2) := by decide +kernel
theorem dX12_allocates_138 : decode cX12_allocates 138 = .ok (.aload_n 0, 1) := by decide +kernel
theorem dX12_allocates_139 : decode cX12_allocates 139 = .ok (.iload_n 2, 1) := by decide +kernel
theorem dX12_allocates_140 : decode cX12_allocates 140 = .ok (.aload_n 0, 1) := by decide +kernel
theorem dX12_allocates_141 : decode cX12_allocates 141 = .ok (.getfield 445, 3) := by decide +kernel
theorem dX12_allocates_144 : decode cX12_allocates 144 = .ok (.invokevirtual 356, 3) := by decide +kernel
theorem dX12_allocates_147 : decode cX12_allocates 147 = .ok (.aload_n 0, 1) := by decide +kernel
theorem dX12_allocates_148 : decode cX12_allocates 148 = .ok (.iload 5, 2) := by decide +kernel
theorem dX12_allocates_150 : decode cX12_allocates 150 = .ok (.invokevirtual 359, 3) := by decide +kernel
theorem dX12_allocates_153 : decode cX12_allocates 153 = .ok (.aload_n 0, 1) := by decide +kernel
theorem dX12_allocates_154 : decode cX12_allocates 154 = .ok (.getfield 115, 3) := by decide +kernel
theorem dX12_allocates_157 : decode cX12_allocates 157 = .ok (.iload 5, 2) := by decide +kernel
theorem dX12_allocates_159 : decode cX12_allocates 159 = .ok (.iconst 1, 1) := by decide +kernel
theorem dX12_allocates_160 : decode cX12_allocates 160 = .ok (.iastore, 1) := by decide +kernel
theorem dX12_allocates_161 : decode cX12_allocates 161 = .ok (.aload_n 0, 1) := by decide +kernel
theorem dX12_allocates_162 : decode cX12_allocates 162 = .ok (.getfield 115, 3) := by decide +kernel
theorem dX12_allocates_165 : decode cX12_allocates 165 = .ok (.iload 5, 2) := by decide +kernel
theorem dX12_allocates_167 : decode cX12_allocates 167 = .ok (.iconst 1, 1) := by decide +kernel
theorem dX12_allocates_168 : decode cX12_allocates 168 = .ok (.iadd, 1) := by decide +kernel
theorem dX12_allocates_169 : decode cX12_allocates 169 = .ok (.iload_n 2, 1) := by decide +kernel
theorem dX12_allocates_170 : decode cX12_allocates 170 = .ok (.iastore, 1) := by decide +kernel
theorem dX12_allocates_171 : decode cX12_allocates 171 = .ok (.aload_n 0, 1) := by decide +kernel
theorem dX12_allocates_172 : decode cX12_allocates 172 = .ok (.getfield 115, 3) := by decide +kernel
theorem dX12_allocates_175 : decode cX12_allocates 175 = .ok (.iload 5, 2) := by decide +kernel
theorem dX12_allocates_177 : decode cX12_allocates 177 = .ok (.iconst 5, 1) := by decide +kernel
theorem dX12_allocates_178 : decode cX12_allocates 178 = .ok (.iadd, 1) := by decide +kernel
theorem dX12_allocates_179 : decode cX12_allocates 179 = .ok (.iconst 3, 1) := by decide +kernel
theorem dX12_allocates_180 : decode cX12_allocates 180 = .ok (.iastore, 1) := by decide +kernel
theorem dX12_allocates_181 : decode cX12_allocates 181 = .ok (.aload_n 0, 1) := by decide +kernel
theorem dX12_allocates_182 : decode cX12_allocates 182 = .ok (.getfield 115, 3) := by decide +kernel
theorem dX12_allocates_185 : decode cX12_allocates 185 = .ok (.iload 5, 2) := by decide +kernel
theorem dX12_allocates_187 : decode cX12_allocates 187 = .ok (.bipush 6, 2) := by decide +kernel
theorem dX12_allocates_189 : decode cX12_allocates 189 = .ok (.iadd, 1) := by decide +kernel
theorem dX12_allocates_190 : decode cX12_allocates 190 = .ok (.iconst 0, 1) := by decide +kernel
theorem dX12_allocates_191 : decode cX12_allocates 191 = .ok (.iastore, 1) := by decide +kernel
theorem dX12_allocates_192 : decode cX12_allocates 192 = .ok (.aload_n 0, 1) := by decide +kernel
theorem dX12_allocates_193 : decode cX12_allocates 193 = .ok (.iconst 0, 1) := by decide +kernel
theorem dX12_allocates_194 : decode cX12_allocates 194 = .ok (.iload_n 2, 1) := by decide +kernel
theorem dX12_allocates_195 : decode cX12_allocates 195 = .ok (.aload_n 0, 1) := by decide +kernel
theorem dX12_allocates_196 : decode cX12_allocates 196 = .ok (.getfield 445, 3) := by decide +kernel
theorem dX12_allocates_199 : decode cX12_allocates 199 = .ok (.invokevirtual 457, 3) := by decide +kernel
theorem dX12_allocates_202 : decode cX12_allocates 202 = .ok (.return_, 1) := by decide +kernel
theorem dX12_objectBy_0 : decode cX12_objectBy 0 = .ok (.iconst 0, 1) := by decide +kernel
theorem dX12_objectBy_1 : decode cX12_objectBy 1 = .ok (.istore_n 2, 1) := by decide +kernel
theorem dX12_objectBy_2 : decode cX12_objectBy 2 = .ok (.iload_n 2, 1) := by decide +kernel
theorem dX12_objectBy_3 : decode cX12_objectBy 3 = .ok (.aload_n 0, 1) := by decide +kernel
theorem dX12_objectBy_4 : decode cX12_objectBy 4 = .ok (.invokevirtual 425, 3) := by decide +kernel
theorem dX12_objectBy_7 : decode cX12_objectBy 7 = .ok (.if_icmp .ge 53, 3) := by decide +kernel
theorem dX12_objectBy_10 : decode cX12_objectBy 10 = .ok (.aload_n 0, 1) := by decide +kernel
theorem dX12_objectBy_11 : decode cX12_objectBy 11 = .ok (.iload_n 1, 1) := by decide +kernel
theorem dX12_objectBy_12 : decode cX12_objectBy 12 = .ok (.invokevirtual 460, 3) := by decide +kernel
theorem dX12_objectBy_15 : decode cX12_objectBy 15 = .ok (.ifCond .eq 45, 3) := by decide +kernel
theorem dX12_objectBy_18 : decode cX12_objectBy 18 = .ok (.aload_n 0, 1) := by decide +kernel
theorem dX12_objectBy_19 : decode cX12_objectBy 19 = .ok (.iload_n 2, 1) := by decide +kernel
theorem dX12_objectBy_20 : decode cX12_objectBy 20 = .ok (.iconst 0, 1) := by decide +kernel
theorem dX12_objectBy_21 : decode cX12_objectBy 21 = .ok (.invokevirtual 428, 3) := by decide +kernel
theorem dX12_objectBy_24 : decode cX12_objectBy 24 = .ok (.aload_n 0, 1) := by decide +kernel
theorem dX12_objectBy_25 : decode cX12_objectBy 25 = .ok (.bipush 8, 2) := by decide +kernel
theorem dX12_objectBy_27 : decode cX12_objectBy 27 = .ok (.iload_n 1, 1) := by decide +kernel
theorem dX12_objectBy_28 : decode cX12_objectBy 28 = .ok (.imul, 1) := by decide +kernel
theorem dX12_objectBy_29 : decode cX12_objectBy 29 = .ok (.invokevirtual 412, 3) := by decide +kernel
theorem dX12_objectBy_32 : decode cX12_objectBy 32 = .ok (.if_icmp .ne 22, 3) := by decide +kernel
theorem dX12_objectBy_35 : decode cX12_objectBy 35 = .ok (.aload_n 0, 1) := by decide +kernel
theorem dX12_objectBy_36 : decode cX12_objectBy 36 = .ok (.iload_n 2, 1) := by decide +kernel
theorem dX12_objectBy_37 : decode cX12_objectBy 37 = .ok (.iconst 1, 1) := by decide +kernel
theorem dX12_objectBy_38 : decode cX12_objectBy 38 = .ok (.invokevirtual 428, 3) := by decide +kernel
theorem dX12_objectBy_41 : decode cX12_objectBy 41 = .ok (.aload_n 0, 1) := by decide +kernel
theorem dX12_objectBy_42 : decode cX12_objectBy 42 = .ok (.bipush 8, 2) := by decide +kernel
theorem dX12_objectBy_44 : decode cX12_objectBy 44 = .ok (.iload_n 1, 1) := by decide +kernel
theorem dX12_objectBy_45 : decode cX12_objectBy 45 = .ok (.imul, 1) := by decide +kernel
theorem dX12_objectBy_46 : decode cX12_objectBy 46 = .ok (.invokevirtual 415, 3) := by decide +kernel
theorem dX12_objectBy_49 : decode cX12_objectBy 49 = .ok (.if_icmp .ne 5, 3) := by decide +kernel
theorem dX12_objectBy_52 : decode cX12_objectBy 52 = .ok (.iload_n 2, 1) := by decide +kernel
theorem dX12_objectBy_53 : decode cX12_objectBy 53 = .ok (.ireturn, 1) := by decide +kernel
theorem dX12_objectBy_54 : decode cX12_objectBy 54 = .ok (.iinc 2 1, 3) := by decide +kernel
theorem dX12_objectBy_57 : decode cX12_objectBy 57 = .ok (.goto (-55), 3) := by decide +kernel
theorem dX12_objectBy_60 : decode cX12_objectBy 60 = .ok (.iconst (-1), 1) := by decide +kernel
theorem dX12_objectBy_61 : decode cX12_objectBy 61 = .ok (.ireturn, 1) := by decide +kernel
theorem dX12_frees_0 : decode cX12_frees 0 = .ok (.aload_n 0, 1) := by decide +kernel
theorem dX12_frees_1 : decode cX12_frees 1 = .ok (.iload_n 1, 1) := by decide +kernel
theorem dX12_frees_2 : decode cX12_frees 2 = .ok (.iconst 0, 1) := by decide +kernel
theorem dX12_frees_3 : decode cX12_frees 3 = .ok (.invokevirtual 428, 3) := by decide +kernel
theorem dX12_frees_6 : decode cX12_frees 6 = .ok (.istore_n 2, 1) := by decide +kernel
theorem dX12_frees_7 : decode cX12_frees 7 = .ok (.aload_n 0, 1) := by decide +kernel
theorem dX12_frees_8 : decode cX12_frees 8 = .ok (.iload_n 1, 1) := by decide +kernel
theorem dX12_frees_9 : decode cX12_frees 9 = .ok (.iconst 1, 1) := by decide +kernel
theorem dX12_frees_10 : decode cX12_frees 10 = .ok (.invokevirtual 428, 3) := by decide +kernel
theorem dX12_frees_13 : decode cX12_frees 13 = .ok (.istore_n 3, 1) := by decide +kernel
theorem dX12_frees_14 : decode cX12_frees 14 = .ok (.iconst 0, 1) := by decide +kernel
theorem dX12_frees_15 : decode cX12_frees 15 = .ok (.istore 4, 2) := by decide +kernel
theorem dX12_frees_17 : decode cX12_frees 17 = .ok (.iload 4, 2) := by decide +kernel
theorem dX12_frees_19 : decode cX12_frees 19 = .ok (.iload_n 3, 1) := by decide +kernel
theorem dX12_frees_20 : decode cX12_frees 20 = .ok (.if_icmp .ge 23, 3) := by decide +kernel
theorem dX12_frees_23 : decode cX12_frees 23 = .ok (.aload_n 0, 1) := by decide +kernel
theorem dX12_frees_24 : decode cX12_frees 24 = .ok (.getfield 115, 3) := by decide +kernel
theorem dX12_frees_27 : decode cX12_frees 27 = .ok (.sipush 353, 3) := by decide +kernel
theorem dX12_frees_30 : decode cX12_frees 30 = .ok (.iload_n 2, 1) := by decide +kernel
theorem dX12_frees_31 : decode cX12_frees 31 = .ok (.iadd, 1) := by decide +kernel
theorem dX12_frees_32 : decode cX12_frees 32 = .ok (.iload 4, 2) := by decide +kernel
theorem dX12_frees_34 : decode cX12_frees 34 = .ok (.iadd, 1) := by decide +kernel
theorem dX12_frees_35 : decode cX12_frees 35 = .ok (.iconst 0, 1) := by decide +kernel
theorem dX12_frees_36 : decode cX12_frees 36 = .ok (.iastore, 1) := by decide +kernel
theorem dX12_frees_37 : decode cX12_frees 37 = .ok (.iinc 4 1, 3) := by decide +kernel
theorem dX12_frees_40 : decode cX12_frees 40 = .ok (.goto (-23), 3) := by decide +kernel
theorem dX12_frees_43 : decode cX12_frees 43 = .ok (.iconst 0, 1) := by decide +kernel
theorem dX12_frees_44 : decode cX12_frees 44 = .ok (.istore 4, 2) := by decide +kernel
theorem dX12_frees_46 : decode cX12_frees 46 = .ok (.iload 4, 2) := by decide +kernel
theorem dX12_frees_48 : decode cX12_frees 48 = .ok (.sipush 256, 3) := by decide +kernel
theorem dX12_frees_51 : decode cX12_frees 51 = .ok (.if_icmp .ge 49, 3) := by decide +kernel
theorem dX12_frees_54 : decode cX12_frees 54 = .ok (.aload_n 0, 1) := by decide +kernel
theorem dX12_frees_55 : decode cX12_frees 55 = .ok (.getfield 115, 3) := by decide +kernel
theorem dX12_frees_58 : decode cX12_frees 58 = .ok (.iload 4, 2) := by decide +kernel
theorem dX12_frees_60 : decode cX12_frees 60 = .ok (.iaload, 1) := by decide +kernel
theorem dX12_frees_61 : decode cX12_frees 61 = .ok (.iconst 1, 1) := by decide +kernel
theorem dX12_frees_62 : decode cX12_frees 62 = .ok (.if_icmp .ne 32, 3) := by decide +kernel
theorem dX12_frees_65 : decode cX12_frees 65 = .ok (.aload_n 0, 1) := by decide +kernel
theorem dX12_frees_66 : decode cX12_frees 66 = .ok (.iload 4, 2) := by decide +kernel
theorem dX12_frees_68 : decode cX12_frees 68 = .ok (.invokevirtual 412, 3) := by decide +kernel
theorem dX12_frees_71 : decode cX12_frees 71 = .ok (.i2l, 1) := by decide +kernel
theorem dX12_frees_72 : decode cX12_frees 72 = .ok (.iload_n 2, 1) := by decide +kernel
theorem dX12_frees_73 : decode cX12_frees 73 = .ok (.i2l, 1) := by decide +kernel
theorem dX12_frees_74 : decode cX12_frees 74 = .ok (.iload_n 2, 1) := by decide +kernel
theorem dX12_frees_75 : decode cX12_frees 75 = .ok (.iload_n 3, 1) := by decide +kernel
theorem dX12_frees_76 : decode cX12_frees 76 = .ok (.iadd, 1) := by decide +kernel
theorem dX12_frees_77 : decode cX12_frees 77 = .ok (.iconst 1, 1) := by decide +kernel
theorem dX12_frees_78 : decode cX12_frees 78 = .ok (.isub, 1) := by decide +kernel
theorem dX12_frees_79 : decode cX12_frees 79 = .ok (.i2l, 1) := by decide +kernel
theorem dX12_frees_80 : decode cX12_frees 80 = .ok (.invokestatic 268, 3) := by decide +kernel
theorem dX12_frees_83 : decode cX12_frees 83 = .ok (.ifCond .eq 11, 3) := by decide +kernel
theorem dX12_frees_86 : decode cX12_frees 86 = .ok (.aload_n 0, 1) := by decide +kernel
theorem dX12_frees_87 : decode cX12_frees 87 = .ok (.getfield 115, 3) := by decide +kernel
theorem dX12_frees_90 : decode cX12_frees 90 = .ok (.iload 4, 2) := by decide +kernel
theorem dX12_frees_92 : decode cX12_frees 92 = .ok (.iconst 0, 1) := by decide +kernel
theorem dX12_frees_93 : decode cX12_frees 93 = .ok (.iastore, 1) := by decide +kernel
theorem dX12_frees_94 : decode cX12_frees 94 = .ok (.iinc 4 8, 3) := by decide +kernel
theorem dX12_frees_97 : decode cX12_frees 97 = .ok (.goto (-51), 3) := by decide +kernel
theorem dX12_frees_100 : decode cX12_frees 100 = .ok (.aload_n 0, 1) := by decide +kernel
theorem dX12_frees_101 : decode cX12_frees 101 = .ok (.getfield 115, 3) := by decide +kernel
theorem dX12_frees_104 : decode cX12_frees 104 = .ok (.sipush 256, 3) := by decide +kernel
theorem dX12_frees_107 : decode cX12_frees 107 = .ok (.dup2, 1) := by decide +kernel
theorem dX12_frees_108 : decode cX12_frees 108 = .ok (.iaload, 1) := by decide +kernel
theorem dX12_frees_109 : decode cX12_frees 109 = .ok (.iconst 1, 1) := by decide +kernel
theorem dX12_frees_110 : decode cX12_frees 110 = .ok (.isub, 1) := by decide +kernel
theorem dX12_frees_111 : decode cX12_frees 111 = .ok (.iastore, 1) := by decide +kernel
theorem dX12_frees_112 : decode cX12_frees 112 = .ok (.sipush 257, 3) := by decide +kernel
theorem dX12_frees_115 : decode cX12_frees 115 = .ok (.iconst 3, 1) := by decide +kernel
theorem dX12_frees_116 : decode cX12_frees 116 = .ok (.iload_n 1, 1) := by decide +kernel
theorem dX12_frees_117 : decode cX12_frees 117 = .ok (.imul, 1) := by decide +kernel
theorem dX12_frees_118 : decode cX12_frees 118 = .ok (.iadd, 1) := by decide +kernel
theorem dX12_frees_119 : decode cX12_frees 119 = .ok (.istore 4, 2) := by decide +kernel
theorem dX12_frees_121 : decode cX12_frees 121 = .ok (.iload 4, 2) := by decide +kernel
theorem dX12_frees_123 : decode cX12_frees 123 = .ok (.sipush 257, 3) := by decide +kernel
theorem dX12_frees_126 : decode cX12_frees 126 = .ok (.iconst 3, 1) := by decide +kernel
theorem dX12_frees_127 : decode cX12_frees 127 = .ok (.aload_n 0, 1) := by decide +kernel
theorem dX12_frees_128 : decode cX12_frees 128 = .ok (.invokevirtual 425, 3) := by decide +kernel
theorem dX12_frees_131 : decode cX12_frees 131 = .ok (.imul, 1) := by decide +kernel
theorem dX12_frees_132 : decode cX12_frees 132 = .ok (.iadd, 1) := by decide +kernel
theorem dX12_frees_133 : decode cX12_frees 133 = .ok (.if_icmp .ge 25, 3) := by decide +kernel
theorem dX12_frees_136 : decode cX12_frees 136 = .ok (.aload_n 0, 1) := by decide +kernel
theorem dX12_frees_137 : decode cX12_frees 137 = .ok (.getfield 115, 3) := by decide +kernel
theorem dX12_frees_140 : decode cX12_frees 140 = .ok (.iload 4, 2) := by decide +kernel
theorem dX12_frees_142 : decode cX12_frees 142 = .ok (.aload_n 0, 1) := by decide +kernel
theorem dX12_frees_143 : decode cX12_frees 143 = .ok (.getfield 115, 3) := by decide +kernel
theorem dX12_frees_146 : decode cX12_frees 146 = .ok (.iload 4, 2) := by decide +kernel
theorem dX12_frees_148 : decode cX12_frees 148 = .ok (.iconst 3, 1) := by decide +kernel
theorem dX12_frees_149 : decode cX12_frees 149 = .ok (.iadd, 1) := by decide +kernel
theorem dX12_frees_150 : decode cX12_frees 150 = .ok (.iaload, 1) := by decide +kernel
theorem dX12_frees_151 : decode cX12_frees 151 = .ok (.iastore, 1) := by decide +kernel
theorem dX12_frees_152 : decode cX12_frees 152 = .ok (.iinc 4 1, 3) := by decide +kernel
theorem dX12_frees_155 : decode cX12_frees 155 = .ok (.goto (-34), 3) := by decide +kernel
theorem dX12_frees_158 : decode cX12_frees 158 = .ok (.aload_n 0, 1) := by decide +kernel
theorem dX12_frees_159 : decode cX12_frees 159 = .ok (.iconst 1, 1) := by decide +kernel
theorem dX12_frees_160 : decode cX12_frees 160 = .ok (.iload_n 2, 1) := by decide +kernel
theorem dX12_frees_161 : decode cX12_frees 161 = .ok (.iload_n 3, 1) := by decide +kernel
theorem dX12_frees_162 : decode cX12_frees 162 = .ok (.invokevirtual 457, 3) := by decide +kernel
theorem dX12_frees_165 : decode cX12_frees 165 = .ok (.return_, 1) := by decide +kernel
theorem dX12_validMany_0 : decode cX12_validMany 0 = .ok (.iconst 0, 1) := by decide +kernel
theorem dX12_validMany_1 : decode cX12_validMany 1 = .ok (.istore_n 1, 1) := by decide +kernel
theorem dX12_validMany_2 : decode cX12_validMany 2 = .ok (.iconst 0, 1) := by decide +kernel
theorem dX12_validMany_3 : decode cX12_validMany 3 = .ok (.istore_n 2, 1) := by decide +kernel
theorem dX12_validMany_4 : decode cX12_validMany 4 = .ok (.iload_n 2, 1) := by decide +kernel
theorem dX12_validMany_5 : decode cX12_validMany 5 = .ok (.bipush 16, 2) := by decide +kernel
theorem dX12_validMany_7 : decode cX12_validMany 7 = .ok (.if_icmp .ge 25, 3) := by decide +kernel
theorem dX12_validMany_10 : decode cX12_validMany 10 = .ok (.aload_n 0, 1) := by decide +kernel
theorem dX12_validMany_11 : decode cX12_validMany 11 = .ok (.getfield 115, 3) := by decide +kernel
theorem dX12_validMany_14 : decode cX12_validMany 14 = .ok (.bipush 8, 2) := by decide +kernel
theorem dX12_validMany_16 : decode cX12_validMany 16 = .ok (.iload_n 2, 1) := by decide +kernel
theorem dX12_validMany_17 : decode cX12_validMany 17 = .ok (.imul, 1) := by decide +kernel
theorem dX12_validMany_18 : decode cX12_validMany 18 = .ok (.iaload, 1) := by decide +kernel
theorem dX12_validMany_19 : decode cX12_validMany 19 = .ok (.iconst 1, 1) := by decide +kernel
theorem dX12_validMany_20 : decode cX12_validMany 20 = .ok (.if_icmp .ne 6, 3) := by decide +kernel
theorem dX12_validMany_23 : decode cX12_validMany 23 = .ok (.iinc 1 1, 3) := by decide +kernel
theorem dX12_validMany_26 : decode cX12_validMany 26 = .ok (.iinc 2 1, 3) := by decide +kernel
theorem dX12_validMany_29 : decode cX12_validMany 29 = .ok (.goto (-25), 3) := by decide +kernel
theorem dX12_validMany_32 : decode cX12_validMany 32 = .ok (.iload_n 1, 1) := by decide +kernel
theorem dX12_validMany_33 : decode cX12_validMany 33 = .ok (.ireturn, 1) := by decide +kernel
theorem dX12_objectBytes_0 : decode cX12_objectBytes 0 = .ok (.iconst 0, 1) := by decide +kernel
theorem dX12_objectBytes_1 : decode cX12_objectBytes 1 = .ok (.istore_n 2, 1) := by decide +kernel
theorem dX12_objectBytes_2 : decode cX12_objectBytes 2 = .ok (.iconst 0, 1) := by decide +kernel
theorem dX12_objectBytes_3 : decode cX12_objectBytes 3 = .ok (.istore_n 3, 1) := by decide +kernel
theorem dX12_objectBytes_4 : decode cX12_objectBytes 4 = .ok (.iload_n 3, 1) := by decide +kernel
theorem dX12_objectBytes_5 : decode cX12_objectBytes 5 = .ok (.aload_n 0, 1) := by decide +kernel
theorem dX12_objectBytes_6 : decode cX12_objectBytes 6 = .ok (.invokevirtual 425, 3) := by decide +kernel
theorem dX12_objectBytes_9 : decode cX12_objectBytes 9 = .ok (.if_icmp .ge 18, 3) := by decide +kernel
theorem dX12_objectBytes_12 : decode cX12_objectBytes 12 = .ok (.iload_n 2, 1) := by decide +kernel
theorem dX12_objectBytes_13 : decode cX12_objectBytes 13 = .ok (.aload_n 0, 1) := by decide +kernel
theorem dX12_objectBytes_14 : decode cX12_objectBytes 14 = .ok (.iload_n 3, 1) := by decide +kernel
theorem dX12_objectBytes_15 : decode cX12_objectBytes 15 = .ok (.iload_n 1, 1) := by decide +kernel
theorem dX12_objectBytes_16 : decode cX12_objectBytes 16 = .ok (.invokevirtual 428, 3) := by decide +kernel
theorem dX12_objectBytes_19 : decode cX12_objectBytes 19 = .ok (.iadd, 1) := by decide +kernel
theorem dX12_objectBytes_20 : decode cX12_objectBytes 20 = .ok (.istore_n 2, 1) := by decide +kernel
theorem dX12_objectBytes_21 : decode cX12_objectBytes 21 = .ok (.iinc 3 1, 3) := by decide +kernel
theorem dX12_objectBytes_24 : decode cX12_objectBytes 24 = .ok (.goto (-20), 3) := by decide +kernel
theorem dX12_objectBytes_27 : decode cX12_objectBytes 27 = .ok (.iload_n 2, 1) := by decide +kernel
theorem dX12_objectBytes_28 : decode cX12_objectBytes 28 = .ok (.ireturn, 1) := by decide +kernel
theorem dX12_longestHole_0 : decode cX12_longestHole 0 = .ok (.iconst 0, 1) := by decide +kernel
theorem dX12_longestHole_1 : decode cX12_longestHole 1 = .ok (.istore_n 1, 1) := by decide +kernel
theorem dX12_longestHole_2 : decode cX12_longestHole 2 = .ok (.iconst 0, 1) := by decide +kernel
theorem dX12_longestHole_3 : decode cX12_longestHole 3 = .ok (.istore_n 2, 1) := by decide +kernel
theorem dX12_longestHole_4 : decode cX12_longestHole 4 = .ok (.iload_n 2, 1) := by decide +kernel
theorem dX12_longestHole_5 : decode cX12_longestHole 5 = .ok (.aload_n 0, 1) := by decide +kernel
theorem dX12_longestHole_6 : decode cX12_longestHole 6 = .ok (.getfield 422, 3) := by decide +kernel
theorem dX12_longestHole_9 : decode cX12_longestHole 9 = .ok (.if_icmp .ge 34, 3) := by decide +kernel
theorem dX12_longestHole_12 : decode cX12_longestHole 12 = .ok (.aload_n 0, 1) := by decide +kernel
theorem dX12_longestHole_13 : decode cX12_longestHole 13 = .ok (.getfield 118, 3) := by decide +kernel
theorem dX12_longestHole_16 : decode cX12_longestHole 16 = .ok (.iconst 2, 1) := by decide +kernel
theorem dX12_longestHole_17 : decode cX12_longestHole 17 = .ok (.iload_n 2, 1) := by decide +kernel
theorem dX12_longestHole_18 : decode cX12_longestHole 18 = .ok (.imul, 1) := by decide +kernel
theorem dX12_longestHole_19 : decode cX12_longestHole 19 = .ok (.iconst 1, 1) := by decide +kernel
theorem dX12_longestHole_20 : decode cX12_longestHole 20 = .ok (.iadd, 1) := by decide +kernel
theorem dX12_longestHole_21 : decode cX12_longestHole 21 = .ok (.iaload, 1) := by decide +kernel
theorem dX12_longestHole_22 : decode cX12_longestHole 22 = .ok (.iload_n 1, 1) := by decide +kernel
theorem dX12_longestHole_23 : decode cX12_longestHole 23 = .ok (.if_icmp .le 14, 3) := by decide +kernel
theorem dX12_longestHole_26 : decode cX12_longestHole 26 = .ok (.aload_n 0, 1) := by decide +kernel
theorem dX12_longestHole_27 : decode cX12_longestHole 27 = .ok (.getfield 118, 3) := by decide +kernel
theorem dX12_longestHole_30 : decode cX12_longestHole 30 = .ok (.iconst 2, 1) := by decide +kernel
theorem dX12_longestHole_31 : decode cX12_longestHole 31 = .ok (.iload_n 2, 1) := by decide +kernel
theorem dX12_longestHole_32 : decode cX12_longestHole 32 = .ok (.imul, 1) := by decide +kernel
theorem dX12_longestHole_33 : decode cX12_longestHole 33 = .ok (.iconst 1, 1) := by decide +kernel
theorem dX12_longestHole_34 : decode cX12_longestHole 34 = .ok (.iadd, 1) := by decide +kernel
theorem dX12_longestHole_35 : decode cX12_longestHole 35 = .ok (.iaload, 1) := by decide +kernel
theorem dX12_longestHole_36 : decode cX12_longestHole 36 = .ok (.istore_n 1, 1) := by decide +kernel
theorem dX12_longestHole_37 : decode cX12_longestHole 37 = .ok (.iinc 2 1, 3) := by decide +kernel
theorem dX12_longestHole_40 : decode cX12_longestHole 40 = .ok (.goto (-36), 3) := by decide +kernel
theorem dX12_longestHole_43 : decode cX12_longestHole 43 = .ok (.iload_n 1, 1) := by decide +kernel
theorem dX12_longestHole_44 : decode cX12_longestHole 44 = .ok (.ireturn, 1) := by decide +kernel
theorem dX12_has_0 : decode cX12_has 0 = .ok (.aload_n 0, 1) := by decide +kernel
theorem dX12_has_1 : decode cX12_has 1 = .ok (.invokevirtual 448, 3) := by decide +kernel
theorem dX12_has_4 : decode cX12_has 4 = .ok (.iload_n 1, 1) := by decide +kernel
theorem dX12_has_5 : decode cX12_has 5 = .ok (.tableswitch 118 0 10 #[59, 59, 68, 73, 78, 84, 89, 94, 103, 108, 113], 59) := by decide +kernel
theorem dX12_has_64 : decode cX12_has 64 = .ok (.aload_n 0, 1) := by decide +kernel
theorem dX12_has_65 : decode cX12_has 65 = .ok (.getfield 96, 3) := by decide +kernel
theorem dX12_has_68 : decode cX12_has 68 = .ok (.iconst 3, 1) := by decide +kernel
theorem dX12_has_69 : decode cX12_has 69 = .ok (.iload_n 1, 1) := by decide +kernel
theorem dX12_has_70 : decode cX12_has 70 = .ok (.iadd, 1) := by decide +kernel
theorem dX12_has_71 : decode cX12_has 71 = .ok (.iaload, 1) := by decide +kernel
theorem dX12_has_72 : decode cX12_has 72 = .ok (.ireturn, 1) := by decide +kernel
theorem dX12_has_73 : decode cX12_has 73 = .ok (.aload_n 0, 1) := by decide +kernel
theorem dX12_has_74 : decode cX12_has 74 = .ok (.invokevirtual 463, 3) := by decide +kernel
theorem dX12_has_77 : decode cX12_has 77 = .ok (.ireturn, 1) := by decide +kernel
theorem dX12_has_78 : decode cX12_has 78 = .ok (.aload_n 0, 1) := by decide +kernel
theorem dX12_has_79 : decode cX12_has 79 = .ok (.invokevirtual 425, 3) := by decide +kernel
theorem dX12_has_82 : decode cX12_has 82 = .ok (.ireturn, 1) := by decide +kernel
theorem dX12_has_83 : decode cX12_has 83 = .ok (.aload_n 0, 1) := by decide +kernel
theorem dX12_has_84 : decode cX12_has 84 = .ok (.iconst 1, 1) := by decide +kernel
theorem dX12_has_85 : decode cX12_has 85 = .ok (.invokevirtual 466, 3) := by decide +kernel
theorem dX12_has_88 : decode cX12_has 88 = .ok (.ireturn, 1) := by decide +kernel
theorem dX12_has_89 : decode cX12_has 89 = .ok (.aload_n 0, 1) := by decide +kernel
theorem dX12_has_90 : decode cX12_has 90 = .ok (.getfield 422, 3) := by decide +kernel
theorem dX12_has_93 : decode cX12_has 93 = .ok (.ireturn, 1) := by decide +kernel
theorem dX12_has_94 : decode cX12_has 94 = .ok (.aload_n 0, 1) := by decide +kernel
theorem dX12_has_95 : decode cX12_has 95 = .ok (.invokevirtual 469, 3) := by decide +kernel
theorem dX12_has_98 : decode cX12_has 98 = .ok (.ireturn, 1) := by decide +kernel
theorem dX12_has_99 : decode cX12_has 99 = .ok (.aload_n 0, 1) := by decide +kernel
theorem dX12_has_100 : decode cX12_has 100 = .ok (.getfield 115, 3) := by decide +kernel
theorem dX12_has_103 : decode cX12_has 103 = .ok (.sipush 1377, 3) := by decide +kernel
theorem dX12_has_106 : decode cX12_has 106 = .ok (.iaload, 1) := by decide +kernel
theorem dX12_has_107 : decode cX12_has 107 = .ok (.ireturn, 1) := by decide +kernel
theorem dX12_has_108 : decode cX12_has 108 = .ok (.aload_n 0, 1) := by decide +kernel
theorem dX12_has_109 : decode cX12_has 109 = .ok (.getfield 365, 3) := by decide +kernel
theorem dX12_has_112 : decode cX12_has 112 = .ok (.ireturn, 1) := by decide +kernel
theorem dX12_has_113 : decode cX12_has 113 = .ok (.aload_n 0, 1) := by decide +kernel
theorem dX12_has_114 : decode cX12_has 114 = .ok (.getfield 362, 3) := by decide +kernel
theorem dX12_has_117 : decode cX12_has 117 = .ok (.ireturn, 1) := by decide +kernel
theorem dX12_has_118 : decode cX12_has 118 = .ok (.aload_n 0, 1) := by decide +kernel
theorem dX12_has_119 : decode cX12_has 119 = .ok (.invokevirtual 370, 3) := by decide +kernel
theorem dX12_has_122 : decode cX12_has 122 = .ok (.ireturn, 1) := by decide +kernel
theorem dX12_has_123 : decode cX12_has 123 = .ok (.iconst (-1), 1) := by decide +kernel
theorem dX12_has_124 : decode cX12_has 124 = .ok (.ireturn, 1) := by decide +kernel
theorem dX12_letter_0 : decode cX12_letter 0 = .ok (.aload_n 0, 1) := by decide +kernel
theorem dX12_letter_1 : decode cX12_letter 1 = .ok (.iload_n 1, 1) := by decide +kernel
theorem dX12_letter_2 : decode cX12_letter 2 = .ok (.invokevirtual 472, 3) := by decide +kernel
theorem dX12_letter_5 : decode cX12_letter 5 = .ok (.ifCond .eq 15, 3) := by decide +kernel
theorem dX12_letter_8 : decode cX12_letter 8 = .ok (.iload_n 2, 1) := by decide +kernel
theorem dX12_letter_9 : decode cX12_letter 9 = .ok (.i2l, 1) := by decide +kernel
theorem dX12_letter_10 : decode cX12_letter 10 = .ok (.lconst 0, 1) := by decide +kernel
theorem dX12_letter_11 : decode cX12_letter 11 = .ok (.ldc2_w 475, 3) := by decide +kernel
theorem dX12_letter_14 : decode cX12_letter 14 = .ok (.invokestatic 268, 3) := by decide +kernel
theorem dX12_letter_17 : decode cX12_letter 17 = .ok (.ifCond .ne 5, 3) := by decide +kernel
theorem dX12_letter_20 : decode cX12_letter 20 = .ok (.iconst (-1), 1) := by decide +kernel
theorem dX12_letter_21 : decode cX12_letter 21 = .ok (.ireturn, 1) := by decide +kernel
theorem dX12_letter_22 : decode cX12_letter 22 = .ok (.aload_n 0, 1) := by decide +kernel
theorem dX12_letter_23 : decode cX12_letter 23 = .ok (.getfield 99, 3) := by decide +kernel
theorem dX12_letter_26 : decode cX12_letter 26 = .ok (.iconst 4, 1) := by decide +kernel
theorem dX12_letter_27 : decode cX12_letter 27 = .ok (.iload_n 1, 1) := by decide +kernel
theorem dX12_letter_28 : decode cX12_letter 28 = .ok (.iadd, 1) := by decide +kernel
theorem dX12_letter_29 : decode cX12_letter 29 = .ok (.laload, 1) := by decide +kernel
theorem dX12_letter_30 : decode cX12_letter 30 = .ok (.lstore_n 3, 1) := by decide +kernel
theorem dX12_letter_31 : decode cX12_letter 31 = .ok (.iconst 0, 1) := by decide +kernel
theorem dX12_letter_32 : decode cX12_letter 32 = .ok (.istore 5, 2) := by decide +kernel
theorem dX12_letter_34 : decode cX12_letter 34 = .ok (.lload_n 3, 1) := by decide +kernel
theorem dX12_letter_35 : decode cX12_letter 35 = .ok (.lstore 6, 2) := by decide +kernel
theorem dX12_letter_37 : decode cX12_letter 37 = .ok (.lload 6, 2) := by decide +kernel
theorem dX12_letter_39 : decode cX12_letter 39 = .ok (.lconst 0, 1) := by decide +kernel
theorem dX12_letter_40 : decode cX12_letter 40 = .ok (.lcmp, 1) := by decide +kernel
theorem dX12_letter_41 : decode cX12_letter 41 = .ok (.ifCond .le 17, 3) := by decide +kernel
theorem dX12_letter_44 : decode cX12_letter 44 = .ok (.iinc 5 1, 3) := by decide +kernel
theorem dX12_letter_47 : decode cX12_letter 47 = .ok (.lload 6, 2) := by decide +kernel
theorem dX12_letter_49 : decode cX12_letter 49 = .ok (.ldc2_w 279, 3) := by decide +kernel
theorem dX12_letter_52 : decode cX12_letter 52 = .ok (.ldiv, 1) := by decide +kernel
theorem dX12_letter_53 : decode cX12_letter 53 = .ok (.lstore 6, 2) := by decide +kernel
theorem dX12_letter_55 : decode cX12_letter 55 = .ok (.goto (-18), 3) := by decide +kernel
theorem dX12_letter_58 : decode cX12_letter 58 = .ok (.iload_n 2, 1) := by decide +kernel
theorem dX12_letter_59 : decode cX12_letter 59 = .ok (.iload 5, 2) := by decide +kernel
theorem dX12_letter_61 : decode cX12_letter 61 = .ok (.if_icmp .lt 5, 3) := by decide +kernel
theorem dX12_letter_64 : decode cX12_letter 64 = .ok (.iconst 0, 1) := by decide +kernel
theorem dX12_letter_65 : decode cX12_letter 65 = .ok (.ireturn, 1) := by decide +kernel
theorem dX12_letter_66 : decode cX12_letter 66 = .ok (.iload 5, 2) := by decide +kernel
theorem dX12_letter_68 : decode cX12_letter 68 = .ok (.iconst 1, 1) := by decide +kernel
theorem dX12_letter_69 : decode cX12_letter 69 = .ok (.isub, 1) := by decide +kernel
theorem dX12_letter_70 : decode cX12_letter 70 = .ok (.istore 6, 2) := by decide +kernel
theorem dX12_letter_72 : decode cX12_letter 72 = .ok (.iload 6, 2) := by decide +kernel
theorem dX12_letter_74 : decode cX12_letter 74 = .ok (.iload_n 2, 1) := by decide +kernel
theorem dX12_letter_75 : decode cX12_letter 75 = .ok (.if_icmp .le 15, 3) := by decide +kernel
theorem dX12_letter_78 : decode cX12_letter 78 = .ok (.lload_n 3, 1) := by decide +kernel
theorem dX12_letter_79 : decode cX12_letter 79 = .ok (.ldc2_w 279, 3) := by decide +kernel
theorem dX12_letter_82 : decode cX12_letter 82 = .ok (.ldiv, 1) := by decide +kernel
theorem dX12_letter_83 : decode cX12_letter 83 = .ok (.lstore_n 3, 1) := by decide +kernel
theorem dX12_letter_84 : decode cX12_letter 84 = .ok (.iinc 6 (-1), 3) := by decide +kernel
theorem dX12_letter_87 : decode cX12_letter 87 = .ok (.goto (-15), 3) := by decide +kernel
theorem dX12_letter_90 : decode cX12_letter 90 = .ok (.lload_n 3, 1) := by decide +kernel
theorem dX12_letter_91 : decode cX12_letter 91 = .ok (.ldc2_w 279, 3) := by decide +kernel
theorem dX12_letter_94 : decode cX12_letter 94 = .ok (.lrem, 1) := by decide +kernel
theorem dX12_letter_95 : decode cX12_letter 95 = .ok (.l2i, 1) := by decide +kernel
theorem dX12_letter_96 : decode cX12_letter 96 = .ok (.ireturn, 1) := by decide +kernel
theorem dX12_told_0 : decode cX12_told 0 = .ok (.iload_n 2, 1) := by decide +kernel
theorem dX12_told_1 : decode cX12_told 1 = .ok (.tableswitch 125 0 8 #[51, 58, 67, 73, 79, 88, 97, 106, 115], 51) := by decide +kernel
theorem dX12_told_52 : decode cX12_told 52 = .ok (.aload_n 0, 1) := by decide +kernel
theorem dX12_told_53 : decode cX12_told 53 = .ok (.getfield 115, 3) := by decide +kernel
theorem dX12_told_56 : decode cX12_told 56 = .ok (.iload_n 1, 1) := by decide +kernel
theorem dX12_told_57 : decode cX12_told 57 = .ok (.iaload, 1) := by decide +kernel
theorem dX12_told_58 : decode cX12_told 58 = .ok (.ireturn, 1) := by decide +kernel
theorem dX12_told_59 : decode cX12_told 59 = .ok (.aload_n 0, 1) := by decide +kernel
theorem dX12_told_60 : decode cX12_told 60 = .ok (.getfield 115, 3) := by decide +kernel
theorem dX12_told_63 : decode cX12_told 63 = .ok (.iload_n 1, 1) := by decide +kernel
theorem dX12_told_64 : decode cX12_told 64 = .ok (.iconst 1, 1) := by decide +kernel
theorem dX12_told_65 : decode cX12_told 65 = .ok (.iadd, 1) := by decide +kernel
theorem dX12_told_66 : decode cX12_told 66 = .ok (.iaload, 1) := by decide +kernel
theorem dX12_told_67 : decode cX12_told 67 = .ok (.ireturn, 1) := by decide +kernel
theorem dX12_told_68 : decode cX12_told 68 = .ok (.aload_n 0, 1) := by decide +kernel
theorem dX12_told_69 : decode cX12_told 69 = .ok (.iload_n 1, 1) := by decide +kernel
theorem dX12_told_70 : decode cX12_told 70 = .ok (.invokevirtual 412, 3) := by decide +kernel
theorem dX12_told_73 : decode cX12_told 73 = .ok (.ireturn, 1) := by decide +kernel
theorem dX12_told_74 : decode cX12_told 74 = .ok (.aload_n 0, 1) := by decide +kernel
theorem dX12_told_75 : decode cX12_told 75 = .ok (.iload_n 1, 1) := by decide +kernel
theorem dX12_told_76 : decode cX12_told 76 = .ok (.invokevirtual 415, 3) := by decide +kernel
theorem dX12_told_79 : decode cX12_told 79 = .ok (.ireturn, 1) := by decide +kernel
theorem dX12_told_80 : decode cX12_told 80 = .ok (.aload_n 0, 1) := by decide +kernel
theorem dX12_told_81 : decode cX12_told 81 = .ok (.getfield 115, 3) := by decide +kernel
theorem dX12_told_84 : decode cX12_told 84 = .ok (.iload_n 1, 1) := by decide +kernel
theorem dX12_told_85 : decode cX12_told 85 = .ok (.iconst 2, 1) := by decide +kernel
theorem dX12_told_86 : decode cX12_told 86 = .ok (.iadd, 1) := by decide +kernel
theorem dX12_told_87 : decode cX12_told 87 = .ok (.iaload, 1) := by decide +kernel
theorem dX12_told_88 : decode cX12_told 88 = .ok (.ireturn, 1) := by decide +kernel
theorem dX12_told_89 : decode cX12_told 89 = .ok (.aload_n 0, 1) := by decide +kernel
theorem dX12_told_90 : decode cX12_told 90 = .ok (.getfield 115, 3) := by decide +kernel
theorem dX12_told_93 : decode cX12_told 93 = .ok (.iload_n 1, 1) := by decide +kernel
theorem dX12_told_94 : decode cX12_told 94 = .ok (.iconst 3, 1) := by decide +kernel
theorem dX12_told_95 : decode cX12_told 95 = .ok (.iadd, 1) := by decide +kernel
theorem dX12_told_96 : decode cX12_told 96 = .ok (.iaload, 1) := by decide +kernel
theorem dX12_told_97 : decode cX12_told 97 = .ok (.ireturn, 1) := by decide +kernel
theorem dX12_told_98 : decode cX12_told 98 = .ok (.aload_n 0, 1) := by decide +kernel
theorem dX12_told_99 : decode cX12_told 99 = .ok (.getfield 115, 3) := by decide +kernel
theorem dX12_told_102 : decode cX12_told 102 = .ok (.iload_n 1, 1) := by decide +kernel
theorem dX12_told_103 : decode cX12_told 103 = .ok (.iconst 4, 1) := by decide +kernel
theorem dX12_told_104 : decode cX12_told 104 = .ok (.iadd, 1) := by decide +kernel
theorem dX12_told_105 : decode cX12_told 105 = .ok (.iaload, 1) := by decide +kernel
theorem dX12_told_106 : decode cX12_told 106 = .ok (.ireturn, 1) := by decide +kernel
theorem dX12_told_107 : decode cX12_told 107 = .ok (.aload_n 0, 1) := by decide +kernel
theorem dX12_told_108 : decode cX12_told 108 = .ok (.getfield 115, 3) := by decide +kernel
theorem dX12_told_111 : decode cX12_told 111 = .ok (.iload_n 1, 1) := by decide +kernel
theorem dX12_told_112 : decode cX12_told 112 = .ok (.iconst 5, 1) := by decide +kernel
theorem dX12_told_113 : decode cX12_told 113 = .ok (.iadd, 1) := by decide +kernel
theorem dX12_told_114 : decode cX12_told 114 = .ok (.iaload, 1) := by decide +kernel
theorem dX12_told_115 : decode cX12_told 115 = .ok (.ireturn, 1) := by decide +kernel
theorem dX12_told_116 : decode cX12_told 116 = .ok (.aload_n 0, 1) := by decide +kernel
theorem dX12_told_117 : decode cX12_told 117 = .ok (.getfield 115, 3) := by decide +kernel
theorem dX12_told_120 : decode cX12_told 120 = .ok (.iload_n 1, 1) := by decide +kernel
theorem dX12_told_121 : decode cX12_told 121 = .ok (.bipush 6, 2) := by decide +kernel
theorem dX12_told_123 : decode cX12_told 123 = .ok (.iadd, 1) := by decide +kernel
theorem dX12_told_124 : decode cX12_told 124 = .ok (.iaload, 1) := by decide +kernel
theorem dX12_told_125 : decode cX12_told 125 = .ok (.ireturn, 1) := by decide +kernel
theorem dX12_told_126 : decode cX12_told 126 = .ok (.iconst (-1), 1) := by decide +kernel
theorem dX12_told_127 : decode cX12_told 127 = .ok (.ireturn, 1) := by decide +kernel
theorem dX12_pointer_0 : decode cX12_pointer 0 = .ok (.aload_n 0, 1) := by decide +kernel
theorem dX12_pointer_1 : decode cX12_pointer 1 = .ok (.iload_n 1, 1) := by decide +kernel
theorem dX12_pointer_2 : decode cX12_pointer 2 = .ok (.i2l, 1) := by decide +kernel
theorem dX12_pointer_3 : decode cX12_pointer 3 = .ok (.invokevirtual 418, 3) := by decide +kernel
theorem dX12_pointer_6 : decode cX12_pointer 6 = .ok (.ifCond .eq 15, 3) := by decide +kernel
theorem dX12_pointer_9 : decode cX12_pointer 9 = .ok (.aload_n 0, 1) := by decide +kernel
theorem dX12_pointer_10 : decode cX12_pointer 10 = .ok (.bipush 8, 2) := by decide +kernel
theorem dX12_pointer_12 : decode cX12_pointer 12 = .ok (.iload_n 1, 1) := by decide +kernel
theorem dX12_pointer_13 : decode cX12_pointer 13 = .ok (.imul, 1) := by decide +kernel
theorem dX12_pointer_14 : decode cX12_pointer 14 = .ok (.iload_n 2, 1) := by decide +kernel
theorem dX12_pointer_15 : decode cX12_pointer 15 = .ok (.invokevirtual 477, 3) := by decide +kernel
theorem dX12_pointer_18 : decode cX12_pointer 18 = .ok (.goto 4, 3) := by decide +kernel
theorem dX12_pointer_21 : decode cX12_pointer 21 = .ok (.iconst (-1), 1) := by decide +kernel
theorem dX12_pointer_22 : decode cX12_pointer 22 = .ok (.ireturn, 1) := by decide +kernel
theorem dX12_shelfAt_0 : decode cX12_shelfAt 0 = .ok (.sipush 128, 3) := by decide +kernel
theorem dX12_shelfAt_3 : decode cX12_shelfAt 3 = .ok (.bipush 8, 2) := by decide +kernel
theorem dX12_shelfAt_5 : decode cX12_shelfAt 5 = .ok (.iconst 4, 1) := by decide +kernel
theorem dX12_shelfAt_6 : decode cX12_shelfAt 6 = .ok (.iload_n 1, 1) := by decide +kernel
theorem dX12_shelfAt_7 : decode cX12_shelfAt 7 = .ok (.imul, 1) := by decide +kernel
theorem dX12_shelfAt_8 : decode cX12_shelfAt 8 = .ok (.iload_n 2, 1) := by decide +kernel
theorem dX12_shelfAt_9 : decode cX12_shelfAt 9 = .ok (.iadd, 1) := by decide +kernel
theorem dX12_shelfAt_10 : decode cX12_shelfAt 10 = .ok (.imul, 1) := by decide +kernel
theorem dX12_shelfAt_11 : decode cX12_shelfAt 11 = .ok (.iadd, 1) := by decide +kernel
theorem dX12_shelfAt_12 : decode cX12_shelfAt 12 = .ok (.ireturn, 1) := by decide +kernel
theorem dX12_shelf_0 : decode cX12_shelf 0 = .ok (.aload_n 0, 1) := by decide +kernel
theorem dX12_shelf_1 : decode cX12_shelf 1 = .ok (.iload_n 1, 1) := by decide +kernel
theorem dX12_shelf_2 : decode cX12_shelf 2 = .ok (.invokevirtual 472, 3) := by decide +kernel
theorem dX12_shelf_5 : decode cX12_shelf 5 = .ok (.ifCond .eq 30, 3) := by decide +kernel
theorem dX12_shelf_8 : decode cX12_shelf 8 = .ok (.iload_n 2, 1) := by decide +kernel
theorem dX12_shelf_9 : decode cX12_shelf 9 = .ok (.i2l, 1) := by decide +kernel
theorem dX12_shelf_10 : decode cX12_shelf 10 = .ok (.lconst 0, 1) := by decide +kernel
theorem dX12_shelf_11 : decode cX12_shelf 11 = .ok (.ldc2_w 286, 3) := by decide +kernel
theorem dX12_shelf_14 : decode cX12_shelf 14 = .ok (.invokestatic 268, 3) := by decide +kernel
theorem dX12_shelf_17 : decode cX12_shelf 17 = .ok (.ifCond .eq 18, 3) := by decide +kernel
theorem dX12_shelf_20 : decode cX12_shelf 20 = .ok (.aload_n 0, 1) := by decide +kernel
theorem dX12_shelf_21 : decode cX12_shelf 21 = .ok (.getfield 115, 3) := by decide +kernel
theorem dX12_shelf_24 : decode cX12_shelf 24 = .ok (.aload_n 0, 1) := by decide +kernel
theorem dX12_shelf_25 : decode cX12_shelf 25 = .ok (.iload_n 1, 1) := by decide +kernel
theorem dX12_shelf_26 : decode cX12_shelf 26 = .ok (.iload_n 2, 1) := by decide +kernel
theorem dX12_shelf_27 : decode cX12_shelf 27 = .ok (.invokevirtual 480, 3) := by decide +kernel
theorem dX12_shelf_30 : decode cX12_shelf 30 = .ok (.iaload, 1) := by decide +kernel
theorem dX12_shelf_31 : decode cX12_shelf 31 = .ok (.iconst (-1), 1) := by decide +kernel
theorem dX12_shelf_32 : decode cX12_shelf 32 = .ok (.if_icmp .ne 5, 3) := by decide +kernel
theorem dX12_shelf_35 : decode cX12_shelf 35 = .ok (.iconst (-1), 1) := by decide +kernel
theorem dX12_shelf_36 : decode cX12_shelf 36 = .ok (.ireturn, 1) := by decide +kernel
theorem dX12_shelf_37 : decode cX12_shelf 37 = .ok (.aload_n 0, 1) := by decide +kernel
theorem dX12_shelf_38 : decode cX12_shelf 38 = .ok (.aload_n 0, 1) := by decide +kernel
theorem dX12_shelf_39 : decode cX12_shelf 39 = .ok (.iload_n 1, 1) := by decide +kernel
theorem dX12_shelf_40 : decode cX12_shelf 40 = .ok (.iload_n 2, 1) := by decide +kernel
theorem dX12_shelf_41 : decode cX12_shelf 41 = .ok (.invokevirtual 480, 3) := by decide +kernel
theorem dX12_shelf_44 : decode cX12_shelf 44 = .ok (.iload_n 3, 1) := by decide +kernel
theorem dX12_shelf_45 : decode cX12_shelf 45 = .ok (.invokevirtual 477, 3) := by decide +kernel
theorem dX12_shelf_48 : decode cX12_shelf 48 = .ok (.ireturn, 1) := by decide +kernel
theorem dX12_object_0 : decode cX12_object 0 = .ok (.iload_n 1, 1) := by decide +kernel
theorem dX12_object_1 : decode cX12_object 1 = .ok (.i2l, 1) := by decide +kernel
theorem dX12_object_2 : decode cX12_object 2 = .ok (.lconst 0, 1) := by decide +kernel
theorem dX12_object_3 : decode cX12_object 3 = .ok (.aload_n 0, 1) := by decide +kernel
theorem dX12_object_4 : decode cX12_object 4 = .ok (.invokevirtual 425, 3) := by decide +kernel
theorem dX12_object_7 : decode cX12_object 7 = .ok (.iconst 1, 1) := by decide +kernel
theorem dX12_object_8 : decode cX12_object 8 = .ok (.isub, 1) := by decide +kernel
theorem dX12_object_9 : decode cX12_object 9 = .ok (.i2l, 1) := by decide +kernel
theorem dX12_object_10 : decode cX12_object 10 = .ok (.invokestatic 268, 3) := by decide +kernel
theorem dX12_object_13 : decode cX12_object 13 = .ok (.ifCond .eq 24, 3) := by decide +kernel
theorem dX12_object_16 : decode cX12_object 16 = .ok (.iload_n 2, 1) := by decide +kernel
theorem dX12_object_17 : decode cX12_object 17 = .ok (.i2l, 1) := by decide +kernel
theorem dX12_object_18 : decode cX12_object 18 = .ok (.lconst 0, 1) := by decide +kernel
theorem dX12_object_19 : decode cX12_object 19 = .ok (.ldc2_w 483, 3) := by decide +kernel
theorem dX12_object_22 : decode cX12_object 22 = .ok (.invokestatic 268, 3) := by decide +kernel
theorem dX12_object_25 : decode cX12_object 25 = .ok (.ifCond .eq 12, 3) := by decide +kernel
theorem dX12_object_28 : decode cX12_object 28 = .ok (.aload_n 0, 1) := by decide +kernel
theorem dX12_object_29 : decode cX12_object 29 = .ok (.iload_n 1, 1) := by decide +kernel
theorem dX12_object_30 : decode cX12_object 30 = .ok (.iload_n 2, 1) := by decide +kernel
theorem dX12_object_31 : decode cX12_object 31 = .ok (.invokevirtual 428, 3) := by decide +kernel
theorem dX12_object_34 : decode cX12_object 34 = .ok (.goto 4, 3) := by decide +kernel
theorem dX12_object_37 : decode cX12_object 37 = .ok (.iconst (-1), 1) := by decide +kernel
theorem dX12_object_38 : decode cX12_object 38 = .ok (.ireturn, 1) := by decide +kernel
theorem dX12_hole_0 : decode cX12_hole 0 = .ok (.aload_n 0, 1) := by decide +kernel
theorem dX12_hole_1 : decode cX12_hole 1 = .ok (.invokevirtual 448, 3) := by decide +kernel
theorem dX12_hole_4 : decode cX12_hole 4 = .ok (.iload_n 1, 1) := by decide +kernel
theorem dX12_hole_5 : decode cX12_hole 5 = .ok (.i2l, 1) := by decide +kernel
theorem dX12_hole_6 : decode cX12_hole 6 = .ok (.lconst 0, 1) := by decide +kernel
theorem dX12_hole_7 : decode cX12_hole 7 = .ok (.aload_n 0, 1) := by decide +kernel
theorem dX12_hole_8 : decode cX12_hole 8 = .ok (.getfield 422, 3) := by decide +kernel
theorem dX12_hole_11 : decode cX12_hole 11 = .ok (.iconst 1, 1) := by decide +kernel
theorem dX12_hole_12 : decode cX12_hole 12 = .ok (.isub, 1) := by decide +kernel
theorem dX12_hole_13 : decode cX12_hole 13 = .ok (.i2l, 1) := by decide +kernel
theorem dX12_hole_14 : decode cX12_hole 14 = .ok (.invokestatic 268, 3) := by decide +kernel
theorem dX12_hole_17 : decode cX12_hole 17 = .ok (.ifCond .eq 26, 3) := by decide +kernel
theorem dX12_hole_20 : decode cX12_hole 20 = .ok (.iload_n 2, 1) := by decide +kernel
theorem dX12_hole_21 : decode cX12_hole 21 = .ok (.i2l, 1) := by decide +kernel
theorem dX12_hole_22 : decode cX12_hole 22 = .ok (.lconst 0, 1) := by decide +kernel
theorem dX12_hole_23 : decode cX12_hole 23 = .ok (.lconst 1, 1) := by decide +kernel
theorem dX12_hole_24 : decode cX12_hole 24 = .ok (.invokestatic 268, 3) := by decide +kernel
theorem dX12_hole_27 : decode cX12_hole 27 = .ok (.ifCond .eq 16, 3) := by decide +kernel
theorem dX12_hole_30 : decode cX12_hole 30 = .ok (.aload_n 0, 1) := by decide +kernel
theorem dX12_hole_31 : decode cX12_hole 31 = .ok (.getfield 118, 3) := by decide +kernel
theorem dX12_hole_34 : decode cX12_hole 34 = .ok (.iconst 2, 1) := by decide +kernel
theorem dX12_hole_35 : decode cX12_hole 35 = .ok (.iload_n 1, 1) := by decide +kernel
theorem dX12_hole_36 : decode cX12_hole 36 = .ok (.imul, 1) := by decide +kernel
theorem dX12_hole_37 : decode cX12_hole 37 = .ok (.iload_n 2, 1) := by decide +kernel
theorem dX12_hole_38 : decode cX12_hole 38 = .ok (.iadd, 1) := by decide +kernel
theorem dX12_hole_39 : decode cX12_hole 39 = .ok (.iaload, 1) := by decide +kernel
theorem dX12_hole_40 : decode cX12_hole 40 = .ok (.goto 4, 3) := by decide +kernel
theorem dX12_hole_43 : decode cX12_hole 43 = .ok (.iconst (-1), 1) := by decide +kernel
theorem dX12_hole_44 : decode cX12_hole 44 = .ok (.ireturn, 1) := by decide +kernel
theorem dX12_octetAt_0 : decode cX12_octetAt 0 = .ok (.iload_n 1, 1) := by decide +kernel
theorem dX12_octetAt_1 : decode cX12_octetAt 1 = .ok (.i2l, 1) := by decide +kernel
theorem dX12_octetAt_2 : decode cX12_octetAt 2 = .ok (.lconst 0, 1) := by decide +kernel
theorem dX12_octetAt_3 : decode cX12_octetAt 3 = .ok (.aload_n 0, 1) := by decide +kernel
theorem dX12_octetAt_4 : decode cX12_octetAt 4 = .ok (.getfield 96, 3) := by decide +kernel
theorem dX12_octetAt_7 : decode cX12_octetAt 7 = .ok (.iconst 3, 1) := by decide +kernel
theorem dX12_octetAt_8 : decode cX12_octetAt 8 = .ok (.iaload, 1) := by decide +kernel
theorem dX12_octetAt_9 : decode cX12_octetAt 9 = .ok (.iconst 1, 1) := by decide +kernel
theorem dX12_octetAt_10 : decode cX12_octetAt 10 = .ok (.isub, 1) := by decide +kernel
theorem dX12_octetAt_11 : decode cX12_octetAt 11 = .ok (.i2l, 1) := by decide +kernel
theorem dX12_octetAt_12 : decode cX12_octetAt 12 = .ok (.invokestatic 268, 3) := by decide +kernel
theorem dX12_octetAt_15 : decode cX12_octetAt 15 = .ok (.ifCond .eq 16, 3) := by decide +kernel
theorem dX12_octetAt_18 : decode cX12_octetAt 18 = .ok (.aload_n 0, 1) := by decide +kernel
theorem dX12_octetAt_19 : decode cX12_octetAt 19 = .ok (.getfield 115, 3) := by decide +kernel
theorem dX12_octetAt_22 : decode cX12_octetAt 22 = .ok (.sipush 353, 3) := by decide +kernel
theorem dX12_octetAt_25 : decode cX12_octetAt 25 = .ok (.iload_n 1, 1) := by decide +kernel
theorem dX12_octetAt_26 : decode cX12_octetAt 26 = .ok (.iadd, 1) := by decide +kernel
theorem dX12_octetAt_27 : decode cX12_octetAt 27 = .ok (.iaload, 1) := by decide +kernel
theorem dX12_octetAt_28 : decode cX12_octetAt 28 = .ok (.goto 4, 3) := by decide +kernel
theorem dX12_octetAt_31 : decode cX12_octetAt 31 = .ok (.iconst (-1), 1) := by decide +kernel
theorem dX12_octetAt_32 : decode cX12_octetAt 32 = .ok (.ireturn, 1) := by decide +kernel
theorem dX12_kept_0 : decode cX12_kept 0 = .ok (.iload_n 1, 1) := by decide +kernel
theorem dX12_kept_1 : decode cX12_kept 1 = .ok (.i2l, 1) := by decide +kernel
theorem dX12_kept_2 : decode cX12_kept 2 = .ok (.lconst 0, 1) := by decide +kernel
theorem dX12_kept_3 : decode cX12_kept 3 = .ok (.aload_n 0, 1) := by decide +kernel
theorem dX12_kept_4 : decode cX12_kept 4 = .ok (.getfield 115, 3) := by decide +kernel
theorem dX12_kept_7 : decode cX12_kept 7 = .ok (.sipush 1377, 3) := by decide +kernel
theorem dX12_kept_10 : decode cX12_kept 10 = .ok (.iaload, 1) := by decide +kernel
theorem dX12_kept_11 : decode cX12_kept 11 = .ok (.iconst 1, 1) := by decide +kernel
theorem dX12_kept_12 : decode cX12_kept 12 = .ok (.isub, 1) := by decide +kernel
theorem dX12_kept_13 : decode cX12_kept 13 = .ok (.i2l, 1) := by decide +kernel
theorem dX12_kept_14 : decode cX12_kept 14 = .ok (.invokestatic 268, 3) := by decide +kernel
theorem dX12_kept_17 : decode cX12_kept 17 = .ok (.ifCond .eq 32, 3) := by decide +kernel
theorem dX12_kept_20 : decode cX12_kept 20 = .ok (.iload_n 2, 1) := by decide +kernel
theorem dX12_kept_21 : decode cX12_kept 21 = .ok (.i2l, 1) := by decide +kernel
theorem dX12_kept_22 : decode cX12_kept 22 = .ok (.lconst 0, 1) := by decide +kernel
theorem dX12_kept_23 : decode cX12_kept 23 = .ok (.ldc2_w 483, 3) := by decide +kernel
theorem dX12_kept_26 : decode cX12_kept 26 = .ok (.invokestatic 268, 3) := by decide +kernel
theorem dX12_kept_29 : decode cX12_kept 29 = .ok (.ifCond .eq 20, 3) := by decide +kernel
theorem dX12_kept_32 : decode cX12_kept 32 = .ok (.aload_n 0, 1) := by decide +kernel
theorem dX12_kept_33 : decode cX12_kept 33 = .ok (.getfield 115, 3) := by decide +kernel
theorem dX12_kept_36 : decode cX12_kept 36 = .ok (.sipush 1378, 3) := by decide +kernel
theorem dX12_kept_39 : decode cX12_kept 39 = .ok (.iconst 3, 1) := by decide +kernel
theorem dX12_kept_40 : decode cX12_kept 40 = .ok (.iload_n 1, 1) := by decide +kernel
theorem dX12_kept_41 : decode cX12_kept 41 = .ok (.imul, 1) := by decide +kernel
theorem dX12_kept_42 : decode cX12_kept 42 = .ok (.iadd, 1) := by decide +kernel
theorem dX12_kept_43 : decode cX12_kept 43 = .ok (.iload_n 2, 1) := by decide +kernel
theorem dX12_kept_44 : decode cX12_kept 44 = .ok (.iadd, 1) := by decide +kernel
theorem dX12_kept_45 : decode cX12_kept 45 = .ok (.iaload, 1) := by decide +kernel
theorem dX12_kept_46 : decode cX12_kept 46 = .ok (.goto 4, 3) := by decide +kernel
theorem dX12_kept_49 : decode cX12_kept 49 = .ok (.iconst (-1), 1) := by decide +kernel
theorem dX12_kept_50 : decode cX12_kept 50 = .ok (.ireturn, 1) := by decide +kernel
theorem dX12_areBounds_0 : decode cX12_areBounds 0 = .ok (.iload_n 1, 1) := by decide +kernel
theorem dX12_areBounds_1 : decode cX12_areBounds 1 = .ok (.i2l, 1) := by decide +kernel
theorem dX12_areBounds_2 : decode cX12_areBounds 2 = .ok (.lconst 0, 1) := by decide +kernel
theorem dX12_areBounds_3 : decode cX12_areBounds 3 = .ok (.ldc2_w 485, 3) := by decide +kernel
theorem dX12_areBounds_6 : decode cX12_areBounds 6 = .ok (.invokestatic 268, 3) := by decide +kernel
theorem dX12_areBounds_9 : decode cX12_areBounds 9 = .ok (.ifCond .eq 28, 3) := by decide +kernel
theorem dX12_areBounds_12 : decode cX12_areBounds 12 = .ok (.iload_n 2, 1) := by decide +kernel
theorem dX12_areBounds_13 : decode cX12_areBounds 13 = .ok (.i2l, 1) := by decide +kernel
theorem dX12_areBounds_14 : decode cX12_areBounds 14 = .ok (.lconst 0, 1) := by decide +kernel
theorem dX12_areBounds_15 : decode cX12_areBounds 15 = .ok (.ldc2_w 485, 3) := by decide +kernel
theorem dX12_areBounds_18 : decode cX12_areBounds 18 = .ok (.invokestatic 268, 3) := by decide +kernel
theorem dX12_areBounds_21 : decode cX12_areBounds 21 = .ok (.ifCond .eq 16, 3) := by decide +kernel
theorem dX12_areBounds_24 : decode cX12_areBounds 24 = .ok (.iload_n 1, 1) := by decide +kernel
theorem dX12_areBounds_25 : decode cX12_areBounds 25 = .ok (.iload_n 2, 1) := by decide +kernel
theorem dX12_areBounds_26 : decode cX12_areBounds 26 = .ok (.iadd, 1) := by decide +kernel
theorem dX12_areBounds_27 : decode cX12_areBounds 27 = .ok (.sipush 4096, 3) := by decide +kernel
theorem dX12_areBounds_30 : decode cX12_areBounds 30 = .ok (.if_icmp .gt 7, 3) := by decide +kernel
theorem dX12_areBounds_33 : decode cX12_areBounds 33 = .ok (.iconst 1, 1) := by decide +kernel
theorem dX12_areBounds_34 : decode cX12_areBounds 34 = .ok (.goto 4, 3) := by decide +kernel
theorem dX12_areBounds_37 : decode cX12_areBounds 37 = .ok (.iconst 0, 1) := by decide +kernel
theorem dX12_areBounds_38 : decode cX12_areBounds 38 = .ok (.ireturn, 1) := by decide +kernel
theorem dX12_isExact_0 : decode cX12_isExact 0 = .ok (.aload_n 0, 1) := by decide +kernel
theorem dX12_isExact_1 : decode cX12_isExact 1 = .ok (.getfield 390, 3) := by decide +kernel
theorem dX12_isExact_4 : decode cX12_isExact 4 = .ok (.iload_n 1, 1) := by decide +kernel
theorem dX12_isExact_5 : decode cX12_isExact 5 = .ok (.if_icmp .ne 17, 3) := by decide +kernel
theorem dX12_isExact_8 : decode cX12_isExact 8 = .ok (.aload_n 0, 1) := by decide +kernel
theorem dX12_isExact_9 : decode cX12_isExact 9 = .ok (.getfield 393, 3) := by decide +kernel
theorem dX12_isExact_12 : decode cX12_isExact 12 = .ok (.iload_n 1, 1) := by decide +kernel
theorem dX12_isExact_13 : decode cX12_isExact 13 = .ok (.iload_n 2, 1) := by decide +kernel
theorem dX12_isExact_14 : decode cX12_isExact 14 = .ok (.iadd, 1) := by decide +kernel
theorem dX12_isExact_15 : decode cX12_isExact 15 = .ok (.if_icmp .ne 7, 3) := by decide +kernel
theorem dX12_isExact_18 : decode cX12_isExact 18 = .ok (.iconst 1, 1) := by decide +kernel
theorem dX12_isExact_19 : decode cX12_isExact 19 = .ok (.goto 4, 3) := by decide +kernel
theorem dX12_isExact_22 : decode cX12_isExact 22 = .ok (.iconst 0, 1) := by decide +kernel
theorem dX12_isExact_23 : decode cX12_isExact 23 = .ok (.ireturn, 1) := by decide +kernel
theorem dX12_rounds_0 : decode cX12_rounds 0 = .ok (.aload_n 0, 1) := by decide +kernel
theorem dX12_rounds_1 : decode cX12_rounds 1 = .ok (.getfield 352, 3) := by decide +kernel
theorem dX12_rounds_4 : decode cX12_rounds 4 = .ok (.ifCond .eq 24, 3) := by decide +kernel
theorem dX12_rounds_7 : decode cX12_rounds 7 = .ok (.aload_n 0, 1) := by decide +kernel
theorem dX12_rounds_8 : decode cX12_rounds 8 = .ok (.iload_n 1, 1) := by decide +kernel
theorem dX12_rounds_9 : decode cX12_rounds 9 = .ok (.iload_n 2, 1) := by decide +kernel
theorem dX12_rounds_10 : decode cX12_rounds 10 = .ok (.invokevirtual 487, 3) := by decide +kernel
theorem dX12_rounds_13 : decode cX12_rounds 13 = .ok (.ifCond .eq 15, 3) := by decide +kernel
theorem dX12_rounds_16 : decode cX12_rounds 16 = .ok (.iload_n 3, 1) := by decide +kernel
theorem dX12_rounds_17 : decode cX12_rounds 17 = .ok (.i2l, 1) := by decide +kernel
theorem dX12_rounds_18 : decode cX12_rounds 18 = .ok (.lconst 0, 1) := by decide +kernel
theorem dX12_rounds_19 : decode cX12_rounds 19 = .ok (.ldc2_w 286, 3) := by decide +kernel
theorem dX12_rounds_22 : decode cX12_rounds 22 = .ok (.invokestatic 268, 3) := by decide +kernel
theorem dX12_rounds_25 : decode cX12_rounds 25 = .ok (.ifCond .ne 5, 3) := by decide +kernel
theorem dX12_rounds_28 : decode cX12_rounds 28 = .ok (.iconst (-1), 1) := by decide +kernel
theorem dX12_rounds_29 : decode cX12_rounds 29 = .ok (.ireturn, 1) := by decide +kernel
theorem dX12_rounds_30 : decode cX12_rounds 30 = .ok (.aload_n 0, 1) := by decide +kernel
theorem dX12_rounds_31 : decode cX12_rounds 31 = .ok (.iload_n 1, 1) := by decide +kernel
theorem dX12_rounds_32 : decode cX12_rounds 32 = .ok (.iload_n 2, 1) := by decide +kernel
theorem dX12_rounds_33 : decode cX12_rounds 33 = .ok (.invokevirtual 356, 3) := by decide +kernel
theorem dX12_rounds_36 : decode cX12_rounds 36 = .ok (.iload_n 3, 1) := by decide +kernel
theorem dX12_rounds_37 : decode cX12_rounds 37 = .ok (.ifCond .ne 10, 3) := by decide +kernel
theorem dX12_rounds_40 : decode cX12_rounds 40 = .ok (.aload_n 0, 1) := by decide +kernel
theorem dX12_rounds_41 : decode cX12_rounds 41 = .ok (.getfield 387, 3) := by decide +kernel
theorem dX12_rounds_44 : decode cX12_rounds 44 = .ok (.goto 46, 3) := by decide +kernel
theorem dX12_rounds_47 : decode cX12_rounds 47 = .ok (.iload_n 3, 1) := by decide +kernel
theorem dX12_rounds_48 : decode cX12_rounds 48 = .ok (.iconst 1, 1) := by decide +kernel
theorem dX12_rounds_49 : decode cX12_rounds 49 = .ok (.if_icmp .ne 10, 3) := by decide +kernel
theorem dX12_rounds_52 : decode cX12_rounds 52 = .ok (.aload_n 0, 1) := by decide +kernel
theorem dX12_rounds_53 : decode cX12_rounds 53 = .ok (.getfield 390, 3) := by decide +kernel
theorem dX12_rounds_56 : decode cX12_rounds 56 = .ok (.goto 34, 3) := by decide +kernel
theorem dX12_rounds_59 : decode cX12_rounds 59 = .ok (.iload_n 3, 1) := by decide +kernel
theorem dX12_rounds_60 : decode cX12_rounds 60 = .ok (.iconst 2, 1) := by decide +kernel
theorem dX12_rounds_61 : decode cX12_rounds 61 = .ok (.if_icmp .ne 15, 3) := by decide +kernel
theorem dX12_rounds_64 : decode cX12_rounds 64 = .ok (.aload_n 0, 1) := by decide +kernel
theorem dX12_rounds_65 : decode cX12_rounds 65 = .ok (.getfield 393, 3) := by decide +kernel
theorem dX12_rounds_68 : decode cX12_rounds 68 = .ok (.aload_n 0, 1) := by decide +kernel
theorem dX12_rounds_69 : decode cX12_rounds 69 = .ok (.getfield 390, 3) := by decide +kernel
theorem dX12_rounds_72 : decode cX12_rounds 72 = .ok (.isub, 1) := by decide +kernel
theorem dX12_rounds_73 : decode cX12_rounds 73 = .ok (.goto 17, 3) := by decide +kernel
theorem dX12_rounds_76 : decode cX12_rounds 76 = .ok (.aload_n 0, 1) := by decide +kernel
theorem dX12_rounds_77 : decode cX12_rounds 77 = .ok (.iload_n 1, 1) := by decide +kernel
theorem dX12_rounds_78 : decode cX12_rounds 78 = .ok (.iload_n 2, 1) := by decide +kernel
theorem dX12_rounds_79 : decode cX12_rounds 79 = .ok (.invokevirtual 491, 3) := by decide +kernel
theorem dX12_rounds_82 : decode cX12_rounds 82 = .ok (.ifCond .eq 7, 3) := by decide +kernel
theorem dX12_rounds_85 : decode cX12_rounds 85 = .ok (.iconst 1, 1) := by decide +kernel
theorem dX12_rounds_86 : decode cX12_rounds 86 = .ok (.goto 4, 3) := by decide +kernel
theorem dX12_rounds_89 : decode cX12_rounds 89 = .ok (.iconst 0, 1) := by decide +kernel
theorem dX12_rounds_90 : decode cX12_rounds 90 = .ok (.ireturn, 1) := by decide +kernel
theorem dX12_exact_0 : decode cX12_exact 0 = .ok (.aload_n 0, 1) := by decide +kernel
theorem dX12_exact_1 : decode cX12_exact 1 = .ok (.iload_n 1, 1) := by decide +kernel
theorem dX12_exact_2 : decode cX12_exact 2 = .ok (.iload_n 2, 1) := by decide +kernel
theorem dX12_exact_3 : decode cX12_exact 3 = .ok (.invokevirtual 487, 3) := by decide +kernel
theorem dX12_exact_6 : decode cX12_exact 6 = .ok (.ifCond .ne 5, 3) := by decide +kernel
theorem dX12_exact_9 : decode cX12_exact 9 = .ok (.iconst (-1), 1) := by decide +kernel
theorem dX12_exact_10 : decode cX12_exact 10 = .ok (.ireturn, 1) := by decide +kernel
theorem dX12_exact_11 : decode cX12_exact 11 = .ok (.iconst 4, 1) := by decide +kernel
theorem dX12_exact_12 : decode cX12_exact 12 = .ok (.istore_n 3, 1) := by decide +kernel
theorem dX12_exact_13 : decode cX12_exact 13 = .ok (.iload_n 3, 1) := by decide +kernel
theorem dX12_exact_14 : decode cX12_exact 14 = .ok (.bipush 8, 2) := by decide +kernel
theorem dX12_exact_16 : decode cX12_exact 16 = .ok (.if_icmp .gt 27, 3) := by decide +kernel
theorem dX12_exact_19 : decode cX12_exact 19 = .ok (.aload_n 0, 1) := by decide +kernel
theorem dX12_exact_20 : decode cX12_exact 20 = .ok (.iload_n 3, 1) := by decide +kernel
theorem dX12_exact_21 : decode cX12_exact 21 = .ok (.iload_n 1, 1) := by decide +kernel
theorem dX12_exact_22 : decode cX12_exact 22 = .ok (.iload_n 2, 1) := by decide +kernel
theorem dX12_exact_23 : decode cX12_exact 23 = .ok (.invokevirtual 399, 3) := by decide +kernel
theorem dX12_exact_26 : decode cX12_exact 26 = .ok (.aload_n 0, 1) := by decide +kernel
theorem dX12_exact_27 : decode cX12_exact 27 = .ok (.iload_n 1, 1) := by decide +kernel
theorem dX12_exact_28 : decode cX12_exact 28 = .ok (.iload_n 2, 1) := by decide +kernel
theorem dX12_exact_29 : decode cX12_exact 29 = .ok (.invokevirtual 491, 3) := by decide +kernel
theorem dX12_exact_32 : decode cX12_exact 32 = .ok (.ifCond .eq 5, 3) := by decide +kernel
theorem dX12_exact_35 : decode cX12_exact 35 = .ok (.iload_n 3, 1) := by decide +kernel
theorem dX12_exact_36 : decode cX12_exact 36 = .ok (.ireturn, 1) := by decide +kernel
theorem dX12_exact_37 : decode cX12_exact 37 = .ok (.iinc 3 1, 3) := by decide +kernel
theorem dX12_exact_40 : decode cX12_exact 40 = .ok (.goto (-27), 3) := by decide +kernel
theorem dX12_exact_43 : decode cX12_exact 43 = .ok (.iconst (-1), 1) := by decide +kernel
theorem dX12_exact_44 : decode cX12_exact 44 = .ok (.ireturn, 1) := by decide +kernel
theorem dX12_fits_0 : decode cX12_fits 0 = .ok (.aload_n 0, 1) := by decide +kernel
theorem dX12_fits_1 : decode cX12_fits 1 = .ok (.iload_n 1, 1) := by decide +kernel
theorem dX12_fits_2 : decode cX12_fits 2 = .ok (.i2l, 1) := by decide +kernel
theorem dX12_fits_3 : decode cX12_fits 3 = .ok (.invokevirtual 418, 3) := by decide +kernel
theorem dX12_fits_6 : decode cX12_fits 6 = .ok (.ifCond .eq 17, 3) := by decide +kernel
theorem dX12_fits_9 : decode cX12_fits 9 = .ok (.iload_n 2, 1) := by decide +kernel
theorem dX12_fits_10 : decode cX12_fits 10 = .ok (.i2l, 1) := by decide +kernel
theorem dX12_fits_11 : decode cX12_fits 11 = .ok (.ldc2_w 494, 3) := by decide +kernel
theorem dX12_fits_14 : decode cX12_fits 14 = .ok (.ldc2_w 496, 3) := by decide +kernel
theorem dX12_fits_17 : decode cX12_fits 17 = .ok (.invokestatic 268, 3) := by decide +kernel
theorem dX12_fits_20 : decode cX12_fits 20 = .ok (.ifCond .ne 7, 3) := by decide +kernel
theorem dX12_fits_23 : decode cX12_fits 23 = .ok (.iconst (-1), 1) := by decide +kernel
theorem dX12_fits_24 : decode cX12_fits 24 = .ok (.goto 20, 3) := by decide +kernel
theorem dX12_fits_27 : decode cX12_fits 27 = .ok (.aload_n 0, 1) := by decide +kernel
theorem dX12_fits_28 : decode cX12_fits 28 = .ok (.bipush 8, 2) := by decide +kernel
theorem dX12_fits_30 : decode cX12_fits 30 = .ok (.iload_n 1, 1) := by decide +kernel
theorem dX12_fits_31 : decode cX12_fits 31 = .ok (.imul, 1) := by decide +kernel
theorem dX12_fits_32 : decode cX12_fits 32 = .ok (.iload_n 2, 1) := by decide +kernel
theorem dX12_fits_33 : decode cX12_fits 33 = .ok (.invokevirtual 498, 3) := by decide +kernel
theorem dX12_fits_36 : decode cX12_fits 36 = .ok (.ifCond .eq 7, 3) := by decide +kernel
theorem dX12_fits_39 : decode cX12_fits 39 = .ok (.iconst 1, 1) := by decide +kernel
theorem dX12_fits_40 : decode cX12_fits 40 = .ok (.goto 4, 3) := by decide +kernel
theorem dX12_fits_43 : decode cX12_fits 43 = .ok (.iconst 0, 1) := by decide +kernel
theorem dX12_fits_44 : decode cX12_fits 44 = .ok (.ireturn, 1) := by decide +kernel
theorem dX12_quick_0 : decode cX12_quick 0 = .ok (.aload_n 0, 1) := by decide +kernel
theorem dX12_quick_1 : decode cX12_quick 1 = .ok (.iload_n 1, 1) := by decide +kernel
theorem dX12_quick_2 : decode cX12_quick 2 = .ok (.i2l, 1) := by decide +kernel
theorem dX12_quick_3 : decode cX12_quick 3 = .ok (.invokevirtual 418, 3) := by decide +kernel
theorem dX12_quick_6 : decode cX12_quick 6 = .ok (.ifCond .eq 17, 3) := by decide +kernel
theorem dX12_quick_9 : decode cX12_quick 9 = .ok (.iload_n 2, 1) := by decide +kernel
theorem dX12_quick_10 : decode cX12_quick 10 = .ok (.i2l, 1) := by decide +kernel
theorem dX12_quick_11 : decode cX12_quick 11 = .ok (.ldc2_w 494, 3) := by decide +kernel
theorem dX12_quick_14 : decode cX12_quick 14 = .ok (.ldc2_w 496, 3) := by decide +kernel
theorem dX12_quick_17 : decode cX12_quick 17 = .ok (.invokestatic 268, 3) := by decide +kernel
theorem dX12_quick_20 : decode cX12_quick 20 = .ok (.ifCond .ne 7, 3) := by decide +kernel
theorem dX12_quick_23 : decode cX12_quick 23 = .ok (.iconst (-1), 1) := by decide +kernel
theorem dX12_quick_24 : decode cX12_quick 24 = .ok (.goto 20, 3) := by decide +kernel
theorem dX12_quick_27 : decode cX12_quick 27 = .ok (.aload_n 0, 1) := by decide +kernel
theorem dX12_quick_28 : decode cX12_quick 28 = .ok (.bipush 8, 2) := by decide +kernel
theorem dX12_quick_30 : decode cX12_quick 30 = .ok (.iload_n 1, 1) := by decide +kernel
theorem dX12_quick_31 : decode cX12_quick 31 = .ok (.imul, 1) := by decide +kernel
theorem dX12_quick_32 : decode cX12_quick 32 = .ok (.iload_n 2, 1) := by decide +kernel
theorem dX12_quick_33 : decode cX12_quick 33 = .ok (.invokevirtual 501, 3) := by decide +kernel
theorem dX12_quick_36 : decode cX12_quick 36 = .ok (.ifCond .eq 7, 3) := by decide +kernel
theorem dX12_quick_39 : decode cX12_quick 39 = .ok (.iconst 1, 1) := by decide +kernel
theorem dX12_quick_40 : decode cX12_quick 40 = .ok (.goto 4, 3) := by decide +kernel
theorem dX12_quick_43 : decode cX12_quick 43 = .ok (.iconst 0, 1) := by decide +kernel
theorem dX12_quick_44 : decode cX12_quick 44 = .ok (.ireturn, 1) := by decide +kernel
theorem dX12_window_0 : decode cX12_window 0 = .ok (.aload_n 0, 1) := by decide +kernel
theorem dX12_window_1 : decode cX12_window 1 = .ok (.iload_n 1, 1) := by decide +kernel
theorem dX12_window_2 : decode cX12_window 2 = .ok (.i2l, 1) := by decide +kernel
theorem dX12_window_3 : decode cX12_window 3 = .ok (.invokevirtual 418, 3) := by decide +kernel
theorem dX12_window_6 : decode cX12_window 6 = .ok (.ifCond .eq 13, 3) := by decide +kernel
theorem dX12_window_9 : decode cX12_window 9 = .ok (.iload_n 2, 1) := by decide +kernel
theorem dX12_window_10 : decode cX12_window 10 = .ok (.i2l, 1) := by decide +kernel
theorem dX12_window_11 : decode cX12_window 11 = .ok (.lconst 0, 1) := by decide +kernel
theorem dX12_window_12 : decode cX12_window 12 = .ok (.lconst 1, 1) := by decide +kernel
theorem dX12_window_13 : decode cX12_window 13 = .ok (.invokestatic 268, 3) := by decide +kernel
theorem dX12_window_16 : decode cX12_window 16 = .ok (.ifCond .ne 5, 3) := by decide +kernel
theorem dX12_window_19 : decode cX12_window 19 = .ok (.iconst (-1), 1) := by decide +kernel
theorem dX12_window_20 : decode cX12_window 20 = .ok (.ireturn, 1) := by decide +kernel
theorem dX12_window_21 : decode cX12_window 21 = .ok (.bipush 8, 2) := by decide +kernel
theorem dX12_window_23 : decode cX12_window 23 = .ok (.iload_n 1, 1) := by decide +kernel
theorem dX12_window_24 : decode cX12_window 24 = .ok (.imul, 1) := by decide +kernel
theorem dX12_window_25 : decode cX12_window 25 = .ok (.istore_n 3, 1) := by decide +kernel
theorem dX12_window_26 : decode cX12_window 26 = .ok (.iconst 0, 1) := by decide +kernel
theorem dX12_window_27 : decode cX12_window 27 = .ok (.istore 4, 2) := by decide +kernel
theorem dX12_window_29 : decode cX12_window 29 = .ok (.iconst 0, 1) := by decide +kernel
theorem dX12_window_30 : decode cX12_window 30 = .ok (.istore 5, 2) := by decide +kernel
theorem dX12_window_32 : decode cX12_window 32 = .ok (.iload 5, 2) := by decide +kernel
theorem dX12_window_34 : decode cX12_window 34 = .ok (.sipush 4096, 3) := by decide +kernel
theorem dX12_window_37 : decode cX12_window 37 = .ok (.if_icmp .ge 31, 3) := by decide +kernel
