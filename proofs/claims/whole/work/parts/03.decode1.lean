theorem dX6_up_6 : decode cX6_up 6 = .ok (.isub, 1) := by decide +kernel
theorem dX6_up_7 : decode cX6_up 7 = .ok (.iload_n 1, 1) := by decide +kernel
theorem dX6_up_8 : decode cX6_up 8 = .ok (.invokestatic 41, 3) := by decide +kernel
theorem dX6_up_11 : decode cX6_up 11 = .ok (.ireturn, 1) := by decide +kernel
theorem dX6_staysAsAsked_0 : decode cX6_staysAsAsked 0 = .ok (.iload_n 0, 1) := by decide +kernel
theorem dX6_staysAsAsked_1 : decode cX6_staysAsAsked 1 = .ok (.iload_n 0, 1) := by decide +kernel
theorem dX6_staysAsAsked_2 : decode cX6_staysAsAsked 2 = .ok (.iload_n 1, 1) := by decide +kernel
theorem dX6_staysAsAsked_3 : decode cX6_staysAsAsked 3 = .ok (.iadd, 1) := by decide +kernel
theorem dX6_staysAsAsked_4 : decode cX6_staysAsAsked 4 = .ok (.iload_n 2, 1) := by decide +kernel
theorem dX6_staysAsAsked_5 : decode cX6_staysAsAsked 5 = .ok (.invokestatic 44, 3) := by decide +kernel
theorem dX6_staysAsAsked_8 : decode cX6_staysAsAsked 8 = .ok (.istore_n 3, 1) := by decide +kernel
theorem dX6_staysAsAsked_9 : decode cX6_staysAsAsked 9 = .ok (.iload_n 0, 1) := by decide +kernel
theorem dX6_staysAsAsked_10 : decode cX6_staysAsAsked 10 = .ok (.iload_n 3, 1) := by decide +kernel
theorem dX6_staysAsAsked_11 : decode cX6_staysAsAsked 11 = .ok (.invokestatic 41, 3) := by decide +kernel
theorem dX6_staysAsAsked_14 : decode cX6_staysAsAsked 14 = .ok (.iload_n 0, 1) := by decide +kernel
theorem dX6_staysAsAsked_15 : decode cX6_staysAsAsked 15 = .ok (.if_icmp .ne 20, 3) := by decide +kernel
theorem dX6_staysAsAsked_18 : decode cX6_staysAsAsked 18 = .ok (.iload_n 0, 1) := by decide +kernel
theorem dX6_staysAsAsked_19 : decode cX6_staysAsAsked 19 = .ok (.iload_n 1, 1) := by decide +kernel
theorem dX6_staysAsAsked_20 : decode cX6_staysAsAsked 20 = .ok (.iadd, 1) := by decide +kernel
theorem dX6_staysAsAsked_21 : decode cX6_staysAsAsked 21 = .ok (.iload_n 3, 1) := by decide +kernel
theorem dX6_staysAsAsked_22 : decode cX6_staysAsAsked 22 = .ok (.invokestatic 37, 3) := by decide +kernel
theorem dX6_staysAsAsked_25 : decode cX6_staysAsAsked 25 = .ok (.iload_n 0, 1) := by decide +kernel
theorem dX6_staysAsAsked_26 : decode cX6_staysAsAsked 26 = .ok (.iload_n 1, 1) := by decide +kernel
theorem dX6_staysAsAsked_27 : decode cX6_staysAsAsked 27 = .ok (.iadd, 1) := by decide +kernel
theorem dX6_staysAsAsked_28 : decode cX6_staysAsAsked 28 = .ok (.if_icmp .ne 7, 3) := by decide +kernel
theorem dX6_staysAsAsked_31 : decode cX6_staysAsAsked 31 = .ok (.iconst 1, 1) := by decide +kernel
theorem dX6_staysAsAsked_32 : decode cX6_staysAsAsked 32 = .ok (.goto 4, 3) := by decide +kernel
theorem dX6_staysAsAsked_35 : decode cX6_staysAsAsked 35 = .ok (.iconst 0, 1) := by decide +kernel
theorem dX6_staysAsAsked_36 : decode cX6_staysAsAsked 36 = .ok (.ireturn, 1) := by decide +kernel
theorem dX6_carry_0 : decode cX6_carry 0 = .ok (.iconst 1, 1) := by decide +kernel
theorem dX6_carry_1 : decode cX6_carry 1 = .ok (.iload_n 3, 1) := by decide +kernel
theorem dX6_carry_2 : decode cX6_carry 2 = .ok (.ishl, 1) := by decide +kernel
theorem dX6_carry_3 : decode cX6_carry 3 = .ok (.iconst 1, 1) := by decide +kernel
theorem dX6_carry_4 : decode cX6_carry 4 = .ok (.isub, 1) := by decide +kernel
theorem dX6_carry_5 : decode cX6_carry 5 = .ok (.istore 4, 2) := by decide +kernel
theorem dX6_carry_7 : decode cX6_carry 7 = .ok (.aload_n 0, 1) := by decide +kernel
theorem dX6_carry_8 : decode cX6_carry 8 = .ok (.iload_n 1, 1) := by decide +kernel
theorem dX6_carry_9 : decode cX6_carry 9 = .ok (.iload_n 1, 1) := by decide +kernel
theorem dX6_carry_10 : decode cX6_carry 10 = .ok (.iload_n 2, 1) := by decide +kernel
theorem dX6_carry_11 : decode cX6_carry 11 = .ok (.iadd, 1) := by decide +kernel
theorem dX6_carry_12 : decode cX6_carry 12 = .ok (.iload_n 3, 1) := by decide +kernel
theorem dX6_carry_13 : decode cX6_carry 13 = .ok (.invokestatic 44, 3) := by decide +kernel
theorem dX6_carry_16 : decode cX6_carry 16 = .ok (.putfield 22, 3) := by decide +kernel
theorem dX6_carry_19 : decode cX6_carry 19 = .ok (.aload_n 0, 1) := by decide +kernel
theorem dX6_carry_20 : decode cX6_carry 20 = .ok (.iload_n 1, 1) := by decide +kernel
theorem dX6_carry_21 : decode cX6_carry 21 = .ok (.aload_n 0, 1) := by decide +kernel
theorem dX6_carry_22 : decode cX6_carry 22 = .ok (.getfield 22, 3) := by decide +kernel
theorem dX6_carry_25 : decode cX6_carry 25 = .ok (.invokestatic 41, 3) := by decide +kernel
theorem dX6_carry_28 : decode cX6_carry 28 = .ok (.aload_n 0, 1) := by decide +kernel
theorem dX6_carry_29 : decode cX6_carry 29 = .ok (.getfield 22, 3) := by decide +kernel
theorem dX6_carry_32 : decode cX6_carry 32 = .ok (.ishr, 1) := by decide +kernel
theorem dX6_carry_33 : decode cX6_carry 33 = .ok (.iload 4, 2) := by decide +kernel
theorem dX6_carry_35 : decode cX6_carry 35 = .ok (.iand, 1) := by decide +kernel
theorem dX6_carry_36 : decode cX6_carry 36 = .ok (.putfield 25, 3) := by decide +kernel
theorem dX6_carry_39 : decode cX6_carry 39 = .ok (.aload_n 0, 1) := by decide +kernel
theorem dX6_carry_40 : decode cX6_carry 40 = .ok (.iload_n 1, 1) := by decide +kernel
theorem dX6_carry_41 : decode cX6_carry 41 = .ok (.iload_n 2, 1) := by decide +kernel
theorem dX6_carry_42 : decode cX6_carry 42 = .ok (.iadd, 1) := by decide +kernel
theorem dX6_carry_43 : decode cX6_carry 43 = .ok (.aload_n 0, 1) := by decide +kernel
theorem dX6_carry_44 : decode cX6_carry 44 = .ok (.getfield 22, 3) := by decide +kernel
theorem dX6_carry_47 : decode cX6_carry 47 = .ok (.invokestatic 37, 3) := by decide +kernel
theorem dX6_carry_50 : decode cX6_carry 50 = .ok (.aload_n 0, 1) := by decide +kernel
theorem dX6_carry_51 : decode cX6_carry 51 = .ok (.getfield 22, 3) := by decide +kernel
theorem dX6_carry_54 : decode cX6_carry 54 = .ok (.ishr, 1) := by decide +kernel
theorem dX6_carry_55 : decode cX6_carry 55 = .ok (.iload 4, 2) := by decide +kernel
theorem dX6_carry_57 : decode cX6_carry 57 = .ok (.iand, 1) := by decide +kernel
theorem dX6_carry_58 : decode cX6_carry 58 = .ok (.putfield 28, 3) := by decide +kernel
theorem dX6_carry_61 : decode cX6_carry 61 = .ok (.return_, 1) := by decide +kernel
theorem dX6_base_0 : decode cX6_base 0 = .ok (.aload_n 0, 1) := by decide +kernel
theorem dX6_base_1 : decode cX6_base 1 = .ok (.aload_n 0, 1) := by decide +kernel
theorem dX6_base_2 : decode cX6_base 2 = .ok (.getfield 18, 3) := by decide +kernel
theorem dX6_base_5 : decode cX6_base 5 = .ok (.iload_n 1, 1) := by decide +kernel
theorem dX6_base_6 : decode cX6_base 6 = .ok (.invokevirtual 48, 3) := by decide +kernel
theorem dX6_base_9 : decode cX6_base 9 = .ok (.ireturn, 1) := by decide +kernel
theorem dX6_baseFrom_0 : decode cX6_baseFrom 0 = .ok (.iconst 1, 1) := by decide +kernel
theorem dX6_baseFrom_1 : decode cX6_baseFrom 1 = .ok (.iload_n 2, 1) := by decide +kernel
theorem dX6_baseFrom_2 : decode cX6_baseFrom 2 = .ok (.ishl, 1) := by decide +kernel
theorem dX6_baseFrom_3 : decode cX6_baseFrom 3 = .ok (.iconst 1, 1) := by decide +kernel
theorem dX6_baseFrom_4 : decode cX6_baseFrom 4 = .ok (.isub, 1) := by decide +kernel
theorem dX6_baseFrom_5 : decode cX6_baseFrom 5 = .ok (.istore_n 3, 1) := by decide +kernel
theorem dX6_baseFrom_6 : decode cX6_baseFrom 6 = .ok (.iload_n 1, 1) := by decide +kernel
theorem dX6_baseFrom_7 : decode cX6_baseFrom 7 = .ok (.aload_n 0, 1) := by decide +kernel
theorem dX6_baseFrom_8 : decode cX6_baseFrom 8 = .ok (.getfield 22, 3) := by decide +kernel
theorem dX6_baseFrom_11 : decode cX6_baseFrom 11 = .ok (.ishr, 1) := by decide +kernel
theorem dX6_baseFrom_12 : decode cX6_baseFrom 12 = .ok (.iload_n 3, 1) := by decide +kernel
theorem dX6_baseFrom_13 : decode cX6_baseFrom 13 = .ok (.iand, 1) := by decide +kernel
theorem dX6_baseFrom_14 : decode cX6_baseFrom 14 = .ok (.istore 4, 2) := by decide +kernel
theorem dX6_baseFrom_16 : decode cX6_baseFrom 16 = .ok (.aload_n 0, 1) := by decide +kernel
theorem dX6_baseFrom_17 : decode cX6_baseFrom 17 = .ok (.getfield 25, 3) := by decide +kernel
theorem dX6_baseFrom_20 : decode cX6_baseFrom 20 = .ok (.iconst 1, 1) := by decide +kernel
theorem dX6_baseFrom_21 : decode cX6_baseFrom 21 = .ok (.iload_n 2, 1) := by decide +kernel
theorem dX6_baseFrom_22 : decode cX6_baseFrom 22 = .ok (.iconst 2, 1) := by decide +kernel
theorem dX6_baseFrom_23 : decode cX6_baseFrom 23 = .ok (.isub, 1) := by decide +kernel
theorem dX6_baseFrom_24 : decode cX6_baseFrom 24 = .ok (.ishl, 1) := by decide +kernel
theorem dX6_baseFrom_25 : decode cX6_baseFrom 25 = .ok (.isub, 1) := by decide +kernel
theorem dX6_baseFrom_26 : decode cX6_baseFrom 26 = .ok (.iload_n 3, 1) := by decide +kernel
theorem dX6_baseFrom_27 : decode cX6_baseFrom 27 = .ok (.iand, 1) := by decide +kernel
theorem dX6_baseFrom_28 : decode cX6_baseFrom 28 = .ok (.istore 5, 2) := by decide +kernel
theorem dX6_baseFrom_30 : decode cX6_baseFrom 30 = .ok (.aload_n 0, 1) := by decide +kernel
theorem dX6_baseFrom_31 : decode cX6_baseFrom 31 = .ok (.getfield 25, 3) := by decide +kernel
theorem dX6_baseFrom_34 : decode cX6_baseFrom 34 = .ok (.iload 5, 2) := by decide +kernel
theorem dX6_baseFrom_36 : decode cX6_baseFrom 36 = .ok (.if_icmp .ge 7, 3) := by decide +kernel
theorem dX6_baseFrom_39 : decode cX6_baseFrom 39 = .ok (.iconst 1, 1) := by decide +kernel
theorem dX6_baseFrom_40 : decode cX6_baseFrom 40 = .ok (.goto 4, 3) := by decide +kernel
theorem dX6_baseFrom_43 : decode cX6_baseFrom 43 = .ok (.iconst 0, 1) := by decide +kernel
theorem dX6_baseFrom_44 : decode cX6_baseFrom 44 = .ok (.iload 4, 2) := by decide +kernel
theorem dX6_baseFrom_46 : decode cX6_baseFrom 46 = .ok (.iload 5, 2) := by decide +kernel
theorem dX6_baseFrom_48 : decode cX6_baseFrom 48 = .ok (.if_icmp .ge 7, 3) := by decide +kernel
theorem dX6_baseFrom_51 : decode cX6_baseFrom 51 = .ok (.iconst 1, 1) := by decide +kernel
theorem dX6_baseFrom_52 : decode cX6_baseFrom 52 = .ok (.goto 4, 3) := by decide +kernel
theorem dX6_baseFrom_55 : decode cX6_baseFrom 55 = .ok (.iconst 0, 1) := by decide +kernel
theorem dX6_baseFrom_56 : decode cX6_baseFrom 56 = .ok (.isub, 1) := by decide +kernel
theorem dX6_baseFrom_57 : decode cX6_baseFrom 57 = .ok (.istore 6, 2) := by decide +kernel
theorem dX6_baseFrom_59 : decode cX6_baseFrom 59 = .ok (.aload_n 0, 1) := by decide +kernel
theorem dX6_baseFrom_60 : decode cX6_baseFrom 60 = .ok (.getfield 22, 3) := by decide +kernel
theorem dX6_baseFrom_63 : decode cX6_baseFrom 63 = .ok (.iload_n 2, 1) := by decide +kernel
theorem dX6_baseFrom_64 : decode cX6_baseFrom 64 = .ok (.iadd, 1) := by decide +kernel
theorem dX6_baseFrom_65 : decode cX6_baseFrom 65 = .ok (.istore 7, 2) := by decide +kernel
theorem dX6_baseFrom_67 : decode cX6_baseFrom 67 = .ok (.iload_n 1, 1) := by decide +kernel
theorem dX6_baseFrom_68 : decode cX6_baseFrom 68 = .ok (.iload 7, 2) := by decide +kernel
theorem dX6_baseFrom_70 : decode cX6_baseFrom 70 = .ok (.ishr, 1) := by decide +kernel
theorem dX6_baseFrom_71 : decode cX6_baseFrom 71 = .ok (.iload 6, 2) := by decide +kernel
theorem dX6_baseFrom_73 : decode cX6_baseFrom 73 = .ok (.iadd, 1) := by decide +kernel
theorem dX6_baseFrom_74 : decode cX6_baseFrom 74 = .ok (.iload 7, 2) := by decide +kernel
theorem dX6_baseFrom_76 : decode cX6_baseFrom 76 = .ok (.ishl, 1) := by decide +kernel
theorem dX6_baseFrom_77 : decode cX6_baseFrom 77 = .ok (.istore 8, 2) := by decide +kernel
theorem dX6_baseFrom_79 : decode cX6_baseFrom 79 = .ok (.iload 8, 2) := by decide +kernel
theorem dX6_baseFrom_81 : decode cX6_baseFrom 81 = .ok (.aload_n 0, 1) := by decide +kernel
theorem dX6_baseFrom_82 : decode cX6_baseFrom 82 = .ok (.getfield 25, 3) := by decide +kernel
theorem dX6_baseFrom_85 : decode cX6_baseFrom 85 = .ok (.aload_n 0, 1) := by decide +kernel
theorem dX6_baseFrom_86 : decode cX6_baseFrom 86 = .ok (.getfield 22, 3) := by decide +kernel
theorem dX6_baseFrom_89 : decode cX6_baseFrom 89 = .ok (.ishl, 1) := by decide +kernel
theorem dX6_baseFrom_90 : decode cX6_baseFrom 90 = .ok (.iadd, 1) := by decide +kernel
theorem dX6_baseFrom_91 : decode cX6_baseFrom 91 = .ok (.sipush 4095, 3) := by decide +kernel
theorem dX6_baseFrom_94 : decode cX6_baseFrom 94 = .ok (.iand, 1) := by decide +kernel
theorem dX6_baseFrom_95 : decode cX6_baseFrom 95 = .ok (.ireturn, 1) := by decide +kernel
theorem dX6_extent_0 : decode cX6_extent 0 = .ok (.aload_n 0, 1) := by decide +kernel
theorem dX6_extent_1 : decode cX6_extent 1 = .ok (.getfield 28, 3) := by decide +kernel
theorem dX6_extent_4 : decode cX6_extent 4 = .ok (.aload_n 0, 1) := by decide +kernel
theorem dX6_extent_5 : decode cX6_extent 5 = .ok (.getfield 25, 3) := by decide +kernel
theorem dX6_extent_8 : decode cX6_extent 8 = .ok (.isub, 1) := by decide +kernel
theorem dX6_extent_9 : decode cX6_extent 9 = .ok (.iconst 1, 1) := by decide +kernel
theorem dX6_extent_10 : decode cX6_extent 10 = .ok (.iload_n 1, 1) := by decide +kernel
theorem dX6_extent_11 : decode cX6_extent 11 = .ok (.ishl, 1) := by decide +kernel
theorem dX6_extent_12 : decode cX6_extent 12 = .ok (.iconst 1, 1) := by decide +kernel
theorem dX6_extent_13 : decode cX6_extent 13 = .ok (.isub, 1) := by decide +kernel
theorem dX6_extent_14 : decode cX6_extent 14 = .ok (.iand, 1) := by decide +kernel
theorem dX6_extent_15 : decode cX6_extent 15 = .ok (.aload_n 0, 1) := by decide +kernel
theorem dX6_extent_16 : decode cX6_extent 16 = .ok (.getfield 22, 3) := by decide +kernel
theorem dX6_extent_19 : decode cX6_extent 19 = .ok (.ishl, 1) := by decide +kernel
theorem dX6_extent_20 : decode cX6_extent 20 = .ok (.ireturn, 1) := by decide +kernel
theorem dX6_isUsable_0 : decode cX6_isUsable 0 = .ok (.aload_n 0, 1) := by decide +kernel
theorem dX6_isUsable_1 : decode cX6_isUsable 1 = .ok (.getfield 15, 3) := by decide +kernel
theorem dX6_isUsable_4 : decode cX6_isUsable 4 = .ok (.ifCond .eq 14, 3) := by decide +kernel
theorem dX6_isUsable_7 : decode cX6_isUsable 7 = .ok (.aload_n 0, 1) := by decide +kernel
theorem dX6_isUsable_8 : decode cX6_isUsable 8 = .ok (.getfield 34, 3) := by decide +kernel
theorem dX6_isUsable_11 : decode cX6_isUsable 11 = .ok (.ifCond .ne 7, 3) := by decide +kernel
theorem dX6_isUsable_14 : decode cX6_isUsable 14 = .ok (.iconst 1, 1) := by decide +kernel
theorem dX6_isUsable_15 : decode cX6_isUsable 15 = .ok (.goto 4, 3) := by decide +kernel
theorem dX6_isUsable_18 : decode cX6_isUsable 18 = .ok (.iconst 0, 1) := by decide +kernel
theorem dX6_isUsable_19 : decode cX6_isUsable 19 = .ok (.ireturn, 1) := by decide +kernel
theorem dX6_covers_0 : decode cX6_covers 0 = .ok (.aload_n 0, 1) := by decide +kernel
theorem dX6_covers_1 : decode cX6_covers 1 = .ok (.iload_n 2, 1) := by decide +kernel
theorem dX6_covers_2 : decode cX6_covers 2 = .ok (.invokevirtual 51, 3) := by decide +kernel
theorem dX6_covers_5 : decode cX6_covers 5 = .ok (.istore_n 3, 1) := by decide +kernel
theorem dX6_covers_6 : decode cX6_covers 6 = .ok (.iload_n 1, 1) := by decide +kernel
theorem dX6_covers_7 : decode cX6_covers 7 = .ok (.iload_n 3, 1) := by decide +kernel
theorem dX6_covers_8 : decode cX6_covers 8 = .ok (.if_icmp .lt 18, 3) := by decide +kernel
theorem dX6_covers_11 : decode cX6_covers 11 = .ok (.iload_n 1, 1) := by decide +kernel
theorem dX6_covers_12 : decode cX6_covers 12 = .ok (.iload_n 3, 1) := by decide +kernel
theorem dX6_covers_13 : decode cX6_covers 13 = .ok (.aload_n 0, 1) := by decide +kernel
theorem dX6_covers_14 : decode cX6_covers 14 = .ok (.iload_n 2, 1) := by decide +kernel
theorem dX6_covers_15 : decode cX6_covers 15 = .ok (.invokevirtual 55, 3) := by decide +kernel
theorem dX6_covers_18 : decode cX6_covers 18 = .ok (.iadd, 1) := by decide +kernel
theorem dX6_covers_19 : decode cX6_covers 19 = .ok (.if_icmp .ge 7, 3) := by decide +kernel
theorem dX6_covers_22 : decode cX6_covers 22 = .ok (.iconst 1, 1) := by decide +kernel
theorem dX6_covers_23 : decode cX6_covers 23 = .ok (.goto 4, 3) := by decide +kernel
theorem dX6_covers_26 : decode cX6_covers 26 = .ok (.iconst 0, 1) := by decide +kernel
theorem dX6_covers_27 : decode cX6_covers 27 = .ok (.ireturn, 1) := by decide +kernel
theorem dX6_keepsBounds_0 : decode cX6_keepsBounds 0 = .ok (.aload_n 0, 1) := by decide +kernel
theorem dX6_keepsBounds_1 : decode cX6_keepsBounds 1 = .ok (.getfield 18, 3) := by decide +kernel
theorem dX6_keepsBounds_4 : decode cX6_keepsBounds 4 = .ok (.iload_n 1, 1) := by decide +kernel
theorem dX6_keepsBounds_5 : decode cX6_keepsBounds 5 = .ok (.iadd, 1) := by decide +kernel
theorem dX6_keepsBounds_6 : decode cX6_keepsBounds 6 = .ok (.sipush 4095, 3) := by decide +kernel
theorem dX6_keepsBounds_9 : decode cX6_keepsBounds 9 = .ok (.iand, 1) := by decide +kernel
theorem dX6_keepsBounds_10 : decode cX6_keepsBounds 10 = .ok (.istore_n 3, 1) := by decide +kernel
theorem dX6_keepsBounds_11 : decode cX6_keepsBounds 11 = .ok (.aload_n 0, 1) := by decide +kernel
theorem dX6_keepsBounds_12 : decode cX6_keepsBounds 12 = .ok (.iload_n 3, 1) := by decide +kernel
theorem dX6_keepsBounds_13 : decode cX6_keepsBounds 13 = .ok (.iload_n 2, 1) := by decide +kernel
theorem dX6_keepsBounds_14 : decode cX6_keepsBounds 14 = .ok (.invokevirtual 48, 3) := by decide +kernel
theorem dX6_keepsBounds_17 : decode cX6_keepsBounds 17 = .ok (.aload_n 0, 1) := by decide +kernel
theorem dX6_keepsBounds_18 : decode cX6_keepsBounds 18 = .ok (.aload_n 0, 1) := by decide +kernel
theorem dX6_keepsBounds_19 : decode cX6_keepsBounds 19 = .ok (.getfield 18, 3) := by decide +kernel
theorem dX6_keepsBounds_22 : decode cX6_keepsBounds 22 = .ok (.iload_n 2, 1) := by decide +kernel
theorem dX6_keepsBounds_23 : decode cX6_keepsBounds 23 = .ok (.invokevirtual 48, 3) := by decide +kernel
theorem dX6_keepsBounds_26 : decode cX6_keepsBounds 26 = .ok (.if_icmp .ne 7, 3) := by decide +kernel
theorem dX6_keepsBounds_29 : decode cX6_keepsBounds 29 = .ok (.iconst 1, 1) := by decide +kernel
theorem dX6_keepsBounds_30 : decode cX6_keepsBounds 30 = .ok (.goto 4, 3) := by decide +kernel
theorem dX6_keepsBounds_33 : decode cX6_keepsBounds 33 = .ok (.iconst 0, 1) := by decide +kernel
theorem dX6_keepsBounds_34 : decode cX6_keepsBounds 34 = .ok (.ireturn, 1) := by decide +kernel
theorem dX6_isQuick_0 : decode cX6_isQuick 0 = .ok (.iconst 1, 1) := by decide +kernel
theorem dX6_isQuick_1 : decode cX6_isQuick 1 = .ok (.iload_n 2, 1) := by decide +kernel
theorem dX6_isQuick_2 : decode cX6_isQuick 2 = .ok (.ishl, 1) := by decide +kernel
theorem dX6_isQuick_3 : decode cX6_isQuick 3 = .ok (.iconst 1, 1) := by decide +kernel
theorem dX6_isQuick_4 : decode cX6_isQuick 4 = .ok (.isub, 1) := by decide +kernel
theorem dX6_isQuick_5 : decode cX6_isQuick 5 = .ok (.istore_n 3, 1) := by decide +kernel
theorem dX6_isQuick_6 : decode cX6_isQuick 6 = .ok (.iload_n 1, 1) := by decide +kernel
theorem dX6_isQuick_7 : decode cX6_isQuick 7 = .ok (.aload_n 0, 1) := by decide +kernel
theorem dX6_isQuick_8 : decode cX6_isQuick 8 = .ok (.getfield 22, 3) := by decide +kernel
theorem dX6_isQuick_11 : decode cX6_isQuick 11 = .ok (.iload_n 2, 1) := by decide +kernel
theorem dX6_isQuick_12 : decode cX6_isQuick 12 = .ok (.iadd, 1) := by decide +kernel
theorem dX6_isQuick_13 : decode cX6_isQuick 13 = .ok (.ishr, 1) := by decide +kernel
theorem dX6_isQuick_14 : decode cX6_isQuick 14 = .ok (.istore 4, 2) := by decide +kernel
theorem dX6_isQuick_16 : decode cX6_isQuick 16 = .ok (.iload_n 1, 1) := by decide +kernel
theorem dX6_isQuick_17 : decode cX6_isQuick 17 = .ok (.aload_n 0, 1) := by decide +kernel
theorem dX6_isQuick_18 : decode cX6_isQuick 18 = .ok (.getfield 22, 3) := by decide +kernel
theorem dX6_isQuick_21 : decode cX6_isQuick 21 = .ok (.ishr, 1) := by decide +kernel
theorem dX6_isQuick_22 : decode cX6_isQuick 22 = .ok (.iload_n 3, 1) := by decide +kernel
theorem dX6_isQuick_23 : decode cX6_isQuick 23 = .ok (.iand, 1) := by decide +kernel
theorem dX6_isQuick_24 : decode cX6_isQuick 24 = .ok (.istore 5, 2) := by decide +kernel
theorem dX6_isQuick_26 : decode cX6_isQuick 26 = .ok (.aload_n 0, 1) := by decide +kernel
theorem dX6_isQuick_27 : decode cX6_isQuick 27 = .ok (.getfield 25, 3) := by decide +kernel
theorem dX6_isQuick_30 : decode cX6_isQuick 30 = .ok (.iconst 1, 1) := by decide +kernel
theorem dX6_isQuick_31 : decode cX6_isQuick 31 = .ok (.iload_n 2, 1) := by decide +kernel
theorem dX6_isQuick_32 : decode cX6_isQuick 32 = .ok (.iconst 2, 1) := by decide +kernel
theorem dX6_isQuick_33 : decode cX6_isQuick 33 = .ok (.isub, 1) := by decide +kernel
theorem dX6_isQuick_34 : decode cX6_isQuick 34 = .ok (.ishl, 1) := by decide +kernel
theorem dX6_isQuick_35 : decode cX6_isQuick 35 = .ok (.isub, 1) := by decide +kernel
theorem dX6_isQuick_36 : decode cX6_isQuick 36 = .ok (.istore 6, 2) := by decide +kernel
theorem dX6_isQuick_38 : decode cX6_isQuick 38 = .ok (.iload 6, 2) := by decide +kernel
theorem dX6_isQuick_40 : decode cX6_isQuick 40 = .ok (.aload_n 0, 1) := by decide +kernel
theorem dX6_isQuick_41 : decode cX6_isQuick 41 = .ok (.getfield 18, 3) := by decide +kernel
theorem dX6_isQuick_44 : decode cX6_isQuick 44 = .ok (.aload_n 0, 1) := by decide +kernel
theorem dX6_isQuick_45 : decode cX6_isQuick 45 = .ok (.getfield 22, 3) := by decide +kernel
theorem dX6_isQuick_48 : decode cX6_isQuick 48 = .ok (.ishr, 1) := by decide +kernel
theorem dX6_isQuick_49 : decode cX6_isQuick 49 = .ok (.isub, 1) := by decide +kernel
theorem dX6_isQuick_50 : decode cX6_isQuick 50 = .ok (.iload_n 3, 1) := by decide +kernel
theorem dX6_isQuick_51 : decode cX6_isQuick 51 = .ok (.iand, 1) := by decide +kernel
theorem dX6_isQuick_52 : decode cX6_isQuick 52 = .ok (.istore 7, 2) := by decide +kernel
theorem dX6_isQuick_54 : decode cX6_isQuick 54 = .ok (.iload 4, 2) := by decide +kernel
theorem dX6_isQuick_56 : decode cX6_isQuick 56 = .ok (.ifCond .ne 18, 3) := by decide +kernel
theorem dX6_isQuick_59 : decode cX6_isQuick 59 = .ok (.iload 5, 2) := by decide +kernel
theorem dX6_isQuick_61 : decode cX6_isQuick 61 = .ok (.iload 7, 2) := by decide +kernel
theorem dX6_isQuick_63 : decode cX6_isQuick 63 = .ok (.iconst 1, 1) := by decide +kernel
theorem dX6_isQuick_64 : decode cX6_isQuick 64 = .ok (.isub, 1) := by decide +kernel
theorem dX6_isQuick_65 : decode cX6_isQuick 65 = .ok (.if_icmp .ge 7, 3) := by decide +kernel
theorem dX6_isQuick_68 : decode cX6_isQuick 68 = .ok (.iconst 1, 1) := by decide +kernel
theorem dX6_isQuick_69 : decode cX6_isQuick 69 = .ok (.goto 4, 3) := by decide +kernel
theorem dX6_isQuick_72 : decode cX6_isQuick 72 = .ok (.iconst 0, 1) := by decide +kernel
theorem dX6_isQuick_73 : decode cX6_isQuick 73 = .ok (.ireturn, 1) := by decide +kernel
theorem dX6_isQuick_74 : decode cX6_isQuick 74 = .ok (.iload 4, 2) := by decide +kernel
theorem dX6_isQuick_76 : decode cX6_isQuick 76 = .ok (.iconst (-1), 1) := by decide +kernel
theorem dX6_isQuick_77 : decode cX6_isQuick 77 = .ok (.if_icmp .ne 19, 3) := by decide +kernel
theorem dX6_isQuick_80 : decode cX6_isQuick 80 = .ok (.iload 5, 2) := by decide +kernel
theorem dX6_isQuick_82 : decode cX6_isQuick 82 = .ok (.iload 7, 2) := by decide +kernel
theorem dX6_isQuick_84 : decode cX6_isQuick 84 = .ok (.if_icmp .lt 12, 3) := by decide +kernel
theorem dX6_isQuick_87 : decode cX6_isQuick 87 = .ok (.iload 7, 2) := by decide +kernel
theorem dX6_isQuick_89 : decode cX6_isQuick 89 = .ok (.ifCond .eq 7, 3) := by decide +kernel
theorem dX6_isQuick_92 : decode cX6_isQuick 92 = .ok (.iconst 1, 1) := by decide +kernel
theorem dX6_isQuick_93 : decode cX6_isQuick 93 = .ok (.goto 4, 3) := by decide +kernel
theorem dX6_isQuick_96 : decode cX6_isQuick 96 = .ok (.iconst 0, 1) := by decide +kernel
theorem dX6_isQuick_97 : decode cX6_isQuick 97 = .ok (.ireturn, 1) := by decide +kernel
theorem dX6_windowSize_0 : decode cX6_windowSize 0 = .ok (.sipush 4096, 3) := by decide +kernel
theorem dX6_windowSize_3 : decode cX6_windowSize 3 = .ok (.iconst 1, 1) := by decide +kernel
theorem dX6_windowSize_4 : decode cX6_windowSize 4 = .ok (.aload_n 0, 1) := by decide +kernel
theorem dX6_windowSize_5 : decode cX6_windowSize 5 = .ok (.getfield 22, 3) := by decide +kernel
theorem dX6_windowSize_8 : decode cX6_windowSize 8 = .ok (.iload_n 1, 1) := by decide +kernel
theorem dX6_windowSize_9 : decode cX6_windowSize 9 = .ok (.iadd, 1) := by decide +kernel
theorem dX6_windowSize_10 : decode cX6_windowSize 10 = .ok (.ishl, 1) := by decide +kernel
theorem dX6_windowSize_11 : decode cX6_windowSize 11 = .ok (.invokestatic 58, 3) := by decide +kernel
theorem dX6_windowSize_14 : decode cX6_windowSize 14 = .ok (.ireturn, 1) := by decide +kernel
theorem dX6_windowStart_0 : decode cX6_windowStart 0 = .ok (.aload_n 0, 1) := by decide +kernel
theorem dX6_windowStart_1 : decode cX6_windowStart 1 = .ok (.iload_n 1, 1) := by decide +kernel
theorem dX6_windowStart_2 : decode cX6_windowStart 2 = .ok (.invokevirtual 51, 3) := by decide +kernel
theorem dX6_windowStart_5 : decode cX6_windowStart 5 = .ok (.iconst 1, 1) := by decide +kernel
theorem dX6_windowStart_6 : decode cX6_windowStart 6 = .ok (.aload_n 0, 1) := by decide +kernel
theorem dX6_windowStart_7 : decode cX6_windowStart 7 = .ok (.getfield 22, 3) := by decide +kernel
theorem dX6_windowStart_10 : decode cX6_windowStart 10 = .ok (.iload_n 1, 1) := by decide +kernel
theorem dX6_windowStart_11 : decode cX6_windowStart 11 = .ok (.iadd, 1) := by decide +kernel
theorem dX6_windowStart_12 : decode cX6_windowStart 12 = .ok (.iconst 2, 1) := by decide +kernel
theorem dX6_windowStart_13 : decode cX6_windowStart 13 = .ok (.isub, 1) := by decide +kernel
theorem dX6_windowStart_14 : decode cX6_windowStart 14 = .ok (.ishl, 1) := by decide +kernel
theorem dX6_windowStart_15 : decode cX6_windowStart 15 = .ok (.isub, 1) := by decide +kernel
theorem dX6_windowStart_16 : decode cX6_windowStart 16 = .ok (.sipush 4095, 3) := by decide +kernel
theorem dX6_windowStart_19 : decode cX6_windowStart 19 = .ok (.iand, 1) := by decide +kernel
theorem dX6_windowStart_20 : decode cX6_windowStart 20 = .ok (.ireturn, 1) := by decide +kernel
theorem dX6_countSlow_0 : decode cX6_countSlow 0 = .ok (.iconst 0, 1) := by decide +kernel
theorem dX6_countSlow_1 : decode cX6_countSlow 1 = .ok (.istore_n 2, 1) := by decide +kernel
theorem dX6_countSlow_2 : decode cX6_countSlow 2 = .ok (.bipush (-64), 2) := by decide +kernel
theorem dX6_countSlow_4 : decode cX6_countSlow 4 = .ok (.istore_n 3, 1) := by decide +kernel
theorem dX6_countSlow_5 : decode cX6_countSlow 5 = .ok (.iload_n 3, 1) := by decide +kernel
theorem dX6_countSlow_6 : decode cX6_countSlow 6 = .ok (.bipush 64, 2) := by decide +kernel
theorem dX6_countSlow_8 : decode cX6_countSlow 8 = .ok (.if_icmp .ge 30, 3) := by decide +kernel
theorem dX6_countSlow_11 : decode cX6_countSlow 11 = .ok (.aload_n 0, 1) := by decide +kernel
theorem dX6_countSlow_12 : decode cX6_countSlow 12 = .ok (.iload_n 3, 1) := by decide +kernel
theorem dX6_countSlow_13 : decode cX6_countSlow 13 = .ok (.iload_n 1, 1) := by decide +kernel
theorem dX6_countSlow_14 : decode cX6_countSlow 14 = .ok (.invokevirtual 65, 3) := by decide +kernel
theorem dX6_countSlow_17 : decode cX6_countSlow 17 = .ok (.ifCond .eq 15, 3) := by decide +kernel
theorem dX6_countSlow_20 : decode cX6_countSlow 20 = .ok (.aload_n 0, 1) := by decide +kernel
theorem dX6_countSlow_21 : decode cX6_countSlow 21 = .ok (.iload_n 3, 1) := by decide +kernel
theorem dX6_countSlow_22 : decode cX6_countSlow 22 = .ok (.iload_n 1, 1) := by decide +kernel
theorem dX6_countSlow_23 : decode cX6_countSlow 23 = .ok (.invokevirtual 69, 3) := by decide +kernel
theorem dX6_countSlow_26 : decode cX6_countSlow 26 = .ok (.ifCond .ne 6, 3) := by decide +kernel
theorem dX6_countSlow_29 : decode cX6_countSlow 29 = .ok (.iinc 2 1, 3) := by decide +kernel
theorem dX6_countSlow_32 : decode cX6_countSlow 32 = .ok (.iinc 3 1, 3) := by decide +kernel
theorem dX6_countSlow_35 : decode cX6_countSlow 35 = .ok (.goto (-30), 3) := by decide +kernel
theorem dX6_countSlow_38 : decode cX6_countSlow 38 = .ok (.iload_n 2, 1) := by decide +kernel
theorem dX6_countSlow_39 : decode cX6_countSlow 39 = .ok (.ireturn, 1) := by decide +kernel
theorem dX6_canNarrow_0 : decode cX6_canNarrow 0 = .ok (.aload_n 0, 1) := by decide +kernel
theorem dX6_canNarrow_1 : decode cX6_canNarrow 1 = .ok (.invokevirtual 72, 3) := by decide +kernel
theorem dX6_canNarrow_4 : decode cX6_canNarrow 4 = .ok (.ifCond .eq 19, 3) := by decide +kernel
theorem dX6_canNarrow_7 : decode cX6_canNarrow 7 = .ok (.iload_n 1, 1) := by decide +kernel
theorem dX6_canNarrow_8 : decode cX6_canNarrow 8 = .ok (.ifCond .lt 15, 3) := by decide +kernel
theorem dX6_canNarrow_11 : decode cX6_canNarrow 11 = .ok (.iload_n 1, 1) := by decide +kernel
theorem dX6_canNarrow_12 : decode cX6_canNarrow 12 = .ok (.sipush 4096, 3) := by decide +kernel
theorem dX6_canNarrow_15 : decode cX6_canNarrow 15 = .ok (.aload_n 0, 1) := by decide +kernel
theorem dX6_canNarrow_16 : decode cX6_canNarrow 16 = .ok (.getfield 18, 3) := by decide +kernel
theorem dX6_canNarrow_19 : decode cX6_canNarrow 19 = .ok (.isub, 1) := by decide +kernel
theorem dX6_canNarrow_20 : decode cX6_canNarrow 20 = .ok (.if_icmp .le 5, 3) := by decide +kernel
theorem dX6_canNarrow_23 : decode cX6_canNarrow 23 = .ok (.iconst 0, 1) := by decide +kernel
theorem dX6_canNarrow_24 : decode cX6_canNarrow 24 = .ok (.ireturn, 1) := by decide +kernel
theorem dX6_canNarrow_25 : decode cX6_canNarrow 25 = .ok (.aload_n 0, 1) := by decide +kernel
theorem dX6_canNarrow_26 : decode cX6_canNarrow 26 = .ok (.getfield 18, 3) := by decide +kernel
theorem dX6_canNarrow_29 : decode cX6_canNarrow 29 = .ok (.aload_n 0, 1) := by decide +kernel
theorem dX6_canNarrow_30 : decode cX6_canNarrow 30 = .ok (.getfield 18, 3) := by decide +kernel
theorem dX6_canNarrow_33 : decode cX6_canNarrow 33 = .ok (.iload_n 1, 1) := by decide +kernel
theorem dX6_canNarrow_34 : decode cX6_canNarrow 34 = .ok (.iadd, 1) := by decide +kernel
theorem dX6_canNarrow_35 : decode cX6_canNarrow 35 = .ok (.iload_n 2, 1) := by decide +kernel
theorem dX6_canNarrow_36 : decode cX6_canNarrow 36 = .ok (.invokestatic 44, 3) := by decide +kernel
theorem dX6_canNarrow_39 : decode cX6_canNarrow 39 = .ok (.istore_n 3, 1) := by decide +kernel
theorem dX6_canNarrow_40 : decode cX6_canNarrow 40 = .ok (.aload_n 0, 1) := by decide +kernel
theorem dX6_canNarrow_41 : decode cX6_canNarrow 41 = .ok (.iload_n 2, 1) := by decide +kernel
theorem dX6_canNarrow_42 : decode cX6_canNarrow 42 = .ok (.invokevirtual 51, 3) := by decide +kernel
theorem dX6_canNarrow_45 : decode cX6_canNarrow 45 = .ok (.istore 4, 2) := by decide +kernel
theorem dX6_canNarrow_47 : decode cX6_canNarrow 47 = .ok (.aload_n 0, 1) := by decide +kernel
theorem dX6_canNarrow_48 : decode cX6_canNarrow 48 = .ok (.getfield 18, 3) := by decide +kernel
theorem dX6_canNarrow_51 : decode cX6_canNarrow 51 = .ok (.iload_n 3, 1) := by decide +kernel
theorem dX6_canNarrow_52 : decode cX6_canNarrow 52 = .ok (.invokestatic 41, 3) := by decide +kernel
theorem dX6_canNarrow_55 : decode cX6_canNarrow 55 = .ok (.iload 4, 2) := by decide +kernel
theorem dX6_canNarrow_57 : decode cX6_canNarrow 57 = .ok (.if_icmp .lt 28, 3) := by decide +kernel
theorem dX6_canNarrow_60 : decode cX6_canNarrow 60 = .ok (.aload_n 0, 1) := by decide +kernel
theorem dX6_canNarrow_61 : decode cX6_canNarrow 61 = .ok (.getfield 18, 3) := by decide +kernel
theorem dX6_canNarrow_64 : decode cX6_canNarrow 64 = .ok (.iload_n 1, 1) := by decide +kernel
theorem dX6_canNarrow_65 : decode cX6_canNarrow 65 = .ok (.iadd, 1) := by decide +kernel
theorem dX6_canNarrow_66 : decode cX6_canNarrow 66 = .ok (.iload_n 3, 1) := by decide +kernel
theorem dX6_canNarrow_67 : decode cX6_canNarrow 67 = .ok (.invokestatic 37, 3) := by decide +kernel
theorem dX6_canNarrow_70 : decode cX6_canNarrow 70 = .ok (.iload 4, 2) := by decide +kernel
theorem dX6_canNarrow_72 : decode cX6_canNarrow 72 = .ok (.aload_n 0, 1) := by decide +kernel
theorem dX6_canNarrow_73 : decode cX6_canNarrow 73 = .ok (.iload_n 2, 1) := by decide +kernel
theorem dX6_canNarrow_74 : decode cX6_canNarrow 74 = .ok (.invokevirtual 55, 3) := by decide +kernel
theorem dX6_canNarrow_77 : decode cX6_canNarrow 77 = .ok (.iadd, 1) := by decide +kernel
theorem dX6_canNarrow_78 : decode cX6_canNarrow 78 = .ok (.if_icmp .gt 7, 3) := by decide +kernel
theorem dX6_canNarrow_81 : decode cX6_canNarrow 81 = .ok (.iconst 1, 1) := by decide +kernel
theorem dX6_canNarrow_82 : decode cX6_canNarrow 82 = .ok (.goto 4, 3) := by decide +kernel
theorem dX6_canNarrow_85 : decode cX6_canNarrow 85 = .ok (.iconst 0, 1) := by decide +kernel
theorem dX6_canNarrow_86 : decode cX6_canNarrow 86 = .ok (.ireturn, 1) := by decide +kernel
theorem dX6_tell_0 : decode cX6_tell 0 = .ok (.iload_n 1, 1) := by decide +kernel
theorem dX6_tell_1 : decode cX6_tell 1 = .ok (.tableswitch 106 0 8 #[51, 64, 69, 75, 81, 86, 91, 96, 101], 51) := by decide +kernel
theorem dX6_tell_52 : decode cX6_tell 52 = .ok (.aload_n 0, 1) := by decide +kernel
theorem dX6_tell_53 : decode cX6_tell 53 = .ok (.getfield 15, 3) := by decide +kernel
theorem dX6_tell_56 : decode cX6_tell 56 = .ok (.ifCond .eq 7, 3) := by decide +kernel
theorem dX6_tell_59 : decode cX6_tell 59 = .ok (.iconst 1, 1) := by decide +kernel
theorem dX6_tell_60 : decode cX6_tell 60 = .ok (.goto 4, 3) := by decide +kernel
theorem dX6_tell_63 : decode cX6_tell 63 = .ok (.iconst 0, 1) := by decide +kernel
theorem dX6_tell_64 : decode cX6_tell 64 = .ok (.ireturn, 1) := by decide +kernel
theorem dX6_tell_65 : decode cX6_tell 65 = .ok (.aload_n 0, 1) := by decide +kernel
theorem dX6_tell_66 : decode cX6_tell 66 = .ok (.getfield 18, 3) := by decide +kernel
theorem dX6_tell_69 : decode cX6_tell 69 = .ok (.ireturn, 1) := by decide +kernel
theorem dX6_tell_70 : decode cX6_tell 70 = .ok (.aload_n 0, 1) := by decide +kernel
theorem dX6_tell_71 : decode cX6_tell 71 = .ok (.iload_n 2, 1) := by decide +kernel
theorem dX6_tell_72 : decode cX6_tell 72 = .ok (.invokevirtual 51, 3) := by decide +kernel
theorem dX6_tell_75 : decode cX6_tell 75 = .ok (.ireturn, 1) := by decide +kernel
theorem dX6_tell_76 : decode cX6_tell 76 = .ok (.aload_n 0, 1) := by decide +kernel
theorem dX6_tell_77 : decode cX6_tell 77 = .ok (.iload_n 2, 1) := by decide +kernel
theorem dX6_tell_78 : decode cX6_tell 78 = .ok (.invokevirtual 55, 3) := by decide +kernel
theorem dX6_tell_81 : decode cX6_tell 81 = .ok (.ireturn, 1) := by decide +kernel
theorem dX6_tell_82 : decode cX6_tell 82 = .ok (.aload_n 0, 1) := by decide +kernel
theorem dX6_tell_83 : decode cX6_tell 83 = .ok (.getfield 22, 3) := by decide +kernel
theorem dX6_tell_86 : decode cX6_tell 86 = .ok (.ireturn, 1) := by decide +kernel
theorem dX6_tell_87 : decode cX6_tell 87 = .ok (.aload_n 0, 1) := by decide +kernel
theorem dX6_tell_88 : decode cX6_tell 88 = .ok (.getfield 25, 3) := by decide +kernel
theorem dX6_tell_91 : decode cX6_tell 91 = .ok (.ireturn, 1) := by decide +kernel
theorem dX6_tell_92 : decode cX6_tell 92 = .ok (.aload_n 0, 1) := by decide +kernel
theorem dX6_tell_93 : decode cX6_tell 93 = .ok (.getfield 28, 3) := by decide +kernel
theorem dX6_tell_96 : decode cX6_tell 96 = .ok (.ireturn, 1) := by decide +kernel
theorem dX6_tell_97 : decode cX6_tell 97 = .ok (.aload_n 0, 1) := by decide +kernel
theorem dX6_tell_98 : decode cX6_tell 98 = .ok (.getfield 31, 3) := by decide +kernel
theorem dX6_tell_101 : decode cX6_tell 101 = .ok (.ireturn, 1) := by decide +kernel
theorem dX6_tell_102 : decode cX6_tell 102 = .ok (.aload_n 0, 1) := by decide +kernel
theorem dX6_tell_103 : decode cX6_tell 103 = .ok (.getfield 34, 3) := by decide +kernel
theorem dX6_tell_106 : decode cX6_tell 106 = .ok (.ireturn, 1) := by decide +kernel
theorem dX6_tell_107 : decode cX6_tell 107 = .ok (.iconst (-1), 1) := by decide +kernel
theorem dX6_tell_108 : decode cX6_tell 108 = .ok (.ireturn, 1) := by decide +kernel
theorem dX7_init_0 : decode cX7_init 0 = .ok (.aload_n 0, 1) := by decide +kernel
theorem dX7_init_1 : decode cX7_init 1 = .ok (.invokespecial 3, 3) := by decide +kernel
theorem dX7_init_4 : decode cX7_init 4 = .ok (.aload_n 0, 1) := by decide +kernel
theorem dX7_init_5 : decode cX7_init 5 = .ok (.iconst 0, 1) := by decide +kernel
theorem dX7_init_6 : decode cX7_init 6 = .ok (.newarray .byte, 2) := by decide +kernel
theorem dX7_init_8 : decode cX7_init 8 = .ok (.putfield 9, 3) := by decide +kernel
theorem dX7_init_11 : decode cX7_init 11 = .ok (.aload_n 0, 1) := by decide +kernel
theorem dX7_init_12 : decode cX7_init 12 = .ok (.iconst 0, 1) := by decide +kernel
theorem dX7_init_13 : decode cX7_init 13 = .ok (.putfield 15, 3) := by decide +kernel
theorem dX7_init_16 : decode cX7_init 16 = .ok (.aload_n 0, 1) := by decide +kernel
theorem dX7_init_17 : decode cX7_init 17 = .ok (.iconst 0, 1) := by decide +kernel
theorem dX7_init_18 : decode cX7_init 18 = .ok (.putfield 19, 3) := by decide +kernel
theorem dX7_init_21 : decode cX7_init 21 = .ok (.aload_n 0, 1) := by decide +kernel
theorem dX7_init_22 : decode cX7_init 22 = .ok (.iconst 0, 1) := by decide +kernel
theorem dX7_init_23 : decode cX7_init 23 = .ok (.putfield 22, 3) := by decide +kernel
theorem dX7_init_26 : decode cX7_init 26 = .ok (.aload_n 0, 1) := by decide +kernel
theorem dX7_init_27 : decode cX7_init 27 = .ok (.iconst 0, 1) := by decide +kernel
theorem dX7_init_28 : decode cX7_init 28 = .ok (.putfield 25, 3) := by decide +kernel
theorem dX7_init_31 : decode cX7_init 31 = .ok (.aload_n 0, 1) := by decide +kernel
theorem dX7_init_32 : decode cX7_init 32 = .ok (.iconst (-1), 1) := by decide +kernel
theorem dX7_init_33 : decode cX7_init 33 = .ok (.putfield 28, 3) := by decide +kernel
theorem dX7_init_36 : decode cX7_init 36 = .ok (.return_, 1) := by decide +kernel
theorem dX7_begin_0 : decode cX7_begin 0 = .ok (.aload_n 0, 1) := by decide +kernel
theorem dX7_begin_1 : decode cX7_begin 1 = .ok (.aload_n 1, 1) := by decide +kernel
theorem dX7_begin_2 : decode cX7_begin 2 = .ok (.putfield 9, 3) := by decide +kernel
theorem dX7_begin_5 : decode cX7_begin 5 = .ok (.aload_n 0, 1) := by decide +kernel
theorem dX7_begin_6 : decode cX7_begin 6 = .ok (.iload_n 2, 1) := by decide +kernel
theorem dX7_begin_7 : decode cX7_begin 7 = .ok (.aload_n 1, 1) := by decide +kernel
theorem dX7_begin_8 : decode cX7_begin 8 = .ok (.arraylength, 1) := by decide +kernel
theorem dX7_begin_9 : decode cX7_begin 9 = .ok (.invokestatic 31, 3) := by decide +kernel
theorem dX7_begin_12 : decode cX7_begin 12 = .ok (.putfield 15, 3) := by decide +kernel
theorem dX7_begin_15 : decode cX7_begin 15 = .ok (.aload_n 0, 1) := by decide +kernel
theorem dX7_begin_16 : decode cX7_begin 16 = .ok (.iconst 0, 1) := by decide +kernel
theorem dX7_begin_17 : decode cX7_begin 17 = .ok (.putfield 19, 3) := by decide +kernel
theorem dX7_begin_20 : decode cX7_begin 20 = .ok (.aload_n 0, 1) := by decide +kernel
theorem dX7_begin_21 : decode cX7_begin 21 = .ok (.iconst 0, 1) := by decide +kernel
theorem dX7_begin_22 : decode cX7_begin 22 = .ok (.putfield 25, 3) := by decide +kernel
theorem dX7_begin_25 : decode cX7_begin 25 = .ok (.aload_n 0, 1) := by decide +kernel
theorem dX7_begin_26 : decode cX7_begin 26 = .ok (.invokevirtual 37, 3) := by decide +kernel
theorem dX7_begin_29 : decode cX7_begin 29 = .ok (.return_, 1) := by decide +kernel
theorem dX7_next_0 : decode cX7_next 0 = .ok (.aload_n 0, 1) := by decide +kernel
theorem dX7_next_1 : decode cX7_next 1 = .ok (.getfield 19, 3) := by decide +kernel
theorem dX7_next_4 : decode cX7_next 4 = .ok (.iconst 1, 1) := by decide +kernel
theorem dX7_next_5 : decode cX7_next 5 = .ok (.if_icmp .eq 11, 3) := by decide +kernel
theorem dX7_next_8 : decode cX7_next 8 = .ok (.aload_n 0, 1) := by decide +kernel
theorem dX7_next_9 : decode cX7_next 9 = .ok (.getfield 19, 3) := by decide +kernel
theorem dX7_next_12 : decode cX7_next 12 = .ok (.iconst 2, 1) := by decide +kernel
theorem dX7_next_13 : decode cX7_next 13 = .ok (.if_icmp .ne 7, 3) := by decide +kernel
theorem dX7_next_16 : decode cX7_next 16 = .ok (.iconst 1, 1) := by decide +kernel
theorem dX7_next_17 : decode cX7_next 17 = .ok (.goto 4, 3) := by decide +kernel
theorem dX7_next_20 : decode cX7_next 20 = .ok (.iconst 0, 1) := by decide +kernel
theorem dX7_next_21 : decode cX7_next 21 = .ok (.istore_n 1, 1) := by decide +kernel
theorem dX7_next_22 : decode cX7_next 22 = .ok (.aload_n 0, 1) := by decide +kernel
theorem dX7_next_23 : decode cX7_next 23 = .ok (.aload_n 0, 1) := by decide +kernel
theorem dX7_next_24 : decode cX7_next 24 = .ok (.getfield 25, 3) := by decide +kernel
theorem dX7_next_27 : decode cX7_next 27 = .ok (.putfield 22, 3) := by decide +kernel
theorem dX7_next_30 : decode cX7_next 30 = .ok (.aload_n 0, 1) := by decide +kernel
theorem dX7_next_31 : decode cX7_next 31 = .ok (.getfield 22, 3) := by decide +kernel
theorem dX7_next_34 : decode cX7_next 34 = .ok (.aload_n 0, 1) := by decide +kernel
theorem dX7_next_35 : decode cX7_next 35 = .ok (.getfield 15, 3) := by decide +kernel
theorem dX7_next_38 : decode cX7_next 38 = .ok (.if_icmp .ge 28, 3) := by decide +kernel
theorem dX7_next_41 : decode cX7_next 41 = .ok (.aload_n 0, 1) := by decide +kernel
theorem dX7_next_42 : decode cX7_next 42 = .ok (.aload_n 0, 1) := by decide +kernel
theorem dX7_next_43 : decode cX7_next 43 = .ok (.getfield 22, 3) := by decide +kernel
theorem dX7_next_46 : decode cX7_next 46 = .ok (.invokevirtual 40, 3) := by decide +kernel
theorem dX7_next_49 : decode cX7_next 49 = .ok (.iconst 5, 1) := by decide +kernel
theorem dX7_next_50 : decode cX7_next 50 = .ok (.if_icmp .ne 16, 3) := by decide +kernel
theorem dX7_next_53 : decode cX7_next 53 = .ok (.aload_n 0, 1) := by decide +kernel
theorem dX7_next_54 : decode cX7_next 54 = .ok (.dup, 1) := by decide +kernel
theorem dX7_next_55 : decode cX7_next 55 = .ok (.getfield 22, 3) := by decide +kernel
theorem dX7_next_58 : decode cX7_next 58 = .ok (.iconst 1, 1) := by decide +kernel
theorem dX7_next_59 : decode cX7_next 59 = .ok (.iadd, 1) := by decide +kernel
theorem dX7_next_60 : decode cX7_next 60 = .ok (.putfield 22, 3) := by decide +kernel
theorem dX7_next_63 : decode cX7_next 63 = .ok (.goto (-33), 3) := by decide +kernel
theorem dX7_next_66 : decode cX7_next 66 = .ok (.iload_n 1, 1) := by decide +kernel
theorem dX7_next_67 : decode cX7_next 67 = .ok (.ifCond .eq 18, 3) := by decide +kernel
theorem dX7_next_70 : decode cX7_next 70 = .ok (.aload_n 0, 1) := by decide +kernel
theorem dX7_next_71 : decode cX7_next 71 = .ok (.getfield 22, 3) := by decide +kernel
theorem dX7_next_74 : decode cX7_next 74 = .ok (.aload_n 0, 1) := by decide +kernel
theorem dX7_next_75 : decode cX7_next 75 = .ok (.getfield 25, 3) := by decide +kernel
theorem dX7_next_78 : decode cX7_next 78 = .ok (.if_icmp .ne 7, 3) := by decide +kernel
theorem dX7_next_81 : decode cX7_next 81 = .ok (.iconst 1, 1) := by decide +kernel
theorem dX7_next_82 : decode cX7_next 82 = .ok (.goto 4, 3) := by decide +kernel
theorem dX7_next_85 : decode cX7_next 85 = .ok (.iconst 0, 1) := by decide +kernel
theorem dX7_next_86 : decode cX7_next 86 = .ok (.istore_n 2, 1) := by decide +kernel
theorem dX7_next_87 : decode cX7_next 87 = .ok (.aload_n 0, 1) := by decide +kernel
theorem dX7_next_88 : decode cX7_next 88 = .ok (.aload_n 0, 1) := by decide +kernel
theorem dX7_next_89 : decode cX7_next 89 = .ok (.aload_n 0, 1) := by decide +kernel
theorem dX7_next_90 : decode cX7_next 90 = .ok (.getfield 22, 3) := by decide +kernel
theorem dX7_next_93 : decode cX7_next 93 = .ok (.invokevirtual 40, 3) := by decide +kernel
theorem dX7_next_96 : decode cX7_next 96 = .ok (.putfield 19, 3) := by decide +kernel
theorem dX7_next_99 : decode cX7_next 99 = .ok (.aload_n 0, 1) := by decide +kernel
theorem dX7_next_100 : decode cX7_next 100 = .ok (.getfield 19, 3) := by decide +kernel
theorem dX7_next_103 : decode cX7_next 103 = .ok (.iconst 1, 1) := by decide +kernel
theorem dX7_next_104 : decode cX7_next 104 = .ok (.if_icmp .eq 11, 3) := by decide +kernel
theorem dX7_next_107 : decode cX7_next 107 = .ok (.aload_n 0, 1) := by decide +kernel
theorem dX7_next_108 : decode cX7_next 108 = .ok (.getfield 19, 3) := by decide +kernel
theorem dX7_next_111 : decode cX7_next 111 = .ok (.iconst 2, 1) := by decide +kernel
theorem dX7_next_112 : decode cX7_next 112 = .ok (.if_icmp .ne 7, 3) := by decide +kernel
theorem dX7_next_115 : decode cX7_next 115 = .ok (.iconst 1, 1) := by decide +kernel
theorem dX7_next_116 : decode cX7_next 116 = .ok (.goto 4, 3) := by decide +kernel
theorem dX7_next_119 : decode cX7_next 119 = .ok (.iconst 0, 1) := by decide +kernel
theorem dX7_next_120 : decode cX7_next 120 = .ok (.istore_n 3, 1) := by decide +kernel
theorem dX7_next_121 : decode cX7_next 121 = .ok (.aload_n 0, 1) := by decide +kernel
theorem dX7_next_122 : decode cX7_next 122 = .ok (.aload_n 0, 1) := by decide +kernel
theorem dX7_next_123 : decode cX7_next 123 = .ok (.getfield 22, 3) := by decide +kernel
theorem dX7_next_126 : decode cX7_next 126 = .ok (.iconst 1, 1) := by decide +kernel
theorem dX7_next_127 : decode cX7_next 127 = .ok (.iadd, 1) := by decide +kernel
theorem dX7_next_128 : decode cX7_next 128 = .ok (.aload_n 0, 1) := by decide +kernel
theorem dX7_next_129 : decode cX7_next 129 = .ok (.getfield 15, 3) := by decide +kernel
theorem dX7_next_132 : decode cX7_next 132 = .ok (.invokestatic 31, 3) := by decide +kernel
theorem dX7_next_135 : decode cX7_next 135 = .ok (.putfield 25, 3) := by decide +kernel
theorem dX7_next_138 : decode cX7_next 138 = .ok (.iload_n 3, 1) := by decide +kernel
theorem dX7_next_139 : decode cX7_next 139 = .ok (.ifCond .eq 42, 3) := by decide +kernel
theorem dX7_next_142 : decode cX7_next 142 = .ok (.aload_n 0, 1) := by decide +kernel
theorem dX7_next_143 : decode cX7_next 143 = .ok (.getfield 25, 3) := by decide +kernel
theorem dX7_next_146 : decode cX7_next 146 = .ok (.aload_n 0, 1) := by decide +kernel
theorem dX7_next_147 : decode cX7_next 147 = .ok (.getfield 15, 3) := by decide +kernel
theorem dX7_next_150 : decode cX7_next 150 = .ok (.if_icmp .ge 31, 3) := by decide +kernel
theorem dX7_next_153 : decode cX7_next 153 = .ok (.aload_n 0, 1) := by decide +kernel
theorem dX7_next_154 : decode cX7_next 154 = .ok (.aload_n 0, 1) := by decide +kernel
theorem dX7_next_155 : decode cX7_next 155 = .ok (.getfield 25, 3) := by decide +kernel
theorem dX7_next_158 : decode cX7_next 158 = .ok (.invokevirtual 40, 3) := by decide +kernel
theorem dX7_next_161 : decode cX7_next 161 = .ok (.aload_n 0, 1) := by decide +kernel
theorem dX7_next_162 : decode cX7_next 162 = .ok (.getfield 19, 3) := by decide +kernel
theorem dX7_next_165 : decode cX7_next 165 = .ok (.if_icmp .ne 16, 3) := by decide +kernel
theorem dX7_next_168 : decode cX7_next 168 = .ok (.aload_n 0, 1) := by decide +kernel
theorem dX7_next_169 : decode cX7_next 169 = .ok (.dup, 1) := by decide +kernel
theorem dX7_next_170 : decode cX7_next 170 = .ok (.getfield 25, 3) := by decide +kernel
theorem dX7_next_173 : decode cX7_next 173 = .ok (.iconst 1, 1) := by decide +kernel
theorem dX7_next_174 : decode cX7_next 174 = .ok (.iadd, 1) := by decide +kernel
theorem dX7_next_175 : decode cX7_next 175 = .ok (.putfield 25, 3) := by decide +kernel
theorem dX7_next_178 : decode cX7_next 178 = .ok (.goto (-40), 3) := by decide +kernel
theorem dX7_next_181 : decode cX7_next 181 = .ok (.aload_n 0, 1) := by decide +kernel
theorem dX7_next_182 : decode cX7_next 182 = .ok (.aload_n 0, 1) := by decide +kernel
theorem dX7_next_183 : decode cX7_next 183 = .ok (.getfield 19, 3) := by decide +kernel
theorem dX7_next_186 : decode cX7_next 186 = .ok (.iconst 1, 1) := by decide +kernel
theorem dX7_next_187 : decode cX7_next 187 = .ok (.if_icmp .ne 26, 3) := by decide +kernel
theorem dX7_next_190 : decode cX7_next 190 = .ok (.aload_n 0, 1) := by decide +kernel
theorem dX7_next_191 : decode cX7_next 191 = .ok (.getfield 9, 3) := by decide +kernel
theorem dX7_next_194 : decode cX7_next 194 = .ok (.aload_n 0, 1) := by decide +kernel
theorem dX7_next_195 : decode cX7_next 195 = .ok (.getfield 22, 3) := by decide +kernel
theorem dX7_next_198 : decode cX7_next 198 = .ok (.aload_n 0, 1) := by decide +kernel
theorem dX7_next_199 : decode cX7_next 199 = .ok (.getfield 25, 3) := by decide +kernel
theorem dX7_next_202 : decode cX7_next 202 = .ok (.aload_n 0, 1) := by decide +kernel
theorem dX7_next_203 : decode cX7_next 203 = .ok (.getfield 22, 3) := by decide +kernel
theorem dX7_next_206 : decode cX7_next 206 = .ok (.isub, 1) := by decide +kernel
theorem dX7_next_207 : decode cX7_next 207 = .ok (.invokestatic 44, 3) := by decide +kernel
theorem dX7_next_210 : decode cX7_next 210 = .ok (.goto 7, 3) := by decide +kernel
theorem dX7_next_213 : decode cX7_next 213 = .ok (.aload_n 0, 1) := by decide +kernel
theorem dX7_next_214 : decode cX7_next 214 = .ok (.invokevirtual 50, 3) := by decide +kernel
theorem dX7_next_217 : decode cX7_next 217 = .ok (.putfield 28, 3) := by decide +kernel
theorem dX7_next_220 : decode cX7_next 220 = .ok (.iload_n 2, 1) := by decide +kernel
theorem dX7_next_221 : decode cX7_next 221 = .ok (.ifCond .eq 12, 3) := by decide +kernel
theorem dX7_next_224 : decode cX7_next 224 = .ok (.iload_n 3, 1) := by decide +kernel
theorem dX7_next_225 : decode cX7_next 225 = .ok (.ifCond .eq 8, 3) := by decide +kernel
theorem dX7_next_228 : decode cX7_next 228 = .ok (.aload_n 0, 1) := by decide +kernel
theorem dX7_next_229 : decode cX7_next 229 = .ok (.iconst 4, 1) := by decide +kernel
theorem dX7_next_230 : decode cX7_next 230 = .ok (.putfield 19, 3) := by decide +kernel
theorem dX7_next_233 : decode cX7_next 233 = .ok (.return_, 1) := by decide +kernel
theorem dX7_kindAt_0 : decode cX7_kindAt 0 = .ok (.iload_n 1, 1) := by decide +kernel
theorem dX7_kindAt_1 : decode cX7_kindAt 1 = .ok (.ifCond .lt 11, 3) := by decide +kernel
theorem dX7_kindAt_4 : decode cX7_kindAt 4 = .ok (.iload_n 1, 1) := by decide +kernel
theorem dX7_kindAt_5 : decode cX7_kindAt 5 = .ok (.aload_n 0, 1) := by decide +kernel
theorem dX7_kindAt_6 : decode cX7_kindAt 6 = .ok (.getfield 15, 3) := by decide +kernel
theorem dX7_kindAt_9 : decode cX7_kindAt 9 = .ok (.if_icmp .lt 5, 3) := by decide +kernel
theorem dX7_kindAt_12 : decode cX7_kindAt 12 = .ok (.iconst 0, 1) := by decide +kernel
theorem dX7_kindAt_13 : decode cX7_kindAt 13 = .ok (.ireturn, 1) := by decide +kernel
theorem dX7_kindAt_14 : decode cX7_kindAt 14 = .ok (.aload_n 0, 1) := by decide +kernel
theorem dX7_kindAt_15 : decode cX7_kindAt 15 = .ok (.getfield 9, 3) := by decide +kernel
theorem dX7_kindAt_18 : decode cX7_kindAt 18 = .ok (.iload_n 1, 1) := by decide +kernel
theorem dX7_kindAt_19 : decode cX7_kindAt 19 = .ok (.baload, 1) := by decide +kernel
theorem dX7_kindAt_20 : decode cX7_kindAt 20 = .ok (.istore_n 2, 1) := by decide +kernel
theorem dX7_kindAt_21 : decode cX7_kindAt 21 = .ok (.iload_n 2, 1) := by decide +kernel
theorem dX7_kindAt_22 : decode cX7_kindAt 22 = .ok (.bipush 10, 2) := by decide +kernel
theorem dX7_kindAt_24 : decode cX7_kindAt 24 = .ok (.if_icmp .eq 9, 3) := by decide +kernel
theorem dX7_kindAt_27 : decode cX7_kindAt 27 = .ok (.iload_n 2, 1) := by decide +kernel
theorem dX7_kindAt_28 : decode cX7_kindAt 28 = .ok (.bipush 32, 2) := by decide +kernel
theorem dX7_kindAt_30 : decode cX7_kindAt 30 = .ok (.if_icmp .ne 5, 3) := by decide +kernel
theorem dX7_kindAt_33 : decode cX7_kindAt 33 = .ok (.iconst 5, 1) := by decide +kernel
theorem dX7_kindAt_34 : decode cX7_kindAt 34 = .ok (.ireturn, 1) := by decide +kernel
theorem dX7_kindAt_35 : decode cX7_kindAt 35 = .ok (.iload_n 2, 1) := by decide +kernel
theorem dX7_kindAt_36 : decode cX7_kindAt 36 = .ok (.bipush 97, 2) := by decide +kernel
theorem dX7_kindAt_38 : decode cX7_kindAt 38 = .ok (.if_icmp .lt 11, 3) := by decide +kernel
theorem dX7_kindAt_41 : decode cX7_kindAt 41 = .ok (.iload_n 2, 1) := by decide +kernel
theorem dX7_kindAt_42 : decode cX7_kindAt 42 = .ok (.bipush 122, 2) := by decide +kernel
theorem dX7_kindAt_44 : decode cX7_kindAt 44 = .ok (.if_icmp .gt 5, 3) := by decide +kernel
theorem dX7_kindAt_47 : decode cX7_kindAt 47 = .ok (.iconst 1, 1) := by decide +kernel
theorem dX7_kindAt_48 : decode cX7_kindAt 48 = .ok (.ireturn, 1) := by decide +kernel
theorem dX7_kindAt_49 : decode cX7_kindAt 49 = .ok (.iload_n 2, 1) := by decide +kernel
theorem dX7_kindAt_50 : decode cX7_kindAt 50 = .ok (.bipush 48, 2) := by decide +kernel
theorem dX7_kindAt_52 : decode cX7_kindAt 52 = .ok (.if_icmp .lt 13, 3) := by decide +kernel
theorem dX7_kindAt_55 : decode cX7_kindAt 55 = .ok (.iload_n 2, 1) := by decide +kernel
theorem dX7_kindAt_56 : decode cX7_kindAt 56 = .ok (.bipush 57, 2) := by decide +kernel
theorem dX7_kindAt_58 : decode cX7_kindAt 58 = .ok (.if_icmp .gt 7, 3) := by decide +kernel
theorem dX7_kindAt_61 : decode cX7_kindAt 61 = .ok (.iconst 2, 1) := by decide +kernel
theorem dX7_kindAt_62 : decode cX7_kindAt 62 = .ok (.goto 4, 3) := by decide +kernel
theorem dX7_kindAt_65 : decode cX7_kindAt 65 = .ok (.iconst 3, 1) := by decide +kernel
theorem dX7_kindAt_66 : decode cX7_kindAt 66 = .ok (.ireturn, 1) := by decide +kernel
theorem dX7_plainValue_0 : decode cX7_plainValue 0 = .ok (.aload_n 0, 1) := by decide +kernel
theorem dX7_plainValue_1 : decode cX7_plainValue 1 = .ok (.getfield 19, 3) := by decide +kernel
theorem dX7_plainValue_4 : decode cX7_plainValue 4 = .ok (.iconst 2, 1) := by decide +kernel
theorem dX7_plainValue_5 : decode cX7_plainValue 5 = .ok (.if_icmp .eq 32, 3) := by decide +kernel
theorem dX7_plainValue_8 : decode cX7_plainValue 8 = .ok (.aload_n 0, 1) := by decide +kernel
theorem dX7_plainValue_9 : decode cX7_plainValue 9 = .ok (.getfield 22, 3) := by decide +kernel
theorem dX7_plainValue_12 : decode cX7_plainValue 12 = .ok (.aload_n 0, 1) := by decide +kernel
theorem dX7_plainValue_13 : decode cX7_plainValue 13 = .ok (.getfield 15, 3) := by decide +kernel
theorem dX7_plainValue_16 : decode cX7_plainValue 16 = .ok (.if_icmp .ge 19, 3) := by decide +kernel
theorem dX7_plainValue_19 : decode cX7_plainValue 19 = .ok (.aload_n 0, 1) := by decide +kernel
theorem dX7_plainValue_20 : decode cX7_plainValue 20 = .ok (.getfield 9, 3) := by decide +kernel
theorem dX7_plainValue_23 : decode cX7_plainValue 23 = .ok (.aload_n 0, 1) := by decide +kernel
theorem dX7_plainValue_24 : decode cX7_plainValue 24 = .ok (.getfield 22, 3) := by decide +kernel
theorem dX7_plainValue_27 : decode cX7_plainValue 27 = .ok (.baload, 1) := by decide +kernel
theorem dX7_plainValue_28 : decode cX7_plainValue 28 = .ok (.sipush 255, 3) := by decide +kernel
theorem dX7_plainValue_31 : decode cX7_plainValue 31 = .ok (.iand, 1) := by decide +kernel
theorem dX7_plainValue_32 : decode cX7_plainValue 32 = .ok (.goto 4, 3) := by decide +kernel
theorem dX7_plainValue_35 : decode cX7_plainValue 35 = .ok (.iconst (-1), 1) := by decide +kernel
theorem dX7_plainValue_36 : decode cX7_plainValue 36 = .ok (.ireturn, 1) := by decide +kernel
theorem dX7_plainValue_37 : decode cX7_plainValue 37 = .ok (.iconst 0, 1) := by decide +kernel
theorem dX7_plainValue_38 : decode cX7_plainValue 38 = .ok (.istore_n 1, 1) := by decide +kernel
theorem dX7_plainValue_39 : decode cX7_plainValue 39 = .ok (.aload_n 0, 1) := by decide +kernel
theorem dX7_plainValue_40 : decode cX7_plainValue 40 = .ok (.getfield 22, 3) := by decide +kernel
theorem dX7_plainValue_43 : decode cX7_plainValue 43 = .ok (.istore_n 2, 1) := by decide +kernel
theorem dX7_plainValue_44 : decode cX7_plainValue 44 = .ok (.iload_n 2, 1) := by decide +kernel
theorem dX7_plainValue_45 : decode cX7_plainValue 45 = .ok (.aload_n 0, 1) := by decide +kernel
theorem dX7_plainValue_46 : decode cX7_plainValue 46 = .ok (.getfield 25, 3) := by decide +kernel
theorem dX7_plainValue_49 : decode cX7_plainValue 49 = .ok (.if_icmp .ge 34, 3) := by decide +kernel
theorem dX7_plainValue_52 : decode cX7_plainValue 52 = .ok (.iload_n 2, 1) := by decide +kernel
theorem dX7_plainValue_53 : decode cX7_plainValue 53 = .ok (.aload_n 0, 1) := by decide +kernel
theorem dX7_plainValue_54 : decode cX7_plainValue 54 = .ok (.getfield 22, 3) := by decide +kernel
theorem dX7_plainValue_57 : decode cX7_plainValue 57 = .ok (.iconst 4, 1) := by decide +kernel
theorem dX7_plainValue_58 : decode cX7_plainValue 58 = .ok (.iadd, 1) := by decide +kernel
theorem dX7_plainValue_59 : decode cX7_plainValue 59 = .ok (.if_icmp .ge 24, 3) := by decide +kernel
theorem dX7_plainValue_62 : decode cX7_plainValue 62 = .ok (.bipush 10, 2) := by decide +kernel
theorem dX7_plainValue_64 : decode cX7_plainValue 64 = .ok (.iload_n 1, 1) := by decide +kernel
theorem dX7_plainValue_65 : decode cX7_plainValue 65 = .ok (.imul, 1) := by decide +kernel
theorem dX7_plainValue_66 : decode cX7_plainValue 66 = .ok (.aload_n 0, 1) := by decide +kernel
theorem dX7_plainValue_67 : decode cX7_plainValue 67 = .ok (.getfield 9, 3) := by decide +kernel
theorem dX7_plainValue_70 : decode cX7_plainValue 70 = .ok (.iload_n 2, 1) := by decide +kernel
theorem dX7_plainValue_71 : decode cX7_plainValue 71 = .ok (.baload, 1) := by decide +kernel
theorem dX7_plainValue_72 : decode cX7_plainValue 72 = .ok (.iadd, 1) := by decide +kernel
theorem dX7_plainValue_73 : decode cX7_plainValue 73 = .ok (.bipush 48, 2) := by decide +kernel
theorem dX7_plainValue_75 : decode cX7_plainValue 75 = .ok (.isub, 1) := by decide +kernel
theorem dX7_plainValue_76 : decode cX7_plainValue 76 = .ok (.istore_n 1, 1) := by decide +kernel
theorem dX7_plainValue_77 : decode cX7_plainValue 77 = .ok (.iinc 2 1, 3) := by decide +kernel
theorem dX7_plainValue_80 : decode cX7_plainValue 80 = .ok (.goto (-36), 3) := by decide +kernel
theorem dX7_plainValue_83 : decode cX7_plainValue 83 = .ok (.iload_n 1, 1) := by decide +kernel
theorem dX7_plainValue_84 : decode cX7_plainValue 84 = .ok (.ireturn, 1) := by decide +kernel
theorem dX7_isTooLong_0 : decode cX7_isTooLong 0 = .ok (.aload_n 0, 1) := by decide +kernel
theorem dX7_isTooLong_1 : decode cX7_isTooLong 1 = .ok (.getfield 25, 3) := by decide +kernel
theorem dX7_isTooLong_4 : decode cX7_isTooLong 4 = .ok (.aload_n 0, 1) := by decide +kernel
theorem dX7_isTooLong_5 : decode cX7_isTooLong 5 = .ok (.getfield 22, 3) := by decide +kernel
theorem dX7_isTooLong_8 : decode cX7_isTooLong 8 = .ok (.isub, 1) := by decide +kernel
theorem dX7_isTooLong_9 : decode cX7_isTooLong 9 = .ok (.iconst 4, 1) := by decide +kernel
theorem dX7_isTooLong_10 : decode cX7_isTooLong 10 = .ok (.if_icmp .le 7, 3) := by decide +kernel
theorem dX7_isTooLong_13 : decode cX7_isTooLong 13 = .ok (.iconst 1, 1) := by decide +kernel
theorem dX7_isTooLong_14 : decode cX7_isTooLong 14 = .ok (.goto 4, 3) := by decide +kernel
theorem dX7_isTooLong_17 : decode cX7_isTooLong 17 = .ok (.iconst 0, 1) := by decide +kernel
theorem dX7_isTooLong_18 : decode cX7_isTooLong 18 = .ok (.ireturn, 1) := by decide +kernel
theorem dX7_isWord_0 : decode cX7_isWord 0 = .ok (.aload_n 0, 1) := by decide +kernel
theorem dX7_isWord_1 : decode cX7_isWord 1 = .ok (.getfield 19, 3) := by decide +kernel
theorem dX7_isWord_4 : decode cX7_isWord 4 = .ok (.iconst 1, 1) := by decide +kernel
theorem dX7_isWord_5 : decode cX7_isWord 5 = .ok (.if_icmp .ne 15, 3) := by decide +kernel
theorem dX7_isWord_8 : decode cX7_isWord 8 = .ok (.aload_n 0, 1) := by decide +kernel
theorem dX7_isWord_9 : decode cX7_isWord 9 = .ok (.getfield 28, 3) := by decide +kernel
theorem dX7_isWord_12 : decode cX7_isWord 12 = .ok (.iload_n 1, 1) := by decide +kernel
theorem dX7_isWord_13 : decode cX7_isWord 13 = .ok (.if_icmp .ne 7, 3) := by decide +kernel
theorem dX7_isWord_16 : decode cX7_isWord 16 = .ok (.iconst 1, 1) := by decide +kernel
theorem dX7_isWord_17 : decode cX7_isWord 17 = .ok (.goto 4, 3) := by decide +kernel
theorem dX7_isWord_20 : decode cX7_isWord 20 = .ok (.iconst 0, 1) := by decide +kernel
theorem dX7_isWord_21 : decode cX7_isWord 21 = .ok (.ireturn, 1) := by decide +kernel
theorem dX7_isSign_0 : decode cX7_isSign 0 = .ok (.aload_n 0, 1) := by decide +kernel
theorem dX7_isSign_1 : decode cX7_isSign 1 = .ok (.getfield 19, 3) := by decide +kernel
theorem dX7_isSign_4 : decode cX7_isSign 4 = .ok (.iconst 3, 1) := by decide +kernel
theorem dX7_isSign_5 : decode cX7_isSign 5 = .ok (.if_icmp .ne 15, 3) := by decide +kernel
theorem dX7_isSign_8 : decode cX7_isSign 8 = .ok (.aload_n 0, 1) := by decide +kernel
theorem dX7_isSign_9 : decode cX7_isSign 9 = .ok (.getfield 28, 3) := by decide +kernel
theorem dX7_isSign_12 : decode cX7_isSign 12 = .ok (.iload_n 1, 1) := by decide +kernel
theorem dX7_isSign_13 : decode cX7_isSign 13 = .ok (.if_icmp .ne 7, 3) := by decide +kernel
theorem dX7_isSign_16 : decode cX7_isSign 16 = .ok (.iconst 1, 1) := by decide +kernel
theorem dX7_isSign_17 : decode cX7_isSign 17 = .ok (.goto 4, 3) := by decide +kernel
theorem dX7_isSign_20 : decode cX7_isSign 20 = .ok (.iconst 0, 1) := by decide +kernel
theorem dX7_isSign_21 : decode cX7_isSign 21 = .ok (.ireturn, 1) := by decide +kernel
theorem dX8_init_0 : decode cX8_init 0 = .ok (.aload_n 0, 1) := by decide +kernel
theorem dX8_init_1 : decode cX8_init 1 = .ok (.invokespecial 3, 3) := by decide +kernel
theorem dX8_init_4 : decode cX8_init 4 = .ok (.aload_n 0, 1) := by decide +kernel
theorem dX8_init_5 : decode cX8_init 5 = .ok (.iconst 0, 1) := by decide +kernel
theorem dX8_init_6 : decode cX8_init 6 = .ok (.putfield 9, 3) := by decide +kernel
theorem dX8_init_9 : decode cX8_init 9 = .ok (.aload_n 0, 1) := by decide +kernel
theorem dX8_init_10 : decode cX8_init 10 = .ok (.iconst 0, 1) := by decide +kernel
theorem dX8_init_11 : decode cX8_init 11 = .ok (.putfield 15, 3) := by decide +kernel
theorem dX8_init_14 : decode cX8_init 14 = .ok (.aload_n 0, 1) := by decide +kernel
theorem dX8_init_15 : decode cX8_init 15 = .ok (.iconst 0, 1) := by decide +kernel
theorem dX8_init_16 : decode cX8_init 16 = .ok (.putfield 18, 3) := by decide +kernel
theorem dX8_init_19 : decode cX8_init 19 = .ok (.aload_n 0, 1) := by decide +kernel
theorem dX8_init_20 : decode cX8_init 20 = .ok (.bipush 16, 2) := by decide +kernel
theorem dX8_init_22 : decode cX8_init 22 = .ok (.newarray .int, 2) := by decide +kernel
theorem dX8_init_24 : decode cX8_init 24 = .ok (.putfield 21, 3) := by decide +kernel
theorem dX8_init_27 : decode cX8_init 27 = .ok (.aload_n 0, 1) := by decide +kernel
theorem dX8_init_28 : decode cX8_init 28 = .ok (.bipush 16, 2) := by decide +kernel
theorem dX8_init_30 : decode cX8_init 30 = .ok (.newarray .boolean, 2) := by decide +kernel
theorem dX8_init_32 : decode cX8_init 32 = .ok (.putfield 25, 3) := by decide +kernel
theorem dX8_init_35 : decode cX8_init 35 = .ok (.aload_n 0, 1) := by decide +kernel
theorem dX8_init_36 : decode cX8_init 36 = .ok (.iconst 0, 1) := by decide +kernel
theorem dX8_init_37 : decode cX8_init 37 = .ok (.putfield 29, 3) := by decide +kernel
theorem dX8_init_40 : decode cX8_init 40 = .ok (.aload_n 0, 1) := by decide +kernel
theorem dX8_init_41 : decode cX8_init 41 = .ok (.iconst 0, 1) := by decide +kernel
theorem dX8_init_42 : decode cX8_init 42 = .ok (.putfield 32, 3) := by decide +kernel
theorem dX8_init_45 : decode cX8_init 45 = .ok (.return_, 1) := by decide +kernel
theorem dX8_clear_0 : decode cX8_clear 0 = .ok (.aload_n 0, 1) := by decide +kernel
theorem dX8_clear_1 : decode cX8_clear 1 = .ok (.iconst 0, 1) := by decide +kernel
theorem dX8_clear_2 : decode cX8_clear 2 = .ok (.putfield 9, 3) := by decide +kernel
theorem dX8_clear_5 : decode cX8_clear 5 = .ok (.return_, 1) := by decide +kernel
theorem dX8_look_0 : decode cX8_look 0 = .ok (.iload_n 2, 1) := by decide +kernel
theorem dX8_look_1 : decode cX8_look 1 = .ok (.iconst 2, 1) := by decide +kernel
theorem dX8_look_2 : decode cX8_look 2 = .ok (.if_icmp .lt 21, 3) := by decide +kernel
theorem dX8_look_5 : decode cX8_look 5 = .ok (.iload_n 2, 1) := by decide +kernel
theorem dX8_look_6 : decode cX8_look 6 = .ok (.bipush 32, 2) := by decide +kernel
theorem dX8_look_8 : decode cX8_look 8 = .ok (.if_icmp .gt 15, 3) := by decide +kernel
theorem dX8_look_11 : decode cX8_look 11 = .ok (.iload_n 2, 1) := by decide +kernel
theorem dX8_look_12 : decode cX8_look 12 = .ok (.aload_n 1, 1) := by decide +kernel
theorem dX8_look_13 : decode cX8_look 13 = .ok (.arraylength, 1) := by decide +kernel
theorem dX8_look_14 : decode cX8_look 14 = .ok (.if_icmp .gt 9, 3) := by decide +kernel
theorem dX8_look_17 : decode cX8_look 17 = .ok (.iload_n 2, 1) := by decide +kernel
theorem dX8_look_18 : decode cX8_look 18 = .ok (.iconst 1, 1) := by decide +kernel
theorem dX8_look_19 : decode cX8_look 19 = .ok (.iand, 1) := by decide +kernel
theorem dX8_look_20 : decode cX8_look 20 = .ok (.ifCond .eq 5, 3) := by decide +kernel
theorem dX8_look_23 : decode cX8_look 23 = .ok (.iconst 0, 1) := by decide +kernel
theorem dX8_look_24 : decode cX8_look 24 = .ok (.ireturn, 1) := by decide +kernel
theorem dX8_look_25 : decode cX8_look 25 = .ok (.iconst 0, 1) := by decide +kernel
theorem dX8_look_26 : decode cX8_look 26 = .ok (.istore_n 3, 1) := by decide +kernel
theorem dX8_look_27 : decode cX8_look 27 = .ok (.iload_n 3, 1) := by decide +kernel
theorem dX8_look_28 : decode cX8_look 28 = .ok (.iload_n 2, 1) := by decide +kernel
theorem dX8_look_29 : decode cX8_look 29 = .ok (.if_icmp .ge 34, 3) := by decide +kernel
theorem dX8_look_32 : decode cX8_look 32 = .ok (.aload_n 1, 1) := by decide +kernel
theorem dX8_look_33 : decode cX8_look 33 = .ok (.iload_n 3, 1) := by decide +kernel
theorem dX8_look_34 : decode cX8_look 34 = .ok (.baload, 1) := by decide +kernel
theorem dX8_look_35 : decode cX8_look 35 = .ok (.ifCond .lt 20, 3) := by decide +kernel
theorem dX8_look_38 : decode cX8_look 38 = .ok (.aload_n 1, 1) := by decide +kernel
theorem dX8_look_39 : decode cX8_look 39 = .ok (.iload_n 3, 1) := by decide +kernel
theorem dX8_look_40 : decode cX8_look 40 = .ok (.iconst 1, 1) := by decide +kernel
theorem dX8_look_41 : decode cX8_look 41 = .ok (.iadd, 1) := by decide +kernel
theorem dX8_look_42 : decode cX8_look 42 = .ok (.baload, 1) := by decide +kernel
theorem dX8_look_43 : decode cX8_look 43 = .ok (.ifCond .lt 12, 3) := by decide +kernel
theorem dX8_look_46 : decode cX8_look 46 = .ok (.aload_n 1, 1) := by decide +kernel
theorem dX8_look_47 : decode cX8_look 47 = .ok (.iload_n 3, 1) := by decide +kernel
theorem dX8_look_48 : decode cX8_look 48 = .ok (.iconst 1, 1) := by decide +kernel
theorem dX8_look_49 : decode cX8_look 49 = .ok (.iadd, 1) := by decide +kernel
theorem dX8_look_50 : decode cX8_look 50 = .ok (.baload, 1) := by decide +kernel
theorem dX8_look_51 : decode cX8_look 51 = .ok (.iconst 1, 1) := by decide +kernel
theorem dX8_look_52 : decode cX8_look 52 = .ok (.if_icmp .le 5, 3) := by decide +kernel
theorem dX8_look_55 : decode cX8_look 55 = .ok (.iconst 0, 1) := by decide +kernel
theorem dX8_look_56 : decode cX8_look 56 = .ok (.ireturn, 1) := by decide +kernel
theorem dX8_look_57 : decode cX8_look 57 = .ok (.iinc 3 2, 3) := by decide +kernel
theorem dX8_look_60 : decode cX8_look 60 = .ok (.goto (-33), 3) := by decide +kernel
theorem dX8_look_63 : decode cX8_look 63 = .ok (.aload_n 0, 1) := by decide +kernel
theorem dX8_look_64 : decode cX8_look 64 = .ok (.iload_n 2, 1) := by decide +kernel
theorem dX8_look_65 : decode cX8_look 65 = .ok (.iconst 2, 1) := by decide +kernel
theorem dX8_look_66 : decode cX8_look 66 = .ok (.idiv, 1) := by decide +kernel
theorem dX8_look_67 : decode cX8_look 67 = .ok (.putfield 9, 3) := by decide +kernel
theorem dX8_look_70 : decode cX8_look 70 = .ok (.iconst 0, 1) := by decide +kernel
theorem dX8_look_71 : decode cX8_look 71 = .ok (.istore_n 3, 1) := by decide +kernel
theorem dX8_look_72 : decode cX8_look 72 = .ok (.iload_n 3, 1) := by decide +kernel
theorem dX8_look_73 : decode cX8_look 73 = .ok (.aload_n 0, 1) := by decide +kernel
theorem dX8_look_74 : decode cX8_look 74 = .ok (.getfield 9, 3) := by decide +kernel
theorem dX8_look_77 : decode cX8_look 77 = .ok (.if_icmp .ge 45, 3) := by decide +kernel
theorem dX8_look_80 : decode cX8_look 80 = .ok (.aload_n 0, 1) := by decide +kernel
theorem dX8_look_81 : decode cX8_look 81 = .ok (.getfield 21, 3) := by decide +kernel
theorem dX8_look_84 : decode cX8_look 84 = .ok (.iload_n 3, 1) := by decide +kernel
theorem dX8_look_85 : decode cX8_look 85 = .ok (.aload_n 1, 1) := by decide +kernel
theorem dX8_look_86 : decode cX8_look 86 = .ok (.iconst 2, 1) := by decide +kernel
theorem dX8_look_87 : decode cX8_look 87 = .ok (.iload_n 3, 1) := by decide +kernel
theorem dX8_look_88 : decode cX8_look 88 = .ok (.imul, 1) := by decide +kernel
theorem dX8_look_89 : decode cX8_look 89 = .ok (.baload, 1) := by decide +kernel
theorem dX8_look_90 : decode cX8_look 90 = .ok (.bipush 64, 2) := by decide +kernel
theorem dX8_look_92 : decode cX8_look 92 = .ok (.isub, 1) := by decide +kernel
theorem dX8_look_93 : decode cX8_look 93 = .ok (.iastore, 1) := by decide +kernel
theorem dX8_look_94 : decode cX8_look 94 = .ok (.aload_n 0, 1) := by decide +kernel
theorem dX8_look_95 : decode cX8_look 95 = .ok (.getfield 25, 3) := by decide +kernel
theorem dX8_look_98 : decode cX8_look 98 = .ok (.iload_n 3, 1) := by decide +kernel
theorem dX8_look_99 : decode cX8_look 99 = .ok (.aload_n 1, 1) := by decide +kernel
theorem dX8_look_100 : decode cX8_look 100 = .ok (.iconst 2, 1) := by decide +kernel
theorem dX8_look_101 : decode cX8_look 101 = .ok (.iload_n 3, 1) := by decide +kernel
theorem dX8_look_102 : decode cX8_look 102 = .ok (.imul, 1) := by decide +kernel
theorem dX8_look_103 : decode cX8_look 103 = .ok (.iconst 1, 1) := by decide +kernel
theorem dX8_look_104 : decode cX8_look 104 = .ok (.iadd, 1) := by decide +kernel
theorem dX8_look_105 : decode cX8_look 105 = .ok (.baload, 1) := by decide +kernel
theorem dX8_look_106 : decode cX8_look 106 = .ok (.iconst 1, 1) := by decide +kernel
theorem dX8_look_107 : decode cX8_look 107 = .ok (.if_icmp .ne 7, 3) := by decide +kernel
theorem dX8_look_110 : decode cX8_look 110 = .ok (.iconst 1, 1) := by decide +kernel
theorem dX8_look_111 : decode cX8_look 111 = .ok (.goto 4, 3) := by decide +kernel
theorem dX8_look_114 : decode cX8_look 114 = .ok (.iconst 0, 1) := by decide +kernel
theorem dX8_look_115 : decode cX8_look 115 = .ok (.bastore, 1) := by decide +kernel
theorem dX8_look_116 : decode cX8_look 116 = .ok (.iinc 3 1, 3) := by decide +kernel
theorem dX8_look_119 : decode cX8_look 119 = .ok (.goto (-47), 3) := by decide +kernel
theorem dX8_look_122 : decode cX8_look 122 = .ok (.iconst 1, 1) := by decide +kernel
theorem dX8_look_123 : decode cX8_look 123 = .ok (.ireturn, 1) := by decide +kernel
theorem dX8_aim_0 : decode cX8_aim 0 = .ok (.aload_n 0, 1) := by decide +kernel
theorem dX8_aim_1 : decode cX8_aim 1 = .ok (.aload_n 1, 1) := by decide +kernel
theorem dX8_aim_2 : decode cX8_aim 2 = .ok (.iload_n 2, 1) := by decide +kernel
theorem dX8_aim_3 : decode cX8_aim 3 = .ok (.invokevirtual 35, 3) := by decide +kernel
theorem dX8_aim_6 : decode cX8_aim 6 = .ok (.putfield 29, 3) := by decide +kernel
theorem dX8_aim_9 : decode cX8_aim 9 = .ok (.aload_n 0, 1) := by decide +kernel
theorem dX8_aim_10 : decode cX8_aim 10 = .ok (.aload_n 1, 1) := by decide +kernel
theorem dX8_aim_11 : decode cX8_aim 11 = .ok (.iload_n 2, 1) := by decide +kernel
theorem dX8_aim_12 : decode cX8_aim 12 = .ok (.invokevirtual 41, 3) := by decide +kernel
theorem dX8_aim_15 : decode cX8_aim 15 = .ok (.putfield 32, 3) := by decide +kernel
theorem dX8_aim_18 : decode cX8_aim 18 = .ok (.return_, 1) := by decide +kernel
theorem dX8_isInside_0 : decode cX8_isInside 0 = .ok (.iload_n 1, 1) := by decide +kernel
theorem dX8_isInside_1 : decode cX8_isInside 1 = .ok (.aload_n 0, 1) := by decide +kernel
theorem dX8_isInside_2 : decode cX8_isInside 2 = .ok (.getfield 29, 3) := by decide +kernel
theorem dX8_isInside_5 : decode cX8_isInside 5 = .ok (.isub, 1) := by decide +kernel
theorem dX8_isInside_6 : decode cX8_isInside 6 = .ok (.sipush 4095, 3) := by decide +kernel
theorem dX8_isInside_9 : decode cX8_isInside 9 = .ok (.iand, 1) := by decide +kernel
theorem dX8_isInside_10 : decode cX8_isInside 10 = .ok (.aload_n 0, 1) := by decide +kernel
theorem dX8_isInside_11 : decode cX8_isInside 11 = .ok (.getfield 32, 3) := by decide +kernel
theorem dX8_isInside_14 : decode cX8_isInside 14 = .ok (.if_icmp .ge 7, 3) := by decide +kernel
theorem dX8_isInside_17 : decode cX8_isInside 17 = .ok (.iconst 1, 1) := by decide +kernel
theorem dX8_isInside_18 : decode cX8_isInside 18 = .ok (.goto 4, 3) := by decide +kernel
theorem dX8_isInside_21 : decode cX8_isInside 21 = .ok (.iconst 0, 1) := by decide +kernel
theorem dX8_isInside_22 : decode cX8_isInside 22 = .ok (.ireturn, 1) := by decide +kernel
theorem dX8_isPlace_0 : decode cX8_isPlace 0 = .ok (.aload_n 0, 1) := by decide +kernel
theorem dX8_isPlace_1 : decode cX8_isPlace 1 = .ok (.iload_n 1, 1) := by decide +kernel
theorem dX8_isPlace_2 : decode cX8_isPlace 2 = .ok (.invokevirtual 44, 3) := by decide +kernel
theorem dX8_isPlace_5 : decode cX8_isPlace 5 = .ok (.ifCond .ne 5, 3) := by decide +kernel
theorem dX8_isPlace_8 : decode cX8_isPlace 8 = .ok (.iconst 0, 1) := by decide +kernel
theorem dX8_isPlace_9 : decode cX8_isPlace 9 = .ok (.ireturn, 1) := by decide +kernel
theorem dX8_isPlace_10 : decode cX8_isPlace 10 = .ok (.iconst 0, 1) := by decide +kernel
theorem dX8_isPlace_11 : decode cX8_isPlace 11 = .ok (.istore_n 2, 1) := by decide +kernel
theorem dX8_isPlace_12 : decode cX8_isPlace 12 = .ok (.iload_n 2, 1) := by decide +kernel
theorem dX8_isPlace_13 : decode cX8_isPlace 13 = .ok (.aload_n 0, 1) := by decide +kernel
theorem dX8_isPlace_14 : decode cX8_isPlace 14 = .ok (.getfield 9, 3) := by decide +kernel
theorem dX8_isPlace_17 : decode cX8_isPlace 17 = .ok (.if_icmp .ge 32, 3) := by decide +kernel
theorem dX8_isPlace_20 : decode cX8_isPlace 20 = .ok (.aload_n 0, 1) := by decide +kernel
theorem dX8_isPlace_21 : decode cX8_isPlace 21 = .ok (.iload_n 1, 1) := by decide +kernel
theorem dX8_isPlace_22 : decode cX8_isPlace 22 = .ok (.aload_n 0, 1) := by decide +kernel
theorem dX8_isPlace_23 : decode cX8_isPlace 23 = .ok (.getfield 21, 3) := by decide +kernel
theorem dX8_isPlace_26 : decode cX8_isPlace 26 = .ok (.iload_n 2, 1) := by decide +kernel
theorem dX8_isPlace_27 : decode cX8_isPlace 27 = .ok (.iaload, 1) := by decide +kernel
theorem dX8_isPlace_28 : decode cX8_isPlace 28 = .ok (.iadd, 1) := by decide +kernel
theorem dX8_isPlace_29 : decode cX8_isPlace 29 = .ok (.invokevirtual 44, 3) := by decide +kernel
theorem dX8_isPlace_32 : decode cX8_isPlace 32 = .ok (.aload_n 0, 1) := by decide +kernel
theorem dX8_isPlace_33 : decode cX8_isPlace 33 = .ok (.getfield 25, 3) := by decide +kernel
theorem dX8_isPlace_36 : decode cX8_isPlace 36 = .ok (.iload_n 2, 1) := by decide +kernel
theorem dX8_isPlace_37 : decode cX8_isPlace 37 = .ok (.baload, 1) := by decide +kernel
theorem dX8_isPlace_38 : decode cX8_isPlace 38 = .ok (.if_icmp .eq 5, 3) := by decide +kernel
theorem dX8_isPlace_41 : decode cX8_isPlace 41 = .ok (.iconst 0, 1) := by decide +kernel
theorem dX8_isPlace_42 : decode cX8_isPlace 42 = .ok (.ireturn, 1) := by decide +kernel
theorem dX8_isPlace_43 : decode cX8_isPlace 43 = .ok (.iinc 2 1, 3) := by decide +kernel
theorem dX8_isPlace_46 : decode cX8_isPlace 46 = .ok (.goto (-34), 3) := by decide +kernel
theorem dX8_isPlace_49 : decode cX8_isPlace 49 = .ok (.iconst 1, 1) := by decide +kernel
theorem dX8_isPlace_50 : decode cX8_isPlace 50 = .ok (.ireturn, 1) := by decide +kernel
theorem dX8_countPlaces_0 : decode cX8_countPlaces 0 = .ok (.iconst 0, 1) := by decide +kernel
theorem dX8_countPlaces_1 : decode cX8_countPlaces 1 = .ok (.istore_n 1, 1) := by decide +kernel
theorem dX8_countPlaces_2 : decode cX8_countPlaces 2 = .ok (.iconst 0, 1) := by decide +kernel
theorem dX8_countPlaces_3 : decode cX8_countPlaces 3 = .ok (.istore_n 2, 1) := by decide +kernel
theorem dX8_countPlaces_4 : decode cX8_countPlaces 4 = .ok (.iload_n 2, 1) := by decide +kernel
theorem dX8_countPlaces_5 : decode cX8_countPlaces 5 = .ok (.sipush 4096, 3) := by decide +kernel
theorem dX8_countPlaces_8 : decode cX8_countPlaces 8 = .ok (.if_icmp .ge 20, 3) := by decide +kernel
theorem dX8_countPlaces_11 : decode cX8_countPlaces 11 = .ok (.aload_n 0, 1) := by decide +kernel
theorem dX8_countPlaces_12 : decode cX8_countPlaces 12 = .ok (.iload_n 2, 1) := by decide +kernel
theorem dX8_countPlaces_13 : decode cX8_countPlaces 13 = .ok (.invokevirtual 48, 3) := by decide +kernel
theorem dX8_countPlaces_16 : decode cX8_countPlaces 16 = .ok (.ifCond .eq 6, 3) := by decide +kernel
theorem dX8_countPlaces_19 : decode cX8_countPlaces 19 = .ok (.iinc 1 1, 3) := by decide +kernel
theorem dX8_countPlaces_22 : decode cX8_countPlaces 22 = .ok (.iinc 2 1, 3) := by decide +kernel
theorem dX8_countPlaces_25 : decode cX8_countPlaces 25 = .ok (.goto (-21), 3) := by decide +kernel
theorem dX8_countPlaces_28 : decode cX8_countPlaces 28 = .ok (.iload_n 1, 1) := by decide +kernel
theorem dX8_countPlaces_29 : decode cX8_countPlaces 29 = .ok (.ireturn, 1) := by decide +kernel
theorem dX8_placeNumber_0 : decode cX8_placeNumber 0 = .ok (.iconst 0, 1) := by decide +kernel
theorem dX8_placeNumber_1 : decode cX8_placeNumber 1 = .ok (.istore_n 2, 1) := by decide +kernel
theorem dX8_placeNumber_2 : decode cX8_placeNumber 2 = .ok (.iconst 0, 1) := by decide +kernel
theorem dX8_placeNumber_3 : decode cX8_placeNumber 3 = .ok (.istore_n 3, 1) := by decide +kernel
theorem dX8_placeNumber_4 : decode cX8_placeNumber 4 = .ok (.iload_n 3, 1) := by decide +kernel
theorem dX8_placeNumber_5 : decode cX8_placeNumber 5 = .ok (.sipush 4096, 3) := by decide +kernel
theorem dX8_placeNumber_8 : decode cX8_placeNumber 8 = .ok (.if_icmp .ge 31, 3) := by decide +kernel
theorem dX8_placeNumber_11 : decode cX8_placeNumber 11 = .ok (.iload_n 1, 1) := by decide +kernel
theorem dX8_placeNumber_12 : decode cX8_placeNumber 12 = .ok (.ifCond .lt 27, 3) := by decide +kernel
theorem dX8_placeNumber_15 : decode cX8_placeNumber 15 = .ok (.aload_n 0, 1) := by decide +kernel
theorem dX8_placeNumber_16 : decode cX8_placeNumber 16 = .ok (.iload_n 3, 1) := by decide +kernel
theorem dX8_placeNumber_17 : decode cX8_placeNumber 17 = .ok (.invokevirtual 48, 3) := by decide +kernel
theorem dX8_placeNumber_20 : decode cX8_placeNumber 20 = .ok (.ifCond .eq 13, 3) := by decide +kernel
theorem dX8_placeNumber_23 : decode cX8_placeNumber 23 = .ok (.iload_n 2, 1) := by decide +kernel
theorem dX8_placeNumber_24 : decode cX8_placeNumber 24 = .ok (.iload_n 1, 1) := by decide +kernel
theorem dX8_placeNumber_25 : decode cX8_placeNumber 25 = .ok (.if_icmp .ne 5, 3) := by decide +kernel
theorem dX8_placeNumber_28 : decode cX8_placeNumber 28 = .ok (.iload_n 3, 1) := by decide +kernel
theorem dX8_placeNumber_29 : decode cX8_placeNumber 29 = .ok (.ireturn, 1) := by decide +kernel
theorem dX8_placeNumber_30 : decode cX8_placeNumber 30 = .ok (.iinc 2 1, 3) := by decide +kernel
theorem dX8_placeNumber_33 : decode cX8_placeNumber 33 = .ok (.iinc 3 1, 3) := by decide +kernel
theorem dX8_placeNumber_36 : decode cX8_placeNumber 36 = .ok (.goto (-32), 3) := by decide +kernel
theorem dX8_placeNumber_39 : decode cX8_placeNumber 39 = .ok (.iconst (-1), 1) := by decide +kernel
theorem dX8_placeNumber_40 : decode cX8_placeNumber 40 = .ok (.ireturn, 1) := by decide +kernel
theorem dX8_findTelling_0 : decode cX8_findTelling 0 = .ok (.aload_n 0, 1) := by decide +kernel
theorem dX8_findTelling_1 : decode cX8_findTelling 1 = .ok (.invokevirtual 51, 3) := by decide +kernel
theorem dX8_findTelling_4 : decode cX8_findTelling 4 = .ok (.istore_n 1, 1) := by decide +kernel
theorem dX8_findTelling_5 : decode cX8_findTelling 5 = .ok (.aload_n 0, 1) := by decide +kernel
theorem dX8_findTelling_6 : decode cX8_findTelling 6 = .ok (.iload_n 1, 1) := by decide +kernel
theorem dX8_findTelling_7 : decode cX8_findTelling 7 = .ok (.iconst 1, 1) := by decide +kernel
theorem dX8_findTelling_8 : decode cX8_findTelling 8 = .ok (.iadd, 1) := by decide +kernel
theorem dX8_findTelling_9 : decode cX8_findTelling 9 = .ok (.putfield 18, 3) := by decide +kernel
theorem dX8_findTelling_12 : decode cX8_findTelling 12 = .ok (.iconst 0, 1) := by decide +kernel
theorem dX8_findTelling_13 : decode cX8_findTelling 13 = .ok (.istore_n 2, 1) := by decide +kernel
theorem dX8_findTelling_14 : decode cX8_findTelling 14 = .ok (.iconst 1, 1) := by decide +kernel
theorem dX8_findTelling_15 : decode cX8_findTelling 15 = .ok (.istore_n 3, 1) := by decide +kernel
theorem dX8_findTelling_16 : decode cX8_findTelling 16 = .ok (.iload_n 3, 1) := by decide +kernel
theorem dX8_findTelling_17 : decode cX8_findTelling 17 = .ok (.bipush 64, 2) := by decide +kernel
theorem dX8_findTelling_19 : decode cX8_findTelling 19 = .ok (.if_icmp .gt 49, 3) := by decide +kernel
theorem dX8_findTelling_22 : decode cX8_findTelling 22 = .ok (.iload_n 2, 1) := by decide +kernel
theorem dX8_findTelling_23 : decode cX8_findTelling 23 = .ok (.aload_n 0, 1) := by decide +kernel
theorem dX8_findTelling_24 : decode cX8_findTelling 24 = .ok (.iload_n 3, 1) := by decide +kernel
theorem dX8_findTelling_25 : decode cX8_findTelling 25 = .ok (.iconst 1, 1) := by decide +kernel
theorem dX8_findTelling_26 : decode cX8_findTelling 26 = .ok (.isub, 1) := by decide +kernel
theorem dX8_findTelling_27 : decode cX8_findTelling 27 = .ok (.invokevirtual 55, 3) := by decide +kernel
theorem dX8_findTelling_30 : decode cX8_findTelling 30 = .ok (.iadd, 1) := by decide +kernel
theorem dX8_findTelling_31 : decode cX8_findTelling 31 = .ok (.istore_n 2, 1) := by decide +kernel
theorem dX8_findTelling_32 : decode cX8_findTelling 32 = .ok (.iload_n 2, 1) := by decide +kernel
theorem dX8_findTelling_33 : decode cX8_findTelling 33 = .ok (.iload_n 1, 1) := by decide +kernel
theorem dX8_findTelling_34 : decode cX8_findTelling 34 = .ok (.iload_n 2, 1) := by decide +kernel
theorem dX8_findTelling_35 : decode cX8_findTelling 35 = .ok (.isub, 1) := by decide +kernel
theorem dX8_findTelling_36 : decode cX8_findTelling 36 = .ok (.invokestatic 58, 3) := by decide +kernel
theorem dX8_findTelling_39 : decode cX8_findTelling 39 = .ok (.istore 4, 2) := by decide +kernel
theorem dX8_findTelling_41 : decode cX8_findTelling 41 = .ok (.iload 4, 2) := by decide +kernel
theorem dX8_findTelling_43 : decode cX8_findTelling 43 = .ok (.aload_n 0, 1) := by decide +kernel
theorem dX8_findTelling_44 : decode cX8_findTelling 44 = .ok (.getfield 18, 3) := by decide +kernel
theorem dX8_findTelling_47 : decode cX8_findTelling 47 = .ok (.if_icmp .gt 15, 3) := by decide +kernel
theorem dX8_findTelling_50 : decode cX8_findTelling 50 = .ok (.aload_n 0, 1) := by decide +kernel
theorem dX8_findTelling_51 : decode cX8_findTelling 51 = .ok (.iload 4, 2) := by decide +kernel
theorem dX8_findTelling_53 : decode cX8_findTelling 53 = .ok (.putfield 18, 3) := by decide +kernel
theorem dX8_findTelling_56 : decode cX8_findTelling 56 = .ok (.aload_n 0, 1) := by decide +kernel
theorem dX8_findTelling_57 : decode cX8_findTelling 57 = .ok (.iload_n 3, 1) := by decide +kernel
theorem dX8_findTelling_58 : decode cX8_findTelling 58 = .ok (.ineg, 1) := by decide +kernel
theorem dX8_findTelling_59 : decode cX8_findTelling 59 = .ok (.putfield 15, 3) := by decide +kernel
theorem dX8_findTelling_62 : decode cX8_findTelling 62 = .ok (.iinc 3 1, 3) := by decide +kernel
theorem dX8_findTelling_65 : decode cX8_findTelling 65 = .ok (.goto (-49), 3) := by decide +kernel
theorem dX8_findTelling_68 : decode cX8_findTelling 68 = .ok (.iconst 0, 1) := by decide +kernel
theorem dX8_findTelling_69 : decode cX8_findTelling 69 = .ok (.istore_n 2, 1) := by decide +kernel
theorem dX8_findTelling_70 : decode cX8_findTelling 70 = .ok (.iconst 0, 1) := by decide +kernel
theorem dX8_findTelling_71 : decode cX8_findTelling 71 = .ok (.istore_n 3, 1) := by decide +kernel
theorem dX8_findTelling_72 : decode cX8_findTelling 72 = .ok (.iload_n 3, 1) := by decide +kernel
theorem dX8_findTelling_73 : decode cX8_findTelling 73 = .ok (.bipush 64, 2) := by decide +kernel
theorem dX8_findTelling_75 : decode cX8_findTelling 75 = .ok (.if_icmp .ge 51, 3) := by decide +kernel
theorem dX8_findTelling_78 : decode cX8_findTelling 78 = .ok (.iload_n 2, 1) := by decide +kernel
theorem dX8_findTelling_79 : decode cX8_findTelling 79 = .ok (.aload_n 0, 1) := by decide +kernel
theorem dX8_findTelling_80 : decode cX8_findTelling 80 = .ok (.aload_n 0, 1) := by decide +kernel
theorem dX8_findTelling_81 : decode cX8_findTelling 81 = .ok (.getfield 32, 3) := by decide +kernel
theorem dX8_findTelling_84 : decode cX8_findTelling 84 = .ok (.iload_n 3, 1) := by decide +kernel
theorem dX8_findTelling_85 : decode cX8_findTelling 85 = .ok (.isub, 1) := by decide +kernel
theorem dX8_findTelling_86 : decode cX8_findTelling 86 = .ok (.invokevirtual 55, 3) := by decide +kernel
theorem dX8_findTelling_89 : decode cX8_findTelling 89 = .ok (.iadd, 1) := by decide +kernel
theorem dX8_findTelling_90 : decode cX8_findTelling 90 = .ok (.istore_n 2, 1) := by decide +kernel
theorem dX8_findTelling_91 : decode cX8_findTelling 91 = .ok (.iload_n 2, 1) := by decide +kernel
theorem dX8_findTelling_92 : decode cX8_findTelling 92 = .ok (.iload_n 1, 1) := by decide +kernel
theorem dX8_findTelling_93 : decode cX8_findTelling 93 = .ok (.iload_n 2, 1) := by decide +kernel
theorem dX8_findTelling_94 : decode cX8_findTelling 94 = .ok (.isub, 1) := by decide +kernel
theorem dX8_findTelling_95 : decode cX8_findTelling 95 = .ok (.invokestatic 58, 3) := by decide +kernel
theorem dX8_findTelling_98 : decode cX8_findTelling 98 = .ok (.istore 4, 2) := by decide +kernel
theorem dX8_findTelling_100 : decode cX8_findTelling 100 = .ok (.iload 4, 2) := by decide +kernel
theorem dX8_findTelling_102 : decode cX8_findTelling 102 = .ok (.aload_n 0, 1) := by decide +kernel
theorem dX8_findTelling_103 : decode cX8_findTelling 103 = .ok (.getfield 18, 3) := by decide +kernel
theorem dX8_findTelling_106 : decode cX8_findTelling 106 = .ok (.if_icmp .ge 14, 3) := by decide +kernel
theorem dX8_findTelling_109 : decode cX8_findTelling 109 = .ok (.aload_n 0, 1) := by decide +kernel
theorem dX8_findTelling_110 : decode cX8_findTelling 110 = .ok (.iload 4, 2) := by decide +kernel
theorem dX8_findTelling_112 : decode cX8_findTelling 112 = .ok (.putfield 18, 3) := by decide +kernel
theorem dX8_findTelling_115 : decode cX8_findTelling 115 = .ok (.aload_n 0, 1) := by decide +kernel
theorem dX8_findTelling_116 : decode cX8_findTelling 116 = .ok (.iload_n 3, 1) := by decide +kernel
theorem dX8_findTelling_117 : decode cX8_findTelling 117 = .ok (.putfield 15, 3) := by decide +kernel
theorem dX8_findTelling_120 : decode cX8_findTelling 120 = .ok (.iinc 3 1, 3) := by decide +kernel
theorem dX8_findTelling_123 : decode cX8_findTelling 123 = .ok (.goto (-51), 3) := by decide +kernel
theorem dX8_findTelling_126 : decode cX8_findTelling 126 = .ok (.iload_n 1, 1) := by decide +kernel
theorem dX8_findTelling_127 : decode cX8_findTelling 127 = .ok (.ifCond .le 7, 3) := by decide +kernel
theorem dX8_findTelling_130 : decode cX8_findTelling 130 = .ok (.iconst 1, 1) := by decide +kernel
theorem dX8_findTelling_131 : decode cX8_findTelling 131 = .ok (.goto 4, 3) := by decide +kernel
theorem dX8_findTelling_134 : decode cX8_findTelling 134 = .ok (.iconst 0, 1) := by decide +kernel
theorem dX8_findTelling_135 : decode cX8_findTelling 135 = .ok (.ireturn, 1) := by decide +kernel
theorem dX8_placesAt_0 : decode cX8_placesAt 0 = .ok (.iload_n 1, 1) := by decide +kernel
theorem dX8_placesAt_1 : decode cX8_placesAt 1 = .ok (.ifCond .lt 21, 3) := by decide +kernel
theorem dX8_placesAt_4 : decode cX8_placesAt 4 = .ok (.iload_n 1, 1) := by decide +kernel
theorem dX8_placesAt_5 : decode cX8_placesAt 5 = .ok (.aload_n 0, 1) := by decide +kernel
theorem dX8_placesAt_6 : decode cX8_placesAt 6 = .ok (.getfield 32, 3) := by decide +kernel
theorem dX8_placesAt_9 : decode cX8_placesAt 9 = .ok (.if_icmp .ge 13, 3) := by decide +kernel
theorem dX8_placesAt_12 : decode cX8_placesAt 12 = .ok (.aload_n 0, 1) := by decide +kernel
theorem dX8_placesAt_13 : decode cX8_placesAt 13 = .ok (.getfield 32, 3) := by decide +kernel
theorem dX8_placesAt_16 : decode cX8_placesAt 16 = .ok (.sipush 4096, 3) := by decide +kernel
theorem dX8_placesAt_19 : decode cX8_placesAt 19 = .ok (.if_icmp .ne 5, 3) := by decide +kernel
theorem dX8_placesAt_22 : decode cX8_placesAt 22 = .ok (.iconst 0, 1) := by decide +kernel
theorem dX8_placesAt_23 : decode cX8_placesAt 23 = .ok (.ireturn, 1) := by decide +kernel
theorem dX8_placesAt_24 : decode cX8_placesAt 24 = .ok (.aload_n 0, 1) := by decide +kernel
theorem dX8_placesAt_25 : decode cX8_placesAt 25 = .ok (.aload_n 0, 1) := by decide +kernel
theorem dX8_placesAt_26 : decode cX8_placesAt 26 = .ok (.getfield 29, 3) := by decide +kernel
theorem dX8_placesAt_29 : decode cX8_placesAt 29 = .ok (.iload_n 1, 1) := by decide +kernel
theorem dX8_placesAt_30 : decode cX8_placesAt 30 = .ok (.iadd, 1) := by decide +kernel
theorem dX8_placesAt_31 : decode cX8_placesAt 31 = .ok (.sipush 4095, 3) := by decide +kernel
theorem dX8_placesAt_34 : decode cX8_placesAt 34 = .ok (.iand, 1) := by decide +kernel
theorem dX8_placesAt_35 : decode cX8_placesAt 35 = .ok (.invokevirtual 48, 3) := by decide +kernel
theorem dX8_placesAt_38 : decode cX8_placesAt 38 = .ok (.ifCond .eq 7, 3) := by decide +kernel
theorem dX8_placesAt_41 : decode cX8_placesAt 41 = .ok (.iconst 1, 1) := by decide +kernel
theorem dX8_placesAt_42 : decode cX8_placesAt 42 = .ok (.goto 4, 3) := by decide +kernel
theorem dX8_placesAt_45 : decode cX8_placesAt 45 = .ok (.iconst 0, 1) := by decide +kernel
theorem dX8_placesAt_46 : decode cX8_placesAt 46 = .ok (.ireturn, 1) := by decide +kernel
theorem dX9_init_0 : decode cX9_init 0 = .ok (.aload_n 0, 1) := by decide +kernel
theorem dX9_init_1 : decode cX9_init 1 = .ok (.invokespecial 3, 3) := by decide +kernel
theorem dX9_init_4 : decode cX9_init 4 = .ok (.aload_n 0, 1) := by decide +kernel
theorem dX9_init_5 : decode cX9_init 5 = .ok (.bipush 32, 2) := by decide +kernel
theorem dX9_init_7 : decode cX9_init 7 = .ok (.anewarray 11, 3) := by decide +kernel
theorem dX9_init_10 : decode cX9_init 10 = .ok (.putfield 13, 3) := by decide +kernel
theorem dX9_init_13 : decode cX9_init 13 = .ok (.aload_n 0, 1) := by decide +kernel
theorem dX9_init_14 : decode cX9_init 14 = .ok (.bipush 32, 2) := by decide +kernel
theorem dX9_init_16 : decode cX9_init 16 = .ok (.newarray .int, 2) := by decide +kernel
theorem dX9_init_18 : decode cX9_init 18 = .ok (.putfield 17, 3) := by decide +kernel
theorem dX9_init_21 : decode cX9_init 21 = .ok (.aload_n 0, 1) := by decide +kernel
theorem dX9_init_22 : decode cX9_init 22 = .ok (.bipush 32, 2) := by decide +kernel
theorem dX9_init_24 : decode cX9_init 24 = .ok (.newarray .int, 2) := by decide +kernel
theorem dX9_init_26 : decode cX9_init 26 = .ok (.putfield 21, 3) := by decide +kernel
theorem dX9_init_29 : decode cX9_init 29 = .ok (.aload_n 0, 1) := by decide +kernel
theorem dX9_init_30 : decode cX9_init 30 = .ok (.bipush 32, 2) := by decide +kernel
theorem dX9_init_32 : decode cX9_init 32 = .ok (.newarray .int, 2) := by decide +kernel
theorem dX9_init_34 : decode cX9_init 34 = .ok (.putfield 24, 3) := by decide +kernel
theorem dX9_init_37 : decode cX9_init 37 = .ok (.aload_n 0, 1) := by decide +kernel
theorem dX9_init_38 : decode cX9_init 38 = .ok (.bipush 120, 2) := by decide +kernel
theorem dX9_init_40 : decode cX9_init 40 = .ok (.newarray .int, 2) := by decide +kernel
theorem dX9_init_42 : decode cX9_init 42 = .ok (.putfield 27, 3) := by decide +kernel
theorem dX9_init_45 : decode cX9_init 45 = .ok (.aload_n 0, 1) := by decide +kernel
theorem dX9_init_46 : decode cX9_init 46 = .ok (.sipush 256, 3) := by decide +kernel
theorem dX9_init_49 : decode cX9_init 49 = .ok (.newarray .int, 2) := by decide +kernel
theorem dX9_init_51 : decode cX9_init 51 = .ok (.putfield 30, 3) := by decide +kernel
theorem dX9_init_54 : decode cX9_init 54 = .ok (.aload_n 0, 1) := by decide +kernel
theorem dX9_init_55 : decode cX9_init 55 = .ok (.iconst 0, 1) := by decide +kernel
theorem dX9_init_56 : decode cX9_init 56 = .ok (.putfield 33, 3) := by decide +kernel
theorem dX9_init_59 : decode cX9_init 59 = .ok (.aload_n 0, 1) := by decide +kernel
theorem dX9_init_60 : decode cX9_init 60 = .ok (.iconst 0, 1) := by decide +kernel
theorem dX9_init_61 : decode cX9_init 61 = .ok (.putfield 37, 3) := by decide +kernel
theorem dX9_init_64 : decode cX9_init 64 = .ok (.iconst 0, 1) := by decide +kernel
theorem dX9_init_65 : decode cX9_init 65 = .ok (.istore_n 1, 1) := by decide +kernel
theorem dX9_init_66 : decode cX9_init 66 = .ok (.iload_n 1, 1) := by decide +kernel
theorem dX9_init_67 : decode cX9_init 67 = .ok (.bipush 32, 2) := by decide +kernel
theorem dX9_init_69 : decode cX9_init 69 = .ok (.if_icmp .ge 22, 3) := by decide +kernel
theorem dX9_init_72 : decode cX9_init 72 = .ok (.aload_n 0, 1) := by decide +kernel
theorem dX9_init_73 : decode cX9_init 73 = .ok (.getfield 13, 3) := by decide +kernel
theorem dX9_init_76 : decode cX9_init 76 = .ok (.iload_n 1, 1) := by decide +kernel
theorem dX9_init_77 : decode cX9_init 77 = .ok (.new 11, 3) := by decide +kernel
theorem dX9_init_80 : decode cX9_init 80 = .ok (.dup, 1) := by decide +kernel
theorem dX9_init_81 : decode cX9_init 81 = .ok (.invokespecial 40, 3) := by decide +kernel
theorem dX9_init_84 : decode cX9_init 84 = .ok (.aastore, 1) := by decide +kernel
theorem dX9_init_85 : decode cX9_init 85 = .ok (.iinc 1 1, 3) := by decide +kernel
theorem dX9_init_88 : decode cX9_init 88 = .ok (.goto (-22), 3) := by decide +kernel
theorem dX9_init_91 : decode cX9_init 91 = .ok (.return_, 1) := by decide +kernel
theorem dX9_clear_0 : decode cX9_clear 0 = .ok (.iconst 0, 1) := by decide +kernel
theorem dX9_clear_1 : decode cX9_clear 1 = .ok (.istore_n 1, 1) := by decide +kernel
theorem dX9_clear_2 : decode cX9_clear 2 = .ok (.iload_n 1, 1) := by decide +kernel
theorem dX9_clear_3 : decode cX9_clear 3 = .ok (.bipush 32, 2) := by decide +kernel
theorem dX9_clear_5 : decode cX9_clear 5 = .ok (.if_icmp .ge 29, 3) := by decide +kernel
theorem dX9_clear_8 : decode cX9_clear 8 = .ok (.aload_n 0, 1) := by decide +kernel
theorem dX9_clear_9 : decode cX9_clear 9 = .ok (.getfield 13, 3) := by decide +kernel
theorem dX9_clear_12 : decode cX9_clear 12 = .ok (.iload_n 1, 1) := by decide +kernel
theorem dX9_clear_13 : decode cX9_clear 13 = .ok (.aaload, 1) := by decide +kernel
theorem dX9_clear_14 : decode cX9_clear 14 = .ok (.iload_n 1, 1) := by decide +kernel
theorem dX9_clear_15 : decode cX9_clear 15 = .ok (.bipush 16, 2) := by decide +kernel
theorem dX9_clear_17 : decode cX9_clear 17 = .ok (.if_icmp .ge 7, 3) := by decide +kernel
theorem dX9_clear_20 : decode cX9_clear 20 = .ok (.iconst 1, 1) := by decide +kernel
theorem dX9_clear_21 : decode cX9_clear 21 = .ok (.goto 4, 3) := by decide +kernel
theorem dX9_clear_24 : decode cX9_clear 24 = .ok (.iconst 0, 1) := by decide +kernel
theorem dX9_clear_25 : decode cX9_clear 25 = .ok (.invokevirtual 41, 3) := by decide +kernel
theorem dX9_clear_28 : decode cX9_clear 28 = .ok (.iinc 1 1, 3) := by decide +kernel
theorem dX9_clear_31 : decode cX9_clear 31 = .ok (.goto (-29), 3) := by decide +kernel
theorem dX9_clear_34 : decode cX9_clear 34 = .ok (.aload_n 0, 1) := by decide +kernel
theorem dX9_clear_35 : decode cX9_clear 35 = .ok (.getfield 30, 3) := by decide +kernel
theorem dX9_clear_38 : decode cX9_clear 38 = .ok (.iconst 0, 1) := by decide +kernel
theorem dX9_clear_39 : decode cX9_clear 39 = .ok (.invokestatic 45, 3) := by decide +kernel
theorem dX9_clear_42 : decode cX9_clear 42 = .ok (.aload_n 0, 1) := by decide +kernel
theorem dX9_clear_43 : decode cX9_clear 43 = .ok (.iconst 0, 1) := by decide +kernel
theorem dX9_clear_44 : decode cX9_clear 44 = .ok (.putfield 33, 3) := by decide +kernel
theorem dX9_clear_47 : decode cX9_clear 47 = .ok (.aload_n 0, 1) := by decide +kernel
theorem dX9_clear_48 : decode cX9_clear 48 = .ok (.iconst 0, 1) := by decide +kernel
theorem dX9_clear_49 : decode cX9_clear 49 = .ok (.putfield 37, 3) := by decide +kernel
theorem dX9_clear_52 : decode cX9_clear 52 = .ok (.return_, 1) := by decide +kernel
theorem dX9_become_0 : decode cX9_become 0 = .ok (.iconst 0, 1) := by decide +kernel
theorem dX9_become_1 : decode cX9_become 1 = .ok (.istore_n 2, 1) := by decide +kernel
theorem dX9_become_2 : decode cX9_become 2 = .ok (.iload_n 2, 1) := by decide +kernel
theorem dX9_become_3 : decode cX9_become 3 = .ok (.bipush 32, 2) := by decide +kernel
theorem dX9_become_5 : decode cX9_become 5 = .ok (.if_icmp .ge 24, 3) := by decide +kernel
theorem dX9_become_8 : decode cX9_become 8 = .ok (.aload_n 0, 1) := by decide +kernel
theorem dX9_become_9 : decode cX9_become 9 = .ok (.getfield 13, 3) := by decide +kernel
theorem dX9_become_12 : decode cX9_become 12 = .ok (.iload_n 2, 1) := by decide +kernel
theorem dX9_become_13 : decode cX9_become 13 = .ok (.aaload, 1) := by decide +kernel
theorem dX9_become_14 : decode cX9_become 14 = .ok (.aload_n 1, 1) := by decide +kernel
theorem dX9_become_15 : decode cX9_become 15 = .ok (.getfield 13, 3) := by decide +kernel
theorem dX9_become_18 : decode cX9_become 18 = .ok (.iload_n 2, 1) := by decide +kernel
theorem dX9_become_19 : decode cX9_become 19 = .ok (.aaload, 1) := by decide +kernel
theorem dX9_become_20 : decode cX9_become 20 = .ok (.invokevirtual 51, 3) := by decide +kernel
theorem dX9_become_23 : decode cX9_become 23 = .ok (.iinc 2 1, 3) := by decide +kernel
theorem dX9_become_26 : decode cX9_become 26 = .ok (.goto (-24), 3) := by decide +kernel
theorem dX9_become_29 : decode cX9_become 29 = .ok (.aload_n 1, 1) := by decide +kernel
theorem dX9_become_30 : decode cX9_become 30 = .ok (.getfield 17, 3) := by decide +kernel
theorem dX9_become_33 : decode cX9_become 33 = .ok (.iconst 0, 1) := by decide +kernel
theorem dX9_become_34 : decode cX9_become 34 = .ok (.aload_n 0, 1) := by decide +kernel
theorem dX9_become_35 : decode cX9_become 35 = .ok (.getfield 17, 3) := by decide +kernel
theorem dX9_become_38 : decode cX9_become 38 = .ok (.iconst 0, 1) := by decide +kernel
theorem dX9_become_39 : decode cX9_become 39 = .ok (.bipush 32, 2) := by decide +kernel
theorem dX9_become_41 : decode cX9_become 41 = .ok (.invokestatic 55, 3) := by decide +kernel
theorem dX9_become_44 : decode cX9_become 44 = .ok (.aload_n 1, 1) := by decide +kernel
theorem dX9_become_45 : decode cX9_become 45 = .ok (.getfield 21, 3) := by decide +kernel
theorem dX9_become_48 : decode cX9_become 48 = .ok (.iconst 0, 1) := by decide +kernel
theorem dX9_become_49 : decode cX9_become 49 = .ok (.aload_n 0, 1) := by decide +kernel
theorem dX9_become_50 : decode cX9_become 50 = .ok (.getfield 21, 3) := by decide +kernel
theorem dX9_become_53 : decode cX9_become 53 = .ok (.iconst 0, 1) := by decide +kernel
theorem dX9_become_54 : decode cX9_become 54 = .ok (.bipush 32, 2) := by decide +kernel
theorem dX9_become_56 : decode cX9_become 56 = .ok (.invokestatic 55, 3) := by decide +kernel
theorem dX9_become_59 : decode cX9_become 59 = .ok (.aload_n 1, 1) := by decide +kernel
theorem dX9_become_60 : decode cX9_become 60 = .ok (.getfield 24, 3) := by decide +kernel
theorem dX9_become_63 : decode cX9_become 63 = .ok (.iconst 0, 1) := by decide +kernel
theorem dX9_become_64 : decode cX9_become 64 = .ok (.aload_n 0, 1) := by decide +kernel
theorem dX9_become_65 : decode cX9_become 65 = .ok (.getfield 24, 3) := by decide +kernel
theorem dX9_become_68 : decode cX9_become 68 = .ok (.iconst 0, 1) := by decide +kernel
theorem dX9_become_69 : decode cX9_become 69 = .ok (.bipush 32, 2) := by decide +kernel
theorem dX9_become_71 : decode cX9_become 71 = .ok (.invokestatic 55, 3) := by decide +kernel
theorem dX9_become_74 : decode cX9_become 74 = .ok (.aload_n 1, 1) := by decide +kernel
theorem dX9_become_75 : decode cX9_become 75 = .ok (.getfield 27, 3) := by decide +kernel
theorem dX9_become_78 : decode cX9_become 78 = .ok (.iconst 0, 1) := by decide +kernel
theorem dX9_become_79 : decode cX9_become 79 = .ok (.aload_n 0, 1) := by decide +kernel
theorem dX9_become_80 : decode cX9_become 80 = .ok (.getfield 27, 3) := by decide +kernel
theorem dX9_become_83 : decode cX9_become 83 = .ok (.iconst 0, 1) := by decide +kernel
theorem dX9_become_84 : decode cX9_become 84 = .ok (.aload_n 0, 1) := by decide +kernel
theorem dX9_become_85 : decode cX9_become 85 = .ok (.getfield 27, 3) := by decide +kernel
theorem dX9_become_88 : decode cX9_become 88 = .ok (.arraylength, 1) := by decide +kernel
theorem dX9_become_89 : decode cX9_become 89 = .ok (.invokestatic 55, 3) := by decide +kernel
theorem dX9_become_92 : decode cX9_become 92 = .ok (.aload_n 1, 1) := by decide +kernel
theorem dX9_become_93 : decode cX9_become 93 = .ok (.getfield 30, 3) := by decide +kernel
theorem dX9_become_96 : decode cX9_become 96 = .ok (.iconst 0, 1) := by decide +kernel
theorem dX9_become_97 : decode cX9_become 97 = .ok (.aload_n 0, 1) := by decide +kernel
theorem dX9_become_98 : decode cX9_become 98 = .ok (.getfield 30, 3) := by decide +kernel
theorem dX9_become_101 : decode cX9_become 101 = .ok (.iconst 0, 1) := by decide +kernel
theorem dX9_become_102 : decode cX9_become 102 = .ok (.aload_n 0, 1) := by decide +kernel
theorem dX9_become_103 : decode cX9_become 103 = .ok (.getfield 30, 3) := by decide +kernel
theorem dX9_become_106 : decode cX9_become 106 = .ok (.arraylength, 1) := by decide +kernel
theorem dX9_become_107 : decode cX9_become 107 = .ok (.invokestatic 55, 3) := by decide +kernel
theorem dX9_become_110 : decode cX9_become 110 = .ok (.aload_n 0, 1) := by decide +kernel
theorem dX9_become_111 : decode cX9_become 111 = .ok (.aload_n 1, 1) := by decide +kernel
theorem dX9_become_112 : decode cX9_become 112 = .ok (.getfield 33, 3) := by decide +kernel
theorem dX9_become_115 : decode cX9_become 115 = .ok (.putfield 33, 3) := by decide +kernel
theorem dX9_become_118 : decode cX9_become 118 = .ok (.aload_n 0, 1) := by decide +kernel
theorem dX9_become_119 : decode cX9_become 119 = .ok (.aload_n 1, 1) := by decide +kernel
theorem dX9_become_120 : decode cX9_become 120 = .ok (.getfield 37, 3) := by decide +kernel
theorem dX9_become_123 : decode cX9_become 123 = .ok (.putfield 37, 3) := by decide +kernel
theorem dX9_become_126 : decode cX9_become 126 = .ok (.return_, 1) := by decide +kernel
theorem dX9_countValid_0 : decode cX9_countValid 0 = .ok (.iconst 0, 1) := by decide +kernel
theorem dX9_countValid_1 : decode cX9_countValid 1 = .ok (.istore_n 1, 1) := by decide +kernel
theorem dX9_countValid_2 : decode cX9_countValid 2 = .ok (.iconst 0, 1) := by decide +kernel
theorem dX9_countValid_3 : decode cX9_countValid 3 = .ok (.istore_n 2, 1) := by decide +kernel
theorem dX9_countValid_4 : decode cX9_countValid 4 = .ok (.iload_n 2, 1) := by decide +kernel
theorem dX9_countValid_5 : decode cX9_countValid 5 = .ok (.bipush 16, 2) := by decide +kernel
theorem dX9_countValid_7 : decode cX9_countValid 7 = .ok (.if_icmp .ge 24, 3) := by decide +kernel
theorem dX9_countValid_10 : decode cX9_countValid 10 = .ok (.aload_n 0, 1) := by decide +kernel
theorem dX9_countValid_11 : decode cX9_countValid 11 = .ok (.getfield 13, 3) := by decide +kernel
theorem dX9_countValid_14 : decode cX9_countValid 14 = .ok (.iload_n 2, 1) := by decide +kernel
theorem dX9_countValid_15 : decode cX9_countValid 15 = .ok (.aaload, 1) := by decide +kernel
theorem dX9_countValid_16 : decode cX9_countValid 16 = .ok (.getfield 61, 3) := by decide +kernel
theorem dX9_countValid_19 : decode cX9_countValid 19 = .ok (.ifCond .eq 6, 3) := by decide +kernel
theorem dX9_countValid_22 : decode cX9_countValid 22 = .ok (.iinc 1 1, 3) := by decide +kernel
theorem dX9_countValid_25 : decode cX9_countValid 25 = .ok (.iinc 2 1, 3) := by decide +kernel
theorem dX9_countValid_28 : decode cX9_countValid 28 = .ok (.goto (-24), 3) := by decide +kernel
theorem dX9_countValid_31 : decode cX9_countValid 31 = .ok (.iload_n 1, 1) := by decide +kernel
theorem dX9_countValid_32 : decode cX9_countValid 32 = .ok (.ireturn, 1) := by decide +kernel
theorem dX9_byteAt_0 : decode cX9_byteAt 0 = .ok (.iload_n 1, 1) := by decide +kernel
theorem dX9_byteAt_1 : decode cX9_byteAt 1 = .ok (.ifCond .lt 10, 3) := by decide +kernel
theorem dX9_byteAt_4 : decode cX9_byteAt 4 = .ok (.iload_n 1, 1) := by decide +kernel
theorem dX9_byteAt_5 : decode cX9_byteAt 5 = .ok (.sipush 1024, 3) := by decide +kernel
theorem dX9_byteAt_8 : decode cX9_byteAt 8 = .ok (.if_icmp .lt 5, 3) := by decide +kernel
theorem dX9_byteAt_11 : decode cX9_byteAt 11 = .ok (.iconst (-1), 1) := by decide +kernel
theorem dX9_byteAt_12 : decode cX9_byteAt 12 = .ok (.ireturn, 1) := by decide +kernel
theorem dX9_byteAt_13 : decode cX9_byteAt 13 = .ok (.aload_n 0, 1) := by decide +kernel
theorem dX9_byteAt_14 : decode cX9_byteAt 14 = .ok (.getfield 30, 3) := by decide +kernel
theorem dX9_byteAt_17 : decode cX9_byteAt 17 = .ok (.iload_n 1, 1) := by decide +kernel
theorem dX9_byteAt_18 : decode cX9_byteAt 18 = .ok (.iconst 2, 1) := by decide +kernel
theorem dX9_byteAt_19 : decode cX9_byteAt 19 = .ok (.ishr, 1) := by decide +kernel
theorem dX9_byteAt_20 : decode cX9_byteAt 20 = .ok (.iaload, 1) := by decide +kernel
theorem dX9_byteAt_21 : decode cX9_byteAt 21 = .ok (.bipush 8, 2) := by decide +kernel
theorem dX9_byteAt_23 : decode cX9_byteAt 23 = .ok (.iload_n 1, 1) := by decide +kernel
theorem dX9_byteAt_24 : decode cX9_byteAt 24 = .ok (.iconst 3, 1) := by decide +kernel
theorem dX9_byteAt_25 : decode cX9_byteAt 25 = .ok (.iand, 1) := by decide +kernel
theorem dX9_byteAt_26 : decode cX9_byteAt 26 = .ok (.imul, 1) := by decide +kernel
theorem dX9_byteAt_27 : decode cX9_byteAt 27 = .ok (.ishr, 1) := by decide +kernel
theorem dX9_byteAt_28 : decode cX9_byteAt 28 = .ok (.sipush 255, 3) := by decide +kernel
theorem dX9_byteAt_31 : decode cX9_byteAt 31 = .ok (.iand, 1) := by decide +kernel
theorem dX9_byteAt_32 : decode cX9_byteAt 32 = .ok (.ireturn, 1) := by decide +kernel
theorem dX9_setByte_0 : decode cX9_setByte 0 = .ok (.iload_n 1, 1) := by decide +kernel
theorem dX9_setByte_1 : decode cX9_setByte 1 = .ok (.ifCond .lt 10, 3) := by decide +kernel
theorem dX9_setByte_4 : decode cX9_setByte 4 = .ok (.iload_n 1, 1) := by decide +kernel
theorem dX9_setByte_5 : decode cX9_setByte 5 = .ok (.sipush 1024, 3) := by decide +kernel
theorem dX9_setByte_8 : decode cX9_setByte 8 = .ok (.if_icmp .lt 4, 3) := by decide +kernel
theorem dX9_setByte_11 : decode cX9_setByte 11 = .ok (.return_, 1) := by decide +kernel
theorem dX9_setByte_12 : decode cX9_setByte 12 = .ok (.bipush 8, 2) := by decide +kernel
theorem dX9_setByte_14 : decode cX9_setByte 14 = .ok (.iload_n 1, 1) := by decide +kernel
theorem dX9_setByte_15 : decode cX9_setByte 15 = .ok (.iconst 3, 1) := by decide +kernel
theorem dX9_setByte_16 : decode cX9_setByte 16 = .ok (.iand, 1) := by decide +kernel
theorem dX9_setByte_17 : decode cX9_setByte 17 = .ok (.imul, 1) := by decide +kernel
theorem dX9_setByte_18 : decode cX9_setByte 18 = .ok (.istore_n 3, 1) := by decide +kernel
theorem dX9_setByte_19 : decode cX9_setByte 19 = .ok (.aload_n 0, 1) := by decide +kernel
theorem dX9_setByte_20 : decode cX9_setByte 20 = .ok (.getfield 30, 3) := by decide +kernel
theorem dX9_setByte_23 : decode cX9_setByte 23 = .ok (.iload_n 1, 1) := by decide +kernel
theorem dX9_setByte_24 : decode cX9_setByte 24 = .ok (.iconst 2, 1) := by decide +kernel
theorem dX9_setByte_25 : decode cX9_setByte 25 = .ok (.ishr, 1) := by decide +kernel
theorem dX9_setByte_26 : decode cX9_setByte 26 = .ok (.iaload, 1) := by decide +kernel
theorem dX9_setByte_27 : decode cX9_setByte 27 = .ok (.sipush 255, 3) := by decide +kernel
theorem dX9_setByte_30 : decode cX9_setByte 30 = .ok (.iload_n 3, 1) := by decide +kernel
theorem dX9_setByte_31 : decode cX9_setByte 31 = .ok (.ishl, 1) := by decide +kernel
theorem dX9_setByte_32 : decode cX9_setByte 32 = .ok (.iconst (-1), 1) := by decide +kernel
theorem dX9_setByte_33 : decode cX9_setByte 33 = .ok (.ixor, 1) := by decide +kernel
theorem dX9_setByte_34 : decode cX9_setByte 34 = .ok (.iand, 1) := by decide +kernel
theorem dX9_setByte_35 : decode cX9_setByte 35 = .ok (.istore 4, 2) := by decide +kernel
theorem dX9_setByte_37 : decode cX9_setByte 37 = .ok (.aload_n 0, 1) := by decide +kernel
theorem dX9_setByte_38 : decode cX9_setByte 38 = .ok (.getfield 30, 3) := by decide +kernel
theorem dX9_setByte_41 : decode cX9_setByte 41 = .ok (.iload_n 1, 1) := by decide +kernel
theorem dX9_setByte_42 : decode cX9_setByte 42 = .ok (.iconst 2, 1) := by decide +kernel
theorem dX9_setByte_43 : decode cX9_setByte 43 = .ok (.ishr, 1) := by decide +kernel
theorem dX9_setByte_44 : decode cX9_setByte 44 = .ok (.iload 4, 2) := by decide +kernel
theorem dX9_setByte_46 : decode cX9_setByte 46 = .ok (.iload_n 2, 1) := by decide +kernel
theorem dX9_setByte_47 : decode cX9_setByte 47 = .ok (.sipush 255, 3) := by decide +kernel
theorem dX9_setByte_50 : decode cX9_setByte 50 = .ok (.iand, 1) := by decide +kernel
theorem dX9_setByte_51 : decode cX9_setByte 51 = .ok (.iload_n 3, 1) := by decide +kernel
theorem dX9_setByte_52 : decode cX9_setByte 52 = .ok (.ishl, 1) := by decide +kernel
theorem dX9_setByte_53 : decode cX9_setByte 53 = .ok (.ior, 1) := by decide +kernel
theorem dX9_setByte_54 : decode cX9_setByte 54 = .ok (.iastore, 1) := by decide +kernel
theorem dX9_setByte_55 : decode cX9_setByte 55 = .ok (.return_, 1) := by decide +kernel
theorem dX9_note_0 : decode cX9_note 0 = .ok (.aload_n 0, 1) := by decide +kernel
theorem dX9_note_1 : decode cX9_note 1 = .ok (.getfield 37, 3) := by decide +kernel
theorem dX9_note_4 : decode cX9_note 4 = .ok (.bipush 40, 2) := by decide +kernel
theorem dX9_note_6 : decode cX9_note 6 = .ok (.if_icmp .lt 24, 3) := by decide +kernel
theorem dX9_note_9 : decode cX9_note 9 = .ok (.aload_n 0, 1) := by decide +kernel
theorem dX9_note_10 : decode cX9_note 10 = .ok (.getfield 27, 3) := by decide +kernel
theorem dX9_note_13 : decode cX9_note 13 = .ok (.iconst 3, 1) := by decide +kernel
theorem dX9_note_14 : decode cX9_note 14 = .ok (.aload_n 0, 1) := by decide +kernel
theorem dX9_note_15 : decode cX9_note 15 = .ok (.getfield 27, 3) := by decide +kernel
theorem dX9_note_18 : decode cX9_note 18 = .ok (.iconst 0, 1) := by decide +kernel
theorem dX9_note_19 : decode cX9_note 19 = .ok (.bipush 117, 2) := by decide +kernel
theorem dX9_note_21 : decode cX9_note 21 = .ok (.invokestatic 55, 3) := by decide +kernel
theorem dX9_note_24 : decode cX9_note 24 = .ok (.aload_n 0, 1) := by decide +kernel
theorem dX9_note_25 : decode cX9_note 25 = .ok (.bipush 39, 2) := by decide +kernel
theorem dX9_note_27 : decode cX9_note 27 = .ok (.putfield 37, 3) := by decide +kernel
theorem dX9_note_30 : decode cX9_note 30 = .ok (.aload_n 0, 1) := by decide +kernel
theorem dX9_note_31 : decode cX9_note 31 = .ok (.getfield 27, 3) := by decide +kernel
theorem dX9_note_34 : decode cX9_note 34 = .ok (.aload_n 0, 1) := by decide +kernel
theorem dX9_note_35 : decode cX9_note 35 = .ok (.getfield 37, 3) := by decide +kernel
theorem dX9_note_38 : decode cX9_note 38 = .ok (.iconst 3, 1) := by decide +kernel
theorem dX9_note_39 : decode cX9_note 39 = .ok (.imul, 1) := by decide +kernel
theorem dX9_note_40 : decode cX9_note 40 = .ok (.iload_n 1, 1) := by decide +kernel
theorem dX9_note_41 : decode cX9_note 41 = .ok (.iastore, 1) := by decide +kernel
theorem dX9_note_42 : decode cX9_note 42 = .ok (.aload_n 0, 1) := by decide +kernel
theorem dX9_note_43 : decode cX9_note 43 = .ok (.getfield 27, 3) := by decide +kernel
theorem dX9_note_46 : decode cX9_note 46 = .ok (.aload_n 0, 1) := by decide +kernel
theorem dX9_note_47 : decode cX9_note 47 = .ok (.getfield 37, 3) := by decide +kernel
theorem dX9_note_50 : decode cX9_note 50 = .ok (.iconst 3, 1) := by decide +kernel
theorem dX9_note_51 : decode cX9_note 51 = .ok (.imul, 1) := by decide +kernel
theorem dX9_note_52 : decode cX9_note 52 = .ok (.iconst 1, 1) := by decide +kernel
theorem dX9_note_53 : decode cX9_note 53 = .ok (.iadd, 1) := by decide +kernel
theorem dX9_note_54 : decode cX9_note 54 = .ok (.iload_n 2, 1) := by decide +kernel
theorem dX9_note_55 : decode cX9_note 55 = .ok (.iastore, 1) := by decide +kernel
theorem dX9_note_56 : decode cX9_note 56 = .ok (.aload_n 0, 1) := by decide +kernel
theorem dX9_note_57 : decode cX9_note 57 = .ok (.getfield 27, 3) := by decide +kernel
theorem dX9_note_60 : decode cX9_note 60 = .ok (.aload_n 0, 1) := by decide +kernel
theorem dX9_note_61 : decode cX9_note 61 = .ok (.getfield 37, 3) := by decide +kernel
theorem dX9_note_64 : decode cX9_note 64 = .ok (.iconst 3, 1) := by decide +kernel
theorem dX9_note_65 : decode cX9_note 65 = .ok (.imul, 1) := by decide +kernel
theorem dX9_note_66 : decode cX9_note 66 = .ok (.iconst 2, 1) := by decide +kernel
theorem dX9_note_67 : decode cX9_note 67 = .ok (.iadd, 1) := by decide +kernel
theorem dX9_note_68 : decode cX9_note 68 = .ok (.iload_n 3, 1) := by decide +kernel
theorem dX9_note_69 : decode cX9_note 69 = .ok (.iastore, 1) := by decide +kernel
theorem dX9_note_70 : decode cX9_note 70 = .ok (.aload_n 0, 1) := by decide +kernel
theorem dX9_note_71 : decode cX9_note 71 = .ok (.dup, 1) := by decide +kernel
theorem dX9_note_72 : decode cX9_note 72 = .ok (.getfield 37, 3) := by decide +kernel
theorem dX9_note_75 : decode cX9_note 75 = .ok (.iconst 1, 1) := by decide +kernel
theorem dX9_note_76 : decode cX9_note 76 = .ok (.iadd, 1) := by decide +kernel
theorem dX9_note_77 : decode cX9_note 77 = .ok (.putfield 37, 3) := by decide +kernel
theorem dX9_note_80 : decode cX9_note 80 = .ok (.return_, 1) := by decide +kernel
theorem dX9_bytesInObjects_0 : decode cX9_bytesInObjects 0 = .ok (.iconst 0, 1) := by decide +kernel
theorem dX9_bytesInObjects_1 : decode cX9_bytesInObjects 1 = .ok (.istore_n 1, 1) := by decide +kernel
theorem dX9_bytesInObjects_2 : decode cX9_bytesInObjects 2 = .ok (.iconst 0, 1) := by decide +kernel
theorem dX9_bytesInObjects_3 : decode cX9_bytesInObjects 3 = .ok (.istore_n 2, 1) := by decide +kernel
theorem dX9_bytesInObjects_4 : decode cX9_bytesInObjects 4 = .ok (.iload_n 2, 1) := by decide +kernel
theorem dX9_bytesInObjects_5 : decode cX9_bytesInObjects 5 = .ok (.aload_n 0, 1) := by decide +kernel
theorem dX9_bytesInObjects_6 : decode cX9_bytesInObjects 6 = .ok (.getfield 33, 3) := by decide +kernel
theorem dX9_bytesInObjects_9 : decode cX9_bytesInObjects 9 = .ok (.if_icmp .ge 18, 3) := by decide +kernel
theorem dX9_bytesInObjects_12 : decode cX9_bytesInObjects 12 = .ok (.iload_n 1, 1) := by decide +kernel
theorem dX9_bytesInObjects_13 : decode cX9_bytesInObjects 13 = .ok (.aload_n 0, 1) := by decide +kernel
theorem dX9_bytesInObjects_14 : decode cX9_bytesInObjects 14 = .ok (.getfield 21, 3) := by decide +kernel
theorem dX9_bytesInObjects_17 : decode cX9_bytesInObjects 17 = .ok (.iload_n 2, 1) := by decide +kernel
theorem dX9_bytesInObjects_18 : decode cX9_bytesInObjects 18 = .ok (.iaload, 1) := by decide +kernel
theorem dX9_bytesInObjects_19 : decode cX9_bytesInObjects 19 = .ok (.iadd, 1) := by decide +kernel
theorem dX9_bytesInObjects_20 : decode cX9_bytesInObjects 20 = .ok (.istore_n 1, 1) := by decide +kernel
theorem dX9_bytesInObjects_21 : decode cX9_bytesInObjects 21 = .ok (.iinc 2 1, 3) := by decide +kernel
theorem dX9_bytesInObjects_24 : decode cX9_bytesInObjects 24 = .ok (.goto (-20), 3) := by decide +kernel
theorem dX9_bytesInObjects_27 : decode cX9_bytesInObjects 27 = .ok (.iload_n 1, 1) := by decide +kernel
theorem dX9_bytesInObjects_28 : decode cX9_bytesInObjects 28 = .ok (.ireturn, 1) := by decide +kernel
theorem dX9_bytesAsked_0 : decode cX9_bytesAsked 0 = .ok (.iconst 0, 1) := by decide +kernel
theorem dX9_bytesAsked_1 : decode cX9_bytesAsked 1 = .ok (.istore_n 1, 1) := by decide +kernel
theorem dX9_bytesAsked_2 : decode cX9_bytesAsked 2 = .ok (.iconst 0, 1) := by decide +kernel
theorem dX9_bytesAsked_3 : decode cX9_bytesAsked 3 = .ok (.istore_n 2, 1) := by decide +kernel
theorem dX9_bytesAsked_4 : decode cX9_bytesAsked 4 = .ok (.iload_n 2, 1) := by decide +kernel
theorem dX9_bytesAsked_5 : decode cX9_bytesAsked 5 = .ok (.aload_n 0, 1) := by decide +kernel
theorem dX9_bytesAsked_6 : decode cX9_bytesAsked 6 = .ok (.getfield 33, 3) := by decide +kernel
theorem dX9_bytesAsked_9 : decode cX9_bytesAsked 9 = .ok (.if_icmp .ge 18, 3) := by decide +kernel
theorem dX9_bytesAsked_12 : decode cX9_bytesAsked 12 = .ok (.iload_n 1, 1) := by decide +kernel
theorem dX9_bytesAsked_13 : decode cX9_bytesAsked 13 = .ok (.aload_n 0, 1) := by decide +kernel
theorem dX9_bytesAsked_14 : decode cX9_bytesAsked 14 = .ok (.getfield 24, 3) := by decide +kernel
theorem dX9_bytesAsked_17 : decode cX9_bytesAsked 17 = .ok (.iload_n 2, 1) := by decide +kernel
theorem dX9_bytesAsked_18 : decode cX9_bytesAsked 18 = .ok (.iaload, 1) := by decide +kernel
theorem dX9_bytesAsked_19 : decode cX9_bytesAsked 19 = .ok (.iadd, 1) := by decide +kernel
theorem dX9_bytesAsked_20 : decode cX9_bytesAsked 20 = .ok (.istore_n 1, 1) := by decide +kernel
theorem dX9_bytesAsked_21 : decode cX9_bytesAsked 21 = .ok (.iinc 2 1, 3) := by decide +kernel
theorem dX9_bytesAsked_24 : decode cX9_bytesAsked 24 = .ok (.goto (-20), 3) := by decide +kernel
theorem dX9_bytesAsked_27 : decode cX9_bytesAsked 27 = .ok (.iload_n 1, 1) := by decide +kernel
theorem dX9_bytesAsked_28 : decode cX9_bytesAsked 28 = .ok (.ireturn, 1) := by decide +kernel
theorem dX9_objectWith_0 : decode cX9_objectWith 0 = .ok (.iconst 0, 1) := by decide +kernel
theorem dX9_objectWith_1 : decode cX9_objectWith 1 = .ok (.istore_n 3, 1) := by decide +kernel
theorem dX9_objectWith_2 : decode cX9_objectWith 2 = .ok (.iload_n 3, 1) := by decide +kernel
theorem dX9_objectWith_3 : decode cX9_objectWith 3 = .ok (.aload_n 0, 1) := by decide +kernel
theorem dX9_objectWith_4 : decode cX9_objectWith 4 = .ok (.getfield 33, 3) := by decide +kernel
theorem dX9_objectWith_7 : decode cX9_objectWith 7 = .ok (.if_icmp .ge 31, 3) := by decide +kernel
theorem dX9_objectWith_10 : decode cX9_objectWith 10 = .ok (.aload_n 0, 1) := by decide +kernel
theorem dX9_objectWith_11 : decode cX9_objectWith 11 = .ok (.getfield 17, 3) := by decide +kernel
theorem dX9_objectWith_14 : decode cX9_objectWith 14 = .ok (.iload_n 3, 1) := by decide +kernel
theorem dX9_objectWith_15 : decode cX9_objectWith 15 = .ok (.iaload, 1) := by decide +kernel
theorem dX9_objectWith_16 : decode cX9_objectWith 16 = .ok (.iload_n 1, 1) := by decide +kernel
theorem dX9_objectWith_17 : decode cX9_objectWith 17 = .ok (.if_icmp .ne 15, 3) := by decide +kernel
theorem dX9_objectWith_20 : decode cX9_objectWith 20 = .ok (.aload_n 0, 1) := by decide +kernel
theorem dX9_objectWith_21 : decode cX9_objectWith 21 = .ok (.getfield 21, 3) := by decide +kernel
theorem dX9_objectWith_24 : decode cX9_objectWith 24 = .ok (.iload_n 3, 1) := by decide +kernel
theorem dX9_objectWith_25 : decode cX9_objectWith 25 = .ok (.iaload, 1) := by decide +kernel
theorem dX9_objectWith_26 : decode cX9_objectWith 26 = .ok (.iload_n 2, 1) := by decide +kernel
theorem dX9_objectWith_27 : decode cX9_objectWith 27 = .ok (.if_icmp .ne 5, 3) := by decide +kernel
theorem dX9_objectWith_30 : decode cX9_objectWith 30 = .ok (.iload_n 3, 1) := by decide +kernel
theorem dX9_objectWith_31 : decode cX9_objectWith 31 = .ok (.ireturn, 1) := by decide +kernel
theorem dX9_objectWith_32 : decode cX9_objectWith 32 = .ok (.iinc 3 1, 3) := by decide +kernel
theorem dX9_objectWith_35 : decode cX9_objectWith 35 = .ok (.goto (-33), 3) := by decide +kernel
theorem dX9_objectWith_38 : decode cX9_objectWith 38 = .ok (.iconst (-1), 1) := by decide +kernel
theorem dX9_objectWith_39 : decode cX9_objectWith 39 = .ok (.ireturn, 1) := by decide +kernel
theorem dX9_gapStart_0 : decode cX9_gapStart 0 = .ok (.iload_n 1, 1) := by decide +kernel
theorem dX9_gapStart_1 : decode cX9_gapStart 1 = .ok (.iconst 1, 1) := by decide +kernel
theorem dX9_gapStart_2 : decode cX9_gapStart 2 = .ok (.if_icmp .lt 31, 3) := by decide +kernel
theorem dX9_gapStart_5 : decode cX9_gapStart 5 = .ok (.iload_n 1, 1) := by decide +kernel
theorem dX9_gapStart_6 : decode cX9_gapStart 6 = .ok (.aload_n 0, 1) := by decide +kernel
theorem dX9_gapStart_7 : decode cX9_gapStart 7 = .ok (.getfield 33, 3) := by decide +kernel
theorem dX9_gapStart_10 : decode cX9_gapStart 10 = .ok (.if_icmp .gt 23, 3) := by decide +kernel
theorem dX9_gapStart_13 : decode cX9_gapStart 13 = .ok (.aload_n 0, 1) := by decide +kernel
theorem dX9_gapStart_14 : decode cX9_gapStart 14 = .ok (.getfield 17, 3) := by decide +kernel
theorem dX9_gapStart_17 : decode cX9_gapStart 17 = .ok (.iload_n 1, 1) := by decide +kernel
theorem dX9_gapStart_18 : decode cX9_gapStart 18 = .ok (.iconst 1, 1) := by decide +kernel
theorem dX9_gapStart_19 : decode cX9_gapStart 19 = .ok (.isub, 1) := by decide +kernel
theorem dX9_gapStart_20 : decode cX9_gapStart 20 = .ok (.iaload, 1) := by decide +kernel
theorem dX9_gapStart_21 : decode cX9_gapStart 21 = .ok (.aload_n 0, 1) := by decide +kernel
theorem dX9_gapStart_22 : decode cX9_gapStart 22 = .ok (.getfield 21, 3) := by decide +kernel
theorem dX9_gapStart_25 : decode cX9_gapStart 25 = .ok (.iload_n 1, 1) := by decide +kernel
theorem dX9_gapStart_26 : decode cX9_gapStart 26 = .ok (.iconst 1, 1) := by decide +kernel
theorem dX9_gapStart_27 : decode cX9_gapStart 27 = .ok (.isub, 1) := by decide +kernel
theorem dX9_gapStart_28 : decode cX9_gapStart 28 = .ok (.iaload, 1) := by decide +kernel
theorem dX9_gapStart_29 : decode cX9_gapStart 29 = .ok (.iadd, 1) := by decide +kernel
theorem dX9_gapStart_30 : decode cX9_gapStart 30 = .ok (.goto 5, 3) := by decide +kernel
theorem dX9_gapStart_33 : decode cX9_gapStart 33 = .ok (.bipush 16, 2) := by decide +kernel
theorem dX9_gapStart_35 : decode cX9_gapStart 35 = .ok (.ireturn, 1) := by decide +kernel
theorem dX9_gapLength_0 : decode cX9_gapLength 0 = .ok (.iload_n 1, 1) := by decide +kernel
theorem dX9_gapLength_1 : decode cX9_gapLength 1 = .ok (.ifCond .lt 20, 3) := by decide +kernel
theorem dX9_gapLength_4 : decode cX9_gapLength 4 = .ok (.iload_n 1, 1) := by decide +kernel
theorem dX9_gapLength_5 : decode cX9_gapLength 5 = .ok (.aload_n 0, 1) := by decide +kernel
theorem dX9_gapLength_6 : decode cX9_gapLength 6 = .ok (.getfield 33, 3) := by decide +kernel
theorem dX9_gapLength_9 : decode cX9_gapLength 9 = .ok (.if_icmp .ge 12, 3) := by decide +kernel
theorem dX9_gapLength_12 : decode cX9_gapLength 12 = .ok (.aload_n 0, 1) := by decide +kernel
theorem dX9_gapLength_13 : decode cX9_gapLength 13 = .ok (.getfield 17, 3) := by decide +kernel
theorem dX9_gapLength_16 : decode cX9_gapLength 16 = .ok (.iload_n 1, 1) := by decide +kernel
theorem dX9_gapLength_17 : decode cX9_gapLength 17 = .ok (.iaload, 1) := by decide +kernel
theorem dX9_gapLength_18 : decode cX9_gapLength 18 = .ok (.goto 4, 3) := by decide +kernel
theorem dX9_gapLength_21 : decode cX9_gapLength 21 = .ok (.iload_n 2, 1) := by decide +kernel
theorem dX9_gapLength_22 : decode cX9_gapLength 22 = .ok (.istore_n 3, 1) := by decide +kernel
theorem dX9_gapLength_23 : decode cX9_gapLength 23 = .ok (.iload_n 3, 1) := by decide +kernel
theorem dX9_gapLength_24 : decode cX9_gapLength 24 = .ok (.aload_n 0, 1) := by decide +kernel
theorem dX9_gapLength_25 : decode cX9_gapLength 25 = .ok (.iload_n 1, 1) := by decide +kernel
theorem dX9_gapLength_26 : decode cX9_gapLength 26 = .ok (.invokevirtual 65, 3) := by decide +kernel
theorem dX9_gapLength_29 : decode cX9_gapLength 29 = .ok (.isub, 1) := by decide +kernel
theorem dX9_gapLength_30 : decode cX9_gapLength 30 = .ok (.ireturn, 1) := by decide +kernel
theorem dX9_gapOfHole_0 : decode cX9_gapOfHole 0 = .ok (.iconst 0, 1) := by decide +kernel
theorem dX9_gapOfHole_1 : decode cX9_gapOfHole 1 = .ok (.istore_n 3, 1) := by decide +kernel
theorem dX9_gapOfHole_2 : decode cX9_gapOfHole 2 = .ok (.iconst 0, 1) := by decide +kernel
theorem dX9_gapOfHole_3 : decode cX9_gapOfHole 3 = .ok (.istore 4, 2) := by decide +kernel
theorem dX9_gapOfHole_5 : decode cX9_gapOfHole 5 = .ok (.iload 4, 2) := by decide +kernel
theorem dX9_gapOfHole_7 : decode cX9_gapOfHole 7 = .ok (.aload_n 0, 1) := by decide +kernel
theorem dX9_gapOfHole_8 : decode cX9_gapOfHole 8 = .ok (.getfield 33, 3) := by decide +kernel
theorem dX9_gapOfHole_11 : decode cX9_gapOfHole 11 = .ok (.if_icmp .gt 30, 3) := by decide +kernel
theorem dX9_gapOfHole_14 : decode cX9_gapOfHole 14 = .ok (.aload_n 0, 1) := by decide +kernel
theorem dX9_gapOfHole_15 : decode cX9_gapOfHole 15 = .ok (.iload 4, 2) := by decide +kernel
theorem dX9_gapOfHole_17 : decode cX9_gapOfHole 17 = .ok (.iload_n 2, 1) := by decide +kernel
theorem dX9_gapOfHole_18 : decode cX9_gapOfHole 18 = .ok (.invokevirtual 69, 3) := by decide +kernel
theorem dX9_gapOfHole_21 : decode cX9_gapOfHole 21 = .ok (.ifCond .le 14, 3) := by decide +kernel
theorem dX9_gapOfHole_24 : decode cX9_gapOfHole 24 = .ok (.iload_n 3, 1) := by decide +kernel
theorem dX9_gapOfHole_25 : decode cX9_gapOfHole 25 = .ok (.iload_n 1, 1) := by decide +kernel
theorem dX9_gapOfHole_26 : decode cX9_gapOfHole 26 = .ok (.if_icmp .ne 6, 3) := by decide +kernel
theorem dX9_gapOfHole_29 : decode cX9_gapOfHole 29 = .ok (.iload 4, 2) := by decide +kernel
theorem dX9_gapOfHole_31 : decode cX9_gapOfHole 31 = .ok (.ireturn, 1) := by decide +kernel
theorem dX9_gapOfHole_32 : decode cX9_gapOfHole 32 = .ok (.iinc 3 1, 3) := by decide +kernel
theorem dX9_gapOfHole_35 : decode cX9_gapOfHole 35 = .ok (.iinc 4 1, 3) := by decide +kernel
theorem dX9_gapOfHole_38 : decode cX9_gapOfHole 38 = .ok (.goto (-33), 3) := by decide +kernel
theorem dX9_gapOfHole_41 : decode cX9_gapOfHole 41 = .ok (.iconst (-1), 1) := by decide +kernel
theorem dX9_gapOfHole_42 : decode cX9_gapOfHole 42 = .ok (.ireturn, 1) := by decide +kernel
theorem dX9_countHoles_0 : decode cX9_countHoles 0 = .ok (.iconst 0, 1) := by decide +kernel
theorem dX9_countHoles_1 : decode cX9_countHoles 1 = .ok (.istore_n 2, 1) := by decide +kernel
theorem dX9_countHoles_2 : decode cX9_countHoles 2 = .ok (.iconst 0, 1) := by decide +kernel
theorem dX9_countHoles_3 : decode cX9_countHoles 3 = .ok (.istore_n 3, 1) := by decide +kernel
theorem dX9_countHoles_4 : decode cX9_countHoles 4 = .ok (.iload_n 3, 1) := by decide +kernel
theorem dX9_countHoles_5 : decode cX9_countHoles 5 = .ok (.aload_n 0, 1) := by decide +kernel
theorem dX9_countHoles_6 : decode cX9_countHoles 6 = .ok (.getfield 33, 3) := by decide +kernel
theorem dX9_countHoles_9 : decode cX9_countHoles 9 = .ok (.if_icmp .gt 21, 3) := by decide +kernel
theorem dX9_countHoles_12 : decode cX9_countHoles 12 = .ok (.aload_n 0, 1) := by decide +kernel
theorem dX9_countHoles_13 : decode cX9_countHoles 13 = .ok (.iload_n 3, 1) := by decide +kernel
theorem dX9_countHoles_14 : decode cX9_countHoles 14 = .ok (.iload_n 1, 1) := by decide +kernel
theorem dX9_countHoles_15 : decode cX9_countHoles 15 = .ok (.invokevirtual 69, 3) := by decide +kernel
theorem dX9_countHoles_18 : decode cX9_countHoles 18 = .ok (.ifCond .le 6, 3) := by decide +kernel
theorem dX9_countHoles_21 : decode cX9_countHoles 21 = .ok (.iinc 2 1, 3) := by decide +kernel
theorem dX9_countHoles_24 : decode cX9_countHoles 24 = .ok (.iinc 3 1, 3) := by decide +kernel
theorem dX9_countHoles_27 : decode cX9_countHoles 27 = .ok (.goto (-23), 3) := by decide +kernel
theorem dX9_countHoles_30 : decode cX9_countHoles 30 = .ok (.iload_n 2, 1) := by decide +kernel
theorem dX9_countHoles_31 : decode cX9_countHoles 31 = .ok (.ireturn, 1) := by decide +kernel
theorem dX9_longestHole_0 : decode cX9_longestHole 0 = .ok (.iconst 0, 1) := by decide +kernel
theorem dX9_longestHole_1 : decode cX9_longestHole 1 = .ok (.istore_n 2, 1) := by decide +kernel
theorem dX9_longestHole_2 : decode cX9_longestHole 2 = .ok (.iconst 0, 1) := by decide +kernel
theorem dX9_longestHole_3 : decode cX9_longestHole 3 = .ok (.istore_n 3, 1) := by decide +kernel
theorem dX9_longestHole_4 : decode cX9_longestHole 4 = .ok (.iload_n 3, 1) := by decide +kernel
theorem dX9_longestHole_5 : decode cX9_longestHole 5 = .ok (.aload_n 0, 1) := by decide +kernel
theorem dX9_longestHole_6 : decode cX9_longestHole 6 = .ok (.getfield 33, 3) := by decide +kernel
theorem dX9_longestHole_9 : decode cX9_longestHole 9 = .ok (.if_icmp .gt 20, 3) := by decide +kernel
theorem dX9_longestHole_12 : decode cX9_longestHole 12 = .ok (.iload_n 2, 1) := by decide +kernel
theorem dX9_longestHole_13 : decode cX9_longestHole 13 = .ok (.aload_n 0, 1) := by decide +kernel
theorem dX9_longestHole_14 : decode cX9_longestHole 14 = .ok (.iload_n 3, 1) := by decide +kernel
theorem dX9_longestHole_15 : decode cX9_longestHole 15 = .ok (.iload_n 1, 1) := by decide +kernel
theorem dX9_longestHole_16 : decode cX9_longestHole 16 = .ok (.invokevirtual 69, 3) := by decide +kernel
theorem dX9_longestHole_19 : decode cX9_longestHole 19 = .ok (.invokestatic 73, 3) := by decide +kernel
theorem dX9_longestHole_22 : decode cX9_longestHole 22 = .ok (.istore_n 2, 1) := by decide +kernel
theorem dX9_longestHole_23 : decode cX9_longestHole 23 = .ok (.iinc 3 1, 3) := by decide +kernel
theorem dX9_longestHole_26 : decode cX9_longestHole 26 = .ok (.goto (-22), 3) := by decide +kernel
theorem dX9_longestHole_29 : decode cX9_longestHole 29 = .ok (.iload_n 2, 1) := by decide +kernel
theorem dX9_longestHole_30 : decode cX9_longestHole 30 = .ok (.ireturn, 1) := by decide +kernel
theorem dX9_addObject_0 : decode cX9_addObject 0 = .ok (.aload_n 0, 1) := by decide +kernel
theorem dX9_addObject_1 : decode cX9_addObject 1 = .ok (.getfield 33, 3) := by decide +kernel
theorem dX9_addObject_4 : decode cX9_addObject 4 = .ok (.bipush 32, 2) := by decide +kernel
theorem dX9_addObject_6 : decode cX9_addObject 6 = .ok (.if_icmp .ge 15, 3) := by decide +kernel
theorem dX9_addObject_9 : decode cX9_addObject 9 = .ok (.iload_n 1, 1) := by decide +kernel
theorem dX9_addObject_10 : decode cX9_addObject 10 = .ok (.ifCond .lt 11, 3) := by decide +kernel
theorem dX9_addObject_13 : decode cX9_addObject 13 = .ok (.iload_n 1, 1) := by decide +kernel
theorem dX9_addObject_14 : decode cX9_addObject 14 = .ok (.aload_n 0, 1) := by decide +kernel
theorem dX9_addObject_15 : decode cX9_addObject 15 = .ok (.getfield 33, 3) := by decide +kernel
theorem dX9_addObject_18 : decode cX9_addObject 18 = .ok (.if_icmp .le 4, 3) := by decide +kernel
theorem dX9_addObject_21 : decode cX9_addObject 21 = .ok (.return_, 1) := by decide +kernel
theorem dX9_addObject_22 : decode cX9_addObject 22 = .ok (.aload_n 0, 1) := by decide +kernel
theorem dX9_addObject_23 : decode cX9_addObject 23 = .ok (.getfield 17, 3) := by decide +kernel
theorem dX9_addObject_26 : decode cX9_addObject 26 = .ok (.iload_n 1, 1) := by decide +kernel
theorem dX9_addObject_27 : decode cX9_addObject 27 = .ok (.aload_n 0, 1) := by decide +kernel
theorem dX9_addObject_28 : decode cX9_addObject 28 = .ok (.getfield 17, 3) := by decide +kernel
theorem dX9_addObject_31 : decode cX9_addObject 31 = .ok (.iload_n 1, 1) := by decide +kernel
theorem dX9_addObject_32 : decode cX9_addObject 32 = .ok (.iconst 1, 1) := by decide +kernel
theorem dX9_addObject_33 : decode cX9_addObject 33 = .ok (.iadd, 1) := by decide +kernel
theorem dX9_addObject_34 : decode cX9_addObject 34 = .ok (.aload_n 0, 1) := by decide +kernel
theorem dX9_addObject_35 : decode cX9_addObject 35 = .ok (.getfield 33, 3) := by decide +kernel
theorem dX9_addObject_38 : decode cX9_addObject 38 = .ok (.iload_n 1, 1) := by decide +kernel
theorem dX9_addObject_39 : decode cX9_addObject 39 = .ok (.isub, 1) := by decide +kernel
theorem dX9_addObject_40 : decode cX9_addObject 40 = .ok (.invokestatic 55, 3) := by decide +kernel
theorem dX9_addObject_43 : decode cX9_addObject 43 = .ok (.aload_n 0, 1) := by decide +kernel
theorem dX9_addObject_44 : decode cX9_addObject 44 = .ok (.getfield 21, 3) := by decide +kernel
theorem dX9_addObject_47 : decode cX9_addObject 47 = .ok (.iload_n 1, 1) := by decide +kernel
theorem dX9_addObject_48 : decode cX9_addObject 48 = .ok (.aload_n 0, 1) := by decide +kernel
theorem dX9_addObject_49 : decode cX9_addObject 49 = .ok (.getfield 21, 3) := by decide +kernel
theorem dX9_addObject_52 : decode cX9_addObject 52 = .ok (.iload_n 1, 1) := by decide +kernel
theorem dX9_addObject_53 : decode cX9_addObject 53 = .ok (.iconst 1, 1) := by decide +kernel
theorem dX9_addObject_54 : decode cX9_addObject 54 = .ok (.iadd, 1) := by decide +kernel
theorem dX9_addObject_55 : decode cX9_addObject 55 = .ok (.aload_n 0, 1) := by decide +kernel
theorem dX9_addObject_56 : decode cX9_addObject 56 = .ok (.getfield 33, 3) := by decide +kernel
theorem dX9_addObject_59 : decode cX9_addObject 59 = .ok (.iload_n 1, 1) := by decide +kernel
theorem dX9_addObject_60 : decode cX9_addObject 60 = .ok (.isub, 1) := by decide +kernel
theorem dX9_addObject_61 : decode cX9_addObject 61 = .ok (.invokestatic 55, 3) := by decide +kernel
theorem dX9_addObject_64 : decode cX9_addObject 64 = .ok (.aload_n 0, 1) := by decide +kernel
theorem dX9_addObject_65 : decode cX9_addObject 65 = .ok (.getfield 24, 3) := by decide +kernel
theorem dX9_addObject_68 : decode cX9_addObject 68 = .ok (.iload_n 1, 1) := by decide +kernel
theorem dX9_addObject_69 : decode cX9_addObject 69 = .ok (.aload_n 0, 1) := by decide +kernel
theorem dX9_addObject_70 : decode cX9_addObject 70 = .ok (.getfield 24, 3) := by decide +kernel
theorem dX9_addObject_73 : decode cX9_addObject 73 = .ok (.iload_n 1, 1) := by decide +kernel
theorem dX9_addObject_74 : decode cX9_addObject 74 = .ok (.iconst 1, 1) := by decide +kernel
theorem dX9_addObject_75 : decode cX9_addObject 75 = .ok (.iadd, 1) := by decide +kernel
theorem dX9_addObject_76 : decode cX9_addObject 76 = .ok (.aload_n 0, 1) := by decide +kernel
theorem dX9_addObject_77 : decode cX9_addObject 77 = .ok (.getfield 33, 3) := by decide +kernel
theorem dX9_addObject_80 : decode cX9_addObject 80 = .ok (.iload_n 1, 1) := by decide +kernel
theorem dX9_addObject_81 : decode cX9_addObject 81 = .ok (.isub, 1) := by decide +kernel
theorem dX9_addObject_82 : decode cX9_addObject 82 = .ok (.invokestatic 55, 3) := by decide +kernel
theorem dX9_addObject_85 : decode cX9_addObject 85 = .ok (.aload_n 0, 1) := by decide +kernel
theorem dX9_addObject_86 : decode cX9_addObject 86 = .ok (.dup, 1) := by decide +kernel
theorem dX9_addObject_87 : decode cX9_addObject 87 = .ok (.getfield 33, 3) := by decide +kernel
theorem dX9_addObject_90 : decode cX9_addObject 90 = .ok (.iconst 1, 1) := by decide +kernel
theorem dX9_addObject_91 : decode cX9_addObject 91 = .ok (.iadd, 1) := by decide +kernel
theorem dX9_addObject_92 : decode cX9_addObject 92 = .ok (.putfield 33, 3) := by decide +kernel
theorem dX9_addObject_95 : decode cX9_addObject 95 = .ok (.aload_n 0, 1) := by decide +kernel
theorem dX9_addObject_96 : decode cX9_addObject 96 = .ok (.getfield 17, 3) := by decide +kernel
theorem dX9_addObject_99 : decode cX9_addObject 99 = .ok (.iload_n 1, 1) := by decide +kernel
theorem dX9_addObject_100 : decode cX9_addObject 100 = .ok (.iload_n 2, 1) := by decide +kernel
theorem dX9_addObject_101 : decode cX9_addObject 101 = .ok (.iastore, 1) := by decide +kernel
theorem dX9_addObject_102 : decode cX9_addObject 102 = .ok (.aload_n 0, 1) := by decide +kernel
theorem dX9_addObject_103 : decode cX9_addObject 103 = .ok (.getfield 21, 3) := by decide +kernel
theorem dX9_addObject_106 : decode cX9_addObject 106 = .ok (.iload_n 1, 1) := by decide +kernel
theorem dX9_addObject_107 : decode cX9_addObject 107 = .ok (.iload_n 3, 1) := by decide +kernel
theorem dX9_addObject_108 : decode cX9_addObject 108 = .ok (.iastore, 1) := by decide +kernel
theorem dX9_addObject_109 : decode cX9_addObject 109 = .ok (.aload_n 0, 1) := by decide +kernel
theorem dX9_addObject_110 : decode cX9_addObject 110 = .ok (.getfield 24, 3) := by decide +kernel
theorem dX9_addObject_113 : decode cX9_addObject 113 = .ok (.iload_n 1, 1) := by decide +kernel
theorem dX9_addObject_114 : decode cX9_addObject 114 = .ok (.iload 4, 2) := by decide +kernel
theorem dX9_addObject_116 : decode cX9_addObject 116 = .ok (.iastore, 1) := by decide +kernel
theorem dX9_addObject_117 : decode cX9_addObject 117 = .ok (.aload_n 0, 1) := by decide +kernel
theorem dX9_addObject_118 : decode cX9_addObject 118 = .ok (.iconst 0, 1) := by decide +kernel
theorem dX9_addObject_119 : decode cX9_addObject 119 = .ok (.iload_n 2, 1) := by decide +kernel
theorem dX9_addObject_120 : decode cX9_addObject 120 = .ok (.iload_n 3, 1) := by decide +kernel
theorem dX9_addObject_121 : decode cX9_addObject 121 = .ok (.invokevirtual 78, 3) := by decide +kernel
theorem dX9_addObject_124 : decode cX9_addObject 124 = .ok (.return_, 1) := by decide +kernel
theorem dX9_removeObject_0 : decode cX9_removeObject 0 = .ok (.iload_n 1, 1) := by decide +kernel
theorem dX9_removeObject_1 : decode cX9_removeObject 1 = .ok (.ifCond .lt 11, 3) := by decide +kernel
theorem dX9_removeObject_4 : decode cX9_removeObject 4 = .ok (.iload_n 1, 1) := by decide +kernel
theorem dX9_removeObject_5 : decode cX9_removeObject 5 = .ok (.aload_n 0, 1) := by decide +kernel
theorem dX9_removeObject_6 : decode cX9_removeObject 6 = .ok (.getfield 33, 3) := by decide +kernel
theorem dX9_removeObject_9 : decode cX9_removeObject 9 = .ok (.if_icmp .lt 4, 3) := by decide +kernel
theorem dX9_removeObject_12 : decode cX9_removeObject 12 = .ok (.return_, 1) := by decide +kernel
theorem dX9_removeObject_13 : decode cX9_removeObject 13 = .ok (.aload_n 0, 1) := by decide +kernel
theorem dX9_removeObject_14 : decode cX9_removeObject 14 = .ok (.getfield 17, 3) := by decide +kernel
theorem dX9_removeObject_17 : decode cX9_removeObject 17 = .ok (.iload_n 1, 1) := by decide +kernel
theorem dX9_removeObject_18 : decode cX9_removeObject 18 = .ok (.iaload, 1) := by decide +kernel
theorem dX9_removeObject_19 : decode cX9_removeObject 19 = .ok (.istore_n 3, 1) := by decide +kernel
theorem dX9_removeObject_20 : decode cX9_removeObject 20 = .ok (.aload_n 0, 1) := by decide +kernel
theorem dX9_removeObject_21 : decode cX9_removeObject 21 = .ok (.getfield 21, 3) := by decide +kernel
theorem dX9_removeObject_24 : decode cX9_removeObject 24 = .ok (.iload_n 1, 1) := by decide +kernel
theorem dX9_removeObject_25 : decode cX9_removeObject 25 = .ok (.iaload, 1) := by decide +kernel
theorem dX9_removeObject_26 : decode cX9_removeObject 26 = .ok (.istore 4, 2) := by decide +kernel
theorem dX9_removeObject_28 : decode cX9_removeObject 28 = .ok (.aload_n 0, 1) := by decide +kernel
theorem dX9_removeObject_29 : decode cX9_removeObject 29 = .ok (.dup, 1) := by decide +kernel
theorem dX9_removeObject_30 : decode cX9_removeObject 30 = .ok (.getfield 33, 3) := by decide +kernel
theorem dX9_removeObject_33 : decode cX9_removeObject 33 = .ok (.iconst 1, 1) := by decide +kernel
theorem dX9_removeObject_34 : decode cX9_removeObject 34 = .ok (.isub, 1) := by decide +kernel
theorem dX9_removeObject_35 : decode cX9_removeObject 35 = .ok (.putfield 33, 3) := by decide +kernel
theorem dX9_removeObject_38 : decode cX9_removeObject 38 = .ok (.aload_n 0, 1) := by decide +kernel
theorem dX9_removeObject_39 : decode cX9_removeObject 39 = .ok (.getfield 17, 3) := by decide +kernel
theorem dX9_removeObject_42 : decode cX9_removeObject 42 = .ok (.iload_n 1, 1) := by decide +kernel
theorem dX9_removeObject_43 : decode cX9_removeObject 43 = .ok (.iconst 1, 1) := by decide +kernel
theorem dX9_removeObject_44 : decode cX9_removeObject 44 = .ok (.iadd, 1) := by decide +kernel
theorem dX9_removeObject_45 : decode cX9_removeObject 45 = .ok (.aload_n 0, 1) := by decide +kernel
theorem dX9_removeObject_46 : decode cX9_removeObject 46 = .ok (.getfield 17, 3) := by decide +kernel
theorem dX9_removeObject_49 : decode cX9_removeObject 49 = .ok (.iload_n 1, 1) := by decide +kernel
theorem dX9_removeObject_50 : decode cX9_removeObject 50 = .ok (.aload_n 0, 1) := by decide +kernel
theorem dX9_removeObject_51 : decode cX9_removeObject 51 = .ok (.getfield 33, 3) := by decide +kernel
theorem dX9_removeObject_54 : decode cX9_removeObject 54 = .ok (.iload_n 1, 1) := by decide +kernel
theorem dX9_removeObject_55 : decode cX9_removeObject 55 = .ok (.isub, 1) := by decide +kernel
theorem dX9_removeObject_56 : decode cX9_removeObject 56 = .ok (.invokestatic 55, 3) := by decide +kernel
theorem dX9_removeObject_59 : decode cX9_removeObject 59 = .ok (.aload_n 0, 1) := by decide +kernel
theorem dX9_removeObject_60 : decode cX9_removeObject 60 = .ok (.getfield 21, 3) := by decide +kernel
theorem dX9_removeObject_63 : decode cX9_removeObject 63 = .ok (.iload_n 1, 1) := by decide +kernel
theorem dX9_removeObject_64 : decode cX9_removeObject 64 = .ok (.iconst 1, 1) := by decide +kernel
theorem dX9_removeObject_65 : decode cX9_removeObject 65 = .ok (.iadd, 1) := by decide +kernel
theorem dX9_removeObject_66 : decode cX9_removeObject 66 = .ok (.aload_n 0, 1) := by decide +kernel
theorem dX9_removeObject_67 : decode cX9_removeObject 67 = .ok (.getfield 21, 3) := by decide +kernel
theorem dX9_removeObject_70 : decode cX9_removeObject 70 = .ok (.iload_n 1, 1) := by decide +kernel
theorem dX9_removeObject_71 : decode cX9_removeObject 71 = .ok (.aload_n 0, 1) := by decide +kernel
theorem dX9_removeObject_72 : decode cX9_removeObject 72 = .ok (.getfield 33, 3) := by decide +kernel
theorem dX9_removeObject_75 : decode cX9_removeObject 75 = .ok (.iload_n 1, 1) := by decide +kernel
theorem dX9_removeObject_76 : decode cX9_removeObject 76 = .ok (.isub, 1) := by decide +kernel
theorem dX9_removeObject_77 : decode cX9_removeObject 77 = .ok (.invokestatic 55, 3) := by decide +kernel
theorem dX9_removeObject_80 : decode cX9_removeObject 80 = .ok (.aload_n 0, 1) := by decide +kernel
theorem dX9_removeObject_81 : decode cX9_removeObject 81 = .ok (.getfield 24, 3) := by decide +kernel
theorem dX9_removeObject_84 : decode cX9_removeObject 84 = .ok (.iload_n 1, 1) := by decide +kernel
theorem dX9_removeObject_85 : decode cX9_removeObject 85 = .ok (.iconst 1, 1) := by decide +kernel
theorem dX9_removeObject_86 : decode cX9_removeObject 86 = .ok (.iadd, 1) := by decide +kernel
theorem dX9_removeObject_87 : decode cX9_removeObject 87 = .ok (.aload_n 0, 1) := by decide +kernel
theorem dX9_removeObject_88 : decode cX9_removeObject 88 = .ok (.getfield 24, 3) := by decide +kernel
theorem dX9_removeObject_91 : decode cX9_removeObject 91 = .ok (.iload_n 1, 1) := by decide +kernel
theorem dX9_removeObject_92 : decode cX9_removeObject 92 = .ok (.aload_n 0, 1) := by decide +kernel
theorem dX9_removeObject_93 : decode cX9_removeObject 93 = .ok (.getfield 33, 3) := by decide +kernel
theorem dX9_removeObject_96 : decode cX9_removeObject 96 = .ok (.iload_n 1, 1) := by decide +kernel
theorem dX9_removeObject_97 : decode cX9_removeObject 97 = .ok (.isub, 1) := by decide +kernel
theorem dX9_removeObject_98 : decode cX9_removeObject 98 = .ok (.invokestatic 55, 3) := by decide +kernel
theorem dX9_removeObject_101 : decode cX9_removeObject 101 = .ok (.iconst 0, 1) := by decide +kernel
theorem dX9_removeObject_102 : decode cX9_removeObject 102 = .ok (.istore 5, 2) := by decide +kernel
theorem dX9_removeObject_104 : decode cX9_removeObject 104 = .ok (.iload 5, 2) := by decide +kernel
theorem dX9_removeObject_106 : decode cX9_removeObject 106 = .ok (.iload 4, 2) := by decide +kernel
theorem dX9_removeObject_108 : decode cX9_removeObject 108 = .ok (.if_icmp .ge 18, 3) := by decide +kernel
theorem dX9_removeObject_111 : decode cX9_removeObject 111 = .ok (.aload_n 0, 1) := by decide +kernel
theorem dX9_removeObject_112 : decode cX9_removeObject 112 = .ok (.iload_n 3, 1) := by decide +kernel
theorem dX9_removeObject_113 : decode cX9_removeObject 113 = .ok (.iload 5, 2) := by decide +kernel
theorem dX9_removeObject_115 : decode cX9_removeObject 115 = .ok (.iadd, 1) := by decide +kernel
theorem dX9_removeObject_116 : decode cX9_removeObject 116 = .ok (.iconst 0, 1) := by decide +kernel
theorem dX9_removeObject_117 : decode cX9_removeObject 117 = .ok (.invokevirtual 82, 3) := by decide +kernel
theorem dX9_removeObject_120 : decode cX9_removeObject 120 = .ok (.iinc 5 1, 3) := by decide +kernel
theorem dX9_removeObject_123 : decode cX9_removeObject 123 = .ok (.goto (-19), 3) := by decide +kernel
theorem dX9_removeObject_126 : decode cX9_removeObject 126 = .ok (.iconst 0, 1) := by decide +kernel
theorem dX9_removeObject_127 : decode cX9_removeObject 127 = .ok (.istore 5, 2) := by decide +kernel
theorem dX9_removeObject_129 : decode cX9_removeObject 129 = .ok (.iload 5, 2) := by decide +kernel
theorem dX9_removeObject_131 : decode cX9_removeObject 131 = .ok (.bipush 32, 2) := by decide +kernel
theorem dX9_removeObject_133 : decode cX9_removeObject 133 = .ok (.if_icmp .ge 48, 3) := by decide +kernel
theorem dX9_removeObject_136 : decode cX9_removeObject 136 = .ok (.aload_n 0, 1) := by decide +kernel
theorem dX9_removeObject_137 : decode cX9_removeObject 137 = .ok (.getfield 13, 3) := by decide +kernel
theorem dX9_removeObject_140 : decode cX9_removeObject 140 = .ok (.iload 5, 2) := by decide +kernel
theorem dX9_removeObject_142 : decode cX9_removeObject 142 = .ok (.aaload, 1) := by decide +kernel
theorem dX9_removeObject_143 : decode cX9_removeObject 143 = .ok (.iload_n 2, 1) := by decide +kernel
theorem dX9_removeObject_144 : decode cX9_removeObject 144 = .ok (.invokevirtual 86, 3) := by decide +kernel
theorem dX9_removeObject_147 : decode cX9_removeObject 147 = .ok (.istore 6, 2) := by decide +kernel
theorem dX9_removeObject_149 : decode cX9_removeObject 149 = .ok (.iload 6, 2) := by decide +kernel
theorem dX9_removeObject_151 : decode cX9_removeObject 151 = .ok (.iload_n 3, 1) := by decide +kernel
theorem dX9_removeObject_152 : decode cX9_removeObject 152 = .ok (.if_icmp .lt 23, 3) := by decide +kernel
theorem dX9_removeObject_155 : decode cX9_removeObject 155 = .ok (.iload 6, 2) := by decide +kernel
theorem dX9_removeObject_157 : decode cX9_removeObject 157 = .ok (.iload_n 3, 1) := by decide +kernel
theorem dX9_removeObject_158 : decode cX9_removeObject 158 = .ok (.iload 4, 2) := by decide +kernel
theorem dX9_removeObject_160 : decode cX9_removeObject 160 = .ok (.iadd, 1) := by decide +kernel
theorem dX9_removeObject_161 : decode cX9_removeObject 161 = .ok (.if_icmp .ge 14, 3) := by decide +kernel
theorem dX9_removeObject_164 : decode cX9_removeObject 164 = .ok (.aload_n 0, 1) := by decide +kernel
theorem dX9_removeObject_165 : decode cX9_removeObject 165 = .ok (.getfield 13, 3) := by decide +kernel
theorem dX9_removeObject_168 : decode cX9_removeObject 168 = .ok (.iload 5, 2) := by decide +kernel
theorem dX9_removeObject_170 : decode cX9_removeObject 170 = .ok (.aaload, 1) := by decide +kernel
theorem dX9_removeObject_171 : decode cX9_removeObject 171 = .ok (.iconst 0, 1) := by decide +kernel
theorem dX9_removeObject_172 : decode cX9_removeObject 172 = .ok (.putfield 61, 3) := by decide +kernel
theorem dX9_removeObject_175 : decode cX9_removeObject 175 = .ok (.iinc 5 1, 3) := by decide +kernel
theorem dX9_removeObject_178 : decode cX9_removeObject 178 = .ok (.goto (-49), 3) := by decide +kernel
theorem dX9_removeObject_181 : decode cX9_removeObject 181 = .ok (.aload_n 0, 1) := by decide +kernel
theorem dX9_removeObject_182 : decode cX9_removeObject 182 = .ok (.iconst 1, 1) := by decide +kernel
theorem dX9_removeObject_183 : decode cX9_removeObject 183 = .ok (.iload_n 3, 1) := by decide +kernel
theorem dX9_removeObject_184 : decode cX9_removeObject 184 = .ok (.iload 4, 2) := by decide +kernel
theorem dX9_removeObject_186 : decode cX9_removeObject 186 = .ok (.invokevirtual 78, 3) := by decide +kernel
theorem dX9_removeObject_189 : decode cX9_removeObject 189 = .ok (.return_, 1) := by decide +kernel
theorem dX10_numberOf_0 : decode cX10_numberOf 0 = .ok (.iload_n 2, 1) := by decide +kernel
theorem dX10_numberOf_1 : decode cX10_numberOf 1 = .ok (.bipush 8, 2) := by decide +kernel
theorem dX10_numberOf_3 : decode cX10_numberOf 3 = .ok (.if_icmp .gt 15, 3) := by decide +kernel
theorem dX10_numberOf_6 : decode cX10_numberOf 6 = .ok (.iload_n 1, 1) := by decide +kernel
theorem dX10_numberOf_7 : decode cX10_numberOf 7 = .ok (.ifCond .lt 11, 3) := by decide +kernel
theorem dX10_numberOf_10 : decode cX10_numberOf 10 = .ok (.iload_n 1, 1) := by decide +kernel
theorem dX10_numberOf_11 : decode cX10_numberOf 11 = .ok (.iload_n 2, 1) := by decide +kernel
theorem dX10_numberOf_12 : decode cX10_numberOf 12 = .ok (.iadd, 1) := by decide +kernel
theorem dX10_numberOf_13 : decode cX10_numberOf 13 = .ok (.aload_n 0, 1) := by decide +kernel
theorem dX10_numberOf_14 : decode cX10_numberOf 14 = .ok (.arraylength, 1) := by decide +kernel
theorem dX10_numberOf_15 : decode cX10_numberOf 15 = .ok (.if_icmp .le 5, 3) := by decide +kernel
theorem dX10_numberOf_18 : decode cX10_numberOf 18 = .ok (.iconst (-1), 1) := by decide +kernel
theorem dX10_numberOf_19 : decode cX10_numberOf 19 = .ok (.ireturn, 1) := by decide +kernel
theorem dX10_numberOf_20 : decode cX10_numberOf 20 = .ok (.iconst 0, 1) := by decide +kernel
theorem dX10_numberOf_21 : decode cX10_numberOf 21 = .ok (.istore_n 3, 1) := by decide +kernel
theorem dX10_numberOf_22 : decode cX10_numberOf 22 = .ok (.iload_n 3, 1) := by decide +kernel
theorem dX10_numberOf_23 : decode cX10_numberOf 23 = .ok (.bipush 31, 2) := by decide +kernel
theorem dX10_numberOf_25 : decode cX10_numberOf 25 = .ok (.if_icmp .ge 89, 3) := by decide +kernel
theorem dX10_numberOf_28 : decode cX10_numberOf 28 = .ok (.iconst 0, 1) := by decide +kernel
theorem dX10_numberOf_29 : decode cX10_numberOf 29 = .ok (.istore 4, 2) := by decide +kernel
theorem dX10_numberOf_31 : decode cX10_numberOf 31 = .ok (.iload 4, 2) := by decide +kernel
theorem dX10_numberOf_33 : decode cX10_numberOf 33 = .ok (.iload_n 2, 1) := by decide +kernel
theorem dX10_numberOf_34 : decode cX10_numberOf 34 = .ok (.if_icmp .ge 30, 3) := by decide +kernel
theorem dX10_numberOf_37 : decode cX10_numberOf 37 = .ok (.ldc 11, 2) := by decide +kernel
theorem dX10_numberOf_39 : decode cX10_numberOf 39 = .ok (.iload_n 3, 1) := by decide +kernel
theorem dX10_numberOf_40 : decode cX10_numberOf 40 = .ok (.bipush 8, 2) := by decide +kernel
theorem dX10_numberOf_42 : decode cX10_numberOf 42 = .ok (.imul, 1) := by decide +kernel
theorem dX10_numberOf_43 : decode cX10_numberOf 43 = .ok (.iload 4, 2) := by decide +kernel
theorem dX10_numberOf_45 : decode cX10_numberOf 45 = .ok (.iadd, 1) := by decide +kernel
theorem dX10_numberOf_46 : decode cX10_numberOf 46 = .ok (.invokevirtual 13, 3) := by decide +kernel
theorem dX10_numberOf_49 : decode cX10_numberOf 49 = .ok (.aload_n 0, 1) := by decide +kernel
theorem dX10_numberOf_50 : decode cX10_numberOf 50 = .ok (.iload_n 1, 1) := by decide +kernel
theorem dX10_numberOf_51 : decode cX10_numberOf 51 = .ok (.iload 4, 2) := by decide +kernel
theorem dX10_numberOf_53 : decode cX10_numberOf 53 = .ok (.iadd, 1) := by decide +kernel
theorem dX10_numberOf_54 : decode cX10_numberOf 54 = .ok (.baload, 1) := by decide +kernel
theorem dX10_numberOf_55 : decode cX10_numberOf 55 = .ok (.if_icmp .ne 9, 3) := by decide +kernel
theorem dX10_numberOf_58 : decode cX10_numberOf 58 = .ok (.iinc 4 1, 3) := by decide +kernel
theorem dX10_numberOf_61 : decode cX10_numberOf 61 = .ok (.goto (-30), 3) := by decide +kernel
theorem dX10_numberOf_64 : decode cX10_numberOf 64 = .ok (.iload 4, 2) := by decide +kernel
theorem dX10_numberOf_66 : decode cX10_numberOf 66 = .ok (.bipush 8, 2) := by decide +kernel
theorem dX10_numberOf_68 : decode cX10_numberOf 68 = .ok (.if_icmp .eq 20, 3) := by decide +kernel
theorem dX10_numberOf_71 : decode cX10_numberOf 71 = .ok (.ldc 11, 2) := by decide +kernel
theorem dX10_numberOf_73 : decode cX10_numberOf 73 = .ok (.iload_n 3, 1) := by decide +kernel
theorem dX10_numberOf_74 : decode cX10_numberOf 74 = .ok (.bipush 8, 2) := by decide +kernel
theorem dX10_numberOf_76 : decode cX10_numberOf 76 = .ok (.imul, 1) := by decide +kernel
theorem dX10_numberOf_77 : decode cX10_numberOf 77 = .ok (.iload 4, 2) := by decide +kernel
theorem dX10_numberOf_79 : decode cX10_numberOf 79 = .ok (.iadd, 1) := by decide +kernel
theorem dX10_numberOf_80 : decode cX10_numberOf 80 = .ok (.invokevirtual 13, 3) := by decide +kernel
theorem dX10_numberOf_83 : decode cX10_numberOf 83 = .ok (.bipush 32, 2) := by decide +kernel
theorem dX10_numberOf_85 : decode cX10_numberOf 85 = .ok (.if_icmp .ne 7, 3) := by decide +kernel
theorem dX10_numberOf_88 : decode cX10_numberOf 88 = .ok (.iconst 1, 1) := by decide +kernel
theorem dX10_numberOf_89 : decode cX10_numberOf 89 = .ok (.goto 4, 3) := by decide +kernel
theorem dX10_numberOf_92 : decode cX10_numberOf 92 = .ok (.iconst 0, 1) := by decide +kernel
theorem dX10_numberOf_93 : decode cX10_numberOf 93 = .ok (.istore 5, 2) := by decide +kernel
theorem dX10_numberOf_95 : decode cX10_numberOf 95 = .ok (.iload 4, 2) := by decide +kernel
theorem dX10_numberOf_97 : decode cX10_numberOf 97 = .ok (.iload_n 2, 1) := by decide +kernel
theorem dX10_numberOf_98 : decode cX10_numberOf 98 = .ok (.if_icmp .ne 10, 3) := by decide +kernel
theorem dX10_numberOf_101 : decode cX10_numberOf 101 = .ok (.iload 5, 2) := by decide +kernel
theorem dX10_numberOf_103 : decode cX10_numberOf 103 = .ok (.ifCond .eq 5, 3) := by decide +kernel
theorem dX10_numberOf_106 : decode cX10_numberOf 106 = .ok (.iload_n 3, 1) := by decide +kernel
theorem dX10_numberOf_107 : decode cX10_numberOf 107 = .ok (.ireturn, 1) := by decide +kernel
theorem dX10_numberOf_108 : decode cX10_numberOf 108 = .ok (.iinc 3 1, 3) := by decide +kernel
theorem dX10_numberOf_111 : decode cX10_numberOf 111 = .ok (.goto (-89), 3) := by decide +kernel
theorem dX10_numberOf_114 : decode cX10_numberOf 114 = .ok (.iconst (-1), 1) := by decide +kernel
theorem dX10_numberOf_115 : decode cX10_numberOf 115 = .ok (.ireturn, 1) := by decide +kernel
theorem dX11_init_0 : decode cX11_init 0 = .ok (.aload_n 0, 1) := by decide +kernel
theorem dX11_init_1 : decode cX11_init 1 = .ok (.invokespecial 1, 3) := by decide +kernel
theorem dX11_init_4 : decode cX11_init 4 = .ok (.aload_n 0, 1) := by decide +kernel
theorem dX11_init_5 : decode cX11_init 5 = .ok (.sipush 1600, 3) := by decide +kernel
theorem dX11_init_8 : decode cX11_init 8 = .ok (.newarray .byte, 2) := by decide +kernel
theorem dX11_init_10 : decode cX11_init 10 = .ok (.putfield 9, 3) := by decide +kernel
theorem dX11_init_13 : decode cX11_init 13 = .ok (.aload_n 0, 1) := by decide +kernel
theorem dX11_init_14 : decode cX11_init 14 = .ok (.bipush 8, 2) := by decide +kernel
theorem dX11_init_16 : decode cX11_init 16 = .ok (.newarray .int, 2) := by decide +kernel
theorem dX11_init_18 : decode cX11_init 18 = .ok (.putfield 13, 3) := by decide +kernel
theorem dX11_init_21 : decode cX11_init 21 = .ok (.aload_n 0, 1) := by decide +kernel
theorem dX11_init_22 : decode cX11_init 22 = .ok (.new 17, 3) := by decide +kernel
theorem dX11_init_25 : decode cX11_init 25 = .ok (.dup, 1) := by decide +kernel
theorem dX11_init_26 : decode cX11_init 26 = .ok (.invokespecial 19, 3) := by decide +kernel
theorem dX11_init_29 : decode cX11_init 29 = .ok (.putfield 20, 3) := by decide +kernel
theorem dX11_init_32 : decode cX11_init 32 = .ok (.aload_n 0, 1) := by decide +kernel
theorem dX11_init_33 : decode cX11_init 33 = .ok (.new 17, 3) := by decide +kernel
theorem dX11_init_36 : decode cX11_init 36 = .ok (.dup, 1) := by decide +kernel
theorem dX11_init_37 : decode cX11_init 37 = .ok (.invokespecial 19, 3) := by decide +kernel
theorem dX11_init_40 : decode cX11_init 40 = .ok (.putfield 24, 3) := by decide +kernel
theorem dX11_init_43 : decode cX11_init 43 = .ok (.aload_n 0, 1) := by decide +kernel
theorem dX11_init_44 : decode cX11_init 44 = .ok (.new 27, 3) := by decide +kernel
theorem dX11_init_47 : decode cX11_init 47 = .ok (.dup, 1) := by decide +kernel
theorem dX11_init_48 : decode cX11_init 48 = .ok (.invokespecial 29, 3) := by decide +kernel
theorem dX11_init_51 : decode cX11_init 51 = .ok (.putfield 30, 3) := by decide +kernel
theorem dX11_init_54 : decode cX11_init 54 = .ok (.aload_n 0, 1) := by decide +kernel
theorem dX11_init_55 : decode cX11_init 55 = .ok (.new 34, 3) := by decide +kernel
theorem dX11_init_58 : decode cX11_init 58 = .ok (.dup, 1) := by decide +kernel
theorem dX11_init_59 : decode cX11_init 59 = .ok (.aload_n 0, 1) := by decide +kernel
theorem dX11_init_60 : decode cX11_init 60 = .ok (.getfield 20, 3) := by decide +kernel
theorem dX11_init_63 : decode cX11_init 63 = .ok (.getfield 36, 3) := by decide +kernel
theorem dX11_init_66 : decode cX11_init 66 = .ok (.invokespecial 40, 3) := by decide +kernel
theorem dX11_init_69 : decode cX11_init 69 = .ok (.putfield 43, 3) := by decide +kernel
theorem dX11_init_72 : decode cX11_init 72 = .ok (.aload_n 0, 1) := by decide +kernel
theorem dX11_init_73 : decode cX11_init 73 = .ok (.new 47, 3) := by decide +kernel
theorem dX11_init_76 : decode cX11_init 76 = .ok (.dup, 1) := by decide +kernel
theorem dX11_init_77 : decode cX11_init 77 = .ok (.aload_n 0, 1) := by decide +kernel
theorem dX11_init_78 : decode cX11_init 78 = .ok (.getfield 20, 3) := by decide +kernel
theorem dX11_init_81 : decode cX11_init 81 = .ok (.aload_n 0, 1) := by decide +kernel
theorem dX11_init_82 : decode cX11_init 82 = .ok (.getfield 43, 3) := by decide +kernel
theorem dX11_init_85 : decode cX11_init 85 = .ok (.invokespecial 49, 3) := by decide +kernel
theorem dX11_init_88 : decode cX11_init 88 = .ok (.putfield 52, 3) := by decide +kernel
theorem dX11_init_91 : decode cX11_init 91 = .ok (.aload_n 0, 1) := by decide +kernel
theorem dX11_init_92 : decode cX11_init 92 = .ok (.new 56, 3) := by decide +kernel
theorem dX11_init_95 : decode cX11_init 95 = .ok (.dup, 1) := by decide +kernel
theorem dX11_init_96 : decode cX11_init 96 = .ok (.invokespecial 58, 3) := by decide +kernel
theorem dX11_init_99 : decode cX11_init 99 = .ok (.putfield 59, 3) := by decide +kernel
theorem dX11_init_102 : decode cX11_init 102 = .ok (.aload_n 0, 1) := by decide +kernel
theorem dX11_init_103 : decode cX11_init 103 = .ok (.new 63, 3) := by decide +kernel
theorem dX11_init_106 : decode cX11_init 106 = .ok (.dup, 1) := by decide +kernel
theorem dX11_init_107 : decode cX11_init 107 = .ok (.invokespecial 65, 3) := by decide +kernel
theorem dX11_init_110 : decode cX11_init 110 = .ok (.putfield 66, 3) := by decide +kernel
theorem dX11_init_113 : decode cX11_init 113 = .ok (.aload_n 0, 1) := by decide +kernel
theorem dX11_init_114 : decode cX11_init 114 = .ok (.new 70, 3) := by decide +kernel
theorem dX11_init_117 : decode cX11_init 117 = .ok (.dup, 1) := by decide +kernel
theorem dX11_init_118 : decode cX11_init 118 = .ok (.invokespecial 72, 3) := by decide +kernel
theorem dX11_init_121 : decode cX11_init 121 = .ok (.putfield 73, 3) := by decide +kernel
theorem dX11_init_124 : decode cX11_init 124 = .ok (.aload_n 0, 1) := by decide +kernel
theorem dX11_init_125 : decode cX11_init 125 = .ok (.new 70, 3) := by decide +kernel
theorem dX11_init_128 : decode cX11_init 128 = .ok (.dup, 1) := by decide +kernel
theorem dX11_init_129 : decode cX11_init 129 = .ok (.invokespecial 72, 3) := by decide +kernel
theorem dX11_init_132 : decode cX11_init 132 = .ok (.putfield 77, 3) := by decide +kernel
theorem dX11_init_135 : decode cX11_init 135 = .ok (.aload_n 0, 1) := by decide +kernel
theorem dX11_init_136 : decode cX11_init 136 = .ok (.new 80, 3) := by decide +kernel
theorem dX11_init_139 : decode cX11_init 139 = .ok (.dup, 1) := by decide +kernel
theorem dX11_init_140 : decode cX11_init 140 = .ok (.aload_n 0, 1) := by decide +kernel
theorem dX11_init_141 : decode cX11_init 141 = .ok (.getfield 77, 3) := by decide +kernel
theorem dX11_init_144 : decode cX11_init 144 = .ok (.invokespecial 82, 3) := by decide +kernel
theorem dX11_init_147 : decode cX11_init 147 = .ok (.putfield 85, 3) := by decide +kernel
theorem dX11_init_150 : decode cX11_init 150 = .ok (.aload_n 0, 1) := by decide +kernel
theorem dX11_init_151 : decode cX11_init 151 = .ok (.iconst 0, 1) := by decide +kernel
theorem dX11_init_152 : decode cX11_init 152 = .ok (.putfield 89, 3) := by decide +kernel
theorem dX11_init_155 : decode cX11_init 155 = .ok (.aload_n 0, 1) := by decide +kernel
theorem dX11_init_156 : decode cX11_init 156 = .ok (.iconst 0, 1) := by decide +kernel
theorem dX11_init_157 : decode cX11_init 157 = .ok (.putfield 93, 3) := by decide +kernel
theorem dX11_init_160 : decode cX11_init 160 = .ok (.aload_n 0, 1) := by decide +kernel
theorem dX11_init_161 : decode cX11_init 161 = .ok (.iconst 0, 1) := by decide +kernel
theorem dX11_init_162 : decode cX11_init 162 = .ok (.putfield 97, 3) := by decide +kernel
theorem dX11_init_165 : decode cX11_init 165 = .ok (.aload_n 0, 1) := by decide +kernel
theorem dX11_init_166 : decode cX11_init 166 = .ok (.iconst (-1), 1) := by decide +kernel
theorem dX11_init_167 : decode cX11_init 167 = .ok (.putfield 100, 3) := by decide +kernel
theorem dX11_init_170 : decode cX11_init 170 = .ok (.aload_n 0, 1) := by decide +kernel
theorem dX11_init_171 : decode cX11_init 171 = .ok (.lconst 1, 1) := by decide +kernel
theorem dX11_init_172 : decode cX11_init 172 = .ok (.putfield 103, 3) := by decide +kernel
theorem dX11_init_175 : decode cX11_init 175 = .ok (.return_, 1) := by decide +kernel
theorem dX11_feed_0 : decode cX11_feed 0 = .ok (.aload_n 0, 1) := by decide +kernel
theorem dX11_feed_1 : decode cX11_feed 1 = .ok (.getfield 93, 3) := by decide +kernel
theorem dX11_feed_4 : decode cX11_feed 4 = .ok (.sipush 1580, 3) := by decide +kernel
theorem dX11_feed_7 : decode cX11_feed 7 = .ok (.if_icmp .le 9, 3) := by decide +kernel
theorem dX11_feed_10 : decode cX11_feed 10 = .ok (.aload_n 0, 1) := by decide +kernel
theorem dX11_feed_11 : decode cX11_feed 11 = .ok (.iconst 0, 1) := by decide +kernel
theorem dX11_feed_12 : decode cX11_feed 12 = .ok (.invokevirtual 107, 3) := by decide +kernel
theorem dX11_feed_15 : decode cX11_feed 15 = .ok (.ireturn, 1) := by decide +kernel
theorem dX11_feed_16 : decode cX11_feed 16 = .ok (.aload_n 0, 1) := by decide +kernel
theorem dX11_feed_17 : decode cX11_feed 17 = .ok (.iload_n 1, 1) := by decide +kernel
theorem dX11_feed_18 : decode cX11_feed 18 = .ok (.invokevirtual 111, 3) := by decide +kernel
theorem dX11_feed_21 : decode cX11_feed 21 = .ok (.aload_n 0, 1) := by decide +kernel
theorem dX11_feed_22 : decode cX11_feed 22 = .ok (.iload_n 2, 1) := by decide +kernel
theorem dX11_feed_23 : decode cX11_feed 23 = .ok (.invokevirtual 111, 3) := by decide +kernel
theorem dX11_feed_26 : decode cX11_feed 26 = .ok (.aload_n 0, 1) := by decide +kernel
theorem dX11_feed_27 : decode cX11_feed 27 = .ok (.iload_n 3, 1) := by decide +kernel
theorem dX11_feed_28 : decode cX11_feed 28 = .ok (.invokevirtual 111, 3) := by decide +kernel
theorem dX11_feed_31 : decode cX11_feed 31 = .ok (.aload_n 0, 1) := by decide +kernel
theorem dX11_feed_32 : decode cX11_feed 32 = .ok (.iload 4, 2) := by decide +kernel
theorem dX11_feed_34 : decode cX11_feed 34 = .ok (.invokevirtual 111, 3) := by decide +kernel
theorem dX11_feed_37 : decode cX11_feed 37 = .ok (.aload_n 0, 1) := by decide +kernel
theorem dX11_feed_38 : decode cX11_feed 38 = .ok (.iload 5, 2) := by decide +kernel
theorem dX11_feed_40 : decode cX11_feed 40 = .ok (.invokevirtual 111, 3) := by decide +kernel
theorem dX11_feed_43 : decode cX11_feed 43 = .ok (.aload_n 0, 1) := by decide +kernel
theorem dX11_feed_44 : decode cX11_feed 44 = .ok (.getfield 93, 3) := by decide +kernel
theorem dX11_feed_47 : decode cX11_feed 47 = .ok (.ireturn, 1) := by decide +kernel
theorem dX11_put_0 : decode cX11_put 0 = .ok (.bipush 24, 2) := by decide +kernel
theorem dX11_put_2 : decode cX11_put 2 = .ok (.istore_n 2, 1) := by decide +kernel
theorem dX11_put_3 : decode cX11_put 3 = .ok (.iload_n 2, 1) := by decide +kernel
theorem dX11_put_4 : decode cX11_put 4 = .ok (.ifCond .lt 42, 3) := by decide +kernel
theorem dX11_put_7 : decode cX11_put 7 = .ok (.aload_n 0, 1) := by decide +kernel
theorem dX11_put_8 : decode cX11_put 8 = .ok (.getfield 93, 3) := by decide +kernel
theorem dX11_put_11 : decode cX11_put 11 = .ok (.sipush 1600, 3) := by decide +kernel
theorem dX11_put_14 : decode cX11_put 14 = .ok (.if_icmp .ge 32, 3) := by decide +kernel
theorem dX11_put_17 : decode cX11_put 17 = .ok (.aload_n 0, 1) := by decide +kernel
theorem dX11_put_18 : decode cX11_put 18 = .ok (.getfield 9, 3) := by decide +kernel
theorem dX11_put_21 : decode cX11_put 21 = .ok (.aload_n 0, 1) := by decide +kernel
theorem dX11_put_22 : decode cX11_put 22 = .ok (.getfield 93, 3) := by decide +kernel
theorem dX11_put_25 : decode cX11_put 25 = .ok (.iload_n 1, 1) := by decide +kernel
theorem dX11_put_26 : decode cX11_put 26 = .ok (.iload_n 2, 1) := by decide +kernel
theorem dX11_put_27 : decode cX11_put 27 = .ok (.ishr, 1) := by decide +kernel
theorem dX11_put_28 : decode cX11_put 28 = .ok (.i2b, 1) := by decide +kernel
theorem dX11_put_29 : decode cX11_put 29 = .ok (.bastore, 1) := by decide +kernel
theorem dX11_put_30 : decode cX11_put 30 = .ok (.aload_n 0, 1) := by decide +kernel
theorem dX11_put_31 : decode cX11_put 31 = .ok (.dup, 1) := by decide +kernel
theorem dX11_put_32 : decode cX11_put 32 = .ok (.getfield 93, 3) := by decide +kernel
theorem dX11_put_35 : decode cX11_put 35 = .ok (.iconst 1, 1) := by decide +kernel
theorem dX11_put_36 : decode cX11_put 36 = .ok (.iadd, 1) := by decide +kernel
theorem dX11_put_37 : decode cX11_put 37 = .ok (.putfield 93, 3) := by decide +kernel
theorem dX11_put_40 : decode cX11_put 40 = .ok (.iinc 2 (-8), 3) := by decide +kernel
theorem dX11_put_43 : decode cX11_put 43 = .ok (.goto (-40), 3) := by decide +kernel
theorem dX11_put_46 : decode cX11_put 46 = .ok (.return_, 1) := by decide +kernel
theorem dX11_end_0 : decode cX11_end 0 = .ok (.iload_n 1, 1) := by decide +kernel
theorem dX11_end_1 : decode cX11_end 1 = .ok (.ifCond .lt 11, 3) := by decide +kernel
theorem dX11_end_4 : decode cX11_end 4 = .ok (.iload_n 1, 1) := by decide +kernel
theorem dX11_end_5 : decode cX11_end 5 = .ok (.aload_n 0, 1) := by decide +kernel
theorem dX11_end_6 : decode cX11_end 6 = .ok (.getfield 93, 3) := by decide +kernel
theorem dX11_end_9 : decode cX11_end 9 = .ok (.if_icmp .le 9, 3) := by decide +kernel
theorem dX11_end_12 : decode cX11_end 12 = .ok (.aload_n 0, 1) := by decide +kernel
theorem dX11_end_13 : decode cX11_end 13 = .ok (.iconst 0, 1) := by decide +kernel
theorem dX11_end_14 : decode cX11_end 14 = .ok (.invokevirtual 115, 3) := by decide +kernel
theorem dX11_end_17 : decode cX11_end 17 = .ok (.ireturn, 1) := by decide +kernel
theorem dX11_end_18 : decode cX11_end 18 = .ok (.aload_n 0, 1) := by decide +kernel
theorem dX11_end_19 : decode cX11_end 19 = .ok (.iload_n 1, 1) := by decide +kernel
theorem dX11_end_20 : decode cX11_end 20 = .ok (.putfield 93, 3) := by decide +kernel
theorem dX11_end_23 : decode cX11_end 23 = .ok (.iconst 1, 1) := by decide +kernel
theorem dX11_end_24 : decode cX11_end 24 = .ok (.ireturn, 1) := by decide +kernel
theorem dX11_machine_0 : decode cX11_machine 0 = .ok (.aload_n 0, 1) := by decide +kernel
theorem dX11_machine_1 : decode cX11_machine 1 = .ok (.getfield 85, 3) := by decide +kernel
theorem dX11_machine_4 : decode cX11_machine 4 = .ok (.aload_n 0, 1) := by decide +kernel
theorem dX11_machine_5 : decode cX11_machine 5 = .ok (.getfield 9, 3) := by decide +kernel
theorem dX11_machine_8 : decode cX11_machine 8 = .ok (.aload_n 0, 1) := by decide +kernel
theorem dX11_machine_9 : decode cX11_machine 9 = .ok (.invokevirtual 119, 3) := by decide +kernel
theorem dX11_machine_12 : decode cX11_machine 12 = .ok (.aload_n 0, 1) := by decide +kernel
theorem dX11_machine_13 : decode cX11_machine 13 = .ok (.getfield 77, 3) := by decide +kernel
theorem dX11_machine_16 : decode cX11_machine 16 = .ok (.invokevirtual 123, 3) := by decide +kernel
theorem dX11_machine_19 : decode cX11_machine 19 = .ok (.istore_n 1, 1) := by decide +kernel
theorem dX11_machine_20 : decode cX11_machine 20 = .ok (.aload_n 0, 1) := by decide +kernel
theorem dX11_machine_21 : decode cX11_machine 21 = .ok (.invokevirtual 127, 3) := by decide +kernel
theorem dX11_machine_24 : decode cX11_machine 24 = .ok (.iload_n 1, 1) := by decide +kernel
theorem dX11_machine_25 : decode cX11_machine 25 = .ok (.ifCond .ne 9, 3) := by decide +kernel
theorem dX11_machine_28 : decode cX11_machine 28 = .ok (.aload_n 0, 1) := by decide +kernel
theorem dX11_machine_29 : decode cX11_machine 29 = .ok (.iconst 1, 1) := by decide +kernel
theorem dX11_machine_30 : decode cX11_machine 30 = .ok (.invokevirtual 107, 3) := by decide +kernel
theorem dX11_machine_33 : decode cX11_machine 33 = .ok (.ireturn, 1) := by decide +kernel
theorem dX11_machine_34 : decode cX11_machine 34 = .ok (.aload_n 0, 1) := by decide +kernel
theorem dX11_machine_35 : decode cX11_machine 35 = .ok (.getfield 73, 3) := by decide +kernel
theorem dX11_machine_38 : decode cX11_machine 38 = .ok (.astore_n 2, 1) := by decide +kernel
theorem dX11_machine_39 : decode cX11_machine 39 = .ok (.aload_n 0, 1) := by decide +kernel
theorem dX11_machine_40 : decode cX11_machine 40 = .ok (.aload_n 0, 1) := by decide +kernel
theorem dX11_machine_41 : decode cX11_machine 41 = .ok (.getfield 77, 3) := by decide +kernel
theorem dX11_machine_44 : decode cX11_machine 44 = .ok (.putfield 73, 3) := by decide +kernel
theorem dX11_machine_47 : decode cX11_machine 47 = .ok (.aload_n 0, 1) := by decide +kernel
theorem dX11_machine_48 : decode cX11_machine 48 = .ok (.aload_n 2, 1) := by decide +kernel
theorem dX11_machine_49 : decode cX11_machine 49 = .ok (.putfield 77, 3) := by decide +kernel
theorem dX11_machine_52 : decode cX11_machine 52 = .ok (.aload_n 0, 1) := by decide +kernel
theorem dX11_machine_53 : decode cX11_machine 53 = .ok (.invokevirtual 130, 3) := by decide +kernel
theorem dX11_machine_56 : decode cX11_machine 56 = .ok (.aload_n 0, 1) := by decide +kernel
theorem dX11_machine_57 : decode cX11_machine 57 = .ok (.getfield 73, 3) := by decide +kernel
theorem dX11_machine_60 : decode cX11_machine 60 = .ok (.getfield 133, 3) := by decide +kernel
theorem dX11_machine_63 : decode cX11_machine 63 = .ok (.ireturn, 1) := by decide +kernel
theorem dX11_takeTape_0 : decode cX11_takeTape 0 = .ok (.aload_n 0, 1) := by decide +kernel
theorem dX11_takeTape_1 : decode cX11_takeTape 1 = .ok (.getfield 93, 3) := by decide +kernel
theorem dX11_takeTape_4 : decode cX11_takeTape 4 = .ok (.istore_n 1, 1) := by decide +kernel
theorem dX11_takeTape_5 : decode cX11_takeTape 5 = .ok (.aload_n 0, 1) := by decide +kernel
theorem dX11_takeTape_6 : decode cX11_takeTape 6 = .ok (.iconst 0, 1) := by decide +kernel
theorem dX11_takeTape_7 : decode cX11_takeTape 7 = .ok (.putfield 93, 3) := by decide +kernel
theorem dX11_takeTape_10 : decode cX11_takeTape 10 = .ok (.iload_n 1, 1) := by decide +kernel
theorem dX11_takeTape_11 : decode cX11_takeTape 11 = .ok (.ireturn, 1) := by decide +kernel
theorem dX11_keepFault_0 : decode cX11_keepFault 0 = .ok (.aload_n 0, 1) := by decide +kernel
theorem dX11_keepFault_1 : decode cX11_keepFault 1 = .ok (.aload_n 0, 1) := by decide +kernel
theorem dX11_keepFault_2 : decode cX11_keepFault 2 = .ok (.getfield 85, 3) := by decide +kernel
theorem dX11_keepFault_5 : decode cX11_keepFault 5 = .ok (.getfield 136, 3) := by decide +kernel
theorem dX11_keepFault_8 : decode cX11_keepFault 8 = .ok (.putfield 97, 3) := by decide +kernel
theorem dX11_keepFault_11 : decode cX11_keepFault 11 = .ok (.aload_n 0, 1) := by decide +kernel
theorem dX11_keepFault_12 : decode cX11_keepFault 12 = .ok (.aload_n 0, 1) := by decide +kernel
theorem dX11_keepFault_13 : decode cX11_keepFault 13 = .ok (.getfield 85, 3) := by decide +kernel
theorem dX11_keepFault_16 : decode cX11_keepFault 16 = .ok (.getfield 137, 3) := by decide +kernel
theorem dX11_keepFault_19 : decode cX11_keepFault 19 = .ok (.putfield 100, 3) := by decide +kernel
theorem dX11_keepFault_22 : decode cX11_keepFault 22 = .ok (.return_, 1) := by decide +kernel
theorem dX11_beginAnew_0 : decode cX11_beginAnew 0 = .ok (.aload_n 0, 1) := by decide +kernel
theorem dX11_beginAnew_1 : decode cX11_beginAnew 1 = .ok (.iconst 1, 1) := by decide +kernel
theorem dX11_beginAnew_2 : decode cX11_beginAnew 2 = .ok (.putfield 89, 3) := by decide +kernel
theorem dX11_beginAnew_5 : decode cX11_beginAnew 5 = .ok (.aload_n 0, 1) := by decide +kernel
theorem dX11_beginAnew_6 : decode cX11_beginAnew 6 = .ok (.getfield 20, 3) := by decide +kernel
theorem dX11_beginAnew_9 : decode cX11_beginAnew 9 = .ok (.invokevirtual 140, 3) := by decide +kernel
theorem dX11_beginAnew_12 : decode cX11_beginAnew 12 = .ok (.aload_n 0, 1) := by decide +kernel
theorem dX11_beginAnew_13 : decode cX11_beginAnew 13 = .ok (.getfield 20, 3) := by decide +kernel
theorem dX11_beginAnew_16 : decode cX11_beginAnew 16 = .ok (.getfield 36, 3) := by decide +kernel
theorem dX11_beginAnew_19 : decode cX11_beginAnew 19 = .ok (.bipush 15, 2) := by decide +kernel
theorem dX11_beginAnew_21 : decode cX11_beginAnew 21 = .ok (.aaload, 1) := by decide +kernel
theorem dX11_beginAnew_22 : decode cX11_beginAnew 22 = .ok (.astore_n 1, 1) := by decide +kernel
theorem dX11_beginAnew_23 : decode cX11_beginAnew 23 = .ok (.aload_n 1, 1) := by decide +kernel
theorem dX11_beginAnew_24 : decode cX11_beginAnew 24 = .ok (.iconst 1, 1) := by decide +kernel
theorem dX11_beginAnew_25 : decode cX11_beginAnew 25 = .ok (.putfield 143, 3) := by decide +kernel
theorem dX11_beginAnew_28 : decode cX11_beginAnew 28 = .ok (.aload_n 1, 1) := by decide +kernel
theorem dX11_beginAnew_29 : decode cX11_beginAnew 29 = .ok (.bipush 7, 2) := by decide +kernel
theorem dX11_beginAnew_31 : decode cX11_beginAnew 31 = .ok (.putfield 148, 3) := by decide +kernel
theorem dX11_beginAnew_34 : decode cX11_beginAnew 34 = .ok (.aload_n 1, 1) := by decide +kernel
theorem dX11_beginAnew_35 : decode cX11_beginAnew 35 = .ok (.iconst 0, 1) := by decide +kernel
theorem dX11_beginAnew_36 : decode cX11_beginAnew 36 = .ok (.sipush 4096, 3) := by decide +kernel
theorem dX11_beginAnew_39 : decode cX11_beginAnew 39 = .ok (.aload_n 0, 1) := by decide +kernel
theorem dX11_beginAnew_40 : decode cX11_beginAnew 40 = .ok (.getfield 73, 3) := by decide +kernel
theorem dX11_beginAnew_43 : decode cX11_beginAnew 43 = .ok (.getfield 151, 3) := by decide +kernel
theorem dX11_beginAnew_46 : decode cX11_beginAnew 46 = .ok (.invokevirtual 154, 3) := by decide +kernel
theorem dX11_beginAnew_49 : decode cX11_beginAnew 49 = .ok (.aload_n 0, 1) := by decide +kernel
theorem dX11_beginAnew_50 : decode cX11_beginAnew 50 = .ok (.getfield 30, 3) := by decide +kernel
theorem dX11_beginAnew_53 : decode cX11_beginAnew 53 = .ok (.invokevirtual 158, 3) := by decide +kernel
theorem dX11_beginAnew_56 : decode cX11_beginAnew 56 = .ok (.aload_n 0, 1) := by decide +kernel
theorem dX11_beginAnew_57 : decode cX11_beginAnew 57 = .ok (.getfield 59, 3) := by decide +kernel
theorem dX11_beginAnew_60 : decode cX11_beginAnew 60 = .ok (.invokevirtual 159, 3) := by decide +kernel
theorem dX11_beginAnew_63 : decode cX11_beginAnew 63 = .ok (.return_, 1) := by decide +kernel
theorem dX11_fault_0 : decode cX11_fault 0 = .ok (.iload_n 1, 1) := by decide +kernel
theorem dX11_fault_1 : decode cX11_fault 1 = .ok (.lookupswitch 37 #[(0, 27), (1, 32)], 27) := by decide +kernel
theorem dX11_fault_28 : decode cX11_fault 28 = .ok (.aload_n 0, 1) := by decide +kernel
theorem dX11_fault_29 : decode cX11_fault 29 = .ok (.getfield 97, 3) := by decide +kernel
theorem dX11_fault_32 : decode cX11_fault 32 = .ok (.ireturn, 1) := by decide +kernel
theorem dX11_fault_33 : decode cX11_fault 33 = .ok (.aload_n 0, 1) := by decide +kernel
theorem dX11_fault_34 : decode cX11_fault 34 = .ok (.getfield 100, 3) := by decide +kernel
theorem dX11_fault_37 : decode cX11_fault 37 = .ok (.ireturn, 1) := by decide +kernel
theorem dX11_fault_38 : decode cX11_fault 38 = .ok (.iconst (-1), 1) := by decide +kernel
theorem dX11_fault_39 : decode cX11_fault 39 = .ok (.ireturn, 1) := by decide +kernel
theorem dX11_has_0 : decode cX11_has 0 = .ok (.iload_n 1, 1) := by decide +kernel
theorem dX11_has_1 : decode cX11_has 1 = .ok (.ifCond .lt 9, 3) := by decide +kernel
theorem dX11_has_4 : decode cX11_has 4 = .ok (.iload_n 1, 1) := by decide +kernel
theorem dX11_has_5 : decode cX11_has 5 = .ok (.bipush 10, 2) := by decide +kernel
theorem dX11_has_7 : decode cX11_has 7 = .ok (.if_icmp .le 5, 3) := by decide +kernel
theorem dX11_has_10 : decode cX11_has 10 = .ok (.iconst (-1), 1) := by decide +kernel
theorem dX11_has_11 : decode cX11_has 11 = .ok (.ireturn, 1) := by decide +kernel
theorem dX11_has_12 : decode cX11_has 12 = .ok (.aload_n 0, 1) := by decide +kernel
theorem dX11_has_13 : decode cX11_has 13 = .ok (.getfield 89, 3) := by decide +kernel
theorem dX11_has_16 : decode cX11_has 16 = .ok (.ifCond .ne 5, 3) := by decide +kernel
theorem dX11_has_19 : decode cX11_has 19 = .ok (.iconst 0, 1) := by decide +kernel
theorem dX11_has_20 : decode cX11_has 20 = .ok (.ireturn, 1) := by decide +kernel
theorem dX11_has_21 : decode cX11_has 21 = .ok (.iload_n 1, 1) := by decide +kernel
theorem dX11_has_22 : decode cX11_has 22 = .ok (.tableswitch 148 0 9 #[54, 62, 70, 78, 86, 94, 109, 124, 132, 140], 54) := by decide +kernel
theorem dX11_has_76 : decode cX11_has 76 = .ok (.aload_n 0, 1) := by decide +kernel
theorem dX11_has_77 : decode cX11_has 77 = .ok (.getfield 73, 3) := by decide +kernel
theorem dX11_has_80 : decode cX11_has 80 = .ok (.getfield 160, 3) := by decide +kernel
theorem dX11_has_83 : decode cX11_has 83 = .ok (.ireturn, 1) := by decide +kernel
theorem dX11_has_84 : decode cX11_has 84 = .ok (.aload_n 0, 1) := by decide +kernel
theorem dX11_has_85 : decode cX11_has 85 = .ok (.getfield 73, 3) := by decide +kernel
theorem dX11_has_88 : decode cX11_has 88 = .ok (.getfield 151, 3) := by decide +kernel
theorem dX11_has_91 : decode cX11_has 91 = .ok (.ireturn, 1) := by decide +kernel
theorem dX11_has_92 : decode cX11_has 92 = .ok (.aload_n 0, 1) := by decide +kernel
theorem dX11_has_93 : decode cX11_has 93 = .ok (.getfield 20, 3) := by decide +kernel
theorem dX11_has_96 : decode cX11_has 96 = .ok (.invokevirtual 163, 3) := by decide +kernel
theorem dX11_has_99 : decode cX11_has 99 = .ok (.ireturn, 1) := by decide +kernel
theorem dX11_has_100 : decode cX11_has 100 = .ok (.aload_n 0, 1) := by decide +kernel
theorem dX11_has_101 : decode cX11_has 101 = .ok (.getfield 20, 3) := by decide +kernel
theorem dX11_has_104 : decode cX11_has 104 = .ok (.getfield 166, 3) := by decide +kernel
theorem dX11_has_107 : decode cX11_has 107 = .ok (.ireturn, 1) := by decide +kernel
theorem dX11_has_108 : decode cX11_has 108 = .ok (.aload_n 0, 1) := by decide +kernel
theorem dX11_has_109 : decode cX11_has 109 = .ok (.getfield 20, 3) := by decide +kernel
theorem dX11_has_112 : decode cX11_has 112 = .ok (.invokevirtual 169, 3) := by decide +kernel
theorem dX11_has_115 : decode cX11_has 115 = .ok (.ireturn, 1) := by decide +kernel
theorem dX11_has_116 : decode cX11_has 116 = .ok (.aload_n 0, 1) := by decide +kernel
theorem dX11_has_117 : decode cX11_has 117 = .ok (.getfield 20, 3) := by decide +kernel
theorem dX11_has_120 : decode cX11_has 120 = .ok (.aload_n 0, 1) := by decide +kernel
theorem dX11_has_121 : decode cX11_has 121 = .ok (.getfield 73, 3) := by decide +kernel
theorem dX11_has_124 : decode cX11_has 124 = .ok (.getfield 160, 3) := by decide +kernel
theorem dX11_has_127 : decode cX11_has 127 = .ok (.invokevirtual 172, 3) := by decide +kernel
theorem dX11_has_130 : decode cX11_has 130 = .ok (.ireturn, 1) := by decide +kernel
theorem dX11_has_131 : decode cX11_has 131 = .ok (.aload_n 0, 1) := by decide +kernel
theorem dX11_has_132 : decode cX11_has 132 = .ok (.getfield 20, 3) := by decide +kernel
theorem dX11_has_135 : decode cX11_has 135 = .ok (.aload_n 0, 1) := by decide +kernel
theorem dX11_has_136 : decode cX11_has 136 = .ok (.getfield 73, 3) := by decide +kernel
theorem dX11_has_139 : decode cX11_has 139 = .ok (.getfield 160, 3) := by decide +kernel
theorem dX11_has_142 : decode cX11_has 142 = .ok (.invokevirtual 175, 3) := by decide +kernel
theorem dX11_has_145 : decode cX11_has 145 = .ok (.ireturn, 1) := by decide +kernel
theorem dX11_has_146 : decode cX11_has 146 = .ok (.aload_n 0, 1) := by decide +kernel
theorem dX11_has_147 : decode cX11_has 147 = .ok (.getfield 20, 3) := by decide +kernel
theorem dX11_has_150 : decode cX11_has 150 = .ok (.getfield 178, 3) := by decide +kernel
theorem dX11_has_153 : decode cX11_has 153 = .ok (.ireturn, 1) := by decide +kernel
theorem dX11_has_154 : decode cX11_has 154 = .ok (.aload_n 0, 1) := by decide +kernel
theorem dX11_has_155 : decode cX11_has 155 = .ok (.getfield 59, 3) := by decide +kernel
theorem dX11_has_158 : decode cX11_has 158 = .ok (.getfield 181, 3) := by decide +kernel
theorem dX11_has_161 : decode cX11_has 161 = .ok (.ireturn, 1) := by decide +kernel
theorem dX11_has_162 : decode cX11_has 162 = .ok (.aload_n 0, 1) := by decide +kernel
theorem dX11_has_163 : decode cX11_has 163 = .ok (.getfield 30, 3) := by decide +kernel
theorem dX11_has_166 : decode cX11_has 166 = .ok (.getfield 184, 3) := by decide +kernel
theorem dX11_has_169 : decode cX11_has 169 = .ok (.ireturn, 1) := by decide +kernel
theorem dX11_has_170 : decode cX11_has 170 = .ok (.aload_n 0, 1) := by decide +kernel
theorem dX11_has_171 : decode cX11_has 171 = .ok (.getfield 73, 3) := by decide +kernel
theorem dX11_has_174 : decode cX11_has 174 = .ok (.getfield 187, 3) := by decide +kernel
theorem dX11_has_177 : decode cX11_has 177 = .ok (.ireturn, 1) := by decide +kernel
theorem dX11_letter_0 : decode cX11_letter 0 = .ok (.aload_n 0, 1) := by decide +kernel
theorem dX11_letter_1 : decode cX11_letter 1 = .ok (.iload_n 1, 1) := by decide +kernel
theorem dX11_letter_2 : decode cX11_letter 2 = .ok (.invokevirtual 190, 3) := by decide +kernel
theorem dX11_letter_5 : decode cX11_letter 5 = .ok (.ifCond .eq 13, 3) := by decide +kernel
theorem dX11_letter_8 : decode cX11_letter 8 = .ok (.iload_n 2, 1) := by decide +kernel
theorem dX11_letter_9 : decode cX11_letter 9 = .ok (.ifCond .lt 9, 3) := by decide +kernel
theorem dX11_letter_12 : decode cX11_letter 12 = .ok (.iload_n 2, 1) := by decide +kernel
theorem dX11_letter_13 : decode cX11_letter 13 = .ok (.bipush 6, 2) := by decide +kernel
theorem dX11_letter_15 : decode cX11_letter 15 = .ok (.if_icmp .lt 5, 3) := by decide +kernel
theorem dX11_letter_18 : decode cX11_letter 18 = .ok (.iconst (-1), 1) := by decide +kernel
theorem dX11_letter_19 : decode cX11_letter 19 = .ok (.ireturn, 1) := by decide +kernel
theorem dX11_letter_20 : decode cX11_letter 20 = .ok (.aload_n 0, 1) := by decide +kernel
theorem dX11_letter_21 : decode cX11_letter 21 = .ok (.getfield 73, 3) := by decide +kernel
theorem dX11_letter_24 : decode cX11_letter 24 = .ok (.getfield 193, 3) := by decide +kernel
theorem dX11_letter_27 : decode cX11_letter 27 = .ok (.iload_n 1, 1) := by decide +kernel
theorem dX11_letter_28 : decode cX11_letter 28 = .ok (.bipush 6, 2) := by decide +kernel
theorem dX11_letter_30 : decode cX11_letter 30 = .ok (.imul, 1) := by decide +kernel
theorem dX11_letter_31 : decode cX11_letter 31 = .ok (.iload_n 2, 1) := by decide +kernel
theorem dX11_letter_32 : decode cX11_letter 32 = .ok (.iadd, 1) := by decide +kernel
theorem dX11_letter_33 : decode cX11_letter 33 = .ok (.baload, 1) := by decide +kernel
theorem dX11_letter_34 : decode cX11_letter 34 = .ok (.ireturn, 1) := by decide +kernel
theorem dX11_pointer_0 : decode cX11_pointer 0 = .ok (.aload_n 0, 1) := by decide +kernel
theorem dX11_pointer_1 : decode cX11_pointer 1 = .ok (.iload_n 1, 1) := by decide +kernel
theorem dX11_pointer_2 : decode cX11_pointer 2 = .ok (.invokevirtual 196, 3) := by decide +kernel
theorem dX11_pointer_5 : decode cX11_pointer 5 = .ok (.ifCond .eq 26, 3) := by decide +kernel
theorem dX11_pointer_8 : decode cX11_pointer 8 = .ok (.aload_n 0, 1) := by decide +kernel
theorem dX11_pointer_9 : decode cX11_pointer 9 = .ok (.getfield 20, 3) := by decide +kernel
theorem dX11_pointer_12 : decode cX11_pointer 12 = .ok (.getfield 36, 3) := by decide +kernel
theorem dX11_pointer_15 : decode cX11_pointer 15 = .ok (.iload_n 1, 1) := by decide +kernel
theorem dX11_pointer_16 : decode cX11_pointer 16 = .ok (.aaload, 1) := by decide +kernel
theorem dX11_pointer_17 : decode cX11_pointer 17 = .ok (.iload_n 2, 1) := by decide +kernel
theorem dX11_pointer_18 : decode cX11_pointer 18 = .ok (.aload_n 0, 1) := by decide +kernel
theorem dX11_pointer_19 : decode cX11_pointer 19 = .ok (.getfield 73, 3) := by decide +kernel
theorem dX11_pointer_22 : decode cX11_pointer 22 = .ok (.getfield 151, 3) := by decide +kernel
theorem dX11_pointer_25 : decode cX11_pointer 25 = .ok (.invokevirtual 199, 3) := by decide +kernel
theorem dX11_pointer_28 : decode cX11_pointer 28 = .ok (.goto 4, 3) := by decide +kernel
theorem dX11_pointer_31 : decode cX11_pointer 31 = .ok (.iconst (-1), 1) := by decide +kernel
theorem dX11_pointer_32 : decode cX11_pointer 32 = .ok (.ireturn, 1) := by decide +kernel
theorem dX11_shelf_0 : decode cX11_shelf 0 = .ok (.aload_n 0, 1) := by decide +kernel
theorem dX11_shelf_1 : decode cX11_shelf 1 = .ok (.iload_n 1, 1) := by decide +kernel
theorem dX11_shelf_2 : decode cX11_shelf 2 = .ok (.iload_n 2, 1) := by decide +kernel
theorem dX11_shelf_3 : decode cX11_shelf 3 = .ok (.invokevirtual 203, 3) := by decide +kernel
theorem dX11_shelf_6 : decode cX11_shelf 6 = .ok (.ifCond .ne 5, 3) := by decide +kernel
theorem dX11_shelf_9 : decode cX11_shelf 9 = .ok (.iconst (-1), 1) := by decide +kernel
theorem dX11_shelf_10 : decode cX11_shelf 10 = .ok (.ireturn, 1) := by decide +kernel
theorem dX11_shelf_11 : decode cX11_shelf 11 = .ok (.aload_n 0, 1) := by decide +kernel
theorem dX11_shelf_12 : decode cX11_shelf 12 = .ok (.getfield 20, 3) := by decide +kernel
theorem dX11_shelf_15 : decode cX11_shelf 15 = .ok (.getfield 36, 3) := by decide +kernel
theorem dX11_shelf_18 : decode cX11_shelf 18 = .ok (.iload_n 1, 1) := by decide +kernel
theorem dX11_shelf_19 : decode cX11_shelf 19 = .ok (.iload_n 2, 1) := by decide +kernel
theorem dX11_shelf_20 : decode cX11_shelf 20 = .ok (.invokestatic 207, 3) := by decide +kernel
theorem dX11_shelf_23 : decode cX11_shelf 23 = .ok (.aaload, 1) := by decide +kernel
theorem dX11_shelf_24 : decode cX11_shelf 24 = .ok (.astore 4, 2) := by decide +kernel
theorem dX11_shelf_26 : decode cX11_shelf 26 = .ok (.aload 4, 2) := by decide +kernel
theorem dX11_shelf_28 : decode cX11_shelf 28 = .ok (.getfield 210, 3) := by decide +kernel
theorem dX11_shelf_31 : decode cX11_shelf 31 = .ok (.ifCond .eq 19, 3) := by decide +kernel
theorem dX11_shelf_34 : decode cX11_shelf 34 = .ok (.aload 4, 2) := by decide +kernel
theorem dX11_shelf_36 : decode cX11_shelf 36 = .ok (.iload_n 3, 1) := by decide +kernel
theorem dX11_shelf_37 : decode cX11_shelf 37 = .ok (.aload_n 0, 1) := by decide +kernel
theorem dX11_shelf_38 : decode cX11_shelf 38 = .ok (.getfield 73, 3) := by decide +kernel
theorem dX11_shelf_41 : decode cX11_shelf 41 = .ok (.getfield 151, 3) := by decide +kernel
theorem dX11_shelf_44 : decode cX11_shelf 44 = .ok (.invokevirtual 199, 3) := by decide +kernel
theorem dX11_shelf_47 : decode cX11_shelf 47 = .ok (.goto 4, 3) := by decide +kernel
theorem dX11_shelf_50 : decode cX11_shelf 50 = .ok (.iconst (-1), 1) := by decide +kernel
theorem dX11_shelf_51 : decode cX11_shelf 51 = .ok (.ireturn, 1) := by decide +kernel
theorem dX11_object_0 : decode cX11_object 0 = .ok (.aload_n 0, 1) := by decide +kernel
theorem dX11_object_1 : decode cX11_object 1 = .ok (.getfield 89, 3) := by decide +kernel
theorem dX11_object_4 : decode cX11_object 4 = .ok (.ifCond .eq 18, 3) := by decide +kernel
theorem dX11_object_7 : decode cX11_object 7 = .ok (.iload_n 1, 1) := by decide +kernel
theorem dX11_object_8 : decode cX11_object 8 = .ok (.ifCond .lt 14, 3) := by decide +kernel
theorem dX11_object_11 : decode cX11_object 11 = .ok (.iload_n 1, 1) := by decide +kernel
theorem dX11_object_12 : decode cX11_object 12 = .ok (.aload_n 0, 1) := by decide +kernel
theorem dX11_object_13 : decode cX11_object 13 = .ok (.getfield 20, 3) := by decide +kernel
theorem dX11_object_16 : decode cX11_object 16 = .ok (.getfield 166, 3) := by decide +kernel
theorem dX11_object_19 : decode cX11_object 19 = .ok (.if_icmp .lt 5, 3) := by decide +kernel
theorem dX11_object_22 : decode cX11_object 22 = .ok (.iconst (-1), 1) := by decide +kernel
theorem dX11_object_23 : decode cX11_object 23 = .ok (.ireturn, 1) := by decide +kernel
theorem dX11_object_24 : decode cX11_object 24 = .ok (.iload_n 2, 1) := by decide +kernel
theorem dX11_object_25 : decode cX11_object 25 = .ok (.tableswitch 57 0 2 #[27, 37, 47], 27) := by decide +kernel
theorem dX11_object_52 : decode cX11_object 52 = .ok (.aload_n 0, 1) := by decide +kernel
theorem dX11_object_53 : decode cX11_object 53 = .ok (.getfield 20, 3) := by decide +kernel
theorem dX11_object_56 : decode cX11_object 56 = .ok (.getfield 213, 3) := by decide +kernel
theorem dX11_object_59 : decode cX11_object 59 = .ok (.iload_n 1, 1) := by decide +kernel
theorem dX11_object_60 : decode cX11_object 60 = .ok (.iaload, 1) := by decide +kernel
theorem dX11_object_61 : decode cX11_object 61 = .ok (.ireturn, 1) := by decide +kernel
theorem dX11_object_62 : decode cX11_object 62 = .ok (.aload_n 0, 1) := by decide +kernel
theorem dX11_object_63 : decode cX11_object 63 = .ok (.getfield 20, 3) := by decide +kernel
theorem dX11_object_66 : decode cX11_object 66 = .ok (.getfield 216, 3) := by decide +kernel
theorem dX11_object_69 : decode cX11_object 69 = .ok (.iload_n 1, 1) := by decide +kernel
theorem dX11_object_70 : decode cX11_object 70 = .ok (.iaload, 1) := by decide +kernel
theorem dX11_object_71 : decode cX11_object 71 = .ok (.ireturn, 1) := by decide +kernel
theorem dX11_object_72 : decode cX11_object 72 = .ok (.aload_n 0, 1) := by decide +kernel
theorem dX11_object_73 : decode cX11_object 73 = .ok (.getfield 20, 3) := by decide +kernel
theorem dX11_object_76 : decode cX11_object 76 = .ok (.getfield 219, 3) := by decide +kernel
theorem dX11_object_79 : decode cX11_object 79 = .ok (.iload_n 1, 1) := by decide +kernel
theorem dX11_object_80 : decode cX11_object 80 = .ok (.iaload, 1) := by decide +kernel
theorem dX11_object_81 : decode cX11_object 81 = .ok (.ireturn, 1) := by decide +kernel
theorem dX11_object_82 : decode cX11_object 82 = .ok (.iconst (-1), 1) := by decide +kernel
theorem dX11_object_83 : decode cX11_object 83 = .ok (.ireturn, 1) := by decide +kernel
theorem dX11_hole_0 : decode cX11_hole 0 = .ok (.aload_n 0, 1) := by decide +kernel
theorem dX11_hole_1 : decode cX11_hole 1 = .ok (.getfield 89, 3) := by decide +kernel
theorem dX11_hole_4 : decode cX11_hole 4 = .ok (.ifCond .eq 21, 3) := by decide +kernel
theorem dX11_hole_7 : decode cX11_hole 7 = .ok (.aload_n 0, 1) := by decide +kernel
theorem dX11_hole_8 : decode cX11_hole 8 = .ok (.getfield 20, 3) := by decide +kernel
theorem dX11_hole_11 : decode cX11_hole 11 = .ok (.iload_n 1, 1) := by decide +kernel
theorem dX11_hole_12 : decode cX11_hole 12 = .ok (.aload_n 0, 1) := by decide +kernel
theorem dX11_hole_13 : decode cX11_hole 13 = .ok (.getfield 73, 3) := by decide +kernel
theorem dX11_hole_16 : decode cX11_hole 16 = .ok (.getfield 160, 3) := by decide +kernel
theorem dX11_hole_19 : decode cX11_hole 19 = .ok (.invokevirtual 222, 3) := by decide +kernel
theorem dX11_hole_22 : decode cX11_hole 22 = .ok (.goto 4, 3) := by decide +kernel
theorem dX11_hole_25 : decode cX11_hole 25 = .ok (.iconst (-1), 1) := by decide +kernel
theorem dX11_hole_26 : decode cX11_hole 26 = .ok (.istore_n 3, 1) := by decide +kernel
theorem dX11_hole_27 : decode cX11_hole 27 = .ok (.iload_n 3, 1) := by decide +kernel
theorem dX11_hole_28 : decode cX11_hole 28 = .ok (.iconst (-1), 1) := by decide +kernel
theorem dX11_hole_29 : decode cX11_hole 29 = .ok (.if_icmp .ne 5, 3) := by decide +kernel
theorem dX11_hole_32 : decode cX11_hole 32 = .ok (.iconst (-1), 1) := by decide +kernel
theorem dX11_hole_33 : decode cX11_hole 33 = .ok (.ireturn, 1) := by decide +kernel
theorem dX11_hole_34 : decode cX11_hole 34 = .ok (.iload_n 2, 1) := by decide +kernel
theorem dX11_hole_35 : decode cX11_hole 35 = .ok (.lookupswitch 50 #[(0, 25), (1, 34)], 25) := by decide +kernel
theorem dX11_hole_60 : decode cX11_hole 60 = .ok (.aload_n 0, 1) := by decide +kernel
theorem dX11_hole_61 : decode cX11_hole 61 = .ok (.getfield 20, 3) := by decide +kernel
theorem dX11_hole_64 : decode cX11_hole 64 = .ok (.iload_n 3, 1) := by decide +kernel
theorem dX11_hole_65 : decode cX11_hole 65 = .ok (.invokevirtual 225, 3) := by decide +kernel
theorem dX11_hole_68 : decode cX11_hole 68 = .ok (.ireturn, 1) := by decide +kernel
theorem dX11_hole_69 : decode cX11_hole 69 = .ok (.aload_n 0, 1) := by decide +kernel
theorem dX11_hole_70 : decode cX11_hole 70 = .ok (.getfield 20, 3) := by decide +kernel
theorem dX11_hole_73 : decode cX11_hole 73 = .ok (.iload_n 3, 1) := by decide +kernel
theorem dX11_hole_74 : decode cX11_hole 74 = .ok (.aload_n 0, 1) := by decide +kernel
theorem dX11_hole_75 : decode cX11_hole 75 = .ok (.getfield 73, 3) := by decide +kernel
theorem dX11_hole_78 : decode cX11_hole 78 = .ok (.getfield 160, 3) := by decide +kernel
theorem dX11_hole_81 : decode cX11_hole 81 = .ok (.invokevirtual 228, 3) := by decide +kernel
theorem dX11_hole_84 : decode cX11_hole 84 = .ok (.ireturn, 1) := by decide +kernel
theorem dX11_hole_85 : decode cX11_hole 85 = .ok (.iconst (-1), 1) := by decide +kernel
theorem dX11_hole_86 : decode cX11_hole 86 = .ok (.ireturn, 1) := by decide +kernel
theorem dX11_octetAt_0 : decode cX11_octetAt 0 = .ok (.aload_n 0, 1) := by decide +kernel
theorem dX11_octetAt_1 : decode cX11_octetAt 1 = .ok (.getfield 89, 3) := by decide +kernel
theorem dX11_octetAt_4 : decode cX11_octetAt 4 = .ok (.ifCond .eq 29, 3) := by decide +kernel
theorem dX11_octetAt_7 : decode cX11_octetAt 7 = .ok (.iload_n 1, 1) := by decide +kernel
theorem dX11_octetAt_8 : decode cX11_octetAt 8 = .ok (.ifCond .lt 25, 3) := by decide +kernel
theorem dX11_octetAt_11 : decode cX11_octetAt 11 = .ok (.iload_n 1, 1) := by decide +kernel
theorem dX11_octetAt_12 : decode cX11_octetAt 12 = .ok (.aload_n 0, 1) := by decide +kernel
theorem dX11_octetAt_13 : decode cX11_octetAt 13 = .ok (.getfield 73, 3) := by decide +kernel
theorem dX11_octetAt_16 : decode cX11_octetAt 16 = .ok (.getfield 160, 3) := by decide +kernel
theorem dX11_octetAt_19 : decode cX11_octetAt 19 = .ok (.if_icmp .ge 14, 3) := by decide +kernel
theorem dX11_octetAt_22 : decode cX11_octetAt 22 = .ok (.aload_n 0, 1) := by decide +kernel
theorem dX11_octetAt_23 : decode cX11_octetAt 23 = .ok (.getfield 20, 3) := by decide +kernel
theorem dX11_octetAt_26 : decode cX11_octetAt 26 = .ok (.iload_n 1, 1) := by decide +kernel
theorem dX11_octetAt_27 : decode cX11_octetAt 27 = .ok (.invokevirtual 231, 3) := by decide +kernel
theorem dX11_octetAt_30 : decode cX11_octetAt 30 = .ok (.goto 4, 3) := by decide +kernel
theorem dX11_octetAt_33 : decode cX11_octetAt 33 = .ok (.iconst (-1), 1) := by decide +kernel
theorem dX11_octetAt_34 : decode cX11_octetAt 34 = .ok (.ireturn, 1) := by decide +kernel
theorem dX11_kept_0 : decode cX11_kept 0 = .ok (.iload_n 1, 1) := by decide +kernel
theorem dX11_kept_1 : decode cX11_kept 1 = .ok (.ifCond .lt 23, 3) := by decide +kernel
theorem dX11_kept_4 : decode cX11_kept 4 = .ok (.iload_n 1, 1) := by decide +kernel
theorem dX11_kept_5 : decode cX11_kept 5 = .ok (.aload_n 0, 1) := by decide +kernel
theorem dX11_kept_6 : decode cX11_kept 6 = .ok (.getfield 20, 3) := by decide +kernel
theorem dX11_kept_9 : decode cX11_kept 9 = .ok (.getfield 178, 3) := by decide +kernel
theorem dX11_kept_12 : decode cX11_kept 12 = .ok (.if_icmp .ge 12, 3) := by decide +kernel
theorem dX11_kept_15 : decode cX11_kept 15 = .ok (.iload_n 2, 1) := by decide +kernel
theorem dX11_kept_16 : decode cX11_kept 16 = .ok (.ifCond .lt 8, 3) := by decide +kernel
theorem dX11_kept_19 : decode cX11_kept 19 = .ok (.iload_n 2, 1) := by decide +kernel
theorem dX11_kept_20 : decode cX11_kept 20 = .ok (.iconst 3, 1) := by decide +kernel
theorem dX11_kept_21 : decode cX11_kept 21 = .ok (.if_icmp .lt 5, 3) := by decide +kernel
theorem dX11_kept_24 : decode cX11_kept 24 = .ok (.iconst (-1), 1) := by decide +kernel
theorem dX11_kept_25 : decode cX11_kept 25 = .ok (.ireturn, 1) := by decide +kernel
theorem dX11_kept_26 : decode cX11_kept 26 = .ok (.aload_n 0, 1) := by decide +kernel
theorem dX11_kept_27 : decode cX11_kept 27 = .ok (.getfield 20, 3) := by decide +kernel
theorem dX11_kept_30 : decode cX11_kept 30 = .ok (.getfield 234, 3) := by decide +kernel
theorem dX11_kept_33 : decode cX11_kept 33 = .ok (.iload_n 1, 1) := by decide +kernel
theorem dX11_kept_34 : decode cX11_kept 34 = .ok (.iconst 3, 1) := by decide +kernel
theorem dX11_kept_35 : decode cX11_kept 35 = .ok (.imul, 1) := by decide +kernel
theorem dX11_kept_36 : decode cX11_kept 36 = .ok (.iload_n 2, 1) := by decide +kernel
theorem dX11_kept_37 : decode cX11_kept 37 = .ok (.iadd, 1) := by decide +kernel
theorem dX11_kept_38 : decode cX11_kept 38 = .ok (.iaload, 1) := by decide +kernel
theorem dX11_kept_39 : decode cX11_kept 39 = .ok (.ireturn, 1) := by decide +kernel
theorem dX11_isPointer_0 : decode cX11_isPointer 0 = .ok (.aload_n 0, 1) := by decide +kernel
theorem dX11_isPointer_1 : decode cX11_isPointer 1 = .ok (.getfield 89, 3) := by decide +kernel
theorem dX11_isPointer_4 : decode cX11_isPointer 4 = .ok (.ifCond .eq 17, 3) := by decide +kernel
theorem dX11_isPointer_7 : decode cX11_isPointer 7 = .ok (.iload_n 1, 1) := by decide +kernel
theorem dX11_isPointer_8 : decode cX11_isPointer 8 = .ok (.ifCond .lt 13, 3) := by decide +kernel
theorem dX11_isPointer_11 : decode cX11_isPointer 11 = .ok (.iload_n 1, 1) := by decide +kernel
theorem dX11_isPointer_12 : decode cX11_isPointer 12 = .ok (.bipush 16, 2) := by decide +kernel
theorem dX11_isPointer_14 : decode cX11_isPointer 14 = .ok (.if_icmp .ge 7, 3) := by decide +kernel
theorem dX11_isPointer_17 : decode cX11_isPointer 17 = .ok (.iconst 1, 1) := by decide +kernel
theorem dX11_isPointer_18 : decode cX11_isPointer 18 = .ok (.goto 4, 3) := by decide +kernel
theorem dX11_isPointer_21 : decode cX11_isPointer 21 = .ok (.iconst 0, 1) := by decide +kernel
theorem dX11_isPointer_22 : decode cX11_isPointer 22 = .ok (.ireturn, 1) := by decide +kernel
theorem dX11_isShelf_0 : decode cX11_isShelf 0 = .ok (.aload_n 0, 1) := by decide +kernel
theorem dX11_isShelf_1 : decode cX11_isShelf 1 = .ok (.getfield 89, 3) := by decide +kernel
theorem dX11_isShelf_4 : decode cX11_isShelf 4 = .ok (.ifCond .eq 22, 3) := by decide +kernel
theorem dX11_isShelf_7 : decode cX11_isShelf 7 = .ok (.iload_n 1, 1) := by decide +kernel
theorem dX11_isShelf_8 : decode cX11_isShelf 8 = .ok (.ifCond .lt 18, 3) := by decide +kernel
theorem dX11_isShelf_11 : decode cX11_isShelf 11 = .ok (.iload_n 1, 1) := by decide +kernel
theorem dX11_isShelf_12 : decode cX11_isShelf 12 = .ok (.aload_n 0, 1) := by decide +kernel
theorem dX11_isShelf_13 : decode cX11_isShelf 13 = .ok (.getfield 73, 3) := by decide +kernel
theorem dX11_isShelf_16 : decode cX11_isShelf 16 = .ok (.getfield 187, 3) := by decide +kernel
theorem dX11_isShelf_19 : decode cX11_isShelf 19 = .ok (.if_icmp .ge 7, 3) := by decide +kernel
theorem dX11_isShelf_22 : decode cX11_isShelf 22 = .ok (.iconst 1, 1) := by decide +kernel
theorem dX11_isShelf_23 : decode cX11_isShelf 23 = .ok (.goto 4, 3) := by decide +kernel
theorem dX11_isShelf_26 : decode cX11_isShelf 26 = .ok (.iconst 0, 1) := by decide +kernel
theorem dX11_isShelf_27 : decode cX11_isShelf 27 = .ok (.ireturn, 1) := by decide +kernel
theorem dX11_isPlace_0 : decode cX11_isPlace 0 = .ok (.aload_n 0, 1) := by decide +kernel
theorem dX11_isPlace_1 : decode cX11_isPlace 1 = .ok (.iload_n 1, 1) := by decide +kernel
theorem dX11_isPlace_2 : decode cX11_isPlace 2 = .ok (.invokevirtual 190, 3) := by decide +kernel
theorem dX11_isPlace_5 : decode cX11_isPlace 5 = .ok (.ifCond .eq 16, 3) := by decide +kernel
theorem dX11_isPlace_8 : decode cX11_isPlace 8 = .ok (.iload_n 2, 1) := by decide +kernel
theorem dX11_isPlace_9 : decode cX11_isPlace 9 = .ok (.ifCond .lt 12, 3) := by decide +kernel
theorem dX11_isPlace_12 : decode cX11_isPlace 12 = .ok (.iload_n 2, 1) := by decide +kernel
theorem dX11_isPlace_13 : decode cX11_isPlace 13 = .ok (.iconst 4, 1) := by decide +kernel
theorem dX11_isPlace_14 : decode cX11_isPlace 14 = .ok (.if_icmp .ge 7, 3) := by decide +kernel
theorem dX11_isPlace_17 : decode cX11_isPlace 17 = .ok (.iconst 1, 1) := by decide +kernel
theorem dX11_isPlace_18 : decode cX11_isPlace 18 = .ok (.goto 4, 3) := by decide +kernel
theorem dX11_isPlace_21 : decode cX11_isPlace 21 = .ok (.iconst 0, 1) := by decide +kernel
theorem dX11_isPlace_22 : decode cX11_isPlace 22 = .ok (.ireturn, 1) := by decide +kernel
theorem dX11_placeIndex_0 : decode cX11_placeIndex 0 = .ok (.bipush 16, 2) := by decide +kernel
theorem dX11_placeIndex_2 : decode cX11_placeIndex 2 = .ok (.iload_n 0, 1) := by decide +kernel
theorem dX11_placeIndex_3 : decode cX11_placeIndex 3 = .ok (.iconst 4, 1) := by decide +kernel
theorem dX11_placeIndex_4 : decode cX11_placeIndex 4 = .ok (.imul, 1) := by decide +kernel
theorem dX11_placeIndex_5 : decode cX11_placeIndex 5 = .ok (.iadd, 1) := by decide +kernel
theorem dX11_placeIndex_6 : decode cX11_placeIndex 6 = .ok (.iload_n 1, 1) := by decide +kernel
theorem dX11_placeIndex_7 : decode cX11_placeIndex 7 = .ok (.iadd, 1) := by decide +kernel
theorem dX11_placeIndex_8 : decode cX11_placeIndex 8 = .ok (.ireturn, 1) := by decide +kernel
theorem dX11_isStep_0 : decode cX11_isStep 0 = .ok (.iload_n 0, 1) := by decide +kernel
theorem dX11_isStep_1 : decode cX11_isStep 1 = .ok (.sipush (-4095), 3) := by decide +kernel
theorem dX11_isStep_4 : decode cX11_isStep 4 = .ok (.if_icmp .lt 14, 3) := by decide +kernel
theorem dX11_isStep_7 : decode cX11_isStep 7 = .ok (.iload_n 0, 1) := by decide +kernel
theorem dX11_isStep_8 : decode cX11_isStep 8 = .ok (.sipush 4095, 3) := by decide +kernel
theorem dX11_isStep_11 : decode cX11_isStep 11 = .ok (.if_icmp .gt 7, 3) := by decide +kernel
theorem dX11_isStep_14 : decode cX11_isStep 14 = .ok (.iconst 1, 1) := by decide +kernel
theorem dX11_isStep_15 : decode cX11_isStep 15 = .ok (.goto 4, 3) := by decide +kernel
theorem dX11_isStep_18 : decode cX11_isStep 18 = .ok (.iconst 0, 1) := by decide +kernel
theorem dX11_isStep_19 : decode cX11_isStep 19 = .ok (.ireturn, 1) := by decide +kernel
theorem dX11_areBounds_0 : decode cX11_areBounds 0 = .ok (.iload_n 0, 1) := by decide +kernel
theorem dX11_areBounds_1 : decode cX11_areBounds 1 = .ok (.ifCond .lt 27, 3) := by decide +kernel
theorem dX11_areBounds_4 : decode cX11_areBounds 4 = .ok (.iload_n 0, 1) := by decide +kernel
theorem dX11_areBounds_5 : decode cX11_areBounds 5 = .ok (.sipush 4096, 3) := by decide +kernel
theorem dX11_areBounds_8 : decode cX11_areBounds 8 = .ok (.if_icmp .gt 20, 3) := by decide +kernel
theorem dX11_areBounds_11 : decode cX11_areBounds 11 = .ok (.iload_n 1, 1) := by decide +kernel
theorem dX11_areBounds_12 : decode cX11_areBounds 12 = .ok (.ifCond .lt 16, 3) := by decide +kernel
theorem dX11_areBounds_15 : decode cX11_areBounds 15 = .ok (.iload_n 1, 1) := by decide +kernel
theorem dX11_areBounds_16 : decode cX11_areBounds 16 = .ok (.sipush 4096, 3) := by decide +kernel
theorem dX11_areBounds_19 : decode cX11_areBounds 19 = .ok (.iload_n 0, 1) := by decide +kernel
theorem dX11_areBounds_20 : decode cX11_areBounds 20 = .ok (.isub, 1) := by decide +kernel
theorem dX11_areBounds_21 : decode cX11_areBounds 21 = .ok (.if_icmp .gt 7, 3) := by decide +kernel
theorem dX11_areBounds_24 : decode cX11_areBounds 24 = .ok (.iconst 1, 1) := by decide +kernel
theorem dX11_areBounds_25 : decode cX11_areBounds 25 = .ok (.goto 4, 3) := by decide +kernel
theorem dX11_areBounds_28 : decode cX11_areBounds 28 = .ok (.iconst 0, 1) := by decide +kernel
theorem dX11_areBounds_29 : decode cX11_areBounds 29 = .ok (.ireturn, 1) := by decide +kernel
theorem dX11_rounds_0 : decode cX11_rounds 0 = .ok (.aload_n 0, 1) := by decide +kernel
theorem dX11_rounds_1 : decode cX11_rounds 1 = .ok (.getfield 89, 3) := by decide +kernel
theorem dX11_rounds_4 : decode cX11_rounds 4 = .ok (.ifCond .eq 11, 3) := by decide +kernel
theorem dX11_rounds_7 : decode cX11_rounds 7 = .ok (.iload_n 1, 1) := by decide +kernel
theorem dX11_rounds_8 : decode cX11_rounds 8 = .ok (.iload_n 2, 1) := by decide +kernel
theorem dX11_rounds_9 : decode cX11_rounds 9 = .ok (.invokestatic 237, 3) := by decide +kernel
theorem dX11_rounds_12 : decode cX11_rounds 12 = .ok (.ifCond .ne 5, 3) := by decide +kernel
theorem dX11_rounds_15 : decode cX11_rounds 15 = .ok (.iconst (-1), 1) := by decide +kernel
theorem dX11_rounds_16 : decode cX11_rounds 16 = .ok (.ireturn, 1) := by decide +kernel
theorem dX11_rounds_17 : decode cX11_rounds 17 = .ok (.iload_n 1, 1) := by decide +kernel
theorem dX11_rounds_18 : decode cX11_rounds 18 = .ok (.iload_n 1, 1) := by decide +kernel
theorem dX11_rounds_19 : decode cX11_rounds 19 = .ok (.iload_n 2, 1) := by decide +kernel
theorem dX11_rounds_20 : decode cX11_rounds 20 = .ok (.iadd, 1) := by decide +kernel
theorem dX11_rounds_21 : decode cX11_rounds 21 = .ok (.aload_n 0, 1) := by decide +kernel
theorem dX11_rounds_22 : decode cX11_rounds 22 = .ok (.getfield 73, 3) := by decide +kernel
theorem dX11_rounds_25 : decode cX11_rounds 25 = .ok (.getfield 151, 3) := by decide +kernel
theorem dX11_rounds_28 : decode cX11_rounds 28 = .ok (.invokestatic 240, 3) := by decide +kernel
theorem dX11_rounds_31 : decode cX11_rounds 31 = .ok (.istore 4, 2) := by decide +kernel
theorem dX11_rounds_33 : decode cX11_rounds 33 = .ok (.iload_n 1, 1) := by decide +kernel
theorem dX11_rounds_34 : decode cX11_rounds 34 = .ok (.iload 4, 2) := by decide +kernel
theorem dX11_rounds_36 : decode cX11_rounds 36 = .ok (.invokestatic 244, 3) := by decide +kernel
theorem dX11_rounds_39 : decode cX11_rounds 39 = .ok (.istore 5, 2) := by decide +kernel
theorem dX11_rounds_41 : decode cX11_rounds 41 = .ok (.iload_n 1, 1) := by decide +kernel
theorem dX11_rounds_42 : decode cX11_rounds 42 = .ok (.iload_n 2, 1) := by decide +kernel
theorem dX11_rounds_43 : decode cX11_rounds 43 = .ok (.iadd, 1) := by decide +kernel
theorem dX11_rounds_44 : decode cX11_rounds 44 = .ok (.iload 4, 2) := by decide +kernel
theorem dX11_rounds_46 : decode cX11_rounds 46 = .ok (.invokestatic 247, 3) := by decide +kernel
theorem dX11_rounds_49 : decode cX11_rounds 49 = .ok (.istore 6, 2) := by decide +kernel
theorem dX11_rounds_51 : decode cX11_rounds 51 = .ok (.iload_n 3, 1) := by decide +kernel
theorem dX11_rounds_52 : decode cX11_rounds 52 = .ok (.tableswitch 65 0 3 #[32, 35, 38, 44], 32) := by decide +kernel
theorem dX11_rounds_84 : decode cX11_rounds 84 = .ok (.iload 4, 2) := by decide +kernel
theorem dX11_rounds_86 : decode cX11_rounds 86 = .ok (.ireturn, 1) := by decide +kernel
theorem dX11_rounds_87 : decode cX11_rounds 87 = .ok (.iload 5, 2) := by decide +kernel
theorem dX11_rounds_89 : decode cX11_rounds 89 = .ok (.ireturn, 1) := by decide +kernel
theorem dX11_rounds_90 : decode cX11_rounds 90 = .ok (.iload 6, 2) := by decide +kernel
theorem dX11_rounds_92 : decode cX11_rounds 92 = .ok (.iload 5, 2) := by decide +kernel
theorem dX11_rounds_94 : decode cX11_rounds 94 = .ok (.isub, 1) := by decide +kernel
theorem dX11_rounds_95 : decode cX11_rounds 95 = .ok (.ireturn, 1) := by decide +kernel
theorem dX11_rounds_96 : decode cX11_rounds 96 = .ok (.iload_n 1, 1) := by decide +kernel
theorem dX11_rounds_97 : decode cX11_rounds 97 = .ok (.iload_n 2, 1) := by decide +kernel
theorem dX11_rounds_98 : decode cX11_rounds 98 = .ok (.aload_n 0, 1) := by decide +kernel
theorem dX11_rounds_99 : decode cX11_rounds 99 = .ok (.getfield 73, 3) := by decide +kernel
theorem dX11_rounds_102 : decode cX11_rounds 102 = .ok (.getfield 151, 3) := by decide +kernel
theorem dX11_rounds_105 : decode cX11_rounds 105 = .ok (.invokestatic 250, 3) := by decide +kernel
theorem dX11_rounds_108 : decode cX11_rounds 108 = .ok (.ifCond .eq 7, 3) := by decide +kernel
theorem dX11_rounds_111 : decode cX11_rounds 111 = .ok (.iconst 1, 1) := by decide +kernel
theorem dX11_rounds_112 : decode cX11_rounds 112 = .ok (.goto 4, 3) := by decide +kernel
theorem dX11_rounds_115 : decode cX11_rounds 115 = .ok (.iconst 0, 1) := by decide +kernel
theorem dX11_rounds_116 : decode cX11_rounds 116 = .ok (.ireturn, 1) := by decide +kernel
theorem dX11_rounds_117 : decode cX11_rounds 117 = .ok (.iconst (-1), 1) := by decide +kernel
theorem dX11_rounds_118 : decode cX11_rounds 118 = .ok (.ireturn, 1) := by decide +kernel
theorem dX11_exact_0 : decode cX11_exact 0 = .ok (.iload_n 1, 1) := by decide +kernel
theorem dX11_exact_1 : decode cX11_exact 1 = .ok (.iload_n 2, 1) := by decide +kernel
theorem dX11_exact_2 : decode cX11_exact 2 = .ok (.invokestatic 237, 3) := by decide +kernel
theorem dX11_exact_5 : decode cX11_exact 5 = .ok (.ifCond .ne 5, 3) := by decide +kernel
theorem dX11_exact_8 : decode cX11_exact 8 = .ok (.iconst (-1), 1) := by decide +kernel
theorem dX11_exact_9 : decode cX11_exact 9 = .ok (.ireturn, 1) := by decide +kernel
theorem dX11_exact_10 : decode cX11_exact 10 = .ok (.iconst 4, 1) := by decide +kernel
theorem dX11_exact_11 : decode cX11_exact 11 = .ok (.istore_n 3, 1) := by decide +kernel
theorem dX11_exact_12 : decode cX11_exact 12 = .ok (.iload_n 3, 1) := by decide +kernel
theorem dX11_exact_13 : decode cX11_exact 13 = .ok (.bipush 8, 2) := by decide +kernel
theorem dX11_exact_15 : decode cX11_exact 15 = .ok (.if_icmp .gt 20, 3) := by decide +kernel
theorem dX11_exact_18 : decode cX11_exact 18 = .ok (.iload_n 1, 1) := by decide +kernel
theorem dX11_exact_19 : decode cX11_exact 19 = .ok (.iload_n 2, 1) := by decide +kernel
theorem dX11_exact_20 : decode cX11_exact 20 = .ok (.iload_n 3, 1) := by decide +kernel
theorem dX11_exact_21 : decode cX11_exact 21 = .ok (.invokestatic 250, 3) := by decide +kernel
theorem dX11_exact_24 : decode cX11_exact 24 = .ok (.ifCond .eq 5, 3) := by decide +kernel
theorem dX11_exact_27 : decode cX11_exact 27 = .ok (.iload_n 3, 1) := by decide +kernel
theorem dX11_exact_28 : decode cX11_exact 28 = .ok (.ireturn, 1) := by decide +kernel
theorem dX11_exact_29 : decode cX11_exact 29 = .ok (.iinc 3 1, 3) := by decide +kernel
theorem dX11_exact_32 : decode cX11_exact 32 = .ok (.goto (-20), 3) := by decide +kernel
theorem dX11_exact_35 : decode cX11_exact 35 = .ok (.iconst (-1), 1) := by decide +kernel
theorem dX11_exact_36 : decode cX11_exact 36 = .ok (.ireturn, 1) := by decide +kernel
theorem dX11_fits_0 : decode cX11_fits 0 = .ok (.aload_n 0, 1) := by decide +kernel
theorem dX11_fits_1 : decode cX11_fits 1 = .ok (.iload_n 1, 1) := by decide +kernel
theorem dX11_fits_2 : decode cX11_fits 2 = .ok (.invokevirtual 196, 3) := by decide +kernel
theorem dX11_fits_5 : decode cX11_fits 5 = .ok (.ifCond .eq 10, 3) := by decide +kernel
theorem dX11_fits_8 : decode cX11_fits 8 = .ok (.iload_n 2, 1) := by decide +kernel
theorem dX11_fits_9 : decode cX11_fits 9 = .ok (.invokestatic 254, 3) := by decide +kernel
theorem dX11_fits_12 : decode cX11_fits 12 = .ok (.ifCond .ne 5, 3) := by decide +kernel
theorem dX11_fits_15 : decode cX11_fits 15 = .ok (.iconst (-1), 1) := by decide +kernel
theorem dX11_fits_16 : decode cX11_fits 16 = .ok (.ireturn, 1) := by decide +kernel
theorem dX11_fits_17 : decode cX11_fits 17 = .ok (.aload_n 0, 1) := by decide +kernel
theorem dX11_fits_18 : decode cX11_fits 18 = .ok (.getfield 20, 3) := by decide +kernel
theorem dX11_fits_21 : decode cX11_fits 21 = .ok (.getfield 36, 3) := by decide +kernel
theorem dX11_fits_24 : decode cX11_fits 24 = .ok (.iload_n 1, 1) := by decide +kernel
theorem dX11_fits_25 : decode cX11_fits 25 = .ok (.aaload, 1) := by decide +kernel
theorem dX11_fits_26 : decode cX11_fits 26 = .ok (.iload_n 2, 1) := by decide +kernel
theorem dX11_fits_27 : decode cX11_fits 27 = .ok (.aload_n 0, 1) := by decide +kernel
theorem dX11_fits_28 : decode cX11_fits 28 = .ok (.getfield 73, 3) := by decide +kernel
theorem dX11_fits_31 : decode cX11_fits 31 = .ok (.getfield 151, 3) := by decide +kernel
theorem dX11_fits_34 : decode cX11_fits 34 = .ok (.invokevirtual 257, 3) := by decide +kernel
theorem dX11_fits_37 : decode cX11_fits 37 = .ok (.ifCond .eq 7, 3) := by decide +kernel
theorem dX11_fits_40 : decode cX11_fits 40 = .ok (.iconst 1, 1) := by decide +kernel
theorem dX11_fits_41 : decode cX11_fits 41 = .ok (.goto 4, 3) := by decide +kernel
theorem dX11_fits_44 : decode cX11_fits 44 = .ok (.iconst 0, 1) := by decide +kernel
theorem dX11_fits_45 : decode cX11_fits 45 = .ok (.ireturn, 1) := by decide +kernel
theorem dX11_quick_0 : decode cX11_quick 0 = .ok (.aload_n 0, 1) := by decide +kernel
theorem dX11_quick_1 : decode cX11_quick 1 = .ok (.iload_n 1, 1) := by decide +kernel
theorem dX11_quick_2 : decode cX11_quick 2 = .ok (.invokevirtual 196, 3) := by decide +kernel
theorem dX11_quick_5 : decode cX11_quick 5 = .ok (.ifCond .eq 10, 3) := by decide +kernel
theorem dX11_quick_8 : decode cX11_quick 8 = .ok (.iload_n 2, 1) := by decide +kernel
theorem dX11_quick_9 : decode cX11_quick 9 = .ok (.invokestatic 254, 3) := by decide +kernel
theorem dX11_quick_12 : decode cX11_quick 12 = .ok (.ifCond .ne 5, 3) := by decide +kernel
theorem dX11_quick_15 : decode cX11_quick 15 = .ok (.iconst (-1), 1) := by decide +kernel
theorem dX11_quick_16 : decode cX11_quick 16 = .ok (.ireturn, 1) := by decide +kernel
theorem dX11_quick_17 : decode cX11_quick 17 = .ok (.aload_n 0, 1) := by decide +kernel
theorem dX11_quick_18 : decode cX11_quick 18 = .ok (.getfield 20, 3) := by decide +kernel
theorem dX11_quick_21 : decode cX11_quick 21 = .ok (.getfield 36, 3) := by decide +kernel
theorem dX11_quick_24 : decode cX11_quick 24 = .ok (.iload_n 1, 1) := by decide +kernel
theorem dX11_quick_25 : decode cX11_quick 25 = .ok (.aaload, 1) := by decide +kernel
theorem dX11_quick_26 : decode cX11_quick 26 = .ok (.iload_n 2, 1) := by decide +kernel
theorem dX11_quick_27 : decode cX11_quick 27 = .ok (.aload_n 0, 1) := by decide +kernel
theorem dX11_quick_28 : decode cX11_quick 28 = .ok (.getfield 73, 3) := by decide +kernel
theorem dX11_quick_31 : decode cX11_quick 31 = .ok (.getfield 151, 3) := by decide +kernel
theorem dX11_quick_34 : decode cX11_quick 34 = .ok (.invokevirtual 260, 3) := by decide +kernel
theorem dX11_quick_37 : decode cX11_quick 37 = .ok (.ifCond .eq 7, 3) := by decide +kernel
theorem dX11_quick_40 : decode cX11_quick 40 = .ok (.iconst 1, 1) := by decide +kernel
theorem dX11_quick_41 : decode cX11_quick 41 = .ok (.goto 4, 3) := by decide +kernel
theorem dX11_quick_44 : decode cX11_quick 44 = .ok (.iconst 0, 1) := by decide +kernel
theorem dX11_quick_45 : decode cX11_quick 45 = .ok (.ireturn, 1) := by decide +kernel
theorem dX11_window_0 : decode cX11_window 0 = .ok (.aload_n 0, 1) := by decide +kernel
theorem dX11_window_1 : decode cX11_window 1 = .ok (.iload_n 1, 1) := by decide +kernel
theorem dX11_window_2 : decode cX11_window 2 = .ok (.invokevirtual 196, 3) := by decide +kernel
theorem dX11_window_5 : decode cX11_window 5 = .ok (.ifCond .ne 5, 3) := by decide +kernel
theorem dX11_window_8 : decode cX11_window 8 = .ok (.iconst (-1), 1) := by decide +kernel
theorem dX11_window_9 : decode cX11_window 9 = .ok (.ireturn, 1) := by decide +kernel
theorem dX11_window_10 : decode cX11_window 10 = .ok (.aload_n 0, 1) := by decide +kernel
theorem dX11_window_11 : decode cX11_window 11 = .ok (.getfield 20, 3) := by decide +kernel
theorem dX11_window_14 : decode cX11_window 14 = .ok (.getfield 36, 3) := by decide +kernel
theorem dX11_window_17 : decode cX11_window 17 = .ok (.iload_n 1, 1) := by decide +kernel
theorem dX11_window_18 : decode cX11_window 18 = .ok (.aaload, 1) := by decide +kernel
theorem dX11_window_19 : decode cX11_window 19 = .ok (.astore_n 3, 1) := by decide +kernel
theorem dX11_window_20 : decode cX11_window 20 = .ok (.iload_n 2, 1) := by decide +kernel
theorem dX11_window_21 : decode cX11_window 21 = .ok (.lookupswitch 51 #[(0, 27), (1, 39)], 27) := by decide +kernel
theorem dX11_window_48 : decode cX11_window 48 = .ok (.aload_n 3, 1) := by decide +kernel
theorem dX11_window_49 : decode cX11_window 49 = .ok (.aload_n 0, 1) := by decide +kernel
theorem dX11_window_50 : decode cX11_window 50 = .ok (.getfield 73, 3) := by decide +kernel
theorem dX11_window_53 : decode cX11_window 53 = .ok (.getfield 151, 3) := by decide +kernel
theorem dX11_window_56 : decode cX11_window 56 = .ok (.invokevirtual 263, 3) := by decide +kernel
theorem dX11_window_59 : decode cX11_window 59 = .ok (.ireturn, 1) := by decide +kernel
theorem dX11_window_60 : decode cX11_window 60 = .ok (.aload_n 3, 1) := by decide +kernel
theorem dX11_window_61 : decode cX11_window 61 = .ok (.aload_n 0, 1) := by decide +kernel
theorem dX11_window_62 : decode cX11_window 62 = .ok (.getfield 73, 3) := by decide +kernel
theorem dX11_window_65 : decode cX11_window 65 = .ok (.getfield 151, 3) := by decide +kernel
theorem dX11_window_68 : decode cX11_window 68 = .ok (.invokevirtual 266, 3) := by decide +kernel
theorem dX11_window_71 : decode cX11_window 71 = .ok (.ireturn, 1) := by decide +kernel
theorem dX11_window_72 : decode cX11_window 72 = .ok (.iconst (-1), 1) := by decide +kernel
theorem dX11_window_73 : decode cX11_window 73 = .ok (.ireturn, 1) := by decide +kernel
theorem dX11_reachers_0 : decode cX11_reachers 0 = .ok (.aload_n 0, 1) := by decide +kernel
theorem dX11_reachers_1 : decode cX11_reachers 1 = .ok (.getfield 89, 3) := by decide +kernel
theorem dX11_reachers_4 : decode cX11_reachers 4 = .ok (.ifCond .eq 14, 3) := by decide +kernel
theorem dX11_reachers_7 : decode cX11_reachers 7 = .ok (.iload_n 1, 1) := by decide +kernel
theorem dX11_reachers_8 : decode cX11_reachers 8 = .ok (.ifCond .lt 10, 3) := by decide +kernel
theorem dX11_reachers_11 : decode cX11_reachers 11 = .ok (.iload_n 1, 1) := by decide +kernel
theorem dX11_reachers_12 : decode cX11_reachers 12 = .ok (.sipush 4096, 3) := by decide +kernel
theorem dX11_reachers_15 : decode cX11_reachers 15 = .ok (.if_icmp .lt 5, 3) := by decide +kernel
theorem dX11_reachers_18 : decode cX11_reachers 18 = .ok (.iconst (-1), 1) := by decide +kernel
theorem dX11_reachers_19 : decode cX11_reachers 19 = .ok (.ireturn, 1) := by decide +kernel
theorem dX11_reachers_20 : decode cX11_reachers 20 = .ok (.iconst 0, 1) := by decide +kernel
theorem dX11_reachers_21 : decode cX11_reachers 21 = .ok (.istore_n 2, 1) := by decide +kernel
theorem dX11_reachers_22 : decode cX11_reachers 22 = .ok (.iconst 0, 1) := by decide +kernel
theorem dX11_reachers_23 : decode cX11_reachers 23 = .ok (.istore_n 3, 1) := by decide +kernel
theorem dX11_reachers_24 : decode cX11_reachers 24 = .ok (.iload_n 3, 1) := by decide +kernel
theorem dX11_reachers_25 : decode cX11_reachers 25 = .ok (.bipush 16, 2) := by decide +kernel
theorem dX11_reachers_27 : decode cX11_reachers 27 = .ok (.if_icmp .ge 50, 3) := by decide +kernel
theorem dX11_reachers_30 : decode cX11_reachers 30 = .ok (.aload_n 0, 1) := by decide +kernel
theorem dX11_reachers_31 : decode cX11_reachers 31 = .ok (.getfield 20, 3) := by decide +kernel
theorem dX11_reachers_34 : decode cX11_reachers 34 = .ok (.getfield 36, 3) := by decide +kernel
theorem dX11_reachers_37 : decode cX11_reachers 37 = .ok (.iload_n 3, 1) := by decide +kernel
theorem dX11_reachers_38 : decode cX11_reachers 38 = .ok (.aaload, 1) := by decide +kernel
theorem dX11_reachers_39 : decode cX11_reachers 39 = .ok (.astore 4, 2) := by decide +kernel
theorem dX11_reachers_41 : decode cX11_reachers 41 = .ok (.aload 4, 2) := by decide +kernel
theorem dX11_reachers_43 : decode cX11_reachers 43 = .ok (.invokevirtual 269, 3) := by decide +kernel
theorem dX11_reachers_46 : decode cX11_reachers 46 = .ok (.ifCond .eq 25, 3) := by decide +kernel
theorem dX11_reachers_49 : decode cX11_reachers 49 = .ok (.aload 4, 2) := by decide +kernel
theorem dX11_reachers_51 : decode cX11_reachers 51 = .ok (.iload_n 1, 1) := by decide +kernel
theorem dX11_reachers_52 : decode cX11_reachers 52 = .ok (.aload_n 0, 1) := by decide +kernel
theorem dX11_reachers_53 : decode cX11_reachers 53 = .ok (.getfield 73, 3) := by decide +kernel
theorem dX11_reachers_56 : decode cX11_reachers 56 = .ok (.getfield 151, 3) := by decide +kernel
theorem dX11_reachers_59 : decode cX11_reachers 59 = .ok (.invokevirtual 273, 3) := by decide +kernel
theorem dX11_reachers_62 : decode cX11_reachers 62 = .ok (.ifCond .eq 9, 3) := by decide +kernel
theorem dX11_reachers_65 : decode cX11_reachers 65 = .ok (.iload_n 2, 1) := by decide +kernel
theorem dX11_reachers_66 : decode cX11_reachers 66 = .ok (.iconst 1, 1) := by decide +kernel
theorem dX11_reachers_67 : decode cX11_reachers 67 = .ok (.iload_n 3, 1) := by decide +kernel
theorem dX11_reachers_68 : decode cX11_reachers 68 = .ok (.ishl, 1) := by decide +kernel
theorem dX11_reachers_69 : decode cX11_reachers 69 = .ok (.ior, 1) := by decide +kernel
theorem dX11_reachers_70 : decode cX11_reachers 70 = .ok (.istore_n 2, 1) := by decide +kernel
theorem dX11_reachers_71 : decode cX11_reachers 71 = .ok (.iinc 3 1, 3) := by decide +kernel
theorem dX11_reachers_74 : decode cX11_reachers 74 = .ok (.goto (-50), 3) := by decide +kernel
theorem dX11_reachers_77 : decode cX11_reachers 77 = .ok (.iload_n 2, 1) := by decide +kernel
theorem dX11_reachers_78 : decode cX11_reachers 78 = .ok (.ireturn, 1) := by decide +kernel
theorem dX11_room_0 : decode cX11_room 0 = .ok (.aload_n 0, 1) := by decide +kernel
theorem dX11_room_1 : decode cX11_room 1 = .ok (.getfield 89, 3) := by decide +kernel
theorem dX11_room_4 : decode cX11_room 4 = .ok (.ifCond .eq 28, 3) := by decide +kernel
theorem dX11_room_7 : decode cX11_room 7 = .ok (.aload_n 0, 1) := by decide +kernel
theorem dX11_room_8 : decode cX11_room 8 = .ok (.getfield 52, 3) := by decide +kernel
theorem dX11_room_11 : decode cX11_room 11 = .ok (.aload_n 0, 1) := by decide +kernel
theorem dX11_room_12 : decode cX11_room 12 = .ok (.getfield 73, 3) := by decide +kernel
theorem dX11_room_15 : decode cX11_room 15 = .ok (.iload_n 1, 1) := by decide +kernel
theorem dX11_room_16 : decode cX11_room 16 = .ok (.invokevirtual 276, 3) := by decide +kernel
theorem dX11_room_19 : decode cX11_room 19 = .ok (.ifCond .eq 13, 3) := by decide +kernel
theorem dX11_room_22 : decode cX11_room 22 = .ok (.aload_n 0, 1) := by decide +kernel
theorem dX11_room_23 : decode cX11_room 23 = .ok (.getfield 52, 3) := by decide +kernel
theorem dX11_room_26 : decode cX11_room 26 = .ok (.getfield 280, 3) := by decide +kernel
theorem dX11_room_29 : decode cX11_room 29 = .ok (.goto 4, 3) := by decide +kernel
theorem dX11_room_32 : decode cX11_room 32 = .ok (.iconst (-1), 1) := by decide +kernel
theorem dX11_room_33 : decode cX11_room 33 = .ok (.ireturn, 1) := by decide +kernel
theorem dX11_odds_0 : decode cX11_odds 0 = .ok (.aload_n 0, 1) := by decide +kernel
theorem dX11_odds_1 : decode cX11_odds 1 = .ok (.getfield 89, 3) := by decide +kernel
theorem dX11_odds_4 : decode cX11_odds 4 = .ok (.ifCond .ne 5, 3) := by decide +kernel
theorem dX11_odds_7 : decode cX11_odds 7 = .ok (.iconst (-1), 1) := by decide +kernel
theorem dX11_odds_8 : decode cX11_odds 8 = .ok (.ireturn, 1) := by decide +kernel
theorem dX11_odds_9 : decode cX11_odds 9 = .ok (.iconst 0, 1) := by decide +kernel
theorem dX11_odds_10 : decode cX11_odds 10 = .ok (.istore_n 1, 1) := by decide +kernel
theorem dX11_odds_11 : decode cX11_odds 11 = .ok (.iconst 1, 1) := by decide +kernel
theorem dX11_odds_12 : decode cX11_odds 12 = .ok (.istore_n 2, 1) := by decide +kernel
theorem dX11_odds_13 : decode cX11_odds 13 = .ok (.iload_n 2, 1) := by decide +kernel
theorem dX11_odds_14 : decode cX11_odds 14 = .ok (.bipush 100, 2) := by decide +kernel
theorem dX11_odds_16 : decode cX11_odds 16 = .ok (.if_icmp .gt 27, 3) := by decide +kernel
theorem dX11_odds_19 : decode cX11_odds 19 = .ok (.aload_n 0, 1) := by decide +kernel
theorem dX11_odds_20 : decode cX11_odds 20 = .ok (.getfield 52, 3) := by decide +kernel
theorem dX11_odds_23 : decode cX11_odds 23 = .ok (.aload_n 0, 1) := by decide +kernel
theorem dX11_odds_24 : decode cX11_odds 24 = .ok (.getfield 73, 3) := by decide +kernel
theorem dX11_odds_27 : decode cX11_odds 27 = .ok (.iload_n 2, 1) := by decide +kernel
theorem dX11_odds_28 : decode cX11_odds 28 = .ok (.invokevirtual 276, 3) := by decide +kernel
theorem dX11_odds_31 : decode cX11_odds 31 = .ok (.ifCond .eq 6, 3) := by decide +kernel
theorem dX11_odds_34 : decode cX11_odds 34 = .ok (.iinc 1 1, 3) := by decide +kernel
theorem dX11_odds_37 : decode cX11_odds 37 = .ok (.iinc 2 1, 3) := by decide +kernel
theorem dX11_odds_40 : decode cX11_odds 40 = .ok (.goto (-27), 3) := by decide +kernel
theorem dX11_odds_43 : decode cX11_odds 43 = .ok (.iload_n 1, 1) := by decide +kernel
theorem dX11_odds_44 : decode cX11_odds 44 = .ok (.ireturn, 1) := by decide +kernel
theorem dX11_share_0 : decode cX11_share 0 = .ok (.aload_n 0, 1) := by decide +kernel
theorem dX11_share_1 : decode cX11_share 1 = .ok (.getfield 89, 3) := by decide +kernel
theorem dX11_share_4 : decode cX11_share 4 = .ok (.ifCond .eq 12, 3) := by decide +kernel
theorem dX11_share_7 : decode cX11_share 7 = .ok (.iload_n 1, 1) := by decide +kernel
theorem dX11_share_8 : decode cX11_share 8 = .ok (.ifCond .lt 8, 3) := by decide +kernel
theorem dX11_share_11 : decode cX11_share 11 = .ok (.iload_n 1, 1) := by decide +kernel
theorem dX11_share_12 : decode cX11_share 12 = .ok (.iconst 1, 1) := by decide +kernel
theorem dX11_share_13 : decode cX11_share 13 = .ok (.if_icmp .le 5, 3) := by decide +kernel
theorem dX11_share_16 : decode cX11_share 16 = .ok (.iconst (-1), 1) := by decide +kernel
theorem dX11_share_17 : decode cX11_share 17 = .ok (.ireturn, 1) := by decide +kernel
theorem dX11_share_18 : decode cX11_share 18 = .ok (.aload_n 0, 1) := by decide +kernel
theorem dX11_share_19 : decode cX11_share 19 = .ok (.getfield 20, 3) := by decide +kernel
theorem dX11_share_22 : decode cX11_share 22 = .ok (.invokevirtual 169, 3) := by decide +kernel
theorem dX11_share_25 : decode cX11_share 25 = .ok (.istore_n 2, 1) := by decide +kernel
theorem dX11_share_26 : decode cX11_share 26 = .ok (.iload_n 1, 1) := by decide +kernel
theorem dX11_share_27 : decode cX11_share 27 = .ok (.ifCond .ne 7, 3) := by decide +kernel
theorem dX11_share_30 : decode cX11_share 30 = .ok (.iload_n 2, 1) := by decide +kernel
theorem dX11_share_31 : decode cX11_share 31 = .ok (.goto 12, 3) := by decide +kernel
theorem dX11_share_34 : decode cX11_share 34 = .ok (.iload_n 2, 1) := by decide +kernel
theorem dX11_share_35 : decode cX11_share 35 = .ok (.aload_n 0, 1) := by decide +kernel
theorem dX11_share_36 : decode cX11_share 36 = .ok (.getfield 20, 3) := by decide +kernel
theorem dX11_share_39 : decode cX11_share 39 = .ok (.invokevirtual 283, 3) := by decide +kernel
theorem dX11_share_42 : decode cX11_share 42 = .ok (.isub, 1) := by decide +kernel
theorem dX11_share_43 : decode cX11_share 43 = .ok (.istore_n 3, 1) := by decide +kernel
theorem dX11_share_44 : decode cX11_share 44 = .ok (.iload_n 1, 1) := by decide +kernel
theorem dX11_share_45 : decode cX11_share 45 = .ok (.ifCond .ne 16, 3) := by decide +kernel
theorem dX11_share_48 : decode cX11_share 48 = .ok (.aload_n 0, 1) := by decide +kernel
theorem dX11_share_49 : decode cX11_share 49 = .ok (.getfield 73, 3) := by decide +kernel
theorem dX11_share_52 : decode cX11_share 52 = .ok (.getfield 160, 3) := by decide +kernel
