theorem dX12_window_40 : decode cX12_window 40 = .ok (.iload_n 2, 1) := by decide +kernel
theorem dX12_window_41 : decode cX12_window 41 = .ok (.ifCond .ne 27, 3) := by decide +kernel
theorem dX12_window_44 : decode cX12_window 44 = .ok (.aload_n 0, 1) := by decide +kernel
theorem dX12_window_45 : decode cX12_window 45 = .ok (.iload_n 3, 1) := by decide +kernel
theorem dX12_window_46 : decode cX12_window 46 = .ok (.iload 5, 2) := by decide +kernel
theorem dX12_window_48 : decode cX12_window 48 = .ok (.invokevirtual 409, 3) := by decide +kernel
theorem dX12_window_51 : decode cX12_window 51 = .ok (.aload_n 0, 1) := by decide +kernel
theorem dX12_window_52 : decode cX12_window 52 = .ok (.iload_n 3, 1) := by decide +kernel
theorem dX12_window_53 : decode cX12_window 53 = .ok (.invokevirtual 412, 3) := by decide +kernel
theorem dX12_window_56 : decode cX12_window 56 = .ok (.if_icmp .ne 6, 3) := by decide +kernel
theorem dX12_window_59 : decode cX12_window 59 = .ok (.iinc 4 1, 3) := by decide +kernel
theorem dX12_window_62 : decode cX12_window 62 = .ok (.iinc 5 1, 3) := by decide +kernel
theorem dX12_window_65 : decode cX12_window 65 = .ok (.goto (-33), 3) := by decide +kernel
theorem dX12_window_68 : decode cX12_window 68 = .ok (.bipush (-64), 2) := by decide +kernel
theorem dX12_window_70 : decode cX12_window 70 = .ok (.istore 5, 2) := by decide +kernel
theorem dX12_window_72 : decode cX12_window 72 = .ok (.iload 5, 2) := by decide +kernel
theorem dX12_window_74 : decode cX12_window 74 = .ok (.bipush 64, 2) := by decide +kernel
theorem dX12_window_76 : decode cX12_window 76 = .ok (.if_icmp .ge 37, 3) := by decide +kernel
theorem dX12_window_79 : decode cX12_window 79 = .ok (.iload_n 2, 1) := by decide +kernel
theorem dX12_window_80 : decode cX12_window 80 = .ok (.iconst 1, 1) := by decide +kernel
theorem dX12_window_81 : decode cX12_window 81 = .ok (.if_icmp .ne 32, 3) := by decide +kernel
theorem dX12_window_84 : decode cX12_window 84 = .ok (.aload_n 0, 1) := by decide +kernel
theorem dX12_window_85 : decode cX12_window 85 = .ok (.iload_n 3, 1) := by decide +kernel
theorem dX12_window_86 : decode cX12_window 86 = .ok (.iload 5, 2) := by decide +kernel
theorem dX12_window_88 : decode cX12_window 88 = .ok (.invokevirtual 498, 3) := by decide +kernel
theorem dX12_window_91 : decode cX12_window 91 = .ok (.ifCond .eq 16, 3) := by decide +kernel
theorem dX12_window_94 : decode cX12_window 94 = .ok (.aload_n 0, 1) := by decide +kernel
theorem dX12_window_95 : decode cX12_window 95 = .ok (.iload_n 3, 1) := by decide +kernel
theorem dX12_window_96 : decode cX12_window 96 = .ok (.iload 5, 2) := by decide +kernel
theorem dX12_window_98 : decode cX12_window 98 = .ok (.invokevirtual 501, 3) := by decide +kernel
theorem dX12_window_101 : decode cX12_window 101 = .ok (.ifCond .ne 6, 3) := by decide +kernel
theorem dX12_window_104 : decode cX12_window 104 = .ok (.iinc 4 1, 3) := by decide +kernel
theorem dX12_window_107 : decode cX12_window 107 = .ok (.iinc 5 1, 3) := by decide +kernel
theorem dX12_window_110 : decode cX12_window 110 = .ok (.goto (-38), 3) := by decide +kernel
theorem dX12_window_113 : decode cX12_window 113 = .ok (.iload 4, 2) := by decide +kernel
theorem dX12_window_115 : decode cX12_window 115 = .ok (.ireturn, 1) := by decide +kernel
theorem dX12_reachers_0 : decode cX12_reachers 0 = .ok (.aload_n 0, 1) := by decide +kernel
theorem dX12_reachers_1 : decode cX12_reachers 1 = .ok (.getfield 352, 3) := by decide +kernel
theorem dX12_reachers_4 : decode cX12_reachers 4 = .ok (.ifCond .eq 15, 3) := by decide +kernel
theorem dX12_reachers_7 : decode cX12_reachers 7 = .ok (.iload_n 1, 1) := by decide +kernel
theorem dX12_reachers_8 : decode cX12_reachers 8 = .ok (.i2l, 1) := by decide +kernel
theorem dX12_reachers_9 : decode cX12_reachers 9 = .ok (.lconst 0, 1) := by decide +kernel
theorem dX12_reachers_10 : decode cX12_reachers 10 = .ok (.ldc2_w 496, 3) := by decide +kernel
theorem dX12_reachers_13 : decode cX12_reachers 13 = .ok (.invokestatic 268, 3) := by decide +kernel
theorem dX12_reachers_16 : decode cX12_reachers 16 = .ok (.ifCond .ne 5, 3) := by decide +kernel
theorem dX12_reachers_19 : decode cX12_reachers 19 = .ok (.iconst (-1), 1) := by decide +kernel
theorem dX12_reachers_20 : decode cX12_reachers 20 = .ok (.ireturn, 1) := by decide +kernel
theorem dX12_reachers_21 : decode cX12_reachers 21 = .ok (.iconst 0, 1) := by decide +kernel
theorem dX12_reachers_22 : decode cX12_reachers 22 = .ok (.istore_n 2, 1) := by decide +kernel
theorem dX12_reachers_23 : decode cX12_reachers 23 = .ok (.iconst 0, 1) := by decide +kernel
theorem dX12_reachers_24 : decode cX12_reachers 24 = .ok (.istore_n 3, 1) := by decide +kernel
theorem dX12_reachers_25 : decode cX12_reachers 25 = .ok (.iload_n 3, 1) := by decide +kernel
theorem dX12_reachers_26 : decode cX12_reachers 26 = .ok (.bipush 16, 2) := by decide +kernel
theorem dX12_reachers_28 : decode cX12_reachers 28 = .ok (.if_icmp .ge 35, 3) := by decide +kernel
theorem dX12_reachers_31 : decode cX12_reachers 31 = .ok (.aload_n 0, 1) := by decide +kernel
theorem dX12_reachers_32 : decode cX12_reachers 32 = .ok (.iload_n 3, 1) := by decide +kernel
theorem dX12_reachers_33 : decode cX12_reachers 33 = .ok (.invokevirtual 460, 3) := by decide +kernel
theorem dX12_reachers_36 : decode cX12_reachers 36 = .ok (.ifCond .eq 21, 3) := by decide +kernel
theorem dX12_reachers_39 : decode cX12_reachers 39 = .ok (.aload_n 0, 1) := by decide +kernel
theorem dX12_reachers_40 : decode cX12_reachers 40 = .ok (.bipush 8, 2) := by decide +kernel
theorem dX12_reachers_42 : decode cX12_reachers 42 = .ok (.iload_n 3, 1) := by decide +kernel
theorem dX12_reachers_43 : decode cX12_reachers 43 = .ok (.imul, 1) := by decide +kernel
theorem dX12_reachers_44 : decode cX12_reachers 44 = .ok (.iload_n 1, 1) := by decide +kernel
theorem dX12_reachers_45 : decode cX12_reachers 45 = .ok (.invokevirtual 504, 3) := by decide +kernel
theorem dX12_reachers_48 : decode cX12_reachers 48 = .ok (.ifCond .eq 9, 3) := by decide +kernel
theorem dX12_reachers_51 : decode cX12_reachers 51 = .ok (.iload_n 2, 1) := by decide +kernel
theorem dX12_reachers_52 : decode cX12_reachers 52 = .ok (.iconst 1, 1) := by decide +kernel
theorem dX12_reachers_53 : decode cX12_reachers 53 = .ok (.iload_n 3, 1) := by decide +kernel
theorem dX12_reachers_54 : decode cX12_reachers 54 = .ok (.ishl, 1) := by decide +kernel
theorem dX12_reachers_55 : decode cX12_reachers 55 = .ok (.ior, 1) := by decide +kernel
theorem dX12_reachers_56 : decode cX12_reachers 56 = .ok (.istore_n 2, 1) := by decide +kernel
theorem dX12_reachers_57 : decode cX12_reachers 57 = .ok (.iinc 3 1, 3) := by decide +kernel
theorem dX12_reachers_60 : decode cX12_reachers 60 = .ok (.goto (-35), 3) := by decide +kernel
theorem dX12_reachers_63 : decode cX12_reachers 63 = .ok (.iload_n 2, 1) := by decide +kernel
theorem dX12_reachers_64 : decode cX12_reachers 64 = .ok (.ireturn, 1) := by decide +kernel
theorem dX12_room_0 : decode cX12_room 0 = .ok (.aload_n 0, 1) := by decide +kernel
theorem dX12_room_1 : decode cX12_room 1 = .ok (.getfield 352, 3) := by decide +kernel
theorem dX12_room_4 : decode cX12_room 4 = .ok (.ifCond .eq 23, 3) := by decide +kernel
theorem dX12_room_7 : decode cX12_room 7 = .ok (.iload_n 1, 1) := by decide +kernel
theorem dX12_room_8 : decode cX12_room 8 = .ok (.i2l, 1) := by decide +kernel
theorem dX12_room_9 : decode cX12_room 9 = .ok (.lconst 1, 1) := by decide +kernel
theorem dX12_room_10 : decode cX12_room 10 = .ok (.ldc2_w 507, 3) := by decide +kernel
theorem dX12_room_13 : decode cX12_room 13 = .ok (.invokestatic 268, 3) := by decide +kernel
theorem dX12_room_16 : decode cX12_room 16 = .ok (.ifCond .eq 11, 3) := by decide +kernel
theorem dX12_room_19 : decode cX12_room 19 = .ok (.aload_n 0, 1) := by decide +kernel
theorem dX12_room_20 : decode cX12_room 20 = .ok (.iload_n 1, 1) := by decide +kernel
theorem dX12_room_21 : decode cX12_room 21 = .ok (.invokevirtual 509, 3) := by decide +kernel
theorem dX12_room_24 : decode cX12_room 24 = .ok (.goto 4, 3) := by decide +kernel
theorem dX12_room_27 : decode cX12_room 27 = .ok (.iconst (-1), 1) := by decide +kernel
theorem dX12_room_28 : decode cX12_room 28 = .ok (.ireturn, 1) := by decide +kernel
theorem dX12_odds_0 : decode cX12_odds 0 = .ok (.aload_n 0, 1) := by decide +kernel
theorem dX12_odds_1 : decode cX12_odds 1 = .ok (.getfield 352, 3) := by decide +kernel
theorem dX12_odds_4 : decode cX12_odds 4 = .ok (.ifCond .ne 5, 3) := by decide +kernel
theorem dX12_odds_7 : decode cX12_odds 7 = .ok (.iconst (-1), 1) := by decide +kernel
theorem dX12_odds_8 : decode cX12_odds 8 = .ok (.ireturn, 1) := by decide +kernel
theorem dX12_odds_9 : decode cX12_odds 9 = .ok (.iconst 0, 1) := by decide +kernel
theorem dX12_odds_10 : decode cX12_odds 10 = .ok (.istore_n 1, 1) := by decide +kernel
theorem dX12_odds_11 : decode cX12_odds 11 = .ok (.iconst 1, 1) := by decide +kernel
theorem dX12_odds_12 : decode cX12_odds 12 = .ok (.istore_n 2, 1) := by decide +kernel
theorem dX12_odds_13 : decode cX12_odds 13 = .ok (.iload_n 2, 1) := by decide +kernel
theorem dX12_odds_14 : decode cX12_odds 14 = .ok (.bipush 100, 2) := by decide +kernel
theorem dX12_odds_16 : decode cX12_odds 16 = .ok (.if_icmp .gt 21, 3) := by decide +kernel
theorem dX12_odds_19 : decode cX12_odds 19 = .ok (.aload_n 0, 1) := by decide +kernel
theorem dX12_odds_20 : decode cX12_odds 20 = .ok (.iload_n 2, 1) := by decide +kernel
theorem dX12_odds_21 : decode cX12_odds 21 = .ok (.invokevirtual 509, 3) := by decide +kernel
theorem dX12_odds_24 : decode cX12_odds 24 = .ok (.iconst (-1), 1) := by decide +kernel
theorem dX12_odds_25 : decode cX12_odds 25 = .ok (.if_icmp .eq 6, 3) := by decide +kernel
theorem dX12_odds_28 : decode cX12_odds 28 = .ok (.iinc 1 1, 3) := by decide +kernel
theorem dX12_odds_31 : decode cX12_odds 31 = .ok (.iinc 2 1, 3) := by decide +kernel
theorem dX12_odds_34 : decode cX12_odds 34 = .ok (.goto (-21), 3) := by decide +kernel
theorem dX12_odds_37 : decode cX12_odds 37 = .ok (.iload_n 1, 1) := by decide +kernel
theorem dX12_odds_38 : decode cX12_odds 38 = .ok (.ireturn, 1) := by decide +kernel
theorem dX12_share_0 : decode cX12_share 0 = .ok (.aload_n 0, 1) := by decide +kernel
theorem dX12_share_1 : decode cX12_share 1 = .ok (.getfield 352, 3) := by decide +kernel
theorem dX12_share_4 : decode cX12_share 4 = .ok (.ifCond .eq 13, 3) := by decide +kernel
theorem dX12_share_7 : decode cX12_share 7 = .ok (.iload_n 1, 1) := by decide +kernel
theorem dX12_share_8 : decode cX12_share 8 = .ok (.i2l, 1) := by decide +kernel
theorem dX12_share_9 : decode cX12_share 9 = .ok (.lconst 0, 1) := by decide +kernel
theorem dX12_share_10 : decode cX12_share 10 = .ok (.lconst 1, 1) := by decide +kernel
theorem dX12_share_11 : decode cX12_share 11 = .ok (.invokestatic 268, 3) := by decide +kernel
theorem dX12_share_14 : decode cX12_share 14 = .ok (.ifCond .ne 5, 3) := by decide +kernel
theorem dX12_share_17 : decode cX12_share 17 = .ok (.iconst (-1), 1) := by decide +kernel
theorem dX12_share_18 : decode cX12_share 18 = .ok (.ireturn, 1) := by decide +kernel
theorem dX12_share_19 : decode cX12_share 19 = .ok (.aload_n 0, 1) := by decide +kernel
theorem dX12_share_20 : decode cX12_share 20 = .ok (.iconst 1, 1) := by decide +kernel
theorem dX12_share_21 : decode cX12_share 21 = .ok (.invokevirtual 466, 3) := by decide +kernel
theorem dX12_share_24 : decode cX12_share 24 = .ok (.istore_n 2, 1) := by decide +kernel
theorem dX12_share_25 : decode cX12_share 25 = .ok (.iload_n 1, 1) := by decide +kernel
theorem dX12_share_26 : decode cX12_share 26 = .ok (.ifCond .ne 18, 3) := by decide +kernel
theorem dX12_share_29 : decode cX12_share 29 = .ok (.bipush 100, 2) := by decide +kernel
theorem dX12_share_31 : decode cX12_share 31 = .ok (.iload_n 2, 1) := by decide +kernel
theorem dX12_share_32 : decode cX12_share 32 = .ok (.imul, 1) := by decide +kernel
theorem dX12_share_33 : decode cX12_share 33 = .ok (.aload_n 0, 1) := by decide +kernel
theorem dX12_share_34 : decode cX12_share 34 = .ok (.getfield 96, 3) := by decide +kernel
theorem dX12_share_37 : decode cX12_share 37 = .ok (.iconst 3, 1) := by decide +kernel
theorem dX12_share_38 : decode cX12_share 38 = .ok (.iaload, 1) := by decide +kernel
theorem dX12_share_39 : decode cX12_share 39 = .ok (.bipush 16, 2) := by decide +kernel
theorem dX12_share_41 : decode cX12_share 41 = .ok (.isub, 1) := by decide +kernel
theorem dX12_share_42 : decode cX12_share 42 = .ok (.idiv, 1) := by decide +kernel
theorem dX12_share_43 : decode cX12_share 43 = .ok (.ireturn, 1) := by decide +kernel
theorem dX12_share_44 : decode cX12_share 44 = .ok (.iload_n 2, 1) := by decide +kernel
theorem dX12_share_45 : decode cX12_share 45 = .ok (.ifCond .ne 7, 3) := by decide +kernel
theorem dX12_share_48 : decode cX12_share 48 = .ok (.iconst 0, 1) := by decide +kernel
theorem dX12_share_49 : decode cX12_share 49 = .ok (.goto 15, 3) := by decide +kernel
theorem dX12_share_52 : decode cX12_share 52 = .ok (.bipush 100, 2) := by decide +kernel
theorem dX12_share_54 : decode cX12_share 54 = .ok (.iload_n 2, 1) := by decide +kernel
theorem dX12_share_55 : decode cX12_share 55 = .ok (.aload_n 0, 1) := by decide +kernel
theorem dX12_share_56 : decode cX12_share 56 = .ok (.iconst 2, 1) := by decide +kernel
theorem dX12_share_57 : decode cX12_share 57 = .ok (.invokevirtual 466, 3) := by decide +kernel
theorem dX12_share_60 : decode cX12_share 60 = .ok (.isub, 1) := by decide +kernel
theorem dX12_share_61 : decode cX12_share 61 = .ok (.imul, 1) := by decide +kernel
theorem dX12_share_62 : decode cX12_share 62 = .ok (.iload_n 2, 1) := by decide +kernel
theorem dX12_share_63 : decode cX12_share 63 = .ok (.idiv, 1) := by decide +kernel
theorem dX12_share_64 : decode cX12_share 64 = .ok (.ireturn, 1) := by decide +kernel
theorem dX12_see_0 : decode cX12_see 0 = .ok (.aload_n 0, 1) := by decide +kernel
theorem dX12_see_1 : decode cX12_see 1 = .ok (.getfield 222, 3) := by decide +kernel
theorem dX12_see_4 : decode cX12_see 4 = .ok (.istore_n 1, 1) := by decide +kernel
theorem dX12_see_5 : decode cX12_see 5 = .ok (.aload_n 0, 1) := by decide +kernel
theorem dX12_see_6 : decode cX12_see 6 = .ok (.iconst 0, 1) := by decide +kernel
theorem dX12_see_7 : decode cX12_see 7 = .ok (.putfield 222, 3) := by decide +kernel
theorem dX12_see_10 : decode cX12_see 10 = .ok (.aload_n 0, 1) := by decide +kernel
theorem dX12_see_11 : decode cX12_see 11 = .ok (.getfield 352, 3) := by decide +kernel
theorem dX12_see_14 : decode cX12_see 14 = .ok (.ifCond .eq 25, 3) := by decide +kernel
theorem dX12_see_17 : decode cX12_see 17 = .ok (.iload_n 1, 1) := by decide +kernel
theorem dX12_see_18 : decode cX12_see 18 = .ok (.ifCond .le 21, 3) := by decide +kernel
theorem dX12_see_21 : decode cX12_see 21 = .ok (.iload_n 1, 1) := by decide +kernel
theorem dX12_see_22 : decode cX12_see 22 = .ok (.iconst 2, 1) := by decide +kernel
theorem dX12_see_23 : decode cX12_see 23 = .ok (.irem, 1) := by decide +kernel
theorem dX12_see_24 : decode cX12_see 24 = .ok (.ifCond .ne 15, 3) := by decide +kernel
theorem dX12_see_27 : decode cX12_see 27 = .ok (.iload_n 1, 1) := by decide +kernel
theorem dX12_see_28 : decode cX12_see 28 = .ok (.iconst 2, 1) := by decide +kernel
theorem dX12_see_29 : decode cX12_see 29 = .ok (.idiv, 1) := by decide +kernel
theorem dX12_see_30 : decode cX12_see 30 = .ok (.bipush 16, 2) := by decide +kernel
theorem dX12_see_32 : decode cX12_see 32 = .ok (.if_icmp .gt 7, 3) := by decide +kernel
theorem dX12_see_35 : decode cX12_see 35 = .ok (.iconst 1, 1) := by decide +kernel
theorem dX12_see_36 : decode cX12_see 36 = .ok (.goto 4, 3) := by decide +kernel
theorem dX12_see_39 : decode cX12_see 39 = .ok (.iconst 0, 1) := by decide +kernel
theorem dX12_see_40 : decode cX12_see 40 = .ok (.istore_n 2, 1) := by decide +kernel
theorem dX12_see_41 : decode cX12_see 41 = .ok (.iconst 0, 1) := by decide +kernel
theorem dX12_see_42 : decode cX12_see 42 = .ok (.istore_n 3, 1) := by decide +kernel
theorem dX12_see_43 : decode cX12_see 43 = .ok (.iload_n 3, 1) := by decide +kernel
theorem dX12_see_44 : decode cX12_see 44 = .ok (.iload_n 1, 1) := by decide +kernel
theorem dX12_see_45 : decode cX12_see 45 = .ok (.if_icmp .ge 43, 3) := by decide +kernel
theorem dX12_see_48 : decode cX12_see 48 = .ok (.iload_n 2, 1) := by decide +kernel
theorem dX12_see_49 : decode cX12_see 49 = .ok (.ifCond .eq 39, 3) := by decide +kernel
theorem dX12_see_52 : decode cX12_see 52 = .ok (.aload_n 0, 1) := by decide +kernel
theorem dX12_see_53 : decode cX12_see 53 = .ok (.getfield 7, 3) := by decide +kernel
theorem dX12_see_56 : decode cX12_see 56 = .ok (.iload_n 3, 1) := by decide +kernel
theorem dX12_see_57 : decode cX12_see 57 = .ok (.iaload, 1) := by decide +kernel
theorem dX12_see_58 : decode cX12_see 58 = .ok (.sipush 128, 3) := by decide +kernel
theorem dX12_see_61 : decode cX12_see 61 = .ok (.if_icmp .ge 19, 3) := by decide +kernel
theorem dX12_see_64 : decode cX12_see 64 = .ok (.aload_n 0, 1) := by decide +kernel
theorem dX12_see_65 : decode cX12_see 65 = .ok (.getfield 7, 3) := by decide +kernel
theorem dX12_see_68 : decode cX12_see 68 = .ok (.iload_n 3, 1) := by decide +kernel
theorem dX12_see_69 : decode cX12_see 69 = .ok (.iconst 1, 1) := by decide +kernel
theorem dX12_see_70 : decode cX12_see 70 = .ok (.iadd, 1) := by decide +kernel
theorem dX12_see_71 : decode cX12_see 71 = .ok (.iaload, 1) := by decide +kernel
theorem dX12_see_72 : decode cX12_see 72 = .ok (.iconst 1, 1) := by decide +kernel
theorem dX12_see_73 : decode cX12_see 73 = .ok (.if_icmp .gt 7, 3) := by decide +kernel
theorem dX12_see_76 : decode cX12_see 76 = .ok (.iconst 1, 1) := by decide +kernel
theorem dX12_see_77 : decode cX12_see 77 = .ok (.goto 4, 3) := by decide +kernel
theorem dX12_see_80 : decode cX12_see 80 = .ok (.iconst 0, 1) := by decide +kernel
theorem dX12_see_81 : decode cX12_see 81 = .ok (.istore_n 2, 1) := by decide +kernel
theorem dX12_see_82 : decode cX12_see 82 = .ok (.iinc 3 2, 3) := by decide +kernel
theorem dX12_see_85 : decode cX12_see 85 = .ok (.goto (-42), 3) := by decide +kernel
theorem dX12_see_88 : decode cX12_see 88 = .ok (.iload_n 2, 1) := by decide +kernel
theorem dX12_see_89 : decode cX12_see 89 = .ok (.ifCond .ne 9, 3) := by decide +kernel
theorem dX12_see_92 : decode cX12_see 92 = .ok (.aload_n 0, 1) := by decide +kernel
theorem dX12_see_93 : decode cX12_see 93 = .ok (.iconst 1, 1) := by decide +kernel
theorem dX12_see_94 : decode cX12_see 94 = .ok (.invokevirtual 345, 3) := by decide +kernel
theorem dX12_see_97 : decode cX12_see 97 = .ok (.ireturn, 1) := by decide +kernel
theorem dX12_see_98 : decode cX12_see 98 = .ok (.iconst 0, 1) := by decide +kernel
theorem dX12_see_99 : decode cX12_see 99 = .ok (.istore_n 3, 1) := by decide +kernel
theorem dX12_see_100 : decode cX12_see 100 = .ok (.iload_n 3, 1) := by decide +kernel
theorem dX12_see_101 : decode cX12_see 101 = .ok (.iload_n 1, 1) := by decide +kernel
theorem dX12_see_102 : decode cX12_see 102 = .ok (.if_icmp .ge 21, 3) := by decide +kernel
theorem dX12_see_105 : decode cX12_see 105 = .ok (.aload_n 0, 1) := by decide +kernel
theorem dX12_see_106 : decode cX12_see 106 = .ok (.getfield 121, 3) := by decide +kernel
theorem dX12_see_109 : decode cX12_see 109 = .ok (.iload_n 3, 1) := by decide +kernel
theorem dX12_see_110 : decode cX12_see 110 = .ok (.aload_n 0, 1) := by decide +kernel
theorem dX12_see_111 : decode cX12_see 111 = .ok (.getfield 7, 3) := by decide +kernel
theorem dX12_see_114 : decode cX12_see 114 = .ok (.iload_n 3, 1) := by decide +kernel
theorem dX12_see_115 : decode cX12_see 115 = .ok (.iaload, 1) := by decide +kernel
theorem dX12_see_116 : decode cX12_see 116 = .ok (.iastore, 1) := by decide +kernel
theorem dX12_see_117 : decode cX12_see 117 = .ok (.iinc 3 1, 3) := by decide +kernel
theorem dX12_see_120 : decode cX12_see 120 = .ok (.goto (-20), 3) := by decide +kernel
theorem dX12_see_123 : decode cX12_see 123 = .ok (.aload_n 0, 1) := by decide +kernel
theorem dX12_see_124 : decode cX12_see 124 = .ok (.iload_n 1, 1) := by decide +kernel
theorem dX12_see_125 : decode cX12_see 125 = .ok (.iconst 2, 1) := by decide +kernel
theorem dX12_see_126 : decode cX12_see 126 = .ok (.idiv, 1) := by decide +kernel
theorem dX12_see_127 : decode cX12_see 127 = .ok (.putfield 365, 3) := by decide +kernel
theorem dX12_see_130 : decode cX12_see 130 = .ok (.aload_n 0, 1) := by decide +kernel
theorem dX12_see_131 : decode cX12_see 131 = .ok (.getfield 365, 3) := by decide +kernel
theorem dX12_see_134 : decode cX12_see 134 = .ok (.ireturn, 1) := by decide +kernel
theorem dX12_fitsFrom_0 : decode cX12_fitsFrom 0 = .ok (.aload_n 0, 1) := by decide +kernel
theorem dX12_fitsFrom_1 : decode cX12_fitsFrom 1 = .ok (.iload_n 1, 1) := by decide +kernel
theorem dX12_fitsFrom_2 : decode cX12_fitsFrom 2 = .ok (.iload_n 2, 1) := by decide +kernel
theorem dX12_fitsFrom_3 : decode cX12_fitsFrom 3 = .ok (.iload_n 3, 1) := by decide +kernel
theorem dX12_fitsFrom_4 : decode cX12_fitsFrom 4 = .ok (.iadd, 1) := by decide +kernel
theorem dX12_fitsFrom_5 : decode cX12_fitsFrom 5 = .ok (.sipush 4095, 3) := by decide +kernel
theorem dX12_fitsFrom_8 : decode cX12_fitsFrom 8 = .ok (.iand, 1) := by decide +kernel
theorem dX12_fitsFrom_9 : decode cX12_fitsFrom 9 = .ok (.invokevirtual 409, 3) := by decide +kernel
theorem dX12_fitsFrom_12 : decode cX12_fitsFrom 12 = .ok (.aload_n 0, 1) := by decide +kernel
theorem dX12_fitsFrom_13 : decode cX12_fitsFrom 13 = .ok (.iload_n 1, 1) := by decide +kernel
theorem dX12_fitsFrom_14 : decode cX12_fitsFrom 14 = .ok (.invokevirtual 412, 3) := by decide +kernel
theorem dX12_fitsFrom_17 : decode cX12_fitsFrom 17 = .ok (.if_icmp .ne 7, 3) := by decide +kernel
theorem dX12_fitsFrom_20 : decode cX12_fitsFrom 20 = .ok (.iconst 1, 1) := by decide +kernel
theorem dX12_fitsFrom_21 : decode cX12_fitsFrom 21 = .ok (.goto 4, 3) := by decide +kernel
theorem dX12_fitsFrom_24 : decode cX12_fitsFrom 24 = .ok (.iconst 0, 1) := by decide +kernel
theorem dX12_fitsFrom_25 : decode cX12_fitsFrom 25 = .ok (.ireturn, 1) := by decide +kernel
theorem dX12_isPlace_0 : decode cX12_isPlace 0 = .ok (.aload_n 0, 1) := by decide +kernel
theorem dX12_isPlace_1 : decode cX12_isPlace 1 = .ok (.iload_n 1, 1) := by decide +kernel
theorem dX12_isPlace_2 : decode cX12_isPlace 2 = .ok (.iload_n 2, 1) := by decide +kernel
theorem dX12_isPlace_3 : decode cX12_isPlace 3 = .ok (.invokevirtual 409, 3) := by decide +kernel
theorem dX12_isPlace_6 : decode cX12_isPlace 6 = .ok (.aload_n 0, 1) := by decide +kernel
theorem dX12_isPlace_7 : decode cX12_isPlace 7 = .ok (.iload_n 1, 1) := by decide +kernel
theorem dX12_isPlace_8 : decode cX12_isPlace 8 = .ok (.invokevirtual 412, 3) := by decide +kernel
theorem dX12_isPlace_11 : decode cX12_isPlace 11 = .ok (.if_icmp .eq 5, 3) := by decide +kernel
theorem dX12_isPlace_14 : decode cX12_isPlace 14 = .ok (.iconst 0, 1) := by decide +kernel
theorem dX12_isPlace_15 : decode cX12_isPlace 15 = .ok (.ireturn, 1) := by decide +kernel
theorem dX12_isPlace_16 : decode cX12_isPlace 16 = .ok (.iconst 0, 1) := by decide +kernel
theorem dX12_isPlace_17 : decode cX12_isPlace 17 = .ok (.istore_n 3, 1) := by decide +kernel
theorem dX12_isPlace_18 : decode cX12_isPlace 18 = .ok (.iload_n 3, 1) := by decide +kernel
theorem dX12_isPlace_19 : decode cX12_isPlace 19 = .ok (.aload_n 0, 1) := by decide +kernel
theorem dX12_isPlace_20 : decode cX12_isPlace 20 = .ok (.getfield 365, 3) := by decide +kernel
theorem dX12_isPlace_23 : decode cX12_isPlace 23 = .ok (.if_icmp .ge 50, 3) := by decide +kernel
theorem dX12_isPlace_26 : decode cX12_isPlace 26 = .ok (.aload_n 0, 1) := by decide +kernel
theorem dX12_isPlace_27 : decode cX12_isPlace 27 = .ok (.iload_n 1, 1) := by decide +kernel
theorem dX12_isPlace_28 : decode cX12_isPlace 28 = .ok (.iload_n 2, 1) := by decide +kernel
theorem dX12_isPlace_29 : decode cX12_isPlace 29 = .ok (.aload_n 0, 1) := by decide +kernel
theorem dX12_isPlace_30 : decode cX12_isPlace 30 = .ok (.getfield 121, 3) := by decide +kernel
theorem dX12_isPlace_33 : decode cX12_isPlace 33 = .ok (.iconst 2, 1) := by decide +kernel
theorem dX12_isPlace_34 : decode cX12_isPlace 34 = .ok (.iload_n 3, 1) := by decide +kernel
theorem dX12_isPlace_35 : decode cX12_isPlace 35 = .ok (.imul, 1) := by decide +kernel
theorem dX12_isPlace_36 : decode cX12_isPlace 36 = .ok (.iaload, 1) := by decide +kernel
theorem dX12_isPlace_37 : decode cX12_isPlace 37 = .ok (.bipush 64, 2) := by decide +kernel
theorem dX12_isPlace_39 : decode cX12_isPlace 39 = .ok (.isub, 1) := by decide +kernel
theorem dX12_isPlace_40 : decode cX12_isPlace 40 = .ok (.invokevirtual 512, 3) := by decide +kernel
theorem dX12_isPlace_43 : decode cX12_isPlace 43 = .ok (.aload_n 0, 1) := by decide +kernel
theorem dX12_isPlace_44 : decode cX12_isPlace 44 = .ok (.getfield 121, 3) := by decide +kernel
theorem dX12_isPlace_47 : decode cX12_isPlace 47 = .ok (.iconst 2, 1) := by decide +kernel
theorem dX12_isPlace_48 : decode cX12_isPlace 48 = .ok (.iload_n 3, 1) := by decide +kernel
theorem dX12_isPlace_49 : decode cX12_isPlace 49 = .ok (.imul, 1) := by decide +kernel
theorem dX12_isPlace_50 : decode cX12_isPlace 50 = .ok (.iconst 1, 1) := by decide +kernel
theorem dX12_isPlace_51 : decode cX12_isPlace 51 = .ok (.iadd, 1) := by decide +kernel
theorem dX12_isPlace_52 : decode cX12_isPlace 52 = .ok (.iaload, 1) := by decide +kernel
theorem dX12_isPlace_53 : decode cX12_isPlace 53 = .ok (.iconst 1, 1) := by decide +kernel
theorem dX12_isPlace_54 : decode cX12_isPlace 54 = .ok (.if_icmp .ne 7, 3) := by decide +kernel
theorem dX12_isPlace_57 : decode cX12_isPlace 57 = .ok (.iconst 1, 1) := by decide +kernel
theorem dX12_isPlace_58 : decode cX12_isPlace 58 = .ok (.goto 4, 3) := by decide +kernel
theorem dX12_isPlace_61 : decode cX12_isPlace 61 = .ok (.iconst 0, 1) := by decide +kernel
theorem dX12_isPlace_62 : decode cX12_isPlace 62 = .ok (.if_icmp .eq 5, 3) := by decide +kernel
theorem dX12_isPlace_65 : decode cX12_isPlace 65 = .ok (.iconst 0, 1) := by decide +kernel
theorem dX12_isPlace_66 : decode cX12_isPlace 66 = .ok (.ireturn, 1) := by decide +kernel
theorem dX12_isPlace_67 : decode cX12_isPlace 67 = .ok (.iinc 3 1, 3) := by decide +kernel
theorem dX12_isPlace_70 : decode cX12_isPlace 70 = .ok (.goto (-52), 3) := by decide +kernel
theorem dX12_isPlace_73 : decode cX12_isPlace 73 = .ok (.iconst 1, 1) := by decide +kernel
theorem dX12_isPlace_74 : decode cX12_isPlace 74 = .ok (.ireturn, 1) := by decide +kernel
theorem dX12_laysPlaces_0 : decode cX12_laysPlaces 0 = .ok (.aload_n 0, 1) := by decide +kernel
theorem dX12_laysPlaces_1 : decode cX12_laysPlaces 1 = .ok (.iconst 0, 1) := by decide +kernel
theorem dX12_laysPlaces_2 : decode cX12_laysPlaces 2 = .ok (.putfield 516, 3) := by decide +kernel
theorem dX12_laysPlaces_5 : decode cX12_laysPlaces 5 = .ok (.iconst 0, 1) := by decide +kernel
theorem dX12_laysPlaces_6 : decode cX12_laysPlaces 6 = .ok (.istore_n 2, 1) := by decide +kernel
theorem dX12_laysPlaces_7 : decode cX12_laysPlaces 7 = .ok (.iload_n 2, 1) := by decide +kernel
theorem dX12_laysPlaces_8 : decode cX12_laysPlaces 8 = .ok (.sipush 4096, 3) := by decide +kernel
theorem dX12_laysPlaces_11 : decode cX12_laysPlaces 11 = .ok (.if_icmp .ge 40, 3) := by decide +kernel
theorem dX12_laysPlaces_14 : decode cX12_laysPlaces 14 = .ok (.aload_n 0, 1) := by decide +kernel
theorem dX12_laysPlaces_15 : decode cX12_laysPlaces 15 = .ok (.getfield 124, 3) := by decide +kernel
theorem dX12_laysPlaces_18 : decode cX12_laysPlaces 18 = .ok (.iload_n 2, 1) := by decide +kernel
theorem dX12_laysPlaces_19 : decode cX12_laysPlaces 19 = .ok (.aload_n 0, 1) := by decide +kernel
theorem dX12_laysPlaces_20 : decode cX12_laysPlaces 20 = .ok (.iload_n 1, 1) := by decide +kernel
theorem dX12_laysPlaces_21 : decode cX12_laysPlaces 21 = .ok (.iload_n 2, 1) := by decide +kernel
theorem dX12_laysPlaces_22 : decode cX12_laysPlaces 22 = .ok (.invokevirtual 519, 3) := by decide +kernel
theorem dX12_laysPlaces_25 : decode cX12_laysPlaces 25 = .ok (.bastore, 1) := by decide +kernel
theorem dX12_laysPlaces_26 : decode cX12_laysPlaces 26 = .ok (.aload_n 0, 1) := by decide +kernel
theorem dX12_laysPlaces_27 : decode cX12_laysPlaces 27 = .ok (.getfield 124, 3) := by decide +kernel
theorem dX12_laysPlaces_30 : decode cX12_laysPlaces 30 = .ok (.iload_n 2, 1) := by decide +kernel
theorem dX12_laysPlaces_31 : decode cX12_laysPlaces 31 = .ok (.baload, 1) := by decide +kernel
theorem dX12_laysPlaces_32 : decode cX12_laysPlaces 32 = .ok (.ifCond .eq 13, 3) := by decide +kernel
theorem dX12_laysPlaces_35 : decode cX12_laysPlaces 35 = .ok (.aload_n 0, 1) := by decide +kernel
theorem dX12_laysPlaces_36 : decode cX12_laysPlaces 36 = .ok (.dup, 1) := by decide +kernel
theorem dX12_laysPlaces_37 : decode cX12_laysPlaces 37 = .ok (.getfield 516, 3) := by decide +kernel
theorem dX12_laysPlaces_40 : decode cX12_laysPlaces 40 = .ok (.iconst 1, 1) := by decide +kernel
theorem dX12_laysPlaces_41 : decode cX12_laysPlaces 41 = .ok (.iadd, 1) := by decide +kernel
theorem dX12_laysPlaces_42 : decode cX12_laysPlaces 42 = .ok (.putfield 516, 3) := by decide +kernel
theorem dX12_laysPlaces_45 : decode cX12_laysPlaces 45 = .ok (.iinc 2 1, 3) := by decide +kernel
theorem dX12_laysPlaces_48 : decode cX12_laysPlaces 48 = .ok (.goto (-41), 3) := by decide +kernel
theorem dX12_laysPlaces_51 : decode cX12_laysPlaces 51 = .ok (.return_, 1) := by decide +kernel
theorem dX12_places_0 : decode cX12_places 0 = .ok (.aload_n 0, 1) := by decide +kernel
theorem dX12_places_1 : decode cX12_places 1 = .ok (.iload_n 1, 1) := by decide +kernel
theorem dX12_places_2 : decode cX12_places 2 = .ok (.i2l, 1) := by decide +kernel
theorem dX12_places_3 : decode cX12_places 3 = .ok (.invokevirtual 418, 3) := by decide +kernel
theorem dX12_places_6 : decode cX12_places 6 = .ok (.ifCond .eq 8, 3) := by decide +kernel
theorem dX12_places_9 : decode cX12_places 9 = .ok (.iload_n 2, 1) := by decide +kernel
theorem dX12_places_10 : decode cX12_places 10 = .ok (.iconst (-1), 1) := by decide +kernel
theorem dX12_places_11 : decode cX12_places 11 = .ok (.if_icmp .ge 5, 3) := by decide +kernel
theorem dX12_places_14 : decode cX12_places 14 = .ok (.iconst (-1), 1) := by decide +kernel
theorem dX12_places_15 : decode cX12_places 15 = .ok (.ireturn, 1) := by decide +kernel
theorem dX12_places_16 : decode cX12_places 16 = .ok (.aload_n 0, 1) := by decide +kernel
theorem dX12_places_17 : decode cX12_places 17 = .ok (.bipush 8, 2) := by decide +kernel
theorem dX12_places_19 : decode cX12_places 19 = .ok (.iload_n 1, 1) := by decide +kernel
theorem dX12_places_20 : decode cX12_places 20 = .ok (.imul, 1) := by decide +kernel
theorem dX12_places_21 : decode cX12_places 21 = .ok (.invokevirtual 522, 3) := by decide +kernel
theorem dX12_places_24 : decode cX12_places 24 = .ok (.iload_n 2, 1) := by decide +kernel
theorem dX12_places_25 : decode cX12_places 25 = .ok (.iconst (-1), 1) := by decide +kernel
theorem dX12_places_26 : decode cX12_places 26 = .ok (.if_icmp .ne 8, 3) := by decide +kernel
theorem dX12_places_29 : decode cX12_places 29 = .ok (.aload_n 0, 1) := by decide +kernel
theorem dX12_places_30 : decode cX12_places 30 = .ok (.getfield 516, 3) := by decide +kernel
theorem dX12_places_33 : decode cX12_places 33 = .ok (.ireturn, 1) := by decide +kernel
theorem dX12_places_34 : decode cX12_places 34 = .ok (.iconst 0, 1) := by decide +kernel
theorem dX12_places_35 : decode cX12_places 35 = .ok (.istore_n 3, 1) := by decide +kernel
theorem dX12_places_36 : decode cX12_places 36 = .ok (.iconst 0, 1) := by decide +kernel
theorem dX12_places_37 : decode cX12_places 37 = .ok (.istore 4, 2) := by decide +kernel
theorem dX12_places_39 : decode cX12_places 39 = .ok (.iload 4, 2) := by decide +kernel
theorem dX12_places_41 : decode cX12_places 41 = .ok (.sipush 4096, 3) := by decide +kernel
theorem dX12_places_44 : decode cX12_places 44 = .ok (.if_icmp .ge 33, 3) := by decide +kernel
theorem dX12_places_47 : decode cX12_places 47 = .ok (.aload_n 0, 1) := by decide +kernel
theorem dX12_places_48 : decode cX12_places 48 = .ok (.getfield 124, 3) := by decide +kernel
theorem dX12_places_51 : decode cX12_places 51 = .ok (.iload 4, 2) := by decide +kernel
theorem dX12_places_53 : decode cX12_places 53 = .ok (.baload, 1) := by decide +kernel
theorem dX12_places_54 : decode cX12_places 54 = .ok (.ifCond .ne 6, 3) := by decide +kernel
theorem dX12_places_57 : decode cX12_places 57 = .ok (.goto 14, 3) := by decide +kernel
theorem dX12_places_60 : decode cX12_places 60 = .ok (.iload_n 3, 1) := by decide +kernel
theorem dX12_places_61 : decode cX12_places 61 = .ok (.iload_n 2, 1) := by decide +kernel
theorem dX12_places_62 : decode cX12_places 62 = .ok (.if_icmp .ne 6, 3) := by decide +kernel
theorem dX12_places_65 : decode cX12_places 65 = .ok (.iload 4, 2) := by decide +kernel
theorem dX12_places_67 : decode cX12_places 67 = .ok (.ireturn, 1) := by decide +kernel
theorem dX12_places_68 : decode cX12_places 68 = .ok (.iinc 3 1, 3) := by decide +kernel
theorem dX12_places_71 : decode cX12_places 71 = .ok (.iinc 4 1, 3) := by decide +kernel
theorem dX12_places_74 : decode cX12_places 74 = .ok (.goto (-35), 3) := by decide +kernel
theorem dX12_places_77 : decode cX12_places 77 = .ok (.iconst (-1), 1) := by decide +kernel
theorem dX12_places_78 : decode cX12_places 78 = .ok (.ireturn, 1) := by decide +kernel
theorem dX12_tells_0 : decode cX12_tells 0 = .ok (.aload_n 0, 1) := by decide +kernel
theorem dX12_tells_1 : decode cX12_tells 1 = .ok (.iload_n 1, 1) := by decide +kernel
theorem dX12_tells_2 : decode cX12_tells 2 = .ok (.i2l, 1) := by decide +kernel
theorem dX12_tells_3 : decode cX12_tells 3 = .ok (.invokevirtual 418, 3) := by decide +kernel
theorem dX12_tells_6 : decode cX12_tells 6 = .ok (.ifCond .eq 13, 3) := by decide +kernel
theorem dX12_tells_9 : decode cX12_tells 9 = .ok (.iload_n 2, 1) := by decide +kernel
theorem dX12_tells_10 : decode cX12_tells 10 = .ok (.i2l, 1) := by decide +kernel
theorem dX12_tells_11 : decode cX12_tells 11 = .ok (.lconst 0, 1) := by decide +kernel
theorem dX12_tells_12 : decode cX12_tells 12 = .ok (.lconst 1, 1) := by decide +kernel
theorem dX12_tells_13 : decode cX12_tells 13 = .ok (.invokestatic 268, 3) := by decide +kernel
theorem dX12_tells_16 : decode cX12_tells 16 = .ok (.ifCond .ne 5, 3) := by decide +kernel
theorem dX12_tells_19 : decode cX12_tells 19 = .ok (.iconst (-1), 1) := by decide +kernel
theorem dX12_tells_20 : decode cX12_tells 20 = .ok (.ireturn, 1) := by decide +kernel
theorem dX12_tells_21 : decode cX12_tells 21 = .ok (.aload_n 0, 1) := by decide +kernel
theorem dX12_tells_22 : decode cX12_tells 22 = .ok (.bipush 8, 2) := by decide +kernel
theorem dX12_tells_24 : decode cX12_tells 24 = .ok (.iload_n 1, 1) := by decide +kernel
theorem dX12_tells_25 : decode cX12_tells 25 = .ok (.imul, 1) := by decide +kernel
theorem dX12_tells_26 : decode cX12_tells 26 = .ok (.invokevirtual 522, 3) := by decide +kernel
theorem dX12_tells_29 : decode cX12_tells 29 = .ok (.iconst (-1), 1) := by decide +kernel
theorem dX12_tells_30 : decode cX12_tells 30 = .ok (.istore_n 3, 1) := by decide +kernel
theorem dX12_tells_31 : decode cX12_tells 31 = .ok (.iconst 0, 1) := by decide +kernel
theorem dX12_tells_32 : decode cX12_tells 32 = .ok (.istore 4, 2) := by decide +kernel
theorem dX12_tells_34 : decode cX12_tells 34 = .ok (.bipush (-64), 2) := by decide +kernel
theorem dX12_tells_36 : decode cX12_tells 36 = .ok (.istore 5, 2) := by decide +kernel
theorem dX12_tells_38 : decode cX12_tells 38 = .ok (.iload 5, 2) := by decide +kernel
theorem dX12_tells_40 : decode cX12_tells 40 = .ok (.bipush 64, 2) := by decide +kernel
theorem dX12_tells_42 : decode cX12_tells 42 = .ok (.if_icmp .ge 115, 3) := by decide +kernel
theorem dX12_tells_45 : decode cX12_tells 45 = .ok (.aload_n 0, 1) := by decide +kernel
theorem dX12_tells_46 : decode cX12_tells 46 = .ok (.getfield 516, 3) := by decide +kernel
theorem dX12_tells_49 : decode cX12_tells 49 = .ok (.ifCond .le 108, 3) := by decide +kernel
theorem dX12_tells_52 : decode cX12_tells 52 = .ok (.iconst 0, 1) := by decide +kernel
theorem dX12_tells_53 : decode cX12_tells 53 = .ok (.istore 6, 2) := by decide +kernel
theorem dX12_tells_55 : decode cX12_tells 55 = .ok (.iconst 0, 1) := by decide +kernel
theorem dX12_tells_56 : decode cX12_tells 56 = .ok (.istore 7, 2) := by decide +kernel
theorem dX12_tells_58 : decode cX12_tells 58 = .ok (.iload 7, 2) := by decide +kernel
theorem dX12_tells_60 : decode cX12_tells 60 = .ok (.sipush 4096, 3) := by decide +kernel
theorem dX12_tells_63 : decode cX12_tells 63 = .ok (.if_icmp .ge 37, 3) := by decide +kernel
theorem dX12_tells_66 : decode cX12_tells 66 = .ok (.aload_n 0, 1) := by decide +kernel
theorem dX12_tells_67 : decode cX12_tells 67 = .ok (.getfield 124, 3) := by decide +kernel
theorem dX12_tells_70 : decode cX12_tells 70 = .ok (.iload 7, 2) := by decide +kernel
theorem dX12_tells_72 : decode cX12_tells 72 = .ok (.baload, 1) := by decide +kernel
theorem dX12_tells_73 : decode cX12_tells 73 = .ok (.ifCond .eq 21, 3) := by decide +kernel
theorem dX12_tells_76 : decode cX12_tells 76 = .ok (.aload_n 0, 1) := by decide +kernel
theorem dX12_tells_77 : decode cX12_tells 77 = .ok (.bipush 8, 2) := by decide +kernel
theorem dX12_tells_79 : decode cX12_tells 79 = .ok (.iload_n 1, 1) := by decide +kernel
theorem dX12_tells_80 : decode cX12_tells 80 = .ok (.imul, 1) := by decide +kernel
theorem dX12_tells_81 : decode cX12_tells 81 = .ok (.iload 7, 2) := by decide +kernel
theorem dX12_tells_83 : decode cX12_tells 83 = .ok (.iload 5, 2) := by decide +kernel
theorem dX12_tells_85 : decode cX12_tells 85 = .ok (.invokevirtual 512, 3) := by decide +kernel
theorem dX12_tells_88 : decode cX12_tells 88 = .ok (.ifCond .eq 6, 3) := by decide +kernel
theorem dX12_tells_91 : decode cX12_tells 91 = .ok (.iinc 6 1, 3) := by decide +kernel
theorem dX12_tells_94 : decode cX12_tells 94 = .ok (.iinc 7 1, 3) := by decide +kernel
theorem dX12_tells_97 : decode cX12_tells 97 = .ok (.goto (-39), 3) := by decide +kernel
theorem dX12_tells_100 : decode cX12_tells 100 = .ok (.iload 6, 2) := by decide +kernel
theorem dX12_tells_102 : decode cX12_tells 102 = .ok (.aload_n 0, 1) := by decide +kernel
theorem dX12_tells_103 : decode cX12_tells 103 = .ok (.getfield 516, 3) := by decide +kernel
theorem dX12_tells_106 : decode cX12_tells 106 = .ok (.iload 6, 2) := by decide +kernel
theorem dX12_tells_108 : decode cX12_tells 108 = .ok (.isub, 1) := by decide +kernel
theorem dX12_tells_109 : decode cX12_tells 109 = .ok (.if_icmp .ge 13, 3) := by decide +kernel
theorem dX12_tells_112 : decode cX12_tells 112 = .ok (.aload_n 0, 1) := by decide +kernel
theorem dX12_tells_113 : decode cX12_tells 113 = .ok (.getfield 516, 3) := by decide +kernel
theorem dX12_tells_116 : decode cX12_tells 116 = .ok (.iload 6, 2) := by decide +kernel
theorem dX12_tells_118 : decode cX12_tells 118 = .ok (.isub, 1) := by decide +kernel
theorem dX12_tells_119 : decode cX12_tells 119 = .ok (.goto 5, 3) := by decide +kernel
theorem dX12_tells_122 : decode cX12_tells 122 = .ok (.iload 6, 2) := by decide +kernel
theorem dX12_tells_124 : decode cX12_tells 124 = .ok (.istore 7, 2) := by decide +kernel
theorem dX12_tells_126 : decode cX12_tells 126 = .ok (.iload_n 3, 1) := by decide +kernel
theorem dX12_tells_127 : decode cX12_tells 127 = .ok (.iconst (-1), 1) := by decide +kernel
theorem dX12_tells_128 : decode cX12_tells 128 = .ok (.if_icmp .eq 13, 3) := by decide +kernel
theorem dX12_tells_131 : decode cX12_tells 131 = .ok (.iload 7, 2) := by decide +kernel
theorem dX12_tells_133 : decode cX12_tells 133 = .ok (.iload 4, 2) := by decide +kernel
theorem dX12_tells_135 : decode cX12_tells 135 = .ok (.if_icmp .lt 6, 3) := by decide +kernel
theorem dX12_tells_138 : decode cX12_tells 138 = .ok (.goto 13, 3) := by decide +kernel
theorem dX12_tells_141 : decode cX12_tells 141 = .ok (.iload 5, 2) := by decide +kernel
theorem dX12_tells_143 : decode cX12_tells 143 = .ok (.bipush 64, 2) := by decide +kernel
theorem dX12_tells_145 : decode cX12_tells 145 = .ok (.iadd, 1) := by decide +kernel
theorem dX12_tells_146 : decode cX12_tells 146 = .ok (.istore_n 3, 1) := by decide +kernel
theorem dX12_tells_147 : decode cX12_tells 147 = .ok (.iload 7, 2) := by decide +kernel
theorem dX12_tells_149 : decode cX12_tells 149 = .ok (.istore 4, 2) := by decide +kernel
theorem dX12_tells_151 : decode cX12_tells 151 = .ok (.iinc 5 1, 3) := by decide +kernel
theorem dX12_tells_154 : decode cX12_tells 154 = .ok (.goto (-116), 3) := by decide +kernel
theorem dX12_tells_157 : decode cX12_tells 157 = .ok (.iload_n 3, 1) := by decide +kernel
theorem dX12_tells_158 : decode cX12_tells 158 = .ok (.iconst (-1), 1) := by decide +kernel
theorem dX12_tells_159 : decode cX12_tells 159 = .ok (.if_icmp .ne 7, 3) := by decide +kernel
theorem dX12_tells_162 : decode cX12_tells 162 = .ok (.iconst (-1), 1) := by decide +kernel
theorem dX12_tells_163 : decode cX12_tells 163 = .ok (.goto 13, 3) := by decide +kernel
theorem dX12_tells_166 : decode cX12_tells 166 = .ok (.iload_n 2, 1) := by decide +kernel
theorem dX12_tells_167 : decode cX12_tells 167 = .ok (.ifCond .ne 7, 3) := by decide +kernel
theorem dX12_tells_170 : decode cX12_tells 170 = .ok (.iload_n 3, 1) := by decide +kernel
theorem dX12_tells_171 : decode cX12_tells 171 = .ok (.goto 5, 3) := by decide +kernel
theorem dX12_tells_174 : decode cX12_tells 174 = .ok (.iload 4, 2) := by decide +kernel
theorem dX12_tells_176 : decode cX12_tells 176 = .ok (.ireturn, 1) := by decide +kernel
theorem dX12_keeps_0 : decode cX12_keeps 0 = .ok (.aload_n 0, 1) := by decide +kernel
theorem dX12_keeps_1 : decode cX12_keeps 1 = .ok (.aload_n 0, 1) := by decide +kernel
theorem dX12_keeps_2 : decode cX12_keeps 2 = .ok (.getfield 525, 3) := by decide +kernel
theorem dX12_keeps_5 : decode cX12_keeps 5 = .ok (.iconst 1, 1) := by decide +kernel
theorem dX12_keeps_6 : decode cX12_keeps 6 = .ok (.iadd, 1) := by decide +kernel
theorem dX12_keeps_7 : decode cX12_keeps 7 = .ok (.bipush 20, 2) := by decide +kernel
theorem dX12_keeps_9 : decode cX12_keeps 9 = .ok (.irem, 1) := by decide +kernel
theorem dX12_keeps_10 : decode cX12_keeps 10 = .ok (.putfield 525, 3) := by decide +kernel
theorem dX12_keeps_13 : decode cX12_keeps 13 = .ok (.iconst 0, 1) := by decide +kernel
theorem dX12_keeps_14 : decode cX12_keeps 14 = .ok (.istore_n 1, 1) := by decide +kernel
theorem dX12_keeps_15 : decode cX12_keeps 15 = .ok (.iload_n 1, 1) := by decide +kernel
theorem dX12_keeps_16 : decode cX12_keeps 16 = .ok (.sipush 1498, 3) := by decide +kernel
theorem dX12_keeps_19 : decode cX12_keeps 19 = .ok (.if_icmp .ge 30, 3) := by decide +kernel
theorem dX12_keeps_22 : decode cX12_keeps 22 = .ok (.aload_n 0, 1) := by decide +kernel
theorem dX12_keeps_23 : decode cX12_keeps 23 = .ok (.getfield 128, 3) := by decide +kernel
theorem dX12_keeps_26 : decode cX12_keeps 26 = .ok (.sipush 1498, 3) := by decide +kernel
theorem dX12_keeps_29 : decode cX12_keeps 29 = .ok (.aload_n 0, 1) := by decide +kernel
theorem dX12_keeps_30 : decode cX12_keeps 30 = .ok (.getfield 525, 3) := by decide +kernel
theorem dX12_keeps_33 : decode cX12_keeps 33 = .ok (.imul, 1) := by decide +kernel
theorem dX12_keeps_34 : decode cX12_keeps 34 = .ok (.iload_n 1, 1) := by decide +kernel
theorem dX12_keeps_35 : decode cX12_keeps 35 = .ok (.iadd, 1) := by decide +kernel
theorem dX12_keeps_36 : decode cX12_keeps 36 = .ok (.aload_n 0, 1) := by decide +kernel
theorem dX12_keeps_37 : decode cX12_keeps 37 = .ok (.getfield 115, 3) := by decide +kernel
theorem dX12_keeps_40 : decode cX12_keeps 40 = .ok (.iload_n 1, 1) := by decide +kernel
theorem dX12_keeps_41 : decode cX12_keeps 41 = .ok (.iaload, 1) := by decide +kernel
theorem dX12_keeps_42 : decode cX12_keeps 42 = .ok (.iastore, 1) := by decide +kernel
theorem dX12_keeps_43 : decode cX12_keeps 43 = .ok (.iinc 1 1, 3) := by decide +kernel
theorem dX12_keeps_46 : decode cX12_keeps 46 = .ok (.goto (-31), 3) := by decide +kernel
theorem dX12_keeps_49 : decode cX12_keeps 49 = .ok (.aload_n 0, 1) := by decide +kernel
theorem dX12_keeps_50 : decode cX12_keeps 50 = .ok (.getfield 362, 3) := by decide +kernel
theorem dX12_keeps_53 : decode cX12_keeps 53 = .ok (.bipush 20, 2) := by decide +kernel
theorem dX12_keeps_55 : decode cX12_keeps 55 = .ok (.if_icmp .ge 13, 3) := by decide +kernel
theorem dX12_keeps_58 : decode cX12_keeps 58 = .ok (.aload_n 0, 1) := by decide +kernel
theorem dX12_keeps_59 : decode cX12_keeps 59 = .ok (.dup, 1) := by decide +kernel
theorem dX12_keeps_60 : decode cX12_keeps 60 = .ok (.getfield 362, 3) := by decide +kernel
theorem dX12_keeps_63 : decode cX12_keeps 63 = .ok (.iconst 1, 1) := by decide +kernel
theorem dX12_keeps_64 : decode cX12_keeps 64 = .ok (.iadd, 1) := by decide +kernel
theorem dX12_keeps_65 : decode cX12_keeps 65 = .ok (.putfield 362, 3) := by decide +kernel
theorem dX12_keeps_68 : decode cX12_keeps 68 = .ok (.return_, 1) := by decide +kernel
theorem dX12_undo_0 : decode cX12_undo 0 = .ok (.aload_n 0, 1) := by decide +kernel
theorem dX12_undo_1 : decode cX12_undo 1 = .ok (.getfield 362, 3) := by decide +kernel
theorem dX12_undo_4 : decode cX12_undo 4 = .ok (.ifCond .ne 16, 3) := by decide +kernel
theorem dX12_undo_7 : decode cX12_undo 7 = .ok (.aload_n 0, 1) := by decide +kernel
theorem dX12_undo_8 : decode cX12_undo 8 = .ok (.getfield 17, 3) := by decide +kernel
theorem dX12_undo_11 : decode cX12_undo 11 = .ok (.bipush 6, 2) := by decide +kernel
theorem dX12_undo_13 : decode cX12_undo 13 = .ok (.dup2, 1) := by decide +kernel
theorem dX12_undo_14 : decode cX12_undo 14 = .ok (.iaload, 1) := by decide +kernel
theorem dX12_undo_15 : decode cX12_undo 15 = .ok (.iconst 1, 1) := by decide +kernel
theorem dX12_undo_16 : decode cX12_undo 16 = .ok (.iadd, 1) := by decide +kernel
theorem dX12_undo_17 : decode cX12_undo 17 = .ok (.iastore, 1) := by decide +kernel
theorem dX12_undo_18 : decode cX12_undo 18 = .ok (.iconst 0, 1) := by decide +kernel
theorem dX12_undo_19 : decode cX12_undo 19 = .ok (.ireturn, 1) := by decide +kernel
theorem dX12_undo_20 : decode cX12_undo 20 = .ok (.iconst 0, 1) := by decide +kernel
theorem dX12_undo_21 : decode cX12_undo 21 = .ok (.istore_n 1, 1) := by decide +kernel
theorem dX12_undo_22 : decode cX12_undo 22 = .ok (.iload_n 1, 1) := by decide +kernel
theorem dX12_undo_23 : decode cX12_undo 23 = .ok (.sipush 1498, 3) := by decide +kernel
theorem dX12_undo_26 : decode cX12_undo 26 = .ok (.if_icmp .ge 30, 3) := by decide +kernel
theorem dX12_undo_29 : decode cX12_undo 29 = .ok (.aload_n 0, 1) := by decide +kernel
theorem dX12_undo_30 : decode cX12_undo 30 = .ok (.getfield 115, 3) := by decide +kernel
theorem dX12_undo_33 : decode cX12_undo 33 = .ok (.iload_n 1, 1) := by decide +kernel
theorem dX12_undo_34 : decode cX12_undo 34 = .ok (.aload_n 0, 1) := by decide +kernel
theorem dX12_undo_35 : decode cX12_undo 35 = .ok (.getfield 128, 3) := by decide +kernel
theorem dX12_undo_38 : decode cX12_undo 38 = .ok (.sipush 1498, 3) := by decide +kernel
theorem dX12_undo_41 : decode cX12_undo 41 = .ok (.aload_n 0, 1) := by decide +kernel
theorem dX12_undo_42 : decode cX12_undo 42 = .ok (.getfield 525, 3) := by decide +kernel
theorem dX12_undo_45 : decode cX12_undo 45 = .ok (.imul, 1) := by decide +kernel
theorem dX12_undo_46 : decode cX12_undo 46 = .ok (.iload_n 1, 1) := by decide +kernel
theorem dX12_undo_47 : decode cX12_undo 47 = .ok (.iadd, 1) := by decide +kernel
theorem dX12_undo_48 : decode cX12_undo 48 = .ok (.iaload, 1) := by decide +kernel
theorem dX12_undo_49 : decode cX12_undo 49 = .ok (.iastore, 1) := by decide +kernel
theorem dX12_undo_50 : decode cX12_undo 50 = .ok (.iinc 1 1, 3) := by decide +kernel
theorem dX12_undo_53 : decode cX12_undo 53 = .ok (.goto (-31), 3) := by decide +kernel
theorem dX12_undo_56 : decode cX12_undo 56 = .ok (.aload_n 0, 1) := by decide +kernel
theorem dX12_undo_57 : decode cX12_undo 57 = .ok (.aload_n 0, 1) := by decide +kernel
theorem dX12_undo_58 : decode cX12_undo 58 = .ok (.getfield 525, 3) := by decide +kernel
theorem dX12_undo_61 : decode cX12_undo 61 = .ok (.bipush 20, 2) := by decide +kernel
theorem dX12_undo_63 : decode cX12_undo 63 = .ok (.iadd, 1) := by decide +kernel
theorem dX12_undo_64 : decode cX12_undo 64 = .ok (.iconst 1, 1) := by decide +kernel
theorem dX12_undo_65 : decode cX12_undo 65 = .ok (.isub, 1) := by decide +kernel
theorem dX12_undo_66 : decode cX12_undo 66 = .ok (.bipush 20, 2) := by decide +kernel
theorem dX12_undo_68 : decode cX12_undo 68 = .ok (.irem, 1) := by decide +kernel
theorem dX12_undo_69 : decode cX12_undo 69 = .ok (.putfield 525, 3) := by decide +kernel
theorem dX12_undo_72 : decode cX12_undo 72 = .ok (.aload_n 0, 1) := by decide +kernel
theorem dX12_undo_73 : decode cX12_undo 73 = .ok (.dup, 1) := by decide +kernel
theorem dX12_undo_74 : decode cX12_undo 74 = .ok (.getfield 362, 3) := by decide +kernel
theorem dX12_undo_77 : decode cX12_undo 77 = .ok (.iconst 1, 1) := by decide +kernel
theorem dX12_undo_78 : decode cX12_undo 78 = .ok (.isub, 1) := by decide +kernel
theorem dX12_undo_79 : decode cX12_undo 79 = .ok (.putfield 362, 3) := by decide +kernel
theorem dX12_undo_82 : decode cX12_undo 82 = .ok (.iconst 1, 1) := by decide +kernel
theorem dX12_undo_83 : decode cX12_undo 83 = .ok (.ireturn, 1) := by decide +kernel
theorem dX12_refuses_0 : decode cX12_refuses 0 = .ok (.aload_n 0, 1) := by decide +kernel
theorem dX12_refuses_1 : decode cX12_refuses 1 = .ok (.getfield 17, 3) := by decide +kernel
theorem dX12_refuses_4 : decode cX12_refuses 4 = .ok (.iload_n 1, 1) := by decide +kernel
theorem dX12_refuses_5 : decode cX12_refuses 5 = .ok (.dup2, 1) := by decide +kernel
theorem dX12_refuses_6 : decode cX12_refuses 6 = .ok (.iaload, 1) := by decide +kernel
theorem dX12_refuses_7 : decode cX12_refuses 7 = .ok (.iconst 1, 1) := by decide +kernel
theorem dX12_refuses_8 : decode cX12_refuses 8 = .ok (.iadd, 1) := by decide +kernel
theorem dX12_refuses_9 : decode cX12_refuses 9 = .ok (.iastore, 1) := by decide +kernel
theorem dX12_refuses_10 : decode cX12_refuses 10 = .ok (.iconst (-1), 1) := by decide +kernel
theorem dX12_refuses_11 : decode cX12_refuses 11 = .ok (.ireturn, 1) := by decide +kernel
theorem dX12_isRefused_0 : decode cX12_isRefused 0 = .ok (.aload_n 0, 1) := by decide +kernel
theorem dX12_isRefused_1 : decode cX12_isRefused 1 = .ok (.getfield 17, 3) := by decide +kernel
theorem dX12_isRefused_4 : decode cX12_isRefused 4 = .ok (.iload_n 1, 1) := by decide +kernel
theorem dX12_isRefused_5 : decode cX12_isRefused 5 = .ok (.dup2, 1) := by decide +kernel
theorem dX12_isRefused_6 : decode cX12_isRefused 6 = .ok (.iaload, 1) := by decide +kernel
theorem dX12_isRefused_7 : decode cX12_isRefused 7 = .ok (.iconst 1, 1) := by decide +kernel
theorem dX12_isRefused_8 : decode cX12_isRefused 8 = .ok (.iadd, 1) := by decide +kernel
theorem dX12_isRefused_9 : decode cX12_isRefused 9 = .ok (.iastore, 1) := by decide +kernel
theorem dX12_isRefused_10 : decode cX12_isRefused 10 = .ok (.iconst 0, 1) := by decide +kernel
theorem dX12_isRefused_11 : decode cX12_isRefused 11 = .ok (.ireturn, 1) := by decide +kernel
theorem dX12_alloc_0 : decode cX12_alloc 0 = .ok (.aload_n 0, 1) := by decide +kernel
theorem dX12_alloc_1 : decode cX12_alloc 1 = .ok (.iload_n 1, 1) := by decide +kernel
theorem dX12_alloc_2 : decode cX12_alloc 2 = .ok (.i2l, 1) := by decide +kernel
theorem dX12_alloc_3 : decode cX12_alloc 3 = .ok (.invokevirtual 418, 3) := by decide +kernel
theorem dX12_alloc_6 : decode cX12_alloc 6 = .ok (.ifCond .eq 23, 3) := by decide +kernel
theorem dX12_alloc_9 : decode cX12_alloc 9 = .ok (.iload_n 2, 1) := by decide +kernel
theorem dX12_alloc_10 : decode cX12_alloc 10 = .ok (.i2l, 1) := by decide +kernel
theorem dX12_alloc_11 : decode cX12_alloc 11 = .ok (.lconst 1, 1) := by decide +kernel
theorem dX12_alloc_12 : decode cX12_alloc 12 = .ok (.ldc2_w 507, 3) := by decide +kernel
theorem dX12_alloc_15 : decode cX12_alloc 15 = .ok (.invokestatic 268, 3) := by decide +kernel
theorem dX12_alloc_18 : decode cX12_alloc 18 = .ok (.ifCond .eq 11, 3) := by decide +kernel
theorem dX12_alloc_21 : decode cX12_alloc 21 = .ok (.aload_n 0, 1) := by decide +kernel
theorem dX12_alloc_22 : decode cX12_alloc 22 = .ok (.iload_n 2, 1) := by decide +kernel
theorem dX12_alloc_23 : decode cX12_alloc 23 = .ok (.invokevirtual 509, 3) := by decide +kernel
theorem dX12_alloc_26 : decode cX12_alloc 26 = .ok (.goto 4, 3) := by decide +kernel
theorem dX12_alloc_29 : decode cX12_alloc 29 = .ok (.iconst (-1), 1) := by decide +kernel
theorem dX12_alloc_30 : decode cX12_alloc 30 = .ok (.istore_n 3, 1) := by decide +kernel
theorem dX12_alloc_31 : decode cX12_alloc 31 = .ok (.iload_n 3, 1) := by decide +kernel
theorem dX12_alloc_32 : decode cX12_alloc 32 = .ok (.iconst (-1), 1) := by decide +kernel
theorem dX12_alloc_33 : decode cX12_alloc 33 = .ok (.if_icmp .ne 9, 3) := by decide +kernel
theorem dX12_alloc_36 : decode cX12_alloc 36 = .ok (.aload_n 0, 1) := by decide +kernel
theorem dX12_alloc_37 : decode cX12_alloc 37 = .ok (.iconst 2, 1) := by decide +kernel
theorem dX12_alloc_38 : decode cX12_alloc 38 = .ok (.invokevirtual 345, 3) := by decide +kernel
theorem dX12_alloc_41 : decode cX12_alloc 41 = .ok (.ireturn, 1) := by decide +kernel
theorem dX12_alloc_42 : decode cX12_alloc 42 = .ok (.aload_n 0, 1) := by decide +kernel
theorem dX12_alloc_43 : decode cX12_alloc 43 = .ok (.invokevirtual 528, 3) := by decide +kernel
theorem dX12_alloc_46 : decode cX12_alloc 46 = .ok (.aload_n 0, 1) := by decide +kernel
theorem dX12_alloc_47 : decode cX12_alloc 47 = .ok (.iload_n 1, 1) := by decide +kernel
theorem dX12_alloc_48 : decode cX12_alloc 48 = .ok (.iload_n 3, 1) := by decide +kernel
theorem dX12_alloc_49 : decode cX12_alloc 49 = .ok (.iload_n 2, 1) := by decide +kernel
theorem dX12_alloc_50 : decode cX12_alloc 50 = .ok (.invokevirtual 531, 3) := by decide +kernel
theorem dX12_alloc_53 : decode cX12_alloc 53 = .ok (.iload_n 3, 1) := by decide +kernel
theorem dX12_alloc_54 : decode cX12_alloc 54 = .ok (.ireturn, 1) := by decide +kernel
theorem dX12_free_0 : decode cX12_free 0 = .ok (.aload_n 0, 1) := by decide +kernel
theorem dX12_free_1 : decode cX12_free 1 = .ok (.iload_n 1, 1) := by decide +kernel
theorem dX12_free_2 : decode cX12_free 2 = .ok (.i2l, 1) := by decide +kernel
theorem dX12_free_3 : decode cX12_free 3 = .ok (.invokevirtual 418, 3) := by decide +kernel
theorem dX12_free_6 : decode cX12_free 6 = .ok (.ifCond .eq 11, 3) := by decide +kernel
theorem dX12_free_9 : decode cX12_free 9 = .ok (.aload_n 0, 1) := by decide +kernel
theorem dX12_free_10 : decode cX12_free 10 = .ok (.iload_n 1, 1) := by decide +kernel
theorem dX12_free_11 : decode cX12_free 11 = .ok (.invokevirtual 534, 3) := by decide +kernel
theorem dX12_free_14 : decode cX12_free 14 = .ok (.goto 4, 3) := by decide +kernel
theorem dX12_free_17 : decode cX12_free 17 = .ok (.iconst (-1), 1) := by decide +kernel
theorem dX12_free_18 : decode cX12_free 18 = .ok (.istore_n 2, 1) := by decide +kernel
theorem dX12_free_19 : decode cX12_free 19 = .ok (.iload_n 2, 1) := by decide +kernel
theorem dX12_free_20 : decode cX12_free 20 = .ok (.iconst (-1), 1) := by decide +kernel
theorem dX12_free_21 : decode cX12_free 21 = .ok (.if_icmp .ne 9, 3) := by decide +kernel
theorem dX12_free_24 : decode cX12_free 24 = .ok (.aload_n 0, 1) := by decide +kernel
theorem dX12_free_25 : decode cX12_free 25 = .ok (.iconst 2, 1) := by decide +kernel
theorem dX12_free_26 : decode cX12_free 26 = .ok (.invokevirtual 345, 3) := by decide +kernel
theorem dX12_free_29 : decode cX12_free 29 = .ok (.ireturn, 1) := by decide +kernel
theorem dX12_free_30 : decode cX12_free 30 = .ok (.aload_n 0, 1) := by decide +kernel
theorem dX12_free_31 : decode cX12_free 31 = .ok (.iload_n 2, 1) := by decide +kernel
theorem dX12_free_32 : decode cX12_free 32 = .ok (.iconst 1, 1) := by decide +kernel
theorem dX12_free_33 : decode cX12_free 33 = .ok (.invokevirtual 428, 3) := by decide +kernel
theorem dX12_free_36 : decode cX12_free 36 = .ok (.istore_n 3, 1) := by decide +kernel
theorem dX12_free_37 : decode cX12_free 37 = .ok (.aload_n 0, 1) := by decide +kernel
theorem dX12_free_38 : decode cX12_free 38 = .ok (.invokevirtual 528, 3) := by decide +kernel
theorem dX12_free_41 : decode cX12_free 41 = .ok (.aload_n 0, 1) := by decide +kernel
theorem dX12_free_42 : decode cX12_free 42 = .ok (.iload_n 2, 1) := by decide +kernel
theorem dX12_free_43 : decode cX12_free 43 = .ok (.invokevirtual 537, 3) := by decide +kernel
theorem dX12_free_46 : decode cX12_free 46 = .ok (.iload_n 3, 1) := by decide +kernel
theorem dX12_free_47 : decode cX12_free 47 = .ok (.ireturn, 1) := by decide +kernel
theorem dX12_copies_0 : decode cX12_copies 0 = .ok (.iconst 0, 1) := by decide +kernel
theorem dX12_copies_1 : decode cX12_copies 1 = .ok (.istore_n 3, 1) := by decide +kernel
theorem dX12_copies_2 : decode cX12_copies 2 = .ok (.iload_n 3, 1) := by decide +kernel
theorem dX12_copies_3 : decode cX12_copies 3 = .ok (.bipush 8, 2) := by decide +kernel
theorem dX12_copies_5 : decode cX12_copies 5 = .ok (.if_icmp .ge 25, 3) := by decide +kernel
theorem dX12_copies_8 : decode cX12_copies 8 = .ok (.aload_n 0, 1) := by decide +kernel
theorem dX12_copies_9 : decode cX12_copies 9 = .ok (.getfield 115, 3) := by decide +kernel
theorem dX12_copies_12 : decode cX12_copies 12 = .ok (.iload_n 2, 1) := by decide +kernel
theorem dX12_copies_13 : decode cX12_copies 13 = .ok (.iload_n 3, 1) := by decide +kernel
theorem dX12_copies_14 : decode cX12_copies 14 = .ok (.iadd, 1) := by decide +kernel
theorem dX12_copies_15 : decode cX12_copies 15 = .ok (.aload_n 0, 1) := by decide +kernel
theorem dX12_copies_16 : decode cX12_copies 16 = .ok (.getfield 115, 3) := by decide +kernel
theorem dX12_copies_19 : decode cX12_copies 19 = .ok (.iload_n 1, 1) := by decide +kernel
theorem dX12_copies_20 : decode cX12_copies 20 = .ok (.iload_n 3, 1) := by decide +kernel
theorem dX12_copies_21 : decode cX12_copies 21 = .ok (.iadd, 1) := by decide +kernel
theorem dX12_copies_22 : decode cX12_copies 22 = .ok (.iaload, 1) := by decide +kernel
theorem dX12_copies_23 : decode cX12_copies 23 = .ok (.iastore, 1) := by decide +kernel
theorem dX12_copies_24 : decode cX12_copies 24 = .ok (.iinc 3 1, 3) := by decide +kernel
theorem dX12_copies_27 : decode cX12_copies 27 = .ok (.goto (-25), 3) := by decide +kernel
theorem dX12_copies_30 : decode cX12_copies 30 = .ok (.return_, 1) := by decide +kernel
theorem dX12_copy_0 : decode cX12_copy 0 = .ok (.aload_n 0, 1) := by decide +kernel
theorem dX12_copy_1 : decode cX12_copy 1 = .ok (.iload_n 1, 1) := by decide +kernel
theorem dX12_copy_2 : decode cX12_copy 2 = .ok (.i2l, 1) := by decide +kernel
theorem dX12_copy_3 : decode cX12_copy 3 = .ok (.invokevirtual 418, 3) := by decide +kernel
theorem dX12_copy_6 : decode cX12_copy 6 = .ok (.ifCond .eq 17, 3) := by decide +kernel
theorem dX12_copy_9 : decode cX12_copy 9 = .ok (.aload_n 0, 1) := by decide +kernel
theorem dX12_copy_10 : decode cX12_copy 10 = .ok (.iload_n 2, 1) := by decide +kernel
theorem dX12_copy_11 : decode cX12_copy 11 = .ok (.i2l, 1) := by decide +kernel
theorem dX12_copy_12 : decode cX12_copy 12 = .ok (.invokevirtual 418, 3) := by decide +kernel
theorem dX12_copy_15 : decode cX12_copy 15 = .ok (.ifCond .eq 8, 3) := by decide +kernel
theorem dX12_copy_18 : decode cX12_copy 18 = .ok (.iload_n 1, 1) := by decide +kernel
theorem dX12_copy_19 : decode cX12_copy 19 = .ok (.iload_n 2, 1) := by decide +kernel
theorem dX12_copy_20 : decode cX12_copy 20 = .ok (.if_icmp .ne 9, 3) := by decide +kernel
theorem dX12_copy_23 : decode cX12_copy 23 = .ok (.aload_n 0, 1) := by decide +kernel
theorem dX12_copy_24 : decode cX12_copy 24 = .ok (.iconst 3, 1) := by decide +kernel
theorem dX12_copy_25 : decode cX12_copy 25 = .ok (.invokevirtual 540, 3) := by decide +kernel
theorem dX12_copy_28 : decode cX12_copy 28 = .ok (.ireturn, 1) := by decide +kernel
theorem dX12_copy_29 : decode cX12_copy 29 = .ok (.aload_n 0, 1) := by decide +kernel
theorem dX12_copy_30 : decode cX12_copy 30 = .ok (.invokevirtual 528, 3) := by decide +kernel
theorem dX12_copy_33 : decode cX12_copy 33 = .ok (.aload_n 0, 1) := by decide +kernel
theorem dX12_copy_34 : decode cX12_copy 34 = .ok (.bipush 8, 2) := by decide +kernel
theorem dX12_copy_36 : decode cX12_copy 36 = .ok (.iload_n 1, 1) := by decide +kernel
theorem dX12_copy_37 : decode cX12_copy 37 = .ok (.imul, 1) := by decide +kernel
theorem dX12_copy_38 : decode cX12_copy 38 = .ok (.bipush 8, 2) := by decide +kernel
theorem dX12_copy_40 : decode cX12_copy 40 = .ok (.iload_n 2, 1) := by decide +kernel
theorem dX12_copy_41 : decode cX12_copy 41 = .ok (.imul, 1) := by decide +kernel
theorem dX12_copy_42 : decode cX12_copy 42 = .ok (.invokevirtual 543, 3) := by decide +kernel
theorem dX12_copy_45 : decode cX12_copy 45 = .ok (.iconst 1, 1) := by decide +kernel
theorem dX12_copy_46 : decode cX12_copy 46 = .ok (.ireturn, 1) := by decide +kernel
theorem dX12_move_0 : decode cX12_move 0 = .ok (.aload_n 0, 1) := by decide +kernel
theorem dX12_move_1 : decode cX12_move 1 = .ok (.iload_n 1, 1) := by decide +kernel
theorem dX12_move_2 : decode cX12_move 2 = .ok (.i2l, 1) := by decide +kernel
theorem dX12_move_3 : decode cX12_move 3 = .ok (.invokevirtual 418, 3) := by decide +kernel
theorem dX12_move_6 : decode cX12_move 6 = .ok (.ifCond .eq 32, 3) := by decide +kernel
theorem dX12_move_9 : decode cX12_move 9 = .ok (.aload_n 0, 1) := by decide +kernel
theorem dX12_move_10 : decode cX12_move 10 = .ok (.getfield 115, 3) := by decide +kernel
theorem dX12_move_13 : decode cX12_move 13 = .ok (.bipush 8, 2) := by decide +kernel
theorem dX12_move_15 : decode cX12_move 15 = .ok (.iload_n 1, 1) := by decide +kernel
theorem dX12_move_16 : decode cX12_move 16 = .ok (.imul, 1) := by decide +kernel
theorem dX12_move_17 : decode cX12_move 17 = .ok (.bipush 6, 2) := by decide +kernel
theorem dX12_move_19 : decode cX12_move 19 = .ok (.iadd, 1) := by decide +kernel
theorem dX12_move_20 : decode cX12_move 20 = .ok (.iaload, 1) := by decide +kernel
theorem dX12_move_21 : decode cX12_move 21 = .ok (.ifCond .ne 17, 3) := by decide +kernel
theorem dX12_move_24 : decode cX12_move 24 = .ok (.iload_n 2, 1) := by decide +kernel
theorem dX12_move_25 : decode cX12_move 25 = .ok (.i2l, 1) := by decide +kernel
theorem dX12_move_26 : decode cX12_move 26 = .ok (.ldc2_w 494, 3) := by decide +kernel
theorem dX12_move_29 : decode cX12_move 29 = .ok (.ldc2_w 496, 3) := by decide +kernel
theorem dX12_move_32 : decode cX12_move 32 = .ok (.invokestatic 268, 3) := by decide +kernel
theorem dX12_move_35 : decode cX12_move 35 = .ok (.ifCond .ne 9, 3) := by decide +kernel
theorem dX12_move_38 : decode cX12_move 38 = .ok (.aload_n 0, 1) := by decide +kernel
theorem dX12_move_39 : decode cX12_move 39 = .ok (.iconst 3, 1) := by decide +kernel
theorem dX12_move_40 : decode cX12_move 40 = .ok (.invokevirtual 540, 3) := by decide +kernel
theorem dX12_move_43 : decode cX12_move 43 = .ok (.ireturn, 1) := by decide +kernel
theorem dX12_move_44 : decode cX12_move 44 = .ok (.aload_n 0, 1) := by decide +kernel
theorem dX12_move_45 : decode cX12_move 45 = .ok (.invokevirtual 528, 3) := by decide +kernel
theorem dX12_move_48 : decode cX12_move 48 = .ok (.bipush 8, 2) := by decide +kernel
theorem dX12_move_50 : decode cX12_move 50 = .ok (.iload_n 1, 1) := by decide +kernel
theorem dX12_move_51 : decode cX12_move 51 = .ok (.imul, 1) := by decide +kernel
theorem dX12_move_52 : decode cX12_move 52 = .ok (.istore_n 3, 1) := by decide +kernel
theorem dX12_move_53 : decode cX12_move 53 = .ok (.aload_n 0, 1) := by decide +kernel
theorem dX12_move_54 : decode cX12_move 54 = .ok (.iload_n 3, 1) := by decide +kernel
theorem dX12_move_55 : decode cX12_move 55 = .ok (.iload_n 2, 1) := by decide +kernel
theorem dX12_move_56 : decode cX12_move 56 = .ok (.invokevirtual 498, 3) := by decide +kernel
theorem dX12_move_59 : decode cX12_move 59 = .ok (.istore 4, 2) := by decide +kernel
theorem dX12_move_61 : decode cX12_move 61 = .ok (.aload_n 0, 1) := by decide +kernel
theorem dX12_move_62 : decode cX12_move 62 = .ok (.getfield 115, 3) := by decide +kernel
theorem dX12_move_65 : decode cX12_move 65 = .ok (.iload_n 3, 1) := by decide +kernel
theorem dX12_move_66 : decode cX12_move 66 = .ok (.iconst 1, 1) := by decide +kernel
theorem dX12_move_67 : decode cX12_move 67 = .ok (.iadd, 1) := by decide +kernel
theorem dX12_move_68 : decode cX12_move 68 = .ok (.aload_n 0, 1) := by decide +kernel
theorem dX12_move_69 : decode cX12_move 69 = .ok (.getfield 115, 3) := by decide +kernel
theorem dX12_move_72 : decode cX12_move 72 = .ok (.iload_n 3, 1) := by decide +kernel
theorem dX12_move_73 : decode cX12_move 73 = .ok (.iconst 1, 1) := by decide +kernel
theorem dX12_move_74 : decode cX12_move 74 = .ok (.iadd, 1) := by decide +kernel
theorem dX12_move_75 : decode cX12_move 75 = .ok (.iaload, 1) := by decide +kernel
theorem dX12_move_76 : decode cX12_move 76 = .ok (.iload_n 2, 1) := by decide +kernel
theorem dX12_move_77 : decode cX12_move 77 = .ok (.iadd, 1) := by decide +kernel
theorem dX12_move_78 : decode cX12_move 78 = .ok (.sipush 4095, 3) := by decide +kernel
theorem dX12_move_81 : decode cX12_move 81 = .ok (.iand, 1) := by decide +kernel
theorem dX12_move_82 : decode cX12_move 82 = .ok (.iastore, 1) := by decide +kernel
theorem dX12_move_83 : decode cX12_move 83 = .ok (.iload 4, 2) := by decide +kernel
theorem dX12_move_85 : decode cX12_move 85 = .ok (.ifCond .ne 34, 3) := by decide +kernel
theorem dX12_move_88 : decode cX12_move 88 = .ok (.aload_n 0, 1) := by decide +kernel
theorem dX12_move_89 : decode cX12_move 89 = .ok (.getfield 115, 3) := by decide +kernel
theorem dX12_move_92 : decode cX12_move 92 = .ok (.iload_n 3, 1) := by decide +kernel
theorem dX12_move_93 : decode cX12_move 93 = .ok (.iaload, 1) := by decide +kernel
theorem dX12_move_94 : decode cX12_move 94 = .ok (.iconst 1, 1) := by decide +kernel
theorem dX12_move_95 : decode cX12_move 95 = .ok (.if_icmp .ne 24, 3) := by decide +kernel
theorem dX12_move_98 : decode cX12_move 98 = .ok (.aload_n 0, 1) := by decide +kernel
theorem dX12_move_99 : decode cX12_move 99 = .ok (.getfield 115, 3) := by decide +kernel
theorem dX12_move_102 : decode cX12_move 102 = .ok (.iload_n 3, 1) := by decide +kernel
theorem dX12_move_103 : decode cX12_move 103 = .ok (.iconst 0, 1) := by decide +kernel
theorem dX12_move_104 : decode cX12_move 104 = .ok (.iastore, 1) := by decide +kernel
theorem dX12_move_105 : decode cX12_move 105 = .ok (.aload_n 0, 1) := by decide +kernel
theorem dX12_move_106 : decode cX12_move 106 = .ok (.iconst 2, 1) := by decide +kernel
theorem dX12_move_107 : decode cX12_move 107 = .ok (.iload_n 1, 1) := by decide +kernel
theorem dX12_move_108 : decode cX12_move 108 = .ok (.aload_n 0, 1) := by decide +kernel
theorem dX12_move_109 : decode cX12_move 109 = .ok (.getfield 115, 3) := by decide +kernel
theorem dX12_move_112 : decode cX12_move 112 = .ok (.iload_n 3, 1) := by decide +kernel
theorem dX12_move_113 : decode cX12_move 113 = .ok (.iconst 1, 1) := by decide +kernel
theorem dX12_move_114 : decode cX12_move 114 = .ok (.iadd, 1) := by decide +kernel
theorem dX12_move_115 : decode cX12_move 115 = .ok (.iaload, 1) := by decide +kernel
theorem dX12_move_116 : decode cX12_move 116 = .ok (.invokevirtual 457, 3) := by decide +kernel
theorem dX12_move_119 : decode cX12_move 119 = .ok (.aload_n 0, 1) := by decide +kernel
theorem dX12_move_120 : decode cX12_move 120 = .ok (.getfield 115, 3) := by decide +kernel
theorem dX12_move_123 : decode cX12_move 123 = .ok (.iload_n 3, 1) := by decide +kernel
theorem dX12_move_124 : decode cX12_move 124 = .ok (.iaload, 1) := by decide +kernel
theorem dX12_move_125 : decode cX12_move 125 = .ok (.iconst 1, 1) := by decide +kernel
theorem dX12_move_126 : decode cX12_move 126 = .ok (.if_icmp .ne 7, 3) := by decide +kernel
theorem dX12_move_129 : decode cX12_move 129 = .ok (.iconst 1, 1) := by decide +kernel
theorem dX12_move_130 : decode cX12_move 130 = .ok (.goto 4, 3) := by decide +kernel
theorem dX12_move_133 : decode cX12_move 133 = .ok (.iconst 0, 1) := by decide +kernel
theorem dX12_move_134 : decode cX12_move 134 = .ok (.ireturn, 1) := by decide +kernel
theorem dX12_narrow_0 : decode cX12_narrow 0 = .ok (.aload_n 0, 1) := by decide +kernel
theorem dX12_narrow_1 : decode cX12_narrow 1 = .ok (.iload_n 1, 1) := by decide +kernel
theorem dX12_narrow_2 : decode cX12_narrow 2 = .ok (.invokevirtual 460, 3) := by decide +kernel
theorem dX12_narrow_5 : decode cX12_narrow 5 = .ok (.ifCond .eq 31, 3) := by decide +kernel
theorem dX12_narrow_8 : decode cX12_narrow 8 = .ok (.aload_n 0, 1) := by decide +kernel
theorem dX12_narrow_9 : decode cX12_narrow 9 = .ok (.iload_n 2, 1) := by decide +kernel
theorem dX12_narrow_10 : decode cX12_narrow 10 = .ok (.i2l, 1) := by decide +kernel
theorem dX12_narrow_11 : decode cX12_narrow 11 = .ok (.invokevirtual 418, 3) := by decide +kernel
theorem dX12_narrow_14 : decode cX12_narrow 14 = .ok (.ifCond .eq 22, 3) := by decide +kernel
theorem dX12_narrow_17 : decode cX12_narrow 17 = .ok (.aload_n 0, 1) := by decide +kernel
theorem dX12_narrow_18 : decode cX12_narrow 18 = .ok (.aload_n 0, 1) := by decide +kernel
theorem dX12_narrow_19 : decode cX12_narrow 19 = .ok (.getfield 115, 3) := by decide +kernel
theorem dX12_narrow_22 : decode cX12_narrow 22 = .ok (.bipush 8, 2) := by decide +kernel
theorem dX12_narrow_24 : decode cX12_narrow 24 = .ok (.iload_n 1, 1) := by decide +kernel
theorem dX12_narrow_25 : decode cX12_narrow 25 = .ok (.imul, 1) := by decide +kernel
theorem dX12_narrow_26 : decode cX12_narrow 26 = .ok (.iconst 1, 1) := by decide +kernel
theorem dX12_narrow_27 : decode cX12_narrow 27 = .ok (.iadd, 1) := by decide +kernel
theorem dX12_narrow_28 : decode cX12_narrow 28 = .ok (.iaload, 1) := by decide +kernel
theorem dX12_narrow_29 : decode cX12_narrow 29 = .ok (.iload_n 3, 1) := by decide +kernel
theorem dX12_narrow_30 : decode cX12_narrow 30 = .ok (.invokevirtual 487, 3) := by decide +kernel
theorem dX12_narrow_33 : decode cX12_narrow 33 = .ok (.ifCond .ne 9, 3) := by decide +kernel
theorem dX12_narrow_36 : decode cX12_narrow 36 = .ok (.aload_n 0, 1) := by decide +kernel
theorem dX12_narrow_37 : decode cX12_narrow 37 = .ok (.iconst 3, 1) := by decide +kernel
theorem dX12_narrow_38 : decode cX12_narrow 38 = .ok (.invokevirtual 345, 3) := by decide +kernel
theorem dX12_narrow_41 : decode cX12_narrow 41 = .ok (.ireturn, 1) := by decide +kernel
theorem dX12_narrow_42 : decode cX12_narrow 42 = .ok (.bipush 8, 2) := by decide +kernel
theorem dX12_narrow_44 : decode cX12_narrow 44 = .ok (.iload_n 1, 1) := by decide +kernel
theorem dX12_narrow_45 : decode cX12_narrow 45 = .ok (.imul, 1) := by decide +kernel
theorem dX12_narrow_46 : decode cX12_narrow 46 = .ok (.istore 4, 2) := by decide +kernel
theorem dX12_narrow_48 : decode cX12_narrow 48 = .ok (.aload_n 0, 1) := by decide +kernel
theorem dX12_narrow_49 : decode cX12_narrow 49 = .ok (.iload 4, 2) := by decide +kernel
theorem dX12_narrow_51 : decode cX12_narrow 51 = .ok (.invokevirtual 412, 3) := by decide +kernel
theorem dX12_narrow_54 : decode cX12_narrow 54 = .ok (.istore 5, 2) := by decide +kernel
theorem dX12_narrow_56 : decode cX12_narrow 56 = .ok (.aload_n 0, 1) := by decide +kernel
theorem dX12_narrow_57 : decode cX12_narrow 57 = .ok (.aload_n 0, 1) := by decide +kernel
theorem dX12_narrow_58 : decode cX12_narrow 58 = .ok (.getfield 115, 3) := by decide +kernel
theorem dX12_narrow_61 : decode cX12_narrow 61 = .ok (.iload 4, 2) := by decide +kernel
theorem dX12_narrow_63 : decode cX12_narrow 63 = .ok (.iconst 1, 1) := by decide +kernel
theorem dX12_narrow_64 : decode cX12_narrow 64 = .ok (.iadd, 1) := by decide +kernel
theorem dX12_narrow_65 : decode cX12_narrow 65 = .ok (.iaload, 1) := by decide +kernel
theorem dX12_narrow_66 : decode cX12_narrow 66 = .ok (.iload_n 3, 1) := by decide +kernel
theorem dX12_narrow_67 : decode cX12_narrow 67 = .ok (.invokevirtual 356, 3) := by decide +kernel
theorem dX12_narrow_70 : decode cX12_narrow 70 = .ok (.aload_n 0, 1) := by decide +kernel
theorem dX12_narrow_71 : decode cX12_narrow 71 = .ok (.getfield 390, 3) := by decide +kernel
theorem dX12_narrow_74 : decode cX12_narrow 74 = .ok (.iload 5, 2) := by decide +kernel
theorem dX12_narrow_76 : decode cX12_narrow 76 = .ok (.if_icmp .lt 19, 3) := by decide +kernel
theorem dX12_narrow_79 : decode cX12_narrow 79 = .ok (.aload_n 0, 1) := by decide +kernel
theorem dX12_narrow_80 : decode cX12_narrow 80 = .ok (.getfield 393, 3) := by decide +kernel
theorem dX12_narrow_83 : decode cX12_narrow 83 = .ok (.iload 5, 2) := by decide +kernel
theorem dX12_narrow_85 : decode cX12_narrow 85 = .ok (.aload_n 0, 1) := by decide +kernel
theorem dX12_narrow_86 : decode cX12_narrow 86 = .ok (.iload 4, 2) := by decide +kernel
theorem dX12_narrow_88 : decode cX12_narrow 88 = .ok (.invokevirtual 415, 3) := by decide +kernel
theorem dX12_narrow_91 : decode cX12_narrow 91 = .ok (.iadd, 1) := by decide +kernel
theorem dX12_narrow_92 : decode cX12_narrow 92 = .ok (.if_icmp .le 9, 3) := by decide +kernel
theorem dX12_narrow_95 : decode cX12_narrow 95 = .ok (.aload_n 0, 1) := by decide +kernel
theorem dX12_narrow_96 : decode cX12_narrow 96 = .ok (.iconst 3, 1) := by decide +kernel
theorem dX12_narrow_97 : decode cX12_narrow 97 = .ok (.invokevirtual 345, 3) := by decide +kernel
theorem dX12_narrow_100 : decode cX12_narrow 100 = .ok (.ireturn, 1) := by decide +kernel
theorem dX12_narrow_101 : decode cX12_narrow 101 = .ok (.aload_n 0, 1) := by decide +kernel
theorem dX12_narrow_102 : decode cX12_narrow 102 = .ok (.invokevirtual 528, 3) := by decide +kernel
theorem dX12_narrow_105 : decode cX12_narrow 105 = .ok (.aload_n 0, 1) := by decide +kernel
theorem dX12_narrow_106 : decode cX12_narrow 106 = .ok (.iload 4, 2) := by decide +kernel
theorem dX12_narrow_108 : decode cX12_narrow 108 = .ok (.bipush 8, 2) := by decide +kernel
theorem dX12_narrow_110 : decode cX12_narrow 110 = .ok (.iload_n 2, 1) := by decide +kernel
theorem dX12_narrow_111 : decode cX12_narrow 111 = .ok (.imul, 1) := by decide +kernel
theorem dX12_narrow_112 : decode cX12_narrow 112 = .ok (.invokevirtual 543, 3) := by decide +kernel
theorem dX12_narrow_115 : decode cX12_narrow 115 = .ok (.aload_n 0, 1) := by decide +kernel
theorem dX12_narrow_116 : decode cX12_narrow 116 = .ok (.bipush 8, 2) := by decide +kernel
theorem dX12_narrow_118 : decode cX12_narrow 118 = .ok (.iload_n 2, 1) := by decide +kernel
theorem dX12_narrow_119 : decode cX12_narrow 119 = .ok (.imul, 1) := by decide +kernel
theorem dX12_narrow_120 : decode cX12_narrow 120 = .ok (.invokevirtual 359, 3) := by decide +kernel
theorem dX12_narrow_123 : decode cX12_narrow 123 = .ok (.aload_n 0, 1) := by decide +kernel
theorem dX12_narrow_124 : decode cX12_narrow 124 = .ok (.getfield 393, 3) := by decide +kernel
theorem dX12_narrow_127 : decode cX12_narrow 127 = .ok (.aload_n 0, 1) := by decide +kernel
theorem dX12_narrow_128 : decode cX12_narrow 128 = .ok (.getfield 390, 3) := by decide +kernel
theorem dX12_narrow_131 : decode cX12_narrow 131 = .ok (.isub, 1) := by decide +kernel
theorem dX12_narrow_132 : decode cX12_narrow 132 = .ok (.ireturn, 1) := by decide +kernel
theorem dX12_limit_0 : decode cX12_limit 0 = .ok (.aload_n 0, 1) := by decide +kernel
theorem dX12_limit_1 : decode cX12_limit 1 = .ok (.iload_n 1, 1) := by decide +kernel
theorem dX12_limit_2 : decode cX12_limit 2 = .ok (.i2l, 1) := by decide +kernel
theorem dX12_limit_3 : decode cX12_limit 3 = .ok (.invokevirtual 418, 3) := by decide +kernel
theorem dX12_limit_6 : decode cX12_limit 6 = .ok (.ifCond .eq 30, 3) := by decide +kernel
theorem dX12_limit_9 : decode cX12_limit 9 = .ok (.aload_n 0, 1) := by decide +kernel
theorem dX12_limit_10 : decode cX12_limit 10 = .ok (.getfield 115, 3) := by decide +kernel
theorem dX12_limit_13 : decode cX12_limit 13 = .ok (.bipush 8, 2) := by decide +kernel
theorem dX12_limit_15 : decode cX12_limit 15 = .ok (.iload_n 1, 1) := by decide +kernel
theorem dX12_limit_16 : decode cX12_limit 16 = .ok (.imul, 1) := by decide +kernel
theorem dX12_limit_17 : decode cX12_limit 17 = .ok (.bipush 6, 2) := by decide +kernel
theorem dX12_limit_19 : decode cX12_limit 19 = .ok (.iadd, 1) := by decide +kernel
theorem dX12_limit_20 : decode cX12_limit 20 = .ok (.iaload, 1) := by decide +kernel
theorem dX12_limit_21 : decode cX12_limit 21 = .ok (.ifCond .ne 15, 3) := by decide +kernel
theorem dX12_limit_24 : decode cX12_limit 24 = .ok (.iload_n 2, 1) := by decide +kernel
theorem dX12_limit_25 : decode cX12_limit 25 = .ok (.i2l, 1) := by decide +kernel
theorem dX12_limit_26 : decode cX12_limit 26 = .ok (.lconst 0, 1) := by decide +kernel
theorem dX12_limit_27 : decode cX12_limit 27 = .ok (.ldc2_w 546, 3) := by decide +kernel
theorem dX12_limit_30 : decode cX12_limit 30 = .ok (.invokestatic 268, 3) := by decide +kernel
theorem dX12_limit_33 : decode cX12_limit 33 = .ok (.ifCond .ne 9, 3) := by decide +kernel
theorem dX12_limit_36 : decode cX12_limit 36 = .ok (.aload_n 0, 1) := by decide +kernel
theorem dX12_limit_37 : decode cX12_limit 37 = .ok (.iconst 3, 1) := by decide +kernel
theorem dX12_limit_38 : decode cX12_limit 38 = .ok (.invokevirtual 345, 3) := by decide +kernel
theorem dX12_limit_41 : decode cX12_limit 41 = .ok (.ireturn, 1) := by decide +kernel
theorem dX12_limit_42 : decode cX12_limit 42 = .ok (.aload_n 0, 1) := by decide +kernel
theorem dX12_limit_43 : decode cX12_limit 43 = .ok (.invokevirtual 528, 3) := by decide +kernel
theorem dX12_limit_46 : decode cX12_limit 46 = .ok (.aload_n 0, 1) := by decide +kernel
theorem dX12_limit_47 : decode cX12_limit 47 = .ok (.getfield 115, 3) := by decide +kernel
theorem dX12_limit_50 : decode cX12_limit 50 = .ok (.bipush 8, 2) := by decide +kernel
theorem dX12_limit_52 : decode cX12_limit 52 = .ok (.iload_n 1, 1) := by decide +kernel
theorem dX12_limit_53 : decode cX12_limit 53 = .ok (.imul, 1) := by decide +kernel
theorem dX12_limit_54 : decode cX12_limit 54 = .ok (.iconst 5, 1) := by decide +kernel
theorem dX12_limit_55 : decode cX12_limit 55 = .ok (.iadd, 1) := by decide +kernel
theorem dX12_limit_56 : decode cX12_limit 56 = .ok (.dup2, 1) := by decide +kernel
theorem dX12_limit_57 : decode cX12_limit 57 = .ok (.iaload, 1) := by decide +kernel
theorem dX12_limit_58 : decode cX12_limit 58 = .ok (.iload_n 2, 1) := by decide +kernel
theorem dX12_limit_59 : decode cX12_limit 59 = .ok (.iand, 1) := by decide +kernel
theorem dX12_limit_60 : decode cX12_limit 60 = .ok (.iastore, 1) := by decide +kernel
theorem dX12_limit_61 : decode cX12_limit 61 = .ok (.aload_n 0, 1) := by decide +kernel
theorem dX12_limit_62 : decode cX12_limit 62 = .ok (.getfield 115, 3) := by decide +kernel
theorem dX12_limit_65 : decode cX12_limit 65 = .ok (.bipush 8, 2) := by decide +kernel
theorem dX12_limit_67 : decode cX12_limit 67 = .ok (.iload_n 1, 1) := by decide +kernel
theorem dX12_limit_68 : decode cX12_limit 68 = .ok (.imul, 1) := by decide +kernel
theorem dX12_limit_69 : decode cX12_limit 69 = .ok (.iconst 5, 1) := by decide +kernel
theorem dX12_limit_70 : decode cX12_limit 70 = .ok (.iadd, 1) := by decide +kernel
theorem dX12_limit_71 : decode cX12_limit 71 = .ok (.iaload, 1) := by decide +kernel
theorem dX12_limit_72 : decode cX12_limit 72 = .ok (.ireturn, 1) := by decide +kernel
theorem dX12_kindBy_0 : decode cX12_kindBy 0 = .ok (.aload_n 0, 1) := by decide +kernel
theorem dX12_kindBy_1 : decode cX12_kindBy 1 = .ok (.iload_n 1, 1) := by decide +kernel
theorem dX12_kindBy_2 : decode cX12_kindBy 2 = .ok (.invokevirtual 460, 3) := by decide +kernel
theorem dX12_kindBy_5 : decode cX12_kindBy 5 = .ok (.ifCond .eq 19, 3) := by decide +kernel
theorem dX12_kindBy_8 : decode cX12_kindBy 8 = .ok (.aload_n 0, 1) := by decide +kernel
theorem dX12_kindBy_9 : decode cX12_kindBy 9 = .ok (.getfield 115, 3) := by decide +kernel
theorem dX12_kindBy_12 : decode cX12_kindBy 12 = .ok (.bipush 8, 2) := by decide +kernel
theorem dX12_kindBy_14 : decode cX12_kindBy 14 = .ok (.iload_n 1, 1) := by decide +kernel
theorem dX12_kindBy_15 : decode cX12_kindBy 15 = .ok (.imul, 1) := by decide +kernel
theorem dX12_kindBy_16 : decode cX12_kindBy 16 = .ok (.iconst 5, 1) := by decide +kernel
theorem dX12_kindBy_17 : decode cX12_kindBy 17 = .ok (.iadd, 1) := by decide +kernel
theorem dX12_kindBy_18 : decode cX12_kindBy 18 = .ok (.iaload, 1) := by decide +kernel
theorem dX12_kindBy_19 : decode cX12_kindBy 19 = .ok (.iconst 4, 1) := by decide +kernel
theorem dX12_kindBy_20 : decode cX12_kindBy 20 = .ok (.iand, 1) := by decide +kernel
theorem dX12_kindBy_21 : decode cX12_kindBy 21 = .ok (.ifCond .ne 5, 3) := by decide +kernel
theorem dX12_kindBy_24 : decode cX12_kindBy 24 = .ok (.iconst (-1), 1) := by decide +kernel
theorem dX12_kindBy_25 : decode cX12_kindBy 25 = .ok (.ireturn, 1) := by decide +kernel
theorem dX12_kindBy_26 : decode cX12_kindBy 26 = .ok (.aload_n 0, 1) := by decide +kernel
theorem dX12_kindBy_27 : decode cX12_kindBy 27 = .ok (.getfield 115, 3) := by decide +kernel
theorem dX12_kindBy_30 : decode cX12_kindBy 30 = .ok (.bipush 8, 2) := by decide +kernel
theorem dX12_kindBy_32 : decode cX12_kindBy 32 = .ok (.iload_n 1, 1) := by decide +kernel
theorem dX12_kindBy_33 : decode cX12_kindBy 33 = .ok (.imul, 1) := by decide +kernel
theorem dX12_kindBy_34 : decode cX12_kindBy 34 = .ok (.iconst 1, 1) := by decide +kernel
theorem dX12_kindBy_35 : decode cX12_kindBy 35 = .ok (.iadd, 1) := by decide +kernel
theorem dX12_kindBy_36 : decode cX12_kindBy 36 = .ok (.iaload, 1) := by decide +kernel
theorem dX12_kindBy_37 : decode cX12_kindBy 37 = .ok (.istore_n 2, 1) := by decide +kernel
theorem dX12_kindBy_38 : decode cX12_kindBy 38 = .ok (.iload_n 2, 1) := by decide +kernel
theorem dX12_kindBy_39 : decode cX12_kindBy 39 = .ok (.i2l, 1) := by decide +kernel
theorem dX12_kindBy_40 : decode cX12_kindBy 40 = .ok (.lconst 1, 1) := by decide +kernel
theorem dX12_kindBy_41 : decode cX12_kindBy 41 = .ok (.ldc2_w 546, 3) := by decide +kernel
theorem dX12_kindBy_44 : decode cX12_kindBy 44 = .ok (.invokestatic 268, 3) := by decide +kernel
theorem dX12_kindBy_47 : decode cX12_kindBy 47 = .ok (.ifCond .eq 19, 3) := by decide +kernel
theorem dX12_kindBy_50 : decode cX12_kindBy 50 = .ok (.aload_n 0, 1) := by decide +kernel
theorem dX12_kindBy_51 : decode cX12_kindBy 51 = .ok (.bipush 8, 2) := by decide +kernel
theorem dX12_kindBy_53 : decode cX12_kindBy 53 = .ok (.iload_n 1, 1) := by decide +kernel
theorem dX12_kindBy_54 : decode cX12_kindBy 54 = .ok (.imul, 1) := by decide +kernel
theorem dX12_kindBy_55 : decode cX12_kindBy 55 = .ok (.iload_n 2, 1) := by decide +kernel
theorem dX12_kindBy_56 : decode cX12_kindBy 56 = .ok (.invokevirtual 504, 3) := by decide +kernel
theorem dX12_kindBy_59 : decode cX12_kindBy 59 = .ok (.ifCond .eq 7, 3) := by decide +kernel
theorem dX12_kindBy_62 : decode cX12_kindBy 62 = .ok (.iload_n 2, 1) := by decide +kernel
theorem dX12_kindBy_63 : decode cX12_kindBy 63 = .ok (.goto 4, 3) := by decide +kernel
theorem dX12_kindBy_66 : decode cX12_kindBy 66 = .ok (.iconst (-1), 1) := by decide +kernel
theorem dX12_kindBy_67 : decode cX12_kindBy 67 = .ok (.ireturn, 1) := by decide +kernel
theorem dX12_seal_0 : decode cX12_seal 0 = .ok (.aload_n 0, 1) := by decide +kernel
theorem dX12_seal_1 : decode cX12_seal 1 = .ok (.iload_n 2, 1) := by decide +kernel
theorem dX12_seal_2 : decode cX12_seal 2 = .ok (.invokevirtual 548, 3) := by decide +kernel
theorem dX12_seal_5 : decode cX12_seal 5 = .ok (.istore_n 3, 1) := by decide +kernel
theorem dX12_seal_6 : decode cX12_seal 6 = .ok (.aload_n 0, 1) := by decide +kernel
theorem dX12_seal_7 : decode cX12_seal 7 = .ok (.iload_n 1, 1) := by decide +kernel
theorem dX12_seal_8 : decode cX12_seal 8 = .ok (.invokevirtual 460, 3) := by decide +kernel
theorem dX12_seal_11 : decode cX12_seal 11 = .ok (.ifCond .eq 8, 3) := by decide +kernel
theorem dX12_seal_14 : decode cX12_seal 14 = .ok (.iload_n 3, 1) := by decide +kernel
theorem dX12_seal_15 : decode cX12_seal 15 = .ok (.iconst (-1), 1) := by decide +kernel
theorem dX12_seal_16 : decode cX12_seal 16 = .ok (.if_icmp .ne 9, 3) := by decide +kernel
theorem dX12_seal_19 : decode cX12_seal 19 = .ok (.aload_n 0, 1) := by decide +kernel
theorem dX12_seal_20 : decode cX12_seal 20 = .ok (.iconst 4, 1) := by decide +kernel
theorem dX12_seal_21 : decode cX12_seal 21 = .ok (.invokevirtual 345, 3) := by decide +kernel
theorem dX12_seal_24 : decode cX12_seal 24 = .ok (.ireturn, 1) := by decide +kernel
theorem dX12_seal_25 : decode cX12_seal 25 = .ok (.aload_n 0, 1) := by decide +kernel
theorem dX12_seal_26 : decode cX12_seal 26 = .ok (.invokevirtual 528, 3) := by decide +kernel
theorem dX12_seal_29 : decode cX12_seal 29 = .ok (.aload_n 0, 1) := by decide +kernel
theorem dX12_seal_30 : decode cX12_seal 30 = .ok (.getfield 115, 3) := by decide +kernel
theorem dX12_seal_33 : decode cX12_seal 33 = .ok (.bipush 8, 2) := by decide +kernel
theorem dX12_seal_35 : decode cX12_seal 35 = .ok (.iload_n 1, 1) := by decide +kernel
theorem dX12_seal_36 : decode cX12_seal 36 = .ok (.imul, 1) := by decide +kernel
theorem dX12_seal_37 : decode cX12_seal 37 = .ok (.bipush 6, 2) := by decide +kernel
theorem dX12_seal_39 : decode cX12_seal 39 = .ok (.iadd, 1) := by decide +kernel
theorem dX12_seal_40 : decode cX12_seal 40 = .ok (.iload_n 3, 1) := by decide +kernel
theorem dX12_seal_41 : decode cX12_seal 41 = .ok (.iastore, 1) := by decide +kernel
theorem dX12_seal_42 : decode cX12_seal 42 = .ok (.iload_n 3, 1) := by decide +kernel
theorem dX12_seal_43 : decode cX12_seal 43 = .ok (.ireturn, 1) := by decide +kernel
theorem dX12_unseal_0 : decode cX12_unseal 0 = .ok (.aload_n 0, 1) := by decide +kernel
theorem dX12_unseal_1 : decode cX12_unseal 1 = .ok (.iload_n 2, 1) := by decide +kernel
theorem dX12_unseal_2 : decode cX12_unseal 2 = .ok (.invokevirtual 548, 3) := by decide +kernel
theorem dX12_unseal_5 : decode cX12_unseal 5 = .ok (.istore_n 3, 1) := by decide +kernel
theorem dX12_unseal_6 : decode cX12_unseal 6 = .ok (.aload_n 0, 1) := by decide +kernel
theorem dX12_unseal_7 : decode cX12_unseal 7 = .ok (.iload_n 1, 1) := by decide +kernel
theorem dX12_unseal_8 : decode cX12_unseal 8 = .ok (.i2l, 1) := by decide +kernel
theorem dX12_unseal_9 : decode cX12_unseal 9 = .ok (.invokevirtual 418, 3) := by decide +kernel
theorem dX12_unseal_12 : decode cX12_unseal 12 = .ok (.ifCond .eq 37, 3) := by decide +kernel
theorem dX12_unseal_15 : decode cX12_unseal 15 = .ok (.aload_n 0, 1) := by decide +kernel
theorem dX12_unseal_16 : decode cX12_unseal 16 = .ok (.getfield 115, 3) := by decide +kernel
theorem dX12_unseal_19 : decode cX12_unseal 19 = .ok (.bipush 8, 2) := by decide +kernel
theorem dX12_unseal_21 : decode cX12_unseal 21 = .ok (.iload_n 1, 1) := by decide +kernel
theorem dX12_unseal_22 : decode cX12_unseal 22 = .ok (.imul, 1) := by decide +kernel
theorem dX12_unseal_23 : decode cX12_unseal 23 = .ok (.iaload, 1) := by decide +kernel
theorem dX12_unseal_24 : decode cX12_unseal 24 = .ok (.iconst 1, 1) := by decide +kernel
theorem dX12_unseal_25 : decode cX12_unseal 25 = .ok (.if_icmp .ne 24, 3) := by decide +kernel
theorem dX12_unseal_28 : decode cX12_unseal 28 = .ok (.iload_n 3, 1) := by decide +kernel
theorem dX12_unseal_29 : decode cX12_unseal 29 = .ok (.iconst (-1), 1) := by decide +kernel
theorem dX12_unseal_30 : decode cX12_unseal 30 = .ok (.if_icmp .eq 19, 3) := by decide +kernel
theorem dX12_unseal_33 : decode cX12_unseal 33 = .ok (.aload_n 0, 1) := by decide +kernel
theorem dX12_unseal_34 : decode cX12_unseal 34 = .ok (.getfield 115, 3) := by decide +kernel
theorem dX12_unseal_37 : decode cX12_unseal 37 = .ok (.bipush 8, 2) := by decide +kernel
theorem dX12_unseal_39 : decode cX12_unseal 39 = .ok (.iload_n 1, 1) := by decide +kernel
theorem dX12_unseal_40 : decode cX12_unseal 40 = .ok (.imul, 1) := by decide +kernel
theorem dX12_unseal_41 : decode cX12_unseal 41 = .ok (.bipush 6, 2) := by decide +kernel
theorem dX12_unseal_43 : decode cX12_unseal 43 = .ok (.iadd, 1) := by decide +kernel
theorem dX12_unseal_44 : decode cX12_unseal 44 = .ok (.iaload, 1) := by decide +kernel
theorem dX12_unseal_45 : decode cX12_unseal 45 = .ok (.iload_n 3, 1) := by decide +kernel
theorem dX12_unseal_46 : decode cX12_unseal 46 = .ok (.if_icmp .eq 9, 3) := by decide +kernel
theorem dX12_unseal_49 : decode cX12_unseal 49 = .ok (.aload_n 0, 1) := by decide +kernel
theorem dX12_unseal_50 : decode cX12_unseal 50 = .ok (.iconst 4, 1) := by decide +kernel
theorem dX12_unseal_51 : decode cX12_unseal 51 = .ok (.invokevirtual 540, 3) := by decide +kernel
theorem dX12_unseal_54 : decode cX12_unseal 54 = .ok (.ireturn, 1) := by decide +kernel
theorem dX12_unseal_55 : decode cX12_unseal 55 = .ok (.aload_n 0, 1) := by decide +kernel
theorem dX12_unseal_56 : decode cX12_unseal 56 = .ok (.invokevirtual 528, 3) := by decide +kernel
theorem dX12_unseal_59 : decode cX12_unseal 59 = .ok (.aload_n 0, 1) := by decide +kernel
theorem dX12_unseal_60 : decode cX12_unseal 60 = .ok (.getfield 115, 3) := by decide +kernel
theorem dX12_unseal_63 : decode cX12_unseal 63 = .ok (.bipush 8, 2) := by decide +kernel
theorem dX12_unseal_65 : decode cX12_unseal 65 = .ok (.iload_n 1, 1) := by decide +kernel
theorem dX12_unseal_66 : decode cX12_unseal 66 = .ok (.imul, 1) := by decide +kernel
theorem dX12_unseal_67 : decode cX12_unseal 67 = .ok (.bipush 6, 2) := by decide +kernel
theorem dX12_unseal_69 : decode cX12_unseal 69 = .ok (.iadd, 1) := by decide +kernel
theorem dX12_unseal_70 : decode cX12_unseal 70 = .ok (.iconst 0, 1) := by decide +kernel
theorem dX12_unseal_71 : decode cX12_unseal 71 = .ok (.iastore, 1) := by decide +kernel
theorem dX12_unseal_72 : decode cX12_unseal 72 = .ok (.iconst 1, 1) := by decide +kernel
theorem dX12_unseal_73 : decode cX12_unseal 73 = .ok (.ireturn, 1) := by decide +kernel
theorem dX12_canFollow_0 : decode cX12_canFollow 0 = .ok (.aload_n 0, 1) := by decide +kernel
theorem dX12_canFollow_1 : decode cX12_canFollow 1 = .ok (.iload_n 1, 1) := by decide +kernel
theorem dX12_canFollow_2 : decode cX12_canFollow 2 = .ok (.invokevirtual 460, 3) := by decide +kernel
theorem dX12_canFollow_5 : decode cX12_canFollow 5 = .ok (.ifCond .eq 19, 3) := by decide +kernel
theorem dX12_canFollow_8 : decode cX12_canFollow 8 = .ok (.aload_n 0, 1) := by decide +kernel
theorem dX12_canFollow_9 : decode cX12_canFollow 9 = .ok (.getfield 115, 3) := by decide +kernel
theorem dX12_canFollow_12 : decode cX12_canFollow 12 = .ok (.bipush 8, 2) := by decide +kernel
theorem dX12_canFollow_14 : decode cX12_canFollow 14 = .ok (.iload_n 1, 1) := by decide +kernel
theorem dX12_canFollow_15 : decode cX12_canFollow 15 = .ok (.imul, 1) := by decide +kernel
theorem dX12_canFollow_16 : decode cX12_canFollow 16 = .ok (.iconst 5, 1) := by decide +kernel
theorem dX12_canFollow_17 : decode cX12_canFollow 17 = .ok (.iadd, 1) := by decide +kernel
theorem dX12_canFollow_18 : decode cX12_canFollow 18 = .ok (.iaload, 1) := by decide +kernel
theorem dX12_canFollow_19 : decode cX12_canFollow 19 = .ok (.iload_n 2, 1) := by decide +kernel
theorem dX12_canFollow_20 : decode cX12_canFollow 20 = .ok (.iand, 1) := by decide +kernel
theorem dX12_canFollow_21 : decode cX12_canFollow 21 = .ok (.ifCond .ne 5, 3) := by decide +kernel
theorem dX12_canFollow_24 : decode cX12_canFollow 24 = .ok (.iconst 0, 1) := by decide +kernel
theorem dX12_canFollow_25 : decode cX12_canFollow 25 = .ok (.ireturn, 1) := by decide +kernel
theorem dX12_canFollow_26 : decode cX12_canFollow 26 = .ok (.aload_n 0, 1) := by decide +kernel
theorem dX12_canFollow_27 : decode cX12_canFollow 27 = .ok (.getfield 115, 3) := by decide +kernel
theorem dX12_canFollow_30 : decode cX12_canFollow 30 = .ok (.bipush 8, 2) := by decide +kernel
theorem dX12_canFollow_32 : decode cX12_canFollow 32 = .ok (.iload_n 1, 1) := by decide +kernel
theorem dX12_canFollow_33 : decode cX12_canFollow 33 = .ok (.imul, 1) := by decide +kernel
theorem dX12_canFollow_34 : decode cX12_canFollow 34 = .ok (.iconst 1, 1) := by decide +kernel
theorem dX12_canFollow_35 : decode cX12_canFollow 35 = .ok (.iadd, 1) := by decide +kernel
theorem dX12_canFollow_36 : decode cX12_canFollow 36 = .ok (.iaload, 1) := by decide +kernel
theorem dX12_canFollow_37 : decode cX12_canFollow 37 = .ok (.istore_n 3, 1) := by decide +kernel
theorem dX12_canFollow_38 : decode cX12_canFollow 38 = .ok (.iload_n 3, 1) := by decide +kernel
theorem dX12_canFollow_39 : decode cX12_canFollow 39 = .ok (.aload_n 0, 1) := by decide +kernel
theorem dX12_canFollow_40 : decode cX12_canFollow 40 = .ok (.getfield 96, 3) := by decide +kernel
theorem dX12_canFollow_43 : decode cX12_canFollow 43 = .ok (.iconst 3, 1) := by decide +kernel
theorem dX12_canFollow_44 : decode cX12_canFollow 44 = .ok (.iaload, 1) := by decide +kernel
theorem dX12_canFollow_45 : decode cX12_canFollow 45 = .ok (.if_icmp .ge 15, 3) := by decide +kernel
theorem dX12_canFollow_48 : decode cX12_canFollow 48 = .ok (.aload_n 0, 1) := by decide +kernel
theorem dX12_canFollow_49 : decode cX12_canFollow 49 = .ok (.bipush 8, 2) := by decide +kernel
theorem dX12_canFollow_51 : decode cX12_canFollow 51 = .ok (.iload_n 1, 1) := by decide +kernel
theorem dX12_canFollow_52 : decode cX12_canFollow 52 = .ok (.imul, 1) := by decide +kernel
theorem dX12_canFollow_53 : decode cX12_canFollow 53 = .ok (.iload_n 3, 1) := by decide +kernel
theorem dX12_canFollow_54 : decode cX12_canFollow 54 = .ok (.invokevirtual 504, 3) := by decide +kernel
theorem dX12_canFollow_57 : decode cX12_canFollow 57 = .ok (.ifCond .ne 5, 3) := by decide +kernel
theorem dX12_canFollow_60 : decode cX12_canFollow 60 = .ok (.iconst 0, 1) := by decide +kernel
theorem dX12_canFollow_61 : decode cX12_canFollow 61 = .ok (.ireturn, 1) := by decide +kernel
theorem dX12_canFollow_62 : decode cX12_canFollow 62 = .ok (.aload_n 0, 1) := by decide +kernel
theorem dX12_canFollow_63 : decode cX12_canFollow 63 = .ok (.iload_n 1, 1) := by decide +kernel
theorem dX12_canFollow_64 : decode cX12_canFollow 64 = .ok (.putfield 551, 3) := by decide +kernel
theorem dX12_canFollow_67 : decode cX12_canFollow 67 = .ok (.aload_n 0, 1) := by decide +kernel
theorem dX12_canFollow_68 : decode cX12_canFollow 68 = .ok (.iconst 2, 1) := by decide +kernel
theorem dX12_canFollow_69 : decode cX12_canFollow 69 = .ok (.invokevirtual 434, 3) := by decide +kernel
theorem dX12_canFollow_72 : decode cX12_canFollow 72 = .ok (.ifCond .eq 13, 3) := by decide +kernel
theorem dX12_canFollow_75 : decode cX12_canFollow 75 = .ok (.aload_n 0, 1) := by decide +kernel
theorem dX12_canFollow_76 : decode cX12_canFollow 76 = .ok (.iconst 2, 1) := by decide +kernel
theorem dX12_canFollow_77 : decode cX12_canFollow 77 = .ok (.invokevirtual 437, 3) := by decide +kernel
theorem dX12_canFollow_80 : decode cX12_canFollow 80 = .ok (.lconst 1, 1) := by decide +kernel
theorem dX12_canFollow_81 : decode cX12_canFollow 81 = .ok (.lcmp, 1) := by decide +kernel
theorem dX12_canFollow_82 : decode cX12_canFollow 82 = .ok (.ifCond .eq 7, 3) := by decide +kernel
theorem dX12_canFollow_85 : decode cX12_canFollow 85 = .ok (.iconst 1, 1) := by decide +kernel
theorem dX12_canFollow_86 : decode cX12_canFollow 86 = .ok (.goto 4, 3) := by decide +kernel
theorem dX12_canFollow_89 : decode cX12_canFollow 89 = .ok (.iconst 0, 1) := by decide +kernel
theorem dX12_canFollow_90 : decode cX12_canFollow 90 = .ok (.ireturn, 1) := by decide +kernel
theorem dX12_load_0 : decode cX12_load 0 = .ok (.aload_n 0, 1) := by decide +kernel
theorem dX12_load_1 : decode cX12_load 1 = .ok (.iload_n 1, 1) := by decide +kernel
theorem dX12_load_2 : decode cX12_load 2 = .ok (.iconst 1, 1) := by decide +kernel
theorem dX12_load_3 : decode cX12_load 3 = .ok (.invokevirtual 554, 3) := by decide +kernel
theorem dX12_load_6 : decode cX12_load 6 = .ok (.ifCond .eq 26, 3) := by decide +kernel
theorem dX12_load_9 : decode cX12_load 9 = .ok (.aload_n 0, 1) := by decide +kernel
theorem dX12_load_10 : decode cX12_load 10 = .ok (.getfield 115, 3) := by decide +kernel
theorem dX12_load_13 : decode cX12_load 13 = .ok (.sipush 353, 3) := by decide +kernel
theorem dX12_load_16 : decode cX12_load 16 = .ok (.aload_n 0, 1) := by decide +kernel
theorem dX12_load_17 : decode cX12_load 17 = .ok (.getfield 115, 3) := by decide +kernel
theorem dX12_load_20 : decode cX12_load 20 = .ok (.bipush 8, 2) := by decide +kernel
theorem dX12_load_22 : decode cX12_load 22 = .ok (.iload_n 1, 1) := by decide +kernel
theorem dX12_load_23 : decode cX12_load 23 = .ok (.imul, 1) := by decide +kernel
theorem dX12_load_24 : decode cX12_load 24 = .ok (.iconst 1, 1) := by decide +kernel
theorem dX12_load_25 : decode cX12_load 25 = .ok (.iadd, 1) := by decide +kernel
theorem dX12_load_26 : decode cX12_load 26 = .ok (.iaload, 1) := by decide +kernel
theorem dX12_load_27 : decode cX12_load 27 = .ok (.iadd, 1) := by decide +kernel
theorem dX12_load_28 : decode cX12_load 28 = .ok (.iaload, 1) := by decide +kernel
theorem dX12_load_29 : decode cX12_load 29 = .ok (.goto 8, 3) := by decide +kernel
theorem dX12_load_32 : decode cX12_load 32 = .ok (.aload_n 0, 1) := by decide +kernel
theorem dX12_load_33 : decode cX12_load 33 = .ok (.iconst 5, 1) := by decide +kernel
theorem dX12_load_34 : decode cX12_load 34 = .ok (.invokevirtual 345, 3) := by decide +kernel
theorem dX12_load_37 : decode cX12_load 37 = .ok (.ireturn, 1) := by decide +kernel
theorem dX12_store_0 : decode cX12_store 0 = .ok (.iload_n 2, 1) := by decide +kernel
theorem dX12_store_1 : decode cX12_store 1 = .ok (.i2l, 1) := by decide +kernel
theorem dX12_store_2 : decode cX12_store 2 = .ok (.lconst 0, 1) := by decide +kernel
theorem dX12_store_3 : decode cX12_store 3 = .ok (.ldc2_w 557, 3) := by decide +kernel
theorem dX12_store_6 : decode cX12_store 6 = .ok (.invokestatic 268, 3) := by decide +kernel
theorem dX12_store_9 : decode cX12_store 9 = .ok (.ifCond .eq 12, 3) := by decide +kernel
theorem dX12_store_12 : decode cX12_store 12 = .ok (.aload_n 0, 1) := by decide +kernel
theorem dX12_store_13 : decode cX12_store 13 = .ok (.iload_n 1, 1) := by decide +kernel
theorem dX12_store_14 : decode cX12_store 14 = .ok (.iconst 2, 1) := by decide +kernel
theorem dX12_store_15 : decode cX12_store 15 = .ok (.invokevirtual 554, 3) := by decide +kernel
theorem dX12_store_18 : decode cX12_store 18 = .ok (.ifCond .ne 9, 3) := by decide +kernel
theorem dX12_store_21 : decode cX12_store 21 = .ok (.aload_n 0, 1) := by decide +kernel
theorem dX12_store_22 : decode cX12_store 22 = .ok (.iconst 5, 1) := by decide +kernel
theorem dX12_store_23 : decode cX12_store 23 = .ok (.invokevirtual 540, 3) := by decide +kernel
theorem dX12_store_26 : decode cX12_store 26 = .ok (.ireturn, 1) := by decide +kernel
theorem dX12_store_27 : decode cX12_store 27 = .ok (.aload_n 0, 1) := by decide +kernel
theorem dX12_store_28 : decode cX12_store 28 = .ok (.invokevirtual 528, 3) := by decide +kernel
theorem dX12_store_31 : decode cX12_store 31 = .ok (.aload_n 0, 1) := by decide +kernel
theorem dX12_store_32 : decode cX12_store 32 = .ok (.getfield 115, 3) := by decide +kernel
theorem dX12_store_35 : decode cX12_store 35 = .ok (.sipush 353, 3) := by decide +kernel
theorem dX12_store_38 : decode cX12_store 38 = .ok (.aload_n 0, 1) := by decide +kernel
theorem dX12_store_39 : decode cX12_store 39 = .ok (.getfield 115, 3) := by decide +kernel
theorem dX12_store_42 : decode cX12_store 42 = .ok (.bipush 8, 2) := by decide +kernel
theorem dX12_store_44 : decode cX12_store 44 = .ok (.iload_n 1, 1) := by decide +kernel
theorem dX12_store_45 : decode cX12_store 45 = .ok (.imul, 1) := by decide +kernel
theorem dX12_store_46 : decode cX12_store 46 = .ok (.iconst 1, 1) := by decide +kernel
theorem dX12_store_47 : decode cX12_store 47 = .ok (.iadd, 1) := by decide +kernel
theorem dX12_store_48 : decode cX12_store 48 = .ok (.iaload, 1) := by decide +kernel
theorem dX12_store_49 : decode cX12_store 49 = .ok (.iadd, 1) := by decide +kernel
theorem dX12_store_50 : decode cX12_store 50 = .ok (.iload_n 2, 1) := by decide +kernel
theorem dX12_store_51 : decode cX12_store 51 = .ok (.iastore, 1) := by decide +kernel
theorem dX12_store_52 : decode cX12_store 52 = .ok (.iconst 1, 1) := by decide +kernel
theorem dX12_store_53 : decode cX12_store 53 = .ok (.ireturn, 1) := by decide +kernel
theorem dX12_shelve_0 : decode cX12_shelve 0 = .ok (.aload_n 0, 1) := by decide +kernel
theorem dX12_shelve_1 : decode cX12_shelve 1 = .ok (.iload_n 1, 1) := by decide +kernel
theorem dX12_shelve_2 : decode cX12_shelve 2 = .ok (.i2l, 1) := by decide +kernel
theorem dX12_shelve_3 : decode cX12_shelve 3 = .ok (.invokevirtual 418, 3) := by decide +kernel
theorem dX12_shelve_6 : decode cX12_shelve 6 = .ok (.ifCond .eq 47, 3) := by decide +kernel
theorem dX12_shelve_9 : decode cX12_shelve 9 = .ok (.aload_n 0, 1) := by decide +kernel
theorem dX12_shelve_10 : decode cX12_shelve 10 = .ok (.iload_n 2, 1) := by decide +kernel
theorem dX12_shelve_11 : decode cX12_shelve 11 = .ok (.invokevirtual 472, 3) := by decide +kernel
theorem dX12_shelve_14 : decode cX12_shelve 14 = .ok (.ifCond .eq 39, 3) := by decide +kernel
theorem dX12_shelve_17 : decode cX12_shelve 17 = .ok (.aload_n 0, 1) := by decide +kernel
theorem dX12_shelve_18 : decode cX12_shelve 18 = .ok (.getfield 115, 3) := by decide +kernel
theorem dX12_shelve_21 : decode cX12_shelve 21 = .ok (.bipush 8, 2) := by decide +kernel
theorem dX12_shelve_23 : decode cX12_shelve 23 = .ok (.iload_n 1, 1) := by decide +kernel
theorem dX12_shelve_24 : decode cX12_shelve 24 = .ok (.imul, 1) := by decide +kernel
theorem dX12_shelve_25 : decode cX12_shelve 25 = .ok (.iaload, 1) := by decide +kernel
theorem dX12_shelve_26 : decode cX12_shelve 26 = .ok (.iconst 1, 1) := by decide +kernel
theorem dX12_shelve_27 : decode cX12_shelve 27 = .ok (.if_icmp .ne 26, 3) := by decide +kernel
theorem dX12_shelve_30 : decode cX12_shelve 30 = .ok (.aload_n 0, 1) := by decide +kernel
theorem dX12_shelve_31 : decode cX12_shelve 31 = .ok (.getfield 115, 3) := by decide +kernel
theorem dX12_shelve_34 : decode cX12_shelve 34 = .ok (.bipush 8, 2) := by decide +kernel
theorem dX12_shelve_36 : decode cX12_shelve 36 = .ok (.iload_n 1, 1) := by decide +kernel
theorem dX12_shelve_37 : decode cX12_shelve 37 = .ok (.imul, 1) := by decide +kernel
theorem dX12_shelve_38 : decode cX12_shelve 38 = .ok (.bipush 6, 2) := by decide +kernel
theorem dX12_shelve_40 : decode cX12_shelve 40 = .ok (.iadd, 1) := by decide +kernel
theorem dX12_shelve_41 : decode cX12_shelve 41 = .ok (.iaload, 1) := by decide +kernel
theorem dX12_shelve_42 : decode cX12_shelve 42 = .ok (.aload_n 0, 1) := by decide +kernel
theorem dX12_shelve_43 : decode cX12_shelve 43 = .ok (.getfield 103, 3) := by decide +kernel
theorem dX12_shelve_46 : decode cX12_shelve 46 = .ok (.iconst 4, 1) := by decide +kernel
theorem dX12_shelve_47 : decode cX12_shelve 47 = .ok (.iload_n 2, 1) := by decide +kernel
theorem dX12_shelve_48 : decode cX12_shelve 48 = .ok (.iadd, 1) := by decide +kernel
theorem dX12_shelve_49 : decode cX12_shelve 49 = .ok (.iaload, 1) := by decide +kernel
theorem dX12_shelve_50 : decode cX12_shelve 50 = .ok (.if_icmp .eq 9, 3) := by decide +kernel
theorem dX12_shelve_53 : decode cX12_shelve 53 = .ok (.aload_n 0, 1) := by decide +kernel
theorem dX12_shelve_54 : decode cX12_shelve 54 = .ok (.iconst 4, 1) := by decide +kernel
theorem dX12_shelve_55 : decode cX12_shelve 55 = .ok (.invokevirtual 345, 3) := by decide +kernel
theorem dX12_shelve_58 : decode cX12_shelve 58 = .ok (.ireturn, 1) := by decide +kernel
theorem dX12_shelve_59 : decode cX12_shelve 59 = .ok (.iconst 0, 1) := by decide +kernel
theorem dX12_shelve_60 : decode cX12_shelve 60 = .ok (.istore_n 3, 1) := by decide +kernel
theorem dX12_shelve_61 : decode cX12_shelve 61 = .ok (.iload_n 3, 1) := by decide +kernel
theorem dX12_shelve_62 : decode cX12_shelve 62 = .ok (.iconst 4, 1) := by decide +kernel
theorem dX12_shelve_63 : decode cX12_shelve 63 = .ok (.if_icmp .ge 24, 3) := by decide +kernel
theorem dX12_shelve_66 : decode cX12_shelve 66 = .ok (.aload_n 0, 1) := by decide +kernel
theorem dX12_shelve_67 : decode cX12_shelve 67 = .ok (.getfield 115, 3) := by decide +kernel
theorem dX12_shelve_70 : decode cX12_shelve 70 = .ok (.aload_n 0, 1) := by decide +kernel
theorem dX12_shelve_71 : decode cX12_shelve 71 = .ok (.iload_n 2, 1) := by decide +kernel
theorem dX12_shelve_72 : decode cX12_shelve 72 = .ok (.iload_n 3, 1) := by decide +kernel
theorem dX12_shelve_73 : decode cX12_shelve 73 = .ok (.invokevirtual 480, 3) := by decide +kernel
theorem dX12_shelve_76 : decode cX12_shelve 76 = .ok (.iaload, 1) := by decide +kernel
theorem dX12_shelve_77 : decode cX12_shelve 77 = .ok (.iconst (-1), 1) := by decide +kernel
theorem dX12_shelve_78 : decode cX12_shelve 78 = .ok (.if_icmp .eq 9, 3) := by decide +kernel
theorem dX12_shelve_81 : decode cX12_shelve 81 = .ok (.iinc 3 1, 3) := by decide +kernel
theorem dX12_shelve_84 : decode cX12_shelve 84 = .ok (.goto (-23), 3) := by decide +kernel
theorem dX12_shelve_87 : decode cX12_shelve 87 = .ok (.iload_n 3, 1) := by decide +kernel
theorem dX12_shelve_88 : decode cX12_shelve 88 = .ok (.iconst 4, 1) := by decide +kernel
theorem dX12_shelve_89 : decode cX12_shelve 89 = .ok (.if_icmp .ne 9, 3) := by decide +kernel
theorem dX12_shelve_92 : decode cX12_shelve 92 = .ok (.aload_n 0, 1) := by decide +kernel
theorem dX12_shelve_93 : decode cX12_shelve 93 = .ok (.iconst 4, 1) := by decide +kernel
theorem dX12_shelve_94 : decode cX12_shelve 94 = .ok (.invokevirtual 345, 3) := by decide +kernel
theorem dX12_shelve_97 : decode cX12_shelve 97 = .ok (.ireturn, 1) := by decide +kernel
theorem dX12_shelve_98 : decode cX12_shelve 98 = .ok (.aload_n 0, 1) := by decide +kernel
theorem dX12_shelve_99 : decode cX12_shelve 99 = .ok (.invokevirtual 528, 3) := by decide +kernel
theorem dX12_shelve_102 : decode cX12_shelve 102 = .ok (.aload_n 0, 1) := by decide +kernel
theorem dX12_shelve_103 : decode cX12_shelve 103 = .ok (.bipush 8, 2) := by decide +kernel
theorem dX12_shelve_105 : decode cX12_shelve 105 = .ok (.iload_n 1, 1) := by decide +kernel
theorem dX12_shelve_106 : decode cX12_shelve 106 = .ok (.imul, 1) := by decide +kernel
theorem dX12_shelve_107 : decode cX12_shelve 107 = .ok (.aload_n 0, 1) := by decide +kernel
theorem dX12_shelve_108 : decode cX12_shelve 108 = .ok (.iload_n 2, 1) := by decide +kernel
theorem dX12_shelve_109 : decode cX12_shelve 109 = .ok (.iload_n 3, 1) := by decide +kernel
theorem dX12_shelve_110 : decode cX12_shelve 110 = .ok (.invokevirtual 480, 3) := by decide +kernel
theorem dX12_shelve_113 : decode cX12_shelve 113 = .ok (.invokevirtual 543, 3) := by decide +kernel
theorem dX12_shelve_116 : decode cX12_shelve 116 = .ok (.iload_n 3, 1) := by decide +kernel
theorem dX12_shelve_117 : decode cX12_shelve 117 = .ok (.ireturn, 1) := by decide +kernel
theorem dX12_take_0 : decode cX12_take 0 = .ok (.aload_n 0, 1) := by decide +kernel
theorem dX12_take_1 : decode cX12_take 1 = .ok (.iload_n 3, 1) := by decide +kernel
theorem dX12_take_2 : decode cX12_take 2 = .ok (.i2l, 1) := by decide +kernel
theorem dX12_take_3 : decode cX12_take 3 = .ok (.invokevirtual 418, 3) := by decide +kernel
theorem dX12_take_6 : decode cX12_take 6 = .ok (.ifCond .eq 38, 3) := by decide +kernel
theorem dX12_take_9 : decode cX12_take 9 = .ok (.aload_n 0, 1) := by decide +kernel
theorem dX12_take_10 : decode cX12_take 10 = .ok (.iload_n 1, 1) := by decide +kernel
theorem dX12_take_11 : decode cX12_take 11 = .ok (.invokevirtual 472, 3) := by decide +kernel
theorem dX12_take_14 : decode cX12_take 14 = .ok (.ifCond .eq 30, 3) := by decide +kernel
theorem dX12_take_17 : decode cX12_take 17 = .ok (.iload_n 2, 1) := by decide +kernel
theorem dX12_take_18 : decode cX12_take 18 = .ok (.i2l, 1) := by decide +kernel
theorem dX12_take_19 : decode cX12_take 19 = .ok (.lconst 0, 1) := by decide +kernel
theorem dX12_take_20 : decode cX12_take 20 = .ok (.ldc2_w 286, 3) := by decide +kernel
theorem dX12_take_23 : decode cX12_take 23 = .ok (.invokestatic 268, 3) := by decide +kernel
theorem dX12_take_26 : decode cX12_take 26 = .ok (.ifCond .eq 18, 3) := by decide +kernel
theorem dX12_take_29 : decode cX12_take 29 = .ok (.aload_n 0, 1) := by decide +kernel
theorem dX12_take_30 : decode cX12_take 30 = .ok (.getfield 115, 3) := by decide +kernel
theorem dX12_take_33 : decode cX12_take 33 = .ok (.aload_n 0, 1) := by decide +kernel
theorem dX12_take_34 : decode cX12_take 34 = .ok (.iload_n 1, 1) := by decide +kernel
theorem dX12_take_35 : decode cX12_take 35 = .ok (.iload_n 2, 1) := by decide +kernel
theorem dX12_take_36 : decode cX12_take 36 = .ok (.invokevirtual 480, 3) := by decide +kernel
theorem dX12_take_39 : decode cX12_take 39 = .ok (.iaload, 1) := by decide +kernel
theorem dX12_take_40 : decode cX12_take 40 = .ok (.iconst (-1), 1) := by decide +kernel
theorem dX12_take_41 : decode cX12_take 41 = .ok (.if_icmp .ne 9, 3) := by decide +kernel
theorem dX12_take_44 : decode cX12_take 44 = .ok (.aload_n 0, 1) := by decide +kernel
theorem dX12_take_45 : decode cX12_take 45 = .ok (.iconst 4, 1) := by decide +kernel
theorem dX12_take_46 : decode cX12_take 46 = .ok (.invokevirtual 540, 3) := by decide +kernel
theorem dX12_take_49 : decode cX12_take 49 = .ok (.ireturn, 1) := by decide +kernel
theorem dX12_take_50 : decode cX12_take 50 = .ok (.aload_n 0, 1) := by decide +kernel
theorem dX12_take_51 : decode cX12_take 51 = .ok (.invokevirtual 528, 3) := by decide +kernel
theorem dX12_take_54 : decode cX12_take 54 = .ok (.aload_n 0, 1) := by decide +kernel
theorem dX12_take_55 : decode cX12_take 55 = .ok (.aload_n 0, 1) := by decide +kernel
theorem dX12_take_56 : decode cX12_take 56 = .ok (.iload_n 1, 1) := by decide +kernel
theorem dX12_take_57 : decode cX12_take 57 = .ok (.iload_n 2, 1) := by decide +kernel
theorem dX12_take_58 : decode cX12_take 58 = .ok (.invokevirtual 480, 3) := by decide +kernel
theorem dX12_take_61 : decode cX12_take 61 = .ok (.bipush 8, 2) := by decide +kernel
theorem dX12_take_63 : decode cX12_take 63 = .ok (.iload_n 3, 1) := by decide +kernel
theorem dX12_take_64 : decode cX12_take 64 = .ok (.imul, 1) := by decide +kernel
theorem dX12_take_65 : decode cX12_take 65 = .ok (.invokevirtual 543, 3) := by decide +kernel
theorem dX12_take_68 : decode cX12_take 68 = .ok (.aload_n 0, 1) := by decide +kernel
theorem dX12_take_69 : decode cX12_take 69 = .ok (.getfield 115, 3) := by decide +kernel
theorem dX12_take_72 : decode cX12_take 72 = .ok (.aload_n 0, 1) := by decide +kernel
theorem dX12_take_73 : decode cX12_take 73 = .ok (.iload_n 1, 1) := by decide +kernel
theorem dX12_take_74 : decode cX12_take 74 = .ok (.iload_n 2, 1) := by decide +kernel
theorem dX12_take_75 : decode cX12_take 75 = .ok (.invokevirtual 480, 3) := by decide +kernel
theorem dX12_take_78 : decode cX12_take 78 = .ok (.iconst (-1), 1) := by decide +kernel
theorem dX12_take_79 : decode cX12_take 79 = .ok (.iastore, 1) := by decide +kernel
theorem dX12_take_80 : decode cX12_take 80 = .ok (.iconst 1, 1) := by decide +kernel
theorem dX12_take_81 : decode cX12_take 81 = .ok (.ireturn, 1) := by decide +kernel
theorem dX12_seed_0 : decode cX12_seed 0 = .ok (.iload_n 1, 1) := by decide +kernel
theorem dX12_seed_1 : decode cX12_seed 1 = .ok (.ifCond .ge 10, 3) := by decide +kernel
theorem dX12_seed_4 : decode cX12_seed 4 = .ok (.aload_n 0, 1) := by decide +kernel
theorem dX12_seed_5 : decode cX12_seed 5 = .ok (.bipush 7, 2) := by decide +kernel
theorem dX12_seed_7 : decode cX12_seed 7 = .ok (.invokevirtual 540, 3) := by decide +kernel
theorem dX12_seed_10 : decode cX12_seed 10 = .ok (.ireturn, 1) := by decide +kernel
theorem dX12_seed_11 : decode cX12_seed 11 = .ok (.aload_n 0, 1) := by decide +kernel
theorem dX12_seed_12 : decode cX12_seed 12 = .ok (.iload_n 1, 1) := by decide +kernel
theorem dX12_seed_13 : decode cX12_seed 13 = .ok (.i2l, 1) := by decide +kernel
theorem dX12_seed_14 : decode cX12_seed 14 = .ok (.putfield 131, 3) := by decide +kernel
theorem dX12_seed_17 : decode cX12_seed 17 = .ok (.iconst 1, 1) := by decide +kernel
theorem dX12_seed_18 : decode cX12_seed 18 = .ok (.ireturn, 1) := by decide +kernel
theorem dX12_drawOf_0 : decode cX12_drawOf 0 = .ok (.aload_n 0, 1) := by decide +kernel
theorem dX12_drawOf_1 : decode cX12_drawOf 1 = .ok (.ldc2_w 559, 3) := by decide +kernel
theorem dX12_drawOf_4 : decode cX12_drawOf 4 = .ok (.aload_n 0, 1) := by decide +kernel
theorem dX12_drawOf_5 : decode cX12_drawOf 5 = .ok (.getfield 131, 3) := by decide +kernel
theorem dX12_drawOf_8 : decode cX12_drawOf 8 = .ok (.lmul, 1) := by decide +kernel
theorem dX12_drawOf_9 : decode cX12_drawOf 9 = .ok (.ldc2_w 561, 3) := by decide +kernel
theorem dX12_drawOf_12 : decode cX12_drawOf 12 = .ok (.ladd, 1) := by decide +kernel
theorem dX12_drawOf_13 : decode cX12_drawOf 13 = .ok (.ldc2_w 563, 3) := by decide +kernel
theorem dX12_drawOf_16 : decode cX12_drawOf 16 = .ok (.lrem, 1) := by decide +kernel
theorem dX12_drawOf_17 : decode cX12_drawOf 17 = .ok (.putfield 131, 3) := by decide +kernel
theorem dX12_drawOf_20 : decode cX12_drawOf 20 = .ok (.aload_n 0, 1) := by decide +kernel
theorem dX12_drawOf_21 : decode cX12_drawOf 21 = .ok (.getfield 131, 3) := by decide +kernel
theorem dX12_drawOf_24 : decode cX12_drawOf 24 = .ok (.ldc2_w 565, 3) := by decide +kernel
theorem dX12_drawOf_27 : decode cX12_drawOf 27 = .ok (.ldiv, 1) := by decide +kernel
theorem dX12_drawOf_28 : decode cX12_drawOf 28 = .ok (.iload_n 1, 1) := by decide +kernel
theorem dX12_drawOf_29 : decode cX12_drawOf 29 = .ok (.i2l, 1) := by decide +kernel
theorem dX12_drawOf_30 : decode cX12_drawOf 30 = .ok (.lrem, 1) := by decide +kernel
theorem dX12_drawOf_31 : decode cX12_drawOf 31 = .ok (.l2i, 1) := by decide +kernel
theorem dX12_drawOf_32 : decode cX12_drawOf 32 = .ok (.ireturn, 1) := by decide +kernel
theorem dX12_isDrawn_0 : decode cX12_isDrawn 0 = .ok (.aload_n 0, 1) := by decide +kernel
theorem dX12_isDrawn_1 : decode cX12_isDrawn 1 = .ok (.iconst 3, 1) := by decide +kernel
theorem dX12_isDrawn_2 : decode cX12_isDrawn 2 = .ok (.invokevirtual 567, 3) := by decide +kernel
theorem dX12_isDrawn_5 : decode cX12_isDrawn 5 = .ok (.istore_n 1, 1) := by decide +kernel
theorem dX12_isDrawn_6 : decode cX12_isDrawn 6 = .ok (.aload_n 0, 1) := by decide +kernel
theorem dX12_isDrawn_7 : decode cX12_isDrawn 7 = .ok (.bipush 15, 2) := by decide +kernel
theorem dX12_isDrawn_9 : decode cX12_isDrawn 9 = .ok (.invokevirtual 567, 3) := by decide +kernel
theorem dX12_isDrawn_12 : decode cX12_isDrawn 12 = .ok (.istore_n 2, 1) := by decide +kernel
theorem dX12_isDrawn_13 : decode cX12_isDrawn 13 = .ok (.iload_n 1, 1) := by decide +kernel
theorem dX12_isDrawn_14 : decode cX12_isDrawn 14 = .ok (.iconst 2, 1) := by decide +kernel
theorem dX12_isDrawn_15 : decode cX12_isDrawn 15 = .ok (.if_icmp .ne 23, 3) := by decide +kernel
theorem dX12_isDrawn_18 : decode cX12_isDrawn 18 = .ok (.aload_n 0, 1) := by decide +kernel
theorem dX12_isDrawn_19 : decode cX12_isDrawn 19 = .ok (.iload_n 2, 1) := by decide +kernel
theorem dX12_isDrawn_20 : decode cX12_isDrawn 20 = .ok (.invokevirtual 534, 3) := by decide +kernel
theorem dX12_isDrawn_23 : decode cX12_isDrawn 23 = .ok (.istore_n 3, 1) := by decide +kernel
theorem dX12_isDrawn_24 : decode cX12_isDrawn 24 = .ok (.iload_n 3, 1) := by decide +kernel
theorem dX12_isDrawn_25 : decode cX12_isDrawn 25 = .ok (.iconst (-1), 1) := by decide +kernel
theorem dX12_isDrawn_26 : decode cX12_isDrawn 26 = .ok (.if_icmp .ne 5, 3) := by decide +kernel
theorem dX12_isDrawn_29 : decode cX12_isDrawn 29 = .ok (.iconst 0, 1) := by decide +kernel
theorem dX12_isDrawn_30 : decode cX12_isDrawn 30 = .ok (.ireturn, 1) := by decide +kernel
theorem dX12_isDrawn_31 : decode cX12_isDrawn 31 = .ok (.aload_n 0, 1) := by decide +kernel
theorem dX12_isDrawn_32 : decode cX12_isDrawn 32 = .ok (.iload_n 3, 1) := by decide +kernel
theorem dX12_isDrawn_33 : decode cX12_isDrawn 33 = .ok (.invokevirtual 537, 3) := by decide +kernel
theorem dX12_isDrawn_36 : decode cX12_isDrawn 36 = .ok (.iconst 1, 1) := by decide +kernel
theorem dX12_isDrawn_37 : decode cX12_isDrawn 37 = .ok (.ireturn, 1) := by decide +kernel
theorem dX12_isDrawn_38 : decode cX12_isDrawn 38 = .ok (.aload_n 0, 1) := by decide +kernel
theorem dX12_isDrawn_39 : decode cX12_isDrawn 39 = .ok (.bipush 16, 2) := by decide +kernel
theorem dX12_isDrawn_41 : decode cX12_isDrawn 41 = .ok (.invokevirtual 567, 3) := by decide +kernel
theorem dX12_isDrawn_44 : decode cX12_isDrawn 44 = .ok (.iconst 1, 1) := by decide +kernel
theorem dX12_isDrawn_45 : decode cX12_isDrawn 45 = .ok (.iadd, 1) := by decide +kernel
theorem dX12_isDrawn_46 : decode cX12_isDrawn 46 = .ok (.istore_n 3, 1) := by decide +kernel
theorem dX12_isDrawn_47 : decode cX12_isDrawn 47 = .ok (.aload_n 0, 1) := by decide +kernel
theorem dX12_isDrawn_48 : decode cX12_isDrawn 48 = .ok (.iload_n 3, 1) := by decide +kernel
theorem dX12_isDrawn_49 : decode cX12_isDrawn 49 = .ok (.invokevirtual 509, 3) := by decide +kernel
theorem dX12_isDrawn_52 : decode cX12_isDrawn 52 = .ok (.istore 4, 2) := by decide +kernel
theorem dX12_isDrawn_54 : decode cX12_isDrawn 54 = .ok (.iload 4, 2) := by decide +kernel
theorem dX12_isDrawn_56 : decode cX12_isDrawn 56 = .ok (.iconst (-1), 1) := by decide +kernel
theorem dX12_isDrawn_57 : decode cX12_isDrawn 57 = .ok (.if_icmp .ne 5, 3) := by decide +kernel
theorem dX12_isDrawn_60 : decode cX12_isDrawn 60 = .ok (.iconst 0, 1) := by decide +kernel
theorem dX12_isDrawn_61 : decode cX12_isDrawn 61 = .ok (.ireturn, 1) := by decide +kernel
theorem dX12_isDrawn_62 : decode cX12_isDrawn 62 = .ok (.aload_n 0, 1) := by decide +kernel
theorem dX12_isDrawn_63 : decode cX12_isDrawn 63 = .ok (.iload_n 2, 1) := by decide +kernel
theorem dX12_isDrawn_64 : decode cX12_isDrawn 64 = .ok (.iload 4, 2) := by decide +kernel
theorem dX12_isDrawn_66 : decode cX12_isDrawn 66 = .ok (.iload_n 3, 1) := by decide +kernel
theorem dX12_isDrawn_67 : decode cX12_isDrawn 67 = .ok (.invokevirtual 531, 3) := by decide +kernel
theorem dX12_isDrawn_70 : decode cX12_isDrawn 70 = .ok (.iconst 1, 1) := by decide +kernel
theorem dX12_isDrawn_71 : decode cX12_isDrawn 71 = .ok (.ireturn, 1) := by decide +kernel
theorem dX12_chance_0 : decode cX12_chance 0 = .ok (.aload_n 0, 1) := by decide +kernel
theorem dX12_chance_1 : decode cX12_chance 1 = .ok (.getfield 352, 3) := by decide +kernel
theorem dX12_chance_4 : decode cX12_chance 4 = .ok (.ifCond .eq 15, 3) := by decide +kernel
theorem dX12_chance_7 : decode cX12_chance 7 = .ok (.iload_n 1, 1) := by decide +kernel
theorem dX12_chance_8 : decode cX12_chance 8 = .ok (.i2l, 1) := by decide +kernel
theorem dX12_chance_9 : decode cX12_chance 9 = .ok (.lconst 1, 1) := by decide +kernel
theorem dX12_chance_10 : decode cX12_chance 10 = .ok (.ldc2_w 570, 3) := by decide +kernel
theorem dX12_chance_13 : decode cX12_chance 13 = .ok (.invokestatic 268, 3) := by decide +kernel
theorem dX12_chance_16 : decode cX12_chance 16 = .ok (.ifCond .ne 9, 3) := by decide +kernel
theorem dX12_chance_19 : decode cX12_chance 19 = .ok (.aload_n 0, 1) := by decide +kernel
theorem dX12_chance_20 : decode cX12_chance 20 = .ok (.iconst 2, 1) := by decide +kernel
theorem dX12_chance_21 : decode cX12_chance 21 = .ok (.invokevirtual 345, 3) := by decide +kernel
theorem dX12_chance_24 : decode cX12_chance 24 = .ok (.ireturn, 1) := by decide +kernel
theorem dX12_chance_25 : decode cX12_chance 25 = .ok (.aload_n 0, 1) := by decide +kernel
theorem dX12_chance_26 : decode cX12_chance 26 = .ok (.invokevirtual 528, 3) := by decide +kernel
theorem dX12_chance_29 : decode cX12_chance 29 = .ok (.iconst 0, 1) := by decide +kernel
theorem dX12_chance_30 : decode cX12_chance 30 = .ok (.istore_n 2, 1) := by decide +kernel
theorem dX12_chance_31 : decode cX12_chance 31 = .ok (.iconst 0, 1) := by decide +kernel
theorem dX12_chance_32 : decode cX12_chance 32 = .ok (.istore_n 3, 1) := by decide +kernel
theorem dX12_chance_33 : decode cX12_chance 33 = .ok (.iload_n 3, 1) := by decide +kernel
theorem dX12_chance_34 : decode cX12_chance 34 = .ok (.iload_n 1, 1) := by decide +kernel
theorem dX12_chance_35 : decode cX12_chance 35 = .ok (.if_icmp .ge 19, 3) := by decide +kernel
theorem dX12_chance_38 : decode cX12_chance 38 = .ok (.aload_n 0, 1) := by decide +kernel
theorem dX12_chance_39 : decode cX12_chance 39 = .ok (.invokevirtual 572, 3) := by decide +kernel
theorem dX12_chance_42 : decode cX12_chance 42 = .ok (.ifCond .eq 6, 3) := by decide +kernel
theorem dX12_chance_45 : decode cX12_chance 45 = .ok (.iinc 2 1, 3) := by decide +kernel
theorem dX12_chance_48 : decode cX12_chance 48 = .ok (.iinc 3 1, 3) := by decide +kernel
theorem dX12_chance_51 : decode cX12_chance 51 = .ok (.goto (-18), 3) := by decide +kernel
theorem dX12_chance_54 : decode cX12_chance 54 = .ok (.iload_n 2, 1) := by decide +kernel
theorem dX12_chance_55 : decode cX12_chance 55 = .ok (.ireturn, 1) := by decide +kernel
theorem dX12_qCode_0 : decode cX12_qCode 0 = .ok (.aload_n 0, 1) := by decide +kernel
theorem dX12_qCode_1 : decode cX12_qCode 1 = .ok (.getfield 210, 3) := by decide +kernel
theorem dX12_qCode_4 : decode cX12_qCode 4 = .ok (.aload_n 0, 1) := by decide +kernel
theorem dX12_qCode_5 : decode cX12_qCode 5 = .ok (.getfield 306, 3) := by decide +kernel
theorem dX12_qCode_8 : decode cX12_qCode 8 = .ok (.iload_n 1, 1) := by decide +kernel
theorem dX12_qCode_9 : decode cX12_qCode 9 = .ok (.iastore, 1) := by decide +kernel
theorem dX12_qCode_10 : decode cX12_qCode 10 = .ok (.aload_n 0, 1) := by decide +kernel
theorem dX12_qCode_11 : decode cX12_qCode 11 = .ok (.dup, 1) := by decide +kernel
theorem dX12_qCode_12 : decode cX12_qCode 12 = .ok (.getfield 306, 3) := by decide +kernel
theorem dX12_qCode_15 : decode cX12_qCode 15 = .ok (.iconst 1, 1) := by decide +kernel
theorem dX12_qCode_16 : decode cX12_qCode 16 = .ok (.iadd, 1) := by decide +kernel
theorem dX12_qCode_17 : decode cX12_qCode 17 = .ok (.putfield 306, 3) := by decide +kernel
theorem dX12_qCode_20 : decode cX12_qCode 20 = .ok (.return_, 1) := by decide +kernel
theorem dX12_qOpens_0 : decode cX12_qOpens 0 = .ok (.aload_n 0, 1) := by decide +kernel
theorem dX12_qOpens_1 : decode cX12_qOpens 1 = .ok (.getfield 225, 3) := by decide +kernel
theorem dX12_qOpens_4 : decode cX12_qOpens 4 = .ok (.ifCond .eq 4, 3) := by decide +kernel
theorem dX12_qOpens_7 : decode cX12_qOpens 7 = .ok (.return_, 1) := by decide +kernel
theorem dX12_qOpens_8 : decode cX12_qOpens 8 = .ok (.aload_n 0, 1) := by decide +kernel
theorem dX12_qOpens_9 : decode cX12_qOpens 9 = .ok (.getfield 312, 3) := by decide +kernel
theorem dX12_qOpens_12 : decode cX12_qOpens 12 = .ok (.bipush 6, 2) := by decide +kernel
theorem dX12_qOpens_14 : decode cX12_qOpens 14 = .ok (.if_icmp .ne 10, 3) := by decide +kernel
theorem dX12_qOpens_17 : decode cX12_qOpens 17 = .ok (.aload_n 0, 1) := by decide +kernel
theorem dX12_qOpens_18 : decode cX12_qOpens 18 = .ok (.iconst 4, 1) := by decide +kernel
theorem dX12_qOpens_19 : decode cX12_qOpens 19 = .ok (.iload_n 2, 1) := by decide +kernel
theorem dX12_qOpens_20 : decode cX12_qOpens 20 = .ok (.invokevirtual 255, 3) := by decide +kernel
theorem dX12_qOpens_23 : decode cX12_qOpens 23 = .ok (.return_, 1) := by decide +kernel
theorem dX12_qOpens_24 : decode cX12_qOpens 24 = .ok (.aload_n 0, 1) := by decide +kernel
theorem dX12_qOpens_25 : decode cX12_qOpens 25 = .ok (.dup, 1) := by decide +kernel
theorem dX12_qOpens_26 : decode cX12_qOpens 26 = .ok (.getfield 312, 3) := by decide +kernel
theorem dX12_qOpens_29 : decode cX12_qOpens 29 = .ok (.iconst 1, 1) := by decide +kernel
theorem dX12_qOpens_30 : decode cX12_qOpens 30 = .ok (.iadd, 1) := by decide +kernel
theorem dX12_qOpens_31 : decode cX12_qOpens 31 = .ok (.putfield 312, 3) := by decide +kernel
theorem dX12_qOpens_34 : decode cX12_qOpens 34 = .ok (.aload_n 0, 1) := by decide +kernel
theorem dX12_qOpens_35 : decode cX12_qOpens 35 = .ok (.getfield 213, 3) := by decide +kernel
theorem dX12_qOpens_38 : decode cX12_qOpens 38 = .ok (.aload_n 0, 1) := by decide +kernel
theorem dX12_qOpens_39 : decode cX12_qOpens 39 = .ok (.getfield 309, 3) := by decide +kernel
theorem dX12_qOpens_42 : decode cX12_qOpens 42 = .ok (.iload_n 1, 1) := by decide +kernel
theorem dX12_qOpens_43 : decode cX12_qOpens 43 = .ok (.iastore, 1) := by decide +kernel
theorem dX12_qOpens_44 : decode cX12_qOpens 44 = .ok (.aload_n 0, 1) := by decide +kernel
theorem dX12_qOpens_45 : decode cX12_qOpens 45 = .ok (.dup, 1) := by decide +kernel
theorem dX12_qOpens_46 : decode cX12_qOpens 46 = .ok (.getfield 309, 3) := by decide +kernel
theorem dX12_qOpens_49 : decode cX12_qOpens 49 = .ok (.iconst 1, 1) := by decide +kernel
theorem dX12_qOpens_50 : decode cX12_qOpens 50 = .ok (.iadd, 1) := by decide +kernel
theorem dX12_qOpens_51 : decode cX12_qOpens 51 = .ok (.putfield 309, 3) := by decide +kernel
theorem dX12_qOpens_54 : decode cX12_qOpens 54 = .ok (.return_, 1) := by decide +kernel
theorem dX12_qIsOn_0 : decode cX12_qIsOn 0 = .ok (.aload_n 0, 1) := by decide +kernel
theorem dX12_qIsOn_1 : decode cX12_qIsOn 1 = .ok (.getfield 309, 3) := by decide +kernel
theorem dX12_qIsOn_4 : decode cX12_qIsOn 4 = .ok (.ifCond .le 22, 3) := by decide +kernel
theorem dX12_qIsOn_7 : decode cX12_qIsOn 7 = .ok (.aload_n 0, 1) := by decide +kernel
theorem dX12_qIsOn_8 : decode cX12_qIsOn 8 = .ok (.getfield 213, 3) := by decide +kernel
theorem dX12_qIsOn_11 : decode cX12_qIsOn 11 = .ok (.aload_n 0, 1) := by decide +kernel
theorem dX12_qIsOn_12 : decode cX12_qIsOn 12 = .ok (.getfield 309, 3) := by decide +kernel
theorem dX12_qIsOn_15 : decode cX12_qIsOn 15 = .ok (.iconst 1, 1) := by decide +kernel
theorem dX12_qIsOn_16 : decode cX12_qIsOn 16 = .ok (.isub, 1) := by decide +kernel
theorem dX12_qIsOn_17 : decode cX12_qIsOn 17 = .ok (.iaload, 1) := by decide +kernel
theorem dX12_qIsOn_18 : decode cX12_qIsOn 18 = .ok (.iload_n 1, 1) := by decide +kernel
theorem dX12_qIsOn_19 : decode cX12_qIsOn 19 = .ok (.if_icmp .ne 7, 3) := by decide +kernel
theorem dX12_qIsOn_22 : decode cX12_qIsOn 22 = .ok (.iconst 1, 1) := by decide +kernel
theorem dX12_qIsOn_23 : decode cX12_qIsOn 23 = .ok (.goto 4, 3) := by decide +kernel
theorem dX12_qIsOn_26 : decode cX12_qIsOn 26 = .ok (.iconst 0, 1) := by decide +kernel
theorem dX12_qIsOn_27 : decode cX12_qIsOn 27 = .ok (.ireturn, 1) := by decide +kernel
theorem dX12_qDrops_0 : decode cX12_qDrops 0 = .ok (.aload_n 0, 1) := by decide +kernel
theorem dX12_qDrops_1 : decode cX12_qDrops 1 = .ok (.dup, 1) := by decide +kernel
theorem dX12_qDrops_2 : decode cX12_qDrops 2 = .ok (.getfield 309, 3) := by decide +kernel
theorem dX12_qDrops_5 : decode cX12_qDrops 5 = .ok (.iconst 1, 1) := by decide +kernel
theorem dX12_qDrops_6 : decode cX12_qDrops 6 = .ok (.isub, 1) := by decide +kernel
theorem dX12_qDrops_7 : decode cX12_qDrops 7 = .ok (.putfield 309, 3) := by decide +kernel
theorem dX12_qDrops_10 : decode cX12_qDrops 10 = .ok (.aload_n 0, 1) := by decide +kernel
theorem dX12_qDrops_11 : decode cX12_qDrops 11 = .ok (.aload_n 0, 1) := by decide +kernel
theorem dX12_qDrops_12 : decode cX12_qDrops 12 = .ok (.getfield 213, 3) := by decide +kernel
theorem dX12_qDrops_15 : decode cX12_qDrops 15 = .ok (.aload_n 0, 1) := by decide +kernel
theorem dX12_qDrops_16 : decode cX12_qDrops 16 = .ok (.getfield 309, 3) := by decide +kernel
theorem dX12_qDrops_19 : decode cX12_qDrops 19 = .ok (.iaload, 1) := by decide +kernel
theorem dX12_qDrops_20 : decode cX12_qDrops 20 = .ok (.invokevirtual 575, 3) := by decide +kernel
theorem dX12_qDrops_23 : decode cX12_qDrops 23 = .ok (.return_, 1) := by decide +kernel
theorem dX12_qIsBracket_0 : decode cX12_qIsBracket 0 = .ok (.iload_n 0, 1) := by decide +kernel
theorem dX12_qIsBracket_1 : decode cX12_qIsBracket 1 = .ok (.bipush 20, 2) := by decide +kernel
theorem dX12_qIsBracket_3 : decode cX12_qIsBracket 3 = .ok (.if_icmp .lt 13, 3) := by decide +kernel
theorem dX12_qIsBracket_6 : decode cX12_qIsBracket 6 = .ok (.iload_n 0, 1) := by decide +kernel
theorem dX12_qIsBracket_7 : decode cX12_qIsBracket 7 = .ok (.bipush 24, 2) := by decide +kernel
theorem dX12_qIsBracket_9 : decode cX12_qIsBracket 9 = .ok (.if_icmp .gt 7, 3) := by decide +kernel
theorem dX12_qIsBracket_12 : decode cX12_qIsBracket 12 = .ok (.iconst 1, 1) := by decide +kernel
theorem dX12_qIsBracket_13 : decode cX12_qIsBracket 13 = .ok (.goto 4, 3) := by decide +kernel
theorem dX12_qIsBracket_16 : decode cX12_qIsBracket 16 = .ok (.iconst 0, 1) := by decide +kernel
theorem dX12_qIsBracket_17 : decode cX12_qIsBracket 17 = .ok (.ireturn, 1) := by decide +kernel
theorem dX12_qBracket_0 : decode cX12_qBracket 0 = .ok (.aload_n 0, 1) := by decide +kernel
theorem dX12_qBracket_1 : decode cX12_qBracket 1 = .ok (.getfield 309, 3) := by decide +kernel
theorem dX12_qBracket_4 : decode cX12_qBracket 4 = .ok (.iconst 1, 1) := by decide +kernel
theorem dX12_qBracket_5 : decode cX12_qBracket 5 = .ok (.isub, 1) := by decide +kernel
theorem dX12_qBracket_6 : decode cX12_qBracket 6 = .ok (.istore_n 1, 1) := by decide +kernel
theorem dX12_qBracket_7 : decode cX12_qBracket 7 = .ok (.iload_n 1, 1) := by decide +kernel
theorem dX12_qBracket_8 : decode cX12_qBracket 8 = .ok (.aload_n 0, 1) := by decide +kernel
theorem dX12_qBracket_9 : decode cX12_qBracket 9 = .ok (.getfield 315, 3) := by decide +kernel
theorem dX12_qBracket_12 : decode cX12_qBracket 12 = .ok (.if_icmp .lt 21, 3) := by decide +kernel
theorem dX12_qBracket_15 : decode cX12_qBracket 15 = .ok (.aload_n 0, 1) := by decide +kernel
theorem dX12_qBracket_16 : decode cX12_qBracket 16 = .ok (.getfield 213, 3) := by decide +kernel
theorem dX12_qBracket_19 : decode cX12_qBracket 19 = .ok (.iload_n 1, 1) := by decide +kernel
theorem dX12_qBracket_20 : decode cX12_qBracket 20 = .ok (.iaload, 1) := by decide +kernel
theorem dX12_qBracket_21 : decode cX12_qBracket 21 = .ok (.invokestatic 578, 3) := by decide +kernel
theorem dX12_qBracket_24 : decode cX12_qBracket 24 = .ok (.ifCond .ne 9, 3) := by decide +kernel
theorem dX12_qBracket_27 : decode cX12_qBracket 27 = .ok (.iinc 1 (-1), 3) := by decide +kernel
theorem dX12_qBracket_30 : decode cX12_qBracket 30 = .ok (.goto (-23), 3) := by decide +kernel
theorem dX12_qBracket_33 : decode cX12_qBracket 33 = .ok (.iload_n 1, 1) := by decide +kernel
theorem dX12_qBracket_34 : decode cX12_qBracket 34 = .ok (.aload_n 0, 1) := by decide +kernel
theorem dX12_qBracket_35 : decode cX12_qBracket 35 = .ok (.getfield 315, 3) := by decide +kernel
theorem dX12_qBracket_38 : decode cX12_qBracket 38 = .ok (.if_icmp .lt 12, 3) := by decide +kernel
theorem dX12_qBracket_41 : decode cX12_qBracket 41 = .ok (.aload_n 0, 1) := by decide +kernel
theorem dX12_qBracket_42 : decode cX12_qBracket 42 = .ok (.getfield 213, 3) := by decide +kernel
theorem dX12_qBracket_45 : decode cX12_qBracket 45 = .ok (.iload_n 1, 1) := by decide +kernel
theorem dX12_qBracket_46 : decode cX12_qBracket 46 = .ok (.iaload, 1) := by decide +kernel
theorem dX12_qBracket_47 : decode cX12_qBracket 47 = .ok (.goto 4, 3) := by decide +kernel
theorem dX12_qBracket_50 : decode cX12_qBracket 50 = .ok (.iconst (-1), 1) := by decide +kernel
theorem dX12_qBracket_51 : decode cX12_qBracket 51 = .ok (.ireturn, 1) := by decide +kernel
theorem dX12_qDropsToBracket_0 : decode cX12_qDropsToBracket 0 = .ok (.aload_n 0, 1) := by decide +kernel
theorem dX12_qDropsToBracket_1 : decode cX12_qDropsToBracket 1 = .ok (.getfield 309, 3) := by decide +kernel
theorem dX12_qDropsToBracket_4 : decode cX12_qDropsToBracket 4 = .ok (.aload_n 0, 1) := by decide +kernel
theorem dX12_qDropsToBracket_5 : decode cX12_qDropsToBracket 5 = .ok (.getfield 315, 3) := by decide +kernel
theorem dX12_qDropsToBracket_8 : decode cX12_qDropsToBracket 8 = .ok (.if_icmp .le 27, 3) := by decide +kernel
theorem dX12_qDropsToBracket_11 : decode cX12_qDropsToBracket 11 = .ok (.aload_n 0, 1) := by decide +kernel
theorem dX12_qDropsToBracket_12 : decode cX12_qDropsToBracket 12 = .ok (.getfield 213, 3) := by decide +kernel
theorem dX12_qDropsToBracket_15 : decode cX12_qDropsToBracket 15 = .ok (.aload_n 0, 1) := by decide +kernel
theorem dX12_qDropsToBracket_16 : decode cX12_qDropsToBracket 16 = .ok (.getfield 309, 3) := by decide +kernel
theorem dX12_qDropsToBracket_19 : decode cX12_qDropsToBracket 19 = .ok (.iconst 1, 1) := by decide +kernel
theorem dX12_qDropsToBracket_20 : decode cX12_qDropsToBracket 20 = .ok (.isub, 1) := by decide +kernel
theorem dX12_qDropsToBracket_21 : decode cX12_qDropsToBracket 21 = .ok (.iaload, 1) := by decide +kernel
theorem dX12_qDropsToBracket_22 : decode cX12_qDropsToBracket 22 = .ok (.invokestatic 578, 3) := by decide +kernel
theorem dX12_qDropsToBracket_25 : decode cX12_qDropsToBracket 25 = .ok (.ifCond .ne 10, 3) := by decide +kernel
theorem dX12_qDropsToBracket_28 : decode cX12_qDropsToBracket 28 = .ok (.aload_n 0, 1) := by decide +kernel
theorem dX12_qDropsToBracket_29 : decode cX12_qDropsToBracket 29 = .ok (.invokevirtual 581, 3) := by decide +kernel
theorem dX12_qDropsToBracket_32 : decode cX12_qDropsToBracket 32 = .ok (.goto (-32), 3) := by decide +kernel
theorem dX12_qDropsToBracket_35 : decode cX12_qDropsToBracket 35 = .ok (.return_, 1) := by decide +kernel
theorem dX12_qWordHere_0 : decode cX12_qWordHere 0 = .ok (.aload_n 0, 1) := by decide +kernel
theorem dX12_qWordHere_1 : decode cX12_qWordHere 1 = .ok (.aload_n 0, 1) := by decide +kernel
theorem dX12_qWordHere_2 : decode cX12_qWordHere 2 = .ok (.getfield 171, 3) := by decide +kernel
theorem dX12_qWordHere_5 : decode cX12_qWordHere 5 = .ok (.invokevirtual 248, 3) := by decide +kernel
theorem dX12_qWordHere_8 : decode cX12_qWordHere 8 = .ok (.ifCond .eq 5, 3) := by decide +kernel
theorem dX12_qWordHere_11 : decode cX12_qWordHere 11 = .ok (.iconst 0, 1) := by decide +kernel
theorem dX12_qWordHere_12 : decode cX12_qWordHere 12 = .ok (.ireturn, 1) := by decide +kernel
theorem dX12_qWordHere_13 : decode cX12_qWordHere 13 = .ok (.aload_n 0, 1) := by decide +kernel
theorem dX12_qWordHere_14 : decode cX12_qWordHere 14 = .ok (.aload_n 0, 1) := by decide +kernel
theorem dX12_qWordHere_15 : decode cX12_qWordHere 15 = .ok (.getfield 174, 3) := by decide +kernel
theorem dX12_qWordHere_18 : decode cX12_qWordHere 18 = .ok (.invokevirtual 248, 3) := by decide +kernel
theorem dX12_qWordHere_21 : decode cX12_qWordHere 21 = .ok (.ifCond .eq 5, 3) := by decide +kernel
theorem dX12_qWordHere_24 : decode cX12_qWordHere 24 = .ok (.iconst 1, 1) := by decide +kernel
theorem dX12_qWordHere_25 : decode cX12_qWordHere 25 = .ok (.ireturn, 1) := by decide +kernel
theorem dX12_qWordHere_26 : decode cX12_qWordHere 26 = .ok (.aload_n 0, 1) := by decide +kernel
theorem dX12_qWordHere_27 : decode cX12_qWordHere 27 = .ok (.aload_n 0, 1) := by decide +kernel
theorem dX12_qWordHere_28 : decode cX12_qWordHere 28 = .ok (.getfield 177, 3) := by decide +kernel
theorem dX12_qWordHere_31 : decode cX12_qWordHere 31 = .ok (.invokevirtual 248, 3) := by decide +kernel
theorem dX12_qWordHere_34 : decode cX12_qWordHere 34 = .ok (.ifCond .eq 5, 3) := by decide +kernel
theorem dX12_qWordHere_37 : decode cX12_qWordHere 37 = .ok (.iconst 2, 1) := by decide +kernel
theorem dX12_qWordHere_38 : decode cX12_qWordHere 38 = .ok (.ireturn, 1) := by decide +kernel
theorem dX12_qWordHere_39 : decode cX12_qWordHere 39 = .ok (.aload_n 0, 1) := by decide +kernel
theorem dX12_qWordHere_40 : decode cX12_qWordHere 40 = .ok (.aload_n 0, 1) := by decide +kernel
theorem dX12_qWordHere_41 : decode cX12_qWordHere 41 = .ok (.getfield 180, 3) := by decide +kernel
theorem dX12_qWordHere_44 : decode cX12_qWordHere 44 = .ok (.invokevirtual 248, 3) := by decide +kernel
theorem dX12_qWordHere_47 : decode cX12_qWordHere 47 = .ok (.ifCond .eq 5, 3) := by decide +kernel
theorem dX12_qWordHere_50 : decode cX12_qWordHere 50 = .ok (.iconst 3, 1) := by decide +kernel
theorem dX12_qWordHere_51 : decode cX12_qWordHere 51 = .ok (.ireturn, 1) := by decide +kernel
theorem dX12_qWordHere_52 : decode cX12_qWordHere 52 = .ok (.aload_n 0, 1) := by decide +kernel
theorem dX12_qWordHere_53 : decode cX12_qWordHere 53 = .ok (.aload_n 0, 1) := by decide +kernel
theorem dX12_qWordHere_54 : decode cX12_qWordHere 54 = .ok (.getfield 183, 3) := by decide +kernel
theorem dX12_qWordHere_57 : decode cX12_qWordHere 57 = .ok (.invokevirtual 248, 3) := by decide +kernel
theorem dX12_qWordHere_60 : decode cX12_qWordHere 60 = .ok (.ifCond .eq 5, 3) := by decide +kernel
theorem dX12_qWordHere_63 : decode cX12_qWordHere 63 = .ok (.iconst 4, 1) := by decide +kernel
theorem dX12_qWordHere_64 : decode cX12_qWordHere 64 = .ok (.ireturn, 1) := by decide +kernel
theorem dX12_qWordHere_65 : decode cX12_qWordHere 65 = .ok (.aload_n 0, 1) := by decide +kernel
theorem dX12_qWordHere_66 : decode cX12_qWordHere 66 = .ok (.aload_n 0, 1) := by decide +kernel
theorem dX12_qWordHere_67 : decode cX12_qWordHere 67 = .ok (.getfield 186, 3) := by decide +kernel
theorem dX12_qWordHere_70 : decode cX12_qWordHere 70 = .ok (.invokevirtual 248, 3) := by decide +kernel
theorem dX12_qWordHere_73 : decode cX12_qWordHere 73 = .ok (.ifCond .eq 5, 3) := by decide +kernel
theorem dX12_qWordHere_76 : decode cX12_qWordHere 76 = .ok (.iconst 5, 1) := by decide +kernel
theorem dX12_qWordHere_77 : decode cX12_qWordHere 77 = .ok (.ireturn, 1) := by decide +kernel
theorem dX12_qWordHere_78 : decode cX12_qWordHere 78 = .ok (.aload_n 0, 1) := by decide +kernel
theorem dX12_qWordHere_79 : decode cX12_qWordHere 79 = .ok (.aload_n 0, 1) := by decide +kernel
theorem dX12_qWordHere_80 : decode cX12_qWordHere 80 = .ok (.getfield 189, 3) := by decide +kernel
theorem dX12_qWordHere_83 : decode cX12_qWordHere 83 = .ok (.invokevirtual 248, 3) := by decide +kernel
theorem dX12_qWordHere_86 : decode cX12_qWordHere 86 = .ok (.ifCond .eq 6, 3) := by decide +kernel
theorem dX12_qWordHere_89 : decode cX12_qWordHere 89 = .ok (.bipush 6, 2) := by decide +kernel
theorem dX12_qWordHere_91 : decode cX12_qWordHere 91 = .ok (.ireturn, 1) := by decide +kernel
theorem dX12_qWordHere_92 : decode cX12_qWordHere 92 = .ok (.aload_n 0, 1) := by decide +kernel
theorem dX12_qWordHere_93 : decode cX12_qWordHere 93 = .ok (.aload_n 0, 1) := by decide +kernel
theorem dX12_qWordHere_94 : decode cX12_qWordHere 94 = .ok (.getfield 192, 3) := by decide +kernel
theorem dX12_qWordHere_97 : decode cX12_qWordHere 97 = .ok (.invokevirtual 248, 3) := by decide +kernel
theorem dX12_qWordHere_100 : decode cX12_qWordHere 100 = .ok (.ifCond .eq 6, 3) := by decide +kernel
theorem dX12_qWordHere_103 : decode cX12_qWordHere 103 = .ok (.bipush 7, 2) := by decide +kernel
theorem dX12_qWordHere_105 : decode cX12_qWordHere 105 = .ok (.ireturn, 1) := by decide +kernel
theorem dX12_qWordHere_106 : decode cX12_qWordHere 106 = .ok (.aload_n 0, 1) := by decide +kernel
theorem dX12_qWordHere_107 : decode cX12_qWordHere 107 = .ok (.aload_n 0, 1) := by decide +kernel
theorem dX12_qWordHere_108 : decode cX12_qWordHere 108 = .ok (.getfield 195, 3) := by decide +kernel
theorem dX12_qWordHere_111 : decode cX12_qWordHere 111 = .ok (.invokevirtual 248, 3) := by decide +kernel
theorem dX12_qWordHere_114 : decode cX12_qWordHere 114 = .ok (.ifCond .eq 6, 3) := by decide +kernel
theorem dX12_qWordHere_117 : decode cX12_qWordHere 117 = .ok (.bipush 8, 2) := by decide +kernel
theorem dX12_qWordHere_119 : decode cX12_qWordHere 119 = .ok (.ireturn, 1) := by decide +kernel
theorem dX12_qWordHere_120 : decode cX12_qWordHere 120 = .ok (.aload_n 0, 1) := by decide +kernel
theorem dX12_qWordHere_121 : decode cX12_qWordHere 121 = .ok (.aload_n 0, 1) := by decide +kernel
theorem dX12_qWordHere_122 : decode cX12_qWordHere 122 = .ok (.getfield 198, 3) := by decide +kernel
theorem dX12_qWordHere_125 : decode cX12_qWordHere 125 = .ok (.invokevirtual 248, 3) := by decide +kernel
theorem dX12_qWordHere_128 : decode cX12_qWordHere 128 = .ok (.ifCond .eq 6, 3) := by decide +kernel
theorem dX12_qWordHere_131 : decode cX12_qWordHere 131 = .ok (.bipush 9, 2) := by decide +kernel
theorem dX12_qWordHere_133 : decode cX12_qWordHere 133 = .ok (.ireturn, 1) := by decide +kernel
theorem dX12_qWordHere_134 : decode cX12_qWordHere 134 = .ok (.aload_n 0, 1) := by decide +kernel
theorem dX12_qWordHere_135 : decode cX12_qWordHere 135 = .ok (.aload_n 0, 1) := by decide +kernel
theorem dX12_qWordHere_136 : decode cX12_qWordHere 136 = .ok (.getfield 201, 3) := by decide +kernel
theorem dX12_qWordHere_139 : decode cX12_qWordHere 139 = .ok (.invokevirtual 248, 3) := by decide +kernel
theorem dX12_qWordHere_142 : decode cX12_qWordHere 142 = .ok (.ifCond .eq 6, 3) := by decide +kernel
theorem dX12_qWordHere_145 : decode cX12_qWordHere 145 = .ok (.bipush 10, 2) := by decide +kernel
theorem dX12_qWordHere_147 : decode cX12_qWordHere 147 = .ok (.ireturn, 1) := by decide +kernel
theorem dX12_qWordHere_148 : decode cX12_qWordHere 148 = .ok (.aload_n 0, 1) := by decide +kernel
theorem dX12_qWordHere_149 : decode cX12_qWordHere 149 = .ok (.aload_n 0, 1) := by decide +kernel
theorem dX12_qWordHere_150 : decode cX12_qWordHere 150 = .ok (.getfield 204, 3) := by decide +kernel
theorem dX12_qWordHere_153 : decode cX12_qWordHere 153 = .ok (.invokevirtual 248, 3) := by decide +kernel
theorem dX12_qWordHere_156 : decode cX12_qWordHere 156 = .ok (.ifCond .eq 6, 3) := by decide +kernel
theorem dX12_qWordHere_159 : decode cX12_qWordHere 159 = .ok (.bipush 11, 2) := by decide +kernel
theorem dX12_qWordHere_161 : decode cX12_qWordHere 161 = .ok (.ireturn, 1) := by decide +kernel
theorem dX12_qWordHere_162 : decode cX12_qWordHere 162 = .ok (.aload_n 0, 1) := by decide +kernel
theorem dX12_qWordHere_163 : decode cX12_qWordHere 163 = .ok (.aload_n 0, 1) := by decide +kernel
theorem dX12_qWordHere_164 : decode cX12_qWordHere 164 = .ok (.getfield 207, 3) := by decide +kernel
theorem dX12_qWordHere_167 : decode cX12_qWordHere 167 = .ok (.invokevirtual 248, 3) := by decide +kernel
theorem dX12_qWordHere_170 : decode cX12_qWordHere 170 = .ok (.ifCond .eq 6, 3) := by decide +kernel
theorem dX12_qWordHere_173 : decode cX12_qWordHere 173 = .ok (.bipush 12, 2) := by decide +kernel
theorem dX12_qWordHere_175 : decode cX12_qWordHere 175 = .ok (.ireturn, 1) := by decide +kernel
theorem dX12_qWordHere_176 : decode cX12_qWordHere 176 = .ok (.iconst (-1), 1) := by decide +kernel
theorem dX12_qWordHere_177 : decode cX12_qWordHere 177 = .ok (.ireturn, 1) := by decide +kernel
theorem dX12_qWordOf_0 : decode cX12_qWordOf 0 = .ok (.aload_n 0, 1) := by decide +kernel
theorem dX12_qWordOf_1 : decode cX12_qWordOf 1 = .ok (.invokevirtual 584, 3) := by decide +kernel
theorem dX12_qWordOf_4 : decode cX12_qWordOf 4 = .ok (.istore_n 3, 1) := by decide +kernel
theorem dX12_qWordOf_5 : decode cX12_qWordOf 5 = .ok (.iload_n 3, 1) := by decide +kernel
theorem dX12_qWordOf_6 : decode cX12_qWordOf 6 = .ok (.iload_n 1, 1) := by decide +kernel
theorem dX12_qWordOf_7 : decode cX12_qWordOf 7 = .ok (.if_icmp .lt 20, 3) := by decide +kernel
theorem dX12_qWordOf_10 : decode cX12_qWordOf 10 = .ok (.iload_n 3, 1) := by decide +kernel
theorem dX12_qWordOf_11 : decode cX12_qWordOf 11 = .ok (.iload_n 2, 1) := by decide +kernel
theorem dX12_qWordOf_12 : decode cX12_qWordOf 12 = .ok (.if_icmp .ge 15, 3) := by decide +kernel
theorem dX12_qWordOf_15 : decode cX12_qWordOf 15 = .ok (.aload_n 0, 1) := by decide +kernel
theorem dX12_qWordOf_16 : decode cX12_qWordOf 16 = .ok (.iload_n 3, 1) := by decide +kernel
theorem dX12_qWordOf_17 : decode cX12_qWordOf 17 = .ok (.invokevirtual 587, 3) := by decide +kernel
theorem dX12_qWordOf_20 : decode cX12_qWordOf 20 = .ok (.ifCond .eq 7, 3) := by decide +kernel
theorem dX12_qWordOf_23 : decode cX12_qWordOf 23 = .ok (.iload_n 3, 1) := by decide +kernel
theorem dX12_qWordOf_24 : decode cX12_qWordOf 24 = .ok (.goto 4, 3) := by decide +kernel
theorem dX12_qWordOf_27 : decode cX12_qWordOf 27 = .ok (.iconst (-1), 1) := by decide +kernel
theorem dX12_qWordOf_28 : decode cX12_qWordOf 28 = .ok (.ireturn, 1) := by decide +kernel
theorem dX12_qAsksWord_0 : decode cX12_qAsksWord 0 = .ok (.iload_n 1, 1) := by decide +kernel
theorem dX12_qAsksWord_1 : decode cX12_qAsksWord 1 = .ok (.tableswitch 195 0 11 #[63, 74, 85, 96, 107, 118, 129, 140, 151, 162, 173, 184], 63) := by decide +kernel
theorem dX12_qAsksWord_64 : decode cX12_qAsksWord 64 = .ok (.aload_n 0, 1) := by decide +kernel
theorem dX12_qAsksWord_65 : decode cX12_qAsksWord 65 = .ok (.aload_n 0, 1) := by decide +kernel
theorem dX12_qAsksWord_66 : decode cX12_qAsksWord 66 = .ok (.getfield 171, 3) := by decide +kernel
theorem dX12_qAsksWord_69 : decode cX12_qAsksWord 69 = .ok (.invokevirtual 290, 3) := by decide +kernel
theorem dX12_qAsksWord_72 : decode cX12_qAsksWord 72 = .ok (.goto 132, 3) := by decide +kernel
theorem dX12_qAsksWord_75 : decode cX12_qAsksWord 75 = .ok (.aload_n 0, 1) := by decide +kernel
theorem dX12_qAsksWord_76 : decode cX12_qAsksWord 76 = .ok (.aload_n 0, 1) := by decide +kernel
theorem dX12_qAsksWord_77 : decode cX12_qAsksWord 77 = .ok (.getfield 174, 3) := by decide +kernel
theorem dX12_qAsksWord_80 : decode cX12_qAsksWord 80 = .ok (.invokevirtual 290, 3) := by decide +kernel
theorem dX12_qAsksWord_83 : decode cX12_qAsksWord 83 = .ok (.goto 121, 3) := by decide +kernel
theorem dX12_qAsksWord_86 : decode cX12_qAsksWord 86 = .ok (.aload_n 0, 1) := by decide +kernel
theorem dX12_qAsksWord_87 : decode cX12_qAsksWord 87 = .ok (.aload_n 0, 1) := by decide +kernel
theorem dX12_qAsksWord_88 : decode cX12_qAsksWord 88 = .ok (.getfield 177, 3) := by decide +kernel
theorem dX12_qAsksWord_91 : decode cX12_qAsksWord 91 = .ok (.invokevirtual 290, 3) := by decide +kernel
theorem dX12_qAsksWord_94 : decode cX12_qAsksWord 94 = .ok (.goto 110, 3) := by decide +kernel
theorem dX12_qAsksWord_97 : decode cX12_qAsksWord 97 = .ok (.aload_n 0, 1) := by decide +kernel
theorem dX12_qAsksWord_98 : decode cX12_qAsksWord 98 = .ok (.aload_n 0, 1) := by decide +kernel
theorem dX12_qAsksWord_99 : decode cX12_qAsksWord 99 = .ok (.getfield 180, 3) := by decide +kernel
theorem dX12_qAsksWord_102 : decode cX12_qAsksWord 102 = .ok (.invokevirtual 290, 3) := by decide +kernel
theorem dX12_qAsksWord_105 : decode cX12_qAsksWord 105 = .ok (.goto 99, 3) := by decide +kernel
theorem dX12_qAsksWord_108 : decode cX12_qAsksWord 108 = .ok (.aload_n 0, 1) := by decide +kernel
theorem dX12_qAsksWord_109 : decode cX12_qAsksWord 109 = .ok (.aload_n 0, 1) := by decide +kernel
theorem dX12_qAsksWord_110 : decode cX12_qAsksWord 110 = .ok (.getfield 183, 3) := by decide +kernel
theorem dX12_qAsksWord_113 : decode cX12_qAsksWord 113 = .ok (.invokevirtual 290, 3) := by decide +kernel
theorem dX12_qAsksWord_116 : decode cX12_qAsksWord 116 = .ok (.goto 88, 3) := by decide +kernel
theorem dX12_qAsksWord_119 : decode cX12_qAsksWord 119 = .ok (.aload_n 0, 1) := by decide +kernel
theorem dX12_qAsksWord_120 : decode cX12_qAsksWord 120 = .ok (.aload_n 0, 1) := by decide +kernel
theorem dX12_qAsksWord_121 : decode cX12_qAsksWord 121 = .ok (.getfield 186, 3) := by decide +kernel
theorem dX12_qAsksWord_124 : decode cX12_qAsksWord 124 = .ok (.invokevirtual 290, 3) := by decide +kernel
theorem dX12_qAsksWord_127 : decode cX12_qAsksWord 127 = .ok (.goto 77, 3) := by decide +kernel
theorem dX12_qAsksWord_130 : decode cX12_qAsksWord 130 = .ok (.aload_n 0, 1) := by decide +kernel
theorem dX12_qAsksWord_131 : decode cX12_qAsksWord 131 = .ok (.aload_n 0, 1) := by decide +kernel
theorem dX12_qAsksWord_132 : decode cX12_qAsksWord 132 = .ok (.getfield 189, 3) := by decide +kernel
theorem dX12_qAsksWord_135 : decode cX12_qAsksWord 135 = .ok (.invokevirtual 290, 3) := by decide +kernel
theorem dX12_qAsksWord_138 : decode cX12_qAsksWord 138 = .ok (.goto 66, 3) := by decide +kernel
theorem dX12_qAsksWord_141 : decode cX12_qAsksWord 141 = .ok (.aload_n 0, 1) := by decide +kernel
theorem dX12_qAsksWord_142 : decode cX12_qAsksWord 142 = .ok (.aload_n 0, 1) := by decide +kernel
theorem dX12_qAsksWord_143 : decode cX12_qAsksWord 143 = .ok (.getfield 192, 3) := by decide +kernel
theorem dX12_qAsksWord_146 : decode cX12_qAsksWord 146 = .ok (.invokevirtual 290, 3) := by decide +kernel
theorem dX12_qAsksWord_149 : decode cX12_qAsksWord 149 = .ok (.goto 55, 3) := by decide +kernel
theorem dX12_qAsksWord_152 : decode cX12_qAsksWord 152 = .ok (.aload_n 0, 1) := by decide +kernel
theorem dX12_qAsksWord_153 : decode cX12_qAsksWord 153 = .ok (.aload_n 0, 1) := by decide +kernel
theorem dX12_qAsksWord_154 : decode cX12_qAsksWord 154 = .ok (.getfield 195, 3) := by decide +kernel
theorem dX12_qAsksWord_157 : decode cX12_qAsksWord 157 = .ok (.invokevirtual 290, 3) := by decide +kernel
theorem dX12_qAsksWord_160 : decode cX12_qAsksWord 160 = .ok (.goto 44, 3) := by decide +kernel
theorem dX12_qAsksWord_163 : decode cX12_qAsksWord 163 = .ok (.aload_n 0, 1) := by decide +kernel
theorem dX12_qAsksWord_164 : decode cX12_qAsksWord 164 = .ok (.aload_n 0, 1) := by decide +kernel
theorem dX12_qAsksWord_165 : decode cX12_qAsksWord 165 = .ok (.getfield 198, 3) := by decide +kernel
theorem dX12_qAsksWord_168 : decode cX12_qAsksWord 168 = .ok (.invokevirtual 290, 3) := by decide +kernel
theorem dX12_qAsksWord_171 : decode cX12_qAsksWord 171 = .ok (.goto 33, 3) := by decide +kernel
theorem dX12_qAsksWord_174 : decode cX12_qAsksWord 174 = .ok (.aload_n 0, 1) := by decide +kernel
theorem dX12_qAsksWord_175 : decode cX12_qAsksWord 175 = .ok (.aload_n 0, 1) := by decide +kernel
theorem dX12_qAsksWord_176 : decode cX12_qAsksWord 176 = .ok (.getfield 201, 3) := by decide +kernel
theorem dX12_qAsksWord_179 : decode cX12_qAsksWord 179 = .ok (.invokevirtual 290, 3) := by decide +kernel
theorem dX12_qAsksWord_182 : decode cX12_qAsksWord 182 = .ok (.goto 22, 3) := by decide +kernel
theorem dX12_qAsksWord_185 : decode cX12_qAsksWord 185 = .ok (.aload_n 0, 1) := by decide +kernel
theorem dX12_qAsksWord_186 : decode cX12_qAsksWord 186 = .ok (.aload_n 0, 1) := by decide +kernel
theorem dX12_qAsksWord_187 : decode cX12_qAsksWord 187 = .ok (.getfield 204, 3) := by decide +kernel
theorem dX12_qAsksWord_190 : decode cX12_qAsksWord 190 = .ok (.invokevirtual 290, 3) := by decide +kernel
theorem dX12_qAsksWord_193 : decode cX12_qAsksWord 193 = .ok (.goto 11, 3) := by decide +kernel
theorem dX12_qAsksWord_196 : decode cX12_qAsksWord 196 = .ok (.aload_n 0, 1) := by decide +kernel
theorem dX12_qAsksWord_197 : decode cX12_qAsksWord 197 = .ok (.aload_n 0, 1) := by decide +kernel
theorem dX12_qAsksWord_198 : decode cX12_qAsksWord 198 = .ok (.getfield 207, 3) := by decide +kernel
theorem dX12_qAsksWord_201 : decode cX12_qAsksWord 201 = .ok (.invokevirtual 290, 3) := by decide +kernel
theorem dX12_qAsksWord_204 : decode cX12_qAsksWord 204 = .ok (.return_, 1) := by decide +kernel
theorem dX12_qEndsPart_0 : decode cX12_qEndsPart 0 = .ok (.aload_n 0, 1) := by decide +kernel
theorem dX12_qEndsPart_1 : decode cX12_qEndsPart 1 = .ok (.getfield 225, 3) := by decide +kernel
theorem dX12_qEndsPart_4 : decode cX12_qEndsPart 4 = .ok (.ifCond .ne 47, 3) := by decide +kernel
theorem dX12_qEndsPart_7 : decode cX12_qEndsPart 7 = .ok (.aload_n 0, 1) := by decide +kernel
theorem dX12_qEndsPart_8 : decode cX12_qEndsPart 8 = .ok (.getfield 309, 3) := by decide +kernel
theorem dX12_qEndsPart_11 : decode cX12_qEndsPart 11 = .ok (.aload_n 0, 1) := by decide +kernel
theorem dX12_qEndsPart_12 : decode cX12_qEndsPart 12 = .ok (.getfield 315, 3) := by decide +kernel
theorem dX12_qEndsPart_15 : decode cX12_qEndsPart 15 = .ok (.if_icmp .le 36, 3) := by decide +kernel
theorem dX12_qEndsPart_18 : decode cX12_qEndsPart 18 = .ok (.aload_n 0, 1) := by decide +kernel
theorem dX12_qEndsPart_19 : decode cX12_qEndsPart 19 = .ok (.getfield 213, 3) := by decide +kernel
theorem dX12_qEndsPart_22 : decode cX12_qEndsPart 22 = .ok (.aload_n 0, 1) := by decide +kernel
theorem dX12_qEndsPart_23 : decode cX12_qEndsPart 23 = .ok (.getfield 309, 3) := by decide +kernel
theorem dX12_qEndsPart_26 : decode cX12_qEndsPart 26 = .ok (.iconst 1, 1) := by decide +kernel
theorem dX12_qEndsPart_27 : decode cX12_qEndsPart 27 = .ok (.isub, 1) := by decide +kernel
theorem dX12_qEndsPart_28 : decode cX12_qEndsPart 28 = .ok (.iaload, 1) := by decide +kernel
theorem dX12_qEndsPart_29 : decode cX12_qEndsPart 29 = .ok (.bipush 60, 2) := by decide +kernel
theorem dX12_qEndsPart_31 : decode cX12_qEndsPart 31 = .ok (.if_icmp .lt 20, 3) := by decide +kernel
theorem dX12_qEndsPart_34 : decode cX12_qEndsPart 34 = .ok (.aload_n 0, 1) := by decide +kernel
theorem dX12_qEndsPart_35 : decode cX12_qEndsPart 35 = .ok (.dup, 1) := by decide +kernel
theorem dX12_qEndsPart_36 : decode cX12_qEndsPart 36 = .ok (.getfield 312, 3) := by decide +kernel
theorem dX12_qEndsPart_39 : decode cX12_qEndsPart 39 = .ok (.iconst 1, 1) := by decide +kernel
theorem dX12_qEndsPart_40 : decode cX12_qEndsPart 40 = .ok (.isub, 1) := by decide +kernel
theorem dX12_qEndsPart_41 : decode cX12_qEndsPart 41 = .ok (.putfield 312, 3) := by decide +kernel
theorem dX12_qEndsPart_44 : decode cX12_qEndsPart 44 = .ok (.aload_n 0, 1) := by decide +kernel
theorem dX12_qEndsPart_45 : decode cX12_qEndsPart 45 = .ok (.invokevirtual 581, 3) := by decide +kernel
theorem dX12_qEndsPart_48 : decode cX12_qEndsPart 48 = .ok (.goto (-48), 3) := by decide +kernel
theorem dX12_qEndsPart_51 : decode cX12_qEndsPart 51 = .ok (.return_, 1) := by decide +kernel
theorem dX12_qPartTold_0 : decode cX12_qPartTold 0 = .ok (.iconst 1, 1) := by decide +kernel
theorem dX12_qPartTold_1 : decode cX12_qPartTold 1 = .ok (.istore_n 1, 1) := by decide +kernel
theorem dX12_qPartTold_2 : decode cX12_qPartTold 2 = .ok (.iload_n 1, 1) := by decide +kernel
theorem dX12_qPartTold_3 : decode cX12_qPartTold 3 = .ok (.ifCond .eq 183, 3) := by decide +kernel
theorem dX12_qPartTold_6 : decode cX12_qPartTold 6 = .ok (.aload_n 0, 1) := by decide +kernel
theorem dX12_qPartTold_7 : decode cX12_qPartTold 7 = .ok (.getfield 225, 3) := by decide +kernel
theorem dX12_qPartTold_10 : decode cX12_qPartTold 10 = .ok (.ifCond .ne 176, 3) := by decide +kernel
theorem dX12_qPartTold_13 : decode cX12_qPartTold 13 = .ok (.aload_n 0, 1) := by decide +kernel
theorem dX12_qPartTold_14 : decode cX12_qPartTold 14 = .ok (.invokevirtual 237, 3) := by decide +kernel
theorem dX12_qPartTold_17 : decode cX12_qPartTold 17 = .ok (.istore_n 2, 1) := by decide +kernel
theorem dX12_qPartTold_18 : decode cX12_qPartTold 18 = .ok (.aload_n 0, 1) := by decide +kernel
theorem dX12_qPartTold_19 : decode cX12_qPartTold 19 = .ok (.bipush 11, 2) := by decide +kernel
theorem dX12_qPartTold_21 : decode cX12_qPartTold 21 = .ok (.bipush 13, 2) := by decide +kernel
theorem dX12_qPartTold_23 : decode cX12_qPartTold 23 = .ok (.invokevirtual 590, 3) := by decide +kernel
theorem dX12_qPartTold_26 : decode cX12_qPartTold 26 = .ok (.istore_n 3, 1) := by decide +kernel
theorem dX12_qPartTold_27 : decode cX12_qPartTold 27 = .ok (.iload_n 2, 1) := by decide +kernel
theorem dX12_qPartTold_28 : decode cX12_qPartTold 28 = .ok (.bipush 40, 2) := by decide +kernel
theorem dX12_qPartTold_30 : decode cX12_qPartTold 30 = .ok (.if_icmp .ne 26, 3) := by decide +kernel
theorem dX12_qPartTold_33 : decode cX12_qPartTold 33 = .ok (.aload_n 0, 1) := by decide +kernel
theorem dX12_qPartTold_34 : decode cX12_qPartTold 34 = .ok (.bipush 20, 2) := by decide +kernel
theorem dX12_qPartTold_36 : decode cX12_qPartTold 36 = .ok (.aload_n 0, 1) := by decide +kernel
theorem dX12_qPartTold_37 : decode cX12_qPartTold 37 = .ok (.getfield 231, 3) := by decide +kernel
theorem dX12_qPartTold_40 : decode cX12_qPartTold 40 = .ok (.invokevirtual 593, 3) := by decide +kernel
theorem dX12_qPartTold_43 : decode cX12_qPartTold 43 = .ok (.aload_n 0, 1) := by decide +kernel
theorem dX12_qPartTold_44 : decode cX12_qPartTold 44 = .ok (.dup, 1) := by decide +kernel
theorem dX12_qPartTold_45 : decode cX12_qPartTold 45 = .ok (.getfield 231, 3) := by decide +kernel
theorem dX12_qPartTold_48 : decode cX12_qPartTold 48 = .ok (.iconst 1, 1) := by decide +kernel
theorem dX12_qPartTold_49 : decode cX12_qPartTold 49 = .ok (.iadd, 1) := by decide +kernel
theorem dX12_qPartTold_50 : decode cX12_qPartTold 50 = .ok (.putfield 231, 3) := by decide +kernel
theorem dX12_qPartTold_53 : decode cX12_qPartTold 53 = .ok (.goto 130, 3) := by decide +kernel
theorem dX12_qPartTold_56 : decode cX12_qPartTold 56 = .ok (.aload_n 0, 1) := by decide +kernel
theorem dX12_qPartTold_57 : decode cX12_qPartTold 57 = .ok (.aload_n 0, 1) := by decide +kernel
theorem dX12_qPartTold_58 : decode cX12_qPartTold 58 = .ok (.getfield 165, 3) := by decide +kernel
theorem dX12_qPartTold_61 : decode cX12_qPartTold 61 = .ok (.invokevirtual 248, 3) := by decide +kernel
theorem dX12_qPartTold_64 : decode cX12_qPartTold 64 = .ok (.ifCond .ne 14, 3) := by decide +kernel
theorem dX12_qPartTold_67 : decode cX12_qPartTold 67 = .ok (.aload_n 0, 1) := by decide +kernel
theorem dX12_qPartTold_68 : decode cX12_qPartTold 68 = .ok (.aload_n 0, 1) := by decide +kernel
theorem dX12_qPartTold_69 : decode cX12_qPartTold 69 = .ok (.getfield 168, 3) := by decide +kernel
theorem dX12_qPartTold_72 : decode cX12_qPartTold 72 = .ok (.invokevirtual 248, 3) := by decide +kernel
theorem dX12_qPartTold_75 : decode cX12_qPartTold 75 = .ok (.ifCond .eq 78, 3) := by decide +kernel
theorem dX12_qPartTold_78 : decode cX12_qPartTold 78 = .ok (.aload_n 0, 1) := by decide +kernel
theorem dX12_qPartTold_79 : decode cX12_qPartTold 79 = .ok (.aload_n 0, 1) := by decide +kernel
theorem dX12_qPartTold_80 : decode cX12_qPartTold 80 = .ok (.getfield 165, 3) := by decide +kernel
theorem dX12_qPartTold_83 : decode cX12_qPartTold 83 = .ok (.invokevirtual 252, 3) := by decide +kernel
theorem dX12_qPartTold_86 : decode cX12_qPartTold 86 = .ok (.istore 4, 2) := by decide +kernel
theorem dX12_qPartTold_88 : decode cX12_qPartTold 88 = .ok (.iload 4, 2) := by decide +kernel
theorem dX12_qPartTold_90 : decode cX12_qPartTold 90 = .ok (.ifCond .ne 11, 3) := by decide +kernel
theorem dX12_qPartTold_93 : decode cX12_qPartTold 93 = .ok (.aload_n 0, 1) := by decide +kernel
theorem dX12_qPartTold_94 : decode cX12_qPartTold 94 = .ok (.aload_n 0, 1) := by decide +kernel
theorem dX12_qPartTold_95 : decode cX12_qPartTold 95 = .ok (.getfield 168, 3) := by decide +kernel
theorem dX12_qPartTold_98 : decode cX12_qPartTold 98 = .ok (.invokevirtual 290, 3) := by decide +kernel
theorem dX12_qPartTold_101 : decode cX12_qPartTold 101 = .ok (.aload_n 0, 1) := by decide +kernel
theorem dX12_qPartTold_102 : decode cX12_qPartTold 102 = .ok (.invokevirtual 237, 3) := by decide +kernel
theorem dX12_qPartTold_105 : decode cX12_qPartTold 105 = .ok (.bipush 40, 2) := by decide +kernel
theorem dX12_qPartTold_107 : decode cX12_qPartTold 107 = .ok (.if_icmp .ne 10, 3) := by decide +kernel
theorem dX12_qPartTold_110 : decode cX12_qPartTold 110 = .ok (.aload_n 0, 1) := by decide +kernel
theorem dX12_qPartTold_111 : decode cX12_qPartTold 111 = .ok (.getfield 231, 3) := by decide +kernel
theorem dX12_qPartTold_114 : decode cX12_qPartTold 114 = .ok (.goto 4, 3) := by decide +kernel
theorem dX12_qPartTold_117 : decode cX12_qPartTold 117 = .ok (.iconst (-1), 1) := by decide +kernel
theorem dX12_qPartTold_118 : decode cX12_qPartTold 118 = .ok (.istore 5, 2) := by decide +kernel
theorem dX12_qPartTold_120 : decode cX12_qPartTold 120 = .ok (.iload 5, 2) := by decide +kernel
theorem dX12_qPartTold_122 : decode cX12_qPartTold 122 = .ok (.iconst (-1), 1) := by decide +kernel
theorem dX12_qPartTold_123 : decode cX12_qPartTold 123 = .ok (.if_icmp .eq 21, 3) := by decide +kernel
theorem dX12_qPartTold_126 : decode cX12_qPartTold 126 = .ok (.aload_n 0, 1) := by decide +kernel
theorem dX12_qPartTold_127 : decode cX12_qPartTold 127 = .ok (.iload 4, 2) := by decide +kernel
theorem dX12_qPartTold_129 : decode cX12_qPartTold 129 = .ok (.ifCond .eq 8, 3) := by decide +kernel
theorem dX12_qPartTold_132 : decode cX12_qPartTold 132 = .ok (.bipush 21, 2) := by decide +kernel
theorem dX12_qPartTold_134 : decode cX12_qPartTold 134 = .ok (.goto 5, 3) := by decide +kernel
theorem dX12_qPartTold_137 : decode cX12_qPartTold 137 = .ok (.bipush 22, 2) := by decide +kernel
theorem dX12_qPartTold_139 : decode cX12_qPartTold 139 = .ok (.iload 5, 2) := by decide +kernel
theorem dX12_qPartTold_141 : decode cX12_qPartTold 141 = .ok (.invokevirtual 593, 3) := by decide +kernel
theorem dX12_qPartTold_144 : decode cX12_qPartTold 144 = .ok (.aload_n 0, 1) := by decide +kernel
theorem dX12_qPartTold_145 : decode cX12_qPartTold 145 = .ok (.bipush 40, 2) := by decide +kernel
theorem dX12_qPartTold_147 : decode cX12_qPartTold 147 = .ok (.invokevirtual 298, 3) := by decide +kernel
theorem dX12_qPartTold_150 : decode cX12_qPartTold 150 = .ok (.goto 33, 3) := by decide +kernel
theorem dX12_qPartTold_153 : decode cX12_qPartTold 153 = .ok (.iload_n 3, 1) := by decide +kernel
theorem dX12_qPartTold_154 : decode cX12_qPartTold 154 = .ok (.iconst (-1), 1) := by decide +kernel
theorem dX12_qPartTold_155 : decode cX12_qPartTold 155 = .ok (.if_icmp .eq 26, 3) := by decide +kernel
theorem dX12_qPartTold_158 : decode cX12_qPartTold 158 = .ok (.aload_n 0, 1) := by decide +kernel
theorem dX12_qPartTold_159 : decode cX12_qPartTold 159 = .ok (.bipush 60, 2) := by decide +kernel
theorem dX12_qPartTold_161 : decode cX12_qPartTold 161 = .ok (.iload_n 3, 1) := by decide +kernel
theorem dX12_qPartTold_162 : decode cX12_qPartTold 162 = .ok (.iadd, 1) := by decide +kernel
theorem dX12_qPartTold_163 : decode cX12_qPartTold 163 = .ok (.bipush 11, 2) := by decide +kernel
theorem dX12_qPartTold_165 : decode cX12_qPartTold 165 = .ok (.isub, 1) := by decide +kernel
theorem dX12_qPartTold_166 : decode cX12_qPartTold 166 = .ok (.aload_n 0, 1) := by decide +kernel
theorem dX12_qPartTold_167 : decode cX12_qPartTold 167 = .ok (.getfield 231, 3) := by decide +kernel
theorem dX12_qPartTold_170 : decode cX12_qPartTold 170 = .ok (.invokevirtual 593, 3) := by decide +kernel
theorem dX12_qPartTold_173 : decode cX12_qPartTold 173 = .ok (.aload_n 0, 1) := by decide +kernel
theorem dX12_qPartTold_174 : decode cX12_qPartTold 174 = .ok (.iload_n 3, 1) := by decide +kernel
theorem dX12_qPartTold_175 : decode cX12_qPartTold 175 = .ok (.invokevirtual 596, 3) := by decide +kernel
theorem dX12_qPartTold_178 : decode cX12_qPartTold 178 = .ok (.goto 5, 3) := by decide +kernel
theorem dX12_qPartTold_181 : decode cX12_qPartTold 181 = .ok (.iconst 0, 1) := by decide +kernel
theorem dX12_qPartTold_182 : decode cX12_qPartTold 182 = .ok (.istore_n 1, 1) := by decide +kernel
theorem dX12_qPartTold_183 : decode cX12_qPartTold 183 = .ok (.goto (-181), 3) := by decide +kernel
theorem dX12_qPartTold_186 : decode cX12_qPartTold 186 = .ok (.aload_n 0, 1) := by decide +kernel
theorem dX12_qPartTold_187 : decode cX12_qPartTold 187 = .ok (.getfield 225, 3) := by decide +kernel
theorem dX12_qPartTold_190 : decode cX12_qPartTold 190 = .ok (.ifCond .eq 4, 3) := by decide +kernel
theorem dX12_qPartTold_193 : decode cX12_qPartTold 193 = .ok (.return_, 1) := by decide +kernel
theorem dX12_qPartTold_194 : decode cX12_qPartTold 194 = .ok (.aload_n 0, 1) := by decide +kernel
theorem dX12_qPartTold_195 : decode cX12_qPartTold 195 = .ok (.iconst 0, 1) := by decide +kernel
theorem dX12_qPartTold_196 : decode cX12_qPartTold 196 = .ok (.bipush 11, 2) := by decide +kernel
theorem dX12_qPartTold_198 : decode cX12_qPartTold 198 = .ok (.invokevirtual 590, 3) := by decide +kernel
theorem dX12_qPartTold_201 : decode cX12_qPartTold 201 = .ok (.istore_n 2, 1) := by decide +kernel
theorem dX12_qPartTold_202 : decode cX12_qPartTold 202 = .ok (.iload_n 2, 1) := by decide +kernel
theorem dX12_qPartTold_203 : decode cX12_qPartTold 203 = .ok (.iconst (-1), 1) := by decide +kernel
theorem dX12_qPartTold_204 : decode cX12_qPartTold 204 = .ok (.if_icmp .eq 8, 3) := by decide +kernel
theorem dX12_qPartTold_207 : decode cX12_qPartTold 207 = .ok (.aload_n 0, 1) := by decide +kernel
theorem dX12_qPartTold_208 : decode cX12_qPartTold 208 = .ok (.iload_n 2, 1) := by decide +kernel
theorem dX12_qPartTold_209 : decode cX12_qPartTold 209 = .ok (.invokevirtual 596, 3) := by decide +kernel
theorem dX12_qPartTold_212 : decode cX12_qPartTold 212 = .ok (.aload_n 0, 1) := by decide +kernel
theorem dX12_qPartTold_213 : decode cX12_qPartTold 213 = .ok (.iload_n 2, 1) := by decide +kernel
theorem dX12_qPartTold_214 : decode cX12_qPartTold 214 = .ok (.iconst (-1), 1) := by decide +kernel
theorem dX12_qPartTold_215 : decode cX12_qPartTold 215 = .ok (.if_icmp .eq 10, 3) := by decide +kernel
theorem dX12_qPartTold_218 : decode cX12_qPartTold 218 = .ok (.bipush 40, 2) := by decide +kernel
theorem dX12_qPartTold_220 : decode cX12_qPartTold 220 = .ok (.iload_n 2, 1) := by decide +kernel
theorem dX12_qPartTold_221 : decode cX12_qPartTold 221 = .ok (.iadd, 1) := by decide +kernel
theorem dX12_qPartTold_222 : decode cX12_qPartTold 222 = .ok (.goto 15, 3) := by decide +kernel
theorem dX12_qPartTold_225 : decode cX12_qPartTold 225 = .ok (.sipush 1000, 3) := by decide +kernel
theorem dX12_qPartTold_228 : decode cX12_qPartTold 228 = .ok (.aload_n 0, 1) := by decide +kernel
theorem dX12_qPartTold_229 : decode cX12_qPartTold 229 = .ok (.iconst 0, 1) := by decide +kernel
theorem dX12_qPartTold_230 : decode cX12_qPartTold 230 = .ok (.sipush 9999, 3) := by decide +kernel
theorem dX12_qPartTold_233 : decode cX12_qPartTold 233 = .ok (.invokevirtual 294, 3) := by decide +kernel
theorem dX12_qPartTold_236 : decode cX12_qPartTold 236 = .ok (.iadd, 1) := by decide +kernel
theorem dX12_qPartTold_237 : decode cX12_qPartTold 237 = .ok (.invokevirtual 575, 3) := by decide +kernel
theorem dX12_qPartTold_240 : decode cX12_qPartTold 240 = .ok (.aload_n 0, 1) := by decide +kernel
theorem dX12_qPartTold_241 : decode cX12_qPartTold 241 = .ok (.invokevirtual 599, 3) := by decide +kernel
theorem dX12_qPartTold_244 : decode cX12_qPartTold 244 = .ok (.return_, 1) := by decide +kernel
theorem dX12_qGoesOn_0 : decode cX12_qGoesOn 0 = .ok (.aload_n 0, 1) := by decide +kernel
theorem dX12_qGoesOn_1 : decode cX12_qGoesOn 1 = .ok (.getfield 225, 3) := by decide +kernel
theorem dX12_qGoesOn_4 : decode cX12_qGoesOn 4 = .ok (.ifCond .ne 118, 3) := by decide +kernel
theorem dX12_qGoesOn_7 : decode cX12_qGoesOn 7 = .ok (.aload_n 0, 1) := by decide +kernel
theorem dX12_qGoesOn_8 : decode cX12_qGoesOn 8 = .ok (.invokevirtual 237, 3) := by decide +kernel
theorem dX12_qGoesOn_11 : decode cX12_qGoesOn 11 = .ok (.bipush 41, 2) := by decide +kernel
theorem dX12_qGoesOn_13 : decode cX12_qGoesOn 13 = .ok (.if_icmp .ne 109, 3) := by decide +kernel
theorem dX12_qGoesOn_16 : decode cX12_qGoesOn 16 = .ok (.aload_n 0, 1) := by decide +kernel
theorem dX12_qGoesOn_17 : decode cX12_qGoesOn 17 = .ok (.invokevirtual 602, 3) := by decide +kernel
theorem dX12_qGoesOn_20 : decode cX12_qGoesOn 20 = .ok (.bipush 20, 2) := by decide +kernel
theorem dX12_qGoesOn_22 : decode cX12_qGoesOn 22 = .ok (.if_icmp .eq 21, 3) := by decide +kernel
theorem dX12_qGoesOn_25 : decode cX12_qGoesOn 25 = .ok (.aload_n 0, 1) := by decide +kernel
theorem dX12_qGoesOn_26 : decode cX12_qGoesOn 26 = .ok (.invokevirtual 602, 3) := by decide +kernel
theorem dX12_qGoesOn_29 : decode cX12_qGoesOn 29 = .ok (.bipush 23, 2) := by decide +kernel
theorem dX12_qGoesOn_31 : decode cX12_qGoesOn 31 = .ok (.if_icmp .eq 12, 3) := by decide +kernel
theorem dX12_qGoesOn_34 : decode cX12_qGoesOn 34 = .ok (.aload_n 0, 1) := by decide +kernel
theorem dX12_qGoesOn_35 : decode cX12_qGoesOn 35 = .ok (.invokevirtual 602, 3) := by decide +kernel
theorem dX12_qGoesOn_38 : decode cX12_qGoesOn 38 = .ok (.bipush 24, 2) := by decide +kernel
theorem dX12_qGoesOn_40 : decode cX12_qGoesOn 40 = .ok (.if_icmp .ne 82, 3) := by decide +kernel
theorem dX12_qGoesOn_43 : decode cX12_qGoesOn 43 = .ok (.aload_n 0, 1) := by decide +kernel
theorem dX12_qGoesOn_44 : decode cX12_qGoesOn 44 = .ok (.dup, 1) := by decide +kernel
theorem dX12_qGoesOn_45 : decode cX12_qGoesOn 45 = .ok (.getfield 231, 3) := by decide +kernel
theorem dX12_qGoesOn_48 : decode cX12_qGoesOn 48 = .ok (.iconst 1, 1) := by decide +kernel
theorem dX12_qGoesOn_49 : decode cX12_qGoesOn 49 = .ok (.iadd, 1) := by decide +kernel
theorem dX12_qGoesOn_50 : decode cX12_qGoesOn 50 = .ok (.putfield 231, 3) := by decide +kernel
theorem dX12_qGoesOn_53 : decode cX12_qGoesOn 53 = .ok (.aload_n 0, 1) := by decide +kernel
theorem dX12_qGoesOn_54 : decode cX12_qGoesOn 54 = .ok (.invokevirtual 605, 3) := by decide +kernel
theorem dX12_qGoesOn_57 : decode cX12_qGoesOn 57 = .ok (.aload_n 0, 1) := by decide +kernel
theorem dX12_qGoesOn_58 : decode cX12_qGoesOn 58 = .ok (.dup, 1) := by decide +kernel
theorem dX12_qGoesOn_59 : decode cX12_qGoesOn 59 = .ok (.getfield 309, 3) := by decide +kernel
theorem dX12_qGoesOn_62 : decode cX12_qGoesOn 62 = .ok (.iconst 1, 1) := by decide +kernel
theorem dX12_qGoesOn_63 : decode cX12_qGoesOn 63 = .ok (.isub, 1) := by decide +kernel
theorem dX12_qGoesOn_64 : decode cX12_qGoesOn 64 = .ok (.putfield 309, 3) := by decide +kernel
theorem dX12_qGoesOn_67 : decode cX12_qGoesOn 67 = .ok (.aload_n 0, 1) := by decide +kernel
theorem dX12_qGoesOn_68 : decode cX12_qGoesOn 68 = .ok (.dup, 1) := by decide +kernel
theorem dX12_qGoesOn_69 : decode cX12_qGoesOn 69 = .ok (.getfield 312, 3) := by decide +kernel
theorem dX12_qGoesOn_72 : decode cX12_qGoesOn 72 = .ok (.iconst 1, 1) := by decide +kernel
theorem dX12_qGoesOn_73 : decode cX12_qGoesOn 73 = .ok (.isub, 1) := by decide +kernel
theorem dX12_qGoesOn_74 : decode cX12_qGoesOn 74 = .ok (.putfield 312, 3) := by decide +kernel
theorem dX12_qGoesOn_77 : decode cX12_qGoesOn 77 = .ok (.aload_n 0, 1) := by decide +kernel
theorem dX12_qGoesOn_78 : decode cX12_qGoesOn 78 = .ok (.getfield 213, 3) := by decide +kernel
theorem dX12_qGoesOn_81 : decode cX12_qGoesOn 81 = .ok (.aload_n 0, 1) := by decide +kernel
theorem dX12_qGoesOn_82 : decode cX12_qGoesOn 82 = .ok (.getfield 309, 3) := by decide +kernel
theorem dX12_qGoesOn_85 : decode cX12_qGoesOn 85 = .ok (.iaload, 1) := by decide +kernel
theorem dX12_qGoesOn_86 : decode cX12_qGoesOn 86 = .ok (.bipush 20, 2) := by decide +kernel
theorem dX12_qGoesOn_88 : decode cX12_qGoesOn 88 = .ok (.if_icmp .eq 27, 3) := by decide +kernel
theorem dX12_qGoesOn_91 : decode cX12_qGoesOn 91 = .ok (.aload_n 0, 1) := by decide +kernel
theorem dX12_qGoesOn_92 : decode cX12_qGoesOn 92 = .ok (.aload_n 0, 1) := by decide +kernel
theorem dX12_qGoesOn_93 : decode cX12_qGoesOn 93 = .ok (.getfield 213, 3) := by decide +kernel
theorem dX12_qGoesOn_96 : decode cX12_qGoesOn 96 = .ok (.aload_n 0, 1) := by decide +kernel
theorem dX12_qGoesOn_97 : decode cX12_qGoesOn 97 = .ok (.getfield 309, 3) := by decide +kernel
theorem dX12_qGoesOn_100 : decode cX12_qGoesOn 100 = .ok (.iaload, 1) := by decide +kernel
theorem dX12_qGoesOn_101 : decode cX12_qGoesOn 101 = .ok (.bipush 23, 2) := by decide +kernel
theorem dX12_qGoesOn_103 : decode cX12_qGoesOn 103 = .ok (.if_icmp .ne 7, 3) := by decide +kernel
theorem dX12_qGoesOn_106 : decode cX12_qGoesOn 106 = .ok (.iconst 5, 1) := by decide +kernel
theorem dX12_qGoesOn_107 : decode cX12_qGoesOn 107 = .ok (.goto 5, 3) := by decide +kernel
theorem dX12_qGoesOn_110 : decode cX12_qGoesOn 110 = .ok (.bipush 6, 2) := by decide +kernel
theorem dX12_qGoesOn_112 : decode cX12_qGoesOn 112 = .ok (.invokevirtual 575, 3) := by decide +kernel
theorem dX12_qGoesOn_115 : decode cX12_qGoesOn 115 = .ok (.aload_n 0, 1) := by decide +kernel
theorem dX12_qGoesOn_116 : decode cX12_qGoesOn 116 = .ok (.invokevirtual 599, 3) := by decide +kernel
theorem dX12_qGoesOn_119 : decode cX12_qGoesOn 119 = .ok (.goto (-119), 3) := by decide +kernel
theorem dX12_qGoesOn_122 : decode cX12_qGoesOn 122 = .ok (.aload_n 0, 1) := by decide +kernel
theorem dX12_qGoesOn_123 : decode cX12_qGoesOn 123 = .ok (.bipush 42, 2) := by decide +kernel
theorem dX12_qGoesOn_125 : decode cX12_qGoesOn 125 = .ok (.invokevirtual 259, 3) := by decide +kernel
theorem dX12_qGoesOn_128 : decode cX12_qGoesOn 128 = .ok (.ifCond .ne 12, 3) := by decide +kernel
theorem dX12_qGoesOn_131 : decode cX12_qGoesOn 131 = .ok (.aload_n 0, 1) := by decide +kernel
theorem dX12_qGoesOn_132 : decode cX12_qGoesOn 132 = .ok (.bipush 47, 2) := by decide +kernel
theorem dX12_qGoesOn_134 : decode cX12_qGoesOn 134 = .ok (.invokevirtual 259, 3) := by decide +kernel
theorem dX12_qGoesOn_137 : decode cX12_qGoesOn 137 = .ok (.ifCond .eq 70, 3) := by decide +kernel
theorem dX12_qGoesOn_140 : decode cX12_qGoesOn 140 = .ok (.aload_n 0, 1) := by decide +kernel
theorem dX12_qGoesOn_141 : decode cX12_qGoesOn 141 = .ok (.getfield 7, 3) := by decide +kernel
theorem dX12_qGoesOn_144 : decode cX12_qGoesOn 144 = .ok (.aload_n 0, 1) := by decide +kernel
theorem dX12_qGoesOn_145 : decode cX12_qGoesOn 145 = .ok (.getfield 231, 3) := by decide +kernel
theorem dX12_qGoesOn_148 : decode cX12_qGoesOn 148 = .ok (.iconst 1, 1) := by decide +kernel
theorem dX12_qGoesOn_149 : decode cX12_qGoesOn 149 = .ok (.isub, 1) := by decide +kernel
theorem dX12_qGoesOn_150 : decode cX12_qGoesOn 150 = .ok (.iaload, 1) := by decide +kernel
theorem dX12_qGoesOn_151 : decode cX12_qGoesOn 151 = .ok (.bipush 42, 2) := by decide +kernel
theorem dX12_qGoesOn_153 : decode cX12_qGoesOn 153 = .ok (.if_icmp .ne 7, 3) := by decide +kernel
theorem dX12_qGoesOn_156 : decode cX12_qGoesOn 156 = .ok (.iconst 3, 1) := by decide +kernel
theorem dX12_qGoesOn_157 : decode cX12_qGoesOn 157 = .ok (.goto 4, 3) := by decide +kernel
theorem dX12_qGoesOn_160 : decode cX12_qGoesOn 160 = .ok (.iconst 4, 1) := by decide +kernel
theorem dX12_qGoesOn_161 : decode cX12_qGoesOn 161 = .ok (.istore_n 1, 1) := by decide +kernel
theorem dX12_qGoesOn_162 : decode cX12_qGoesOn 162 = .ok (.aload_n 0, 1) := by decide +kernel
theorem dX12_qGoesOn_163 : decode cX12_qGoesOn 163 = .ok (.iconst 3, 1) := by decide +kernel
theorem dX12_qGoesOn_164 : decode cX12_qGoesOn 164 = .ok (.invokevirtual 608, 3) := by decide +kernel
theorem dX12_qGoesOn_167 : decode cX12_qGoesOn 167 = .ok (.ifCond .ne 11, 3) := by decide +kernel
theorem dX12_qGoesOn_170 : decode cX12_qGoesOn 170 = .ok (.aload_n 0, 1) := by decide +kernel
theorem dX12_qGoesOn_171 : decode cX12_qGoesOn 171 = .ok (.iconst 4, 1) := by decide +kernel
theorem dX12_qGoesOn_172 : decode cX12_qGoesOn 172 = .ok (.invokevirtual 608, 3) := by decide +kernel
theorem dX12_qGoesOn_175 : decode cX12_qGoesOn 175 = .ok (.ifCond .eq 10, 3) := by decide +kernel
theorem dX12_qGoesOn_178 : decode cX12_qGoesOn 178 = .ok (.aload_n 0, 1) := by decide +kernel
theorem dX12_qGoesOn_179 : decode cX12_qGoesOn 179 = .ok (.invokevirtual 581, 3) := by decide +kernel
theorem dX12_qGoesOn_182 : decode cX12_qGoesOn 182 = .ok (.goto (-20), 3) := by decide +kernel
theorem dX12_qGoesOn_185 : decode cX12_qGoesOn 185 = .ok (.aload_n 0, 1) := by decide +kernel
theorem dX12_qGoesOn_186 : decode cX12_qGoesOn 186 = .ok (.getfield 213, 3) := by decide +kernel
theorem dX12_qGoesOn_189 : decode cX12_qGoesOn 189 = .ok (.aload_n 0, 1) := by decide +kernel
theorem dX12_qGoesOn_190 : decode cX12_qGoesOn 190 = .ok (.getfield 309, 3) := by decide +kernel
theorem dX12_qGoesOn_193 : decode cX12_qGoesOn 193 = .ok (.iload_n 1, 1) := by decide +kernel
theorem dX12_qGoesOn_194 : decode cX12_qGoesOn 194 = .ok (.iastore, 1) := by decide +kernel
theorem dX12_qGoesOn_195 : decode cX12_qGoesOn 195 = .ok (.aload_n 0, 1) := by decide +kernel
theorem dX12_qGoesOn_196 : decode cX12_qGoesOn 196 = .ok (.dup, 1) := by decide +kernel
theorem dX12_qGoesOn_197 : decode cX12_qGoesOn 197 = .ok (.getfield 309, 3) := by decide +kernel
theorem dX12_qGoesOn_200 : decode cX12_qGoesOn 200 = .ok (.iconst 1, 1) := by decide +kernel
theorem dX12_qGoesOn_201 : decode cX12_qGoesOn 201 = .ok (.iadd, 1) := by decide +kernel
theorem dX12_qGoesOn_202 : decode cX12_qGoesOn 202 = .ok (.putfield 309, 3) := by decide +kernel
theorem dX12_qGoesOn_205 : decode cX12_qGoesOn 205 = .ok (.iconst 1, 1) := by decide +kernel
theorem dX12_qGoesOn_206 : decode cX12_qGoesOn 206 = .ok (.ireturn, 1) := by decide +kernel
theorem dX12_qGoesOn_207 : decode cX12_qGoesOn 207 = .ok (.aload_n 0, 1) := by decide +kernel
theorem dX12_qGoesOn_208 : decode cX12_qGoesOn 208 = .ok (.bipush 43, 2) := by decide +kernel
theorem dX12_qGoesOn_210 : decode cX12_qGoesOn 210 = .ok (.invokevirtual 259, 3) := by decide +kernel
theorem dX12_qGoesOn_213 : decode cX12_qGoesOn 213 = .ok (.ifCond .ne 12, 3) := by decide +kernel
theorem dX12_qGoesOn_216 : decode cX12_qGoesOn 216 = .ok (.aload_n 0, 1) := by decide +kernel
theorem dX12_qGoesOn_217 : decode cX12_qGoesOn 217 = .ok (.bipush 45, 2) := by decide +kernel
theorem dX12_qGoesOn_219 : decode cX12_qGoesOn 219 = .ok (.invokevirtual 259, 3) := by decide +kernel
theorem dX12_qGoesOn_222 : decode cX12_qGoesOn 222 = .ok (.ifCond .eq 86, 3) := by decide +kernel
theorem dX12_qGoesOn_225 : decode cX12_qGoesOn 225 = .ok (.aload_n 0, 1) := by decide +kernel
theorem dX12_qGoesOn_226 : decode cX12_qGoesOn 226 = .ok (.getfield 7, 3) := by decide +kernel
theorem dX12_qGoesOn_229 : decode cX12_qGoesOn 229 = .ok (.aload_n 0, 1) := by decide +kernel
theorem dX12_qGoesOn_230 : decode cX12_qGoesOn 230 = .ok (.getfield 231, 3) := by decide +kernel
theorem dX12_qGoesOn_233 : decode cX12_qGoesOn 233 = .ok (.iconst 1, 1) := by decide +kernel
theorem dX12_qGoesOn_234 : decode cX12_qGoesOn 234 = .ok (.isub, 1) := by decide +kernel
theorem dX12_qGoesOn_235 : decode cX12_qGoesOn 235 = .ok (.iaload, 1) := by decide +kernel
theorem dX12_qGoesOn_236 : decode cX12_qGoesOn 236 = .ok (.bipush 43, 2) := by decide +kernel
theorem dX12_qGoesOn_238 : decode cX12_qGoesOn 238 = .ok (.if_icmp .ne 7, 3) := by decide +kernel
theorem dX12_qGoesOn_241 : decode cX12_qGoesOn 241 = .ok (.iconst 1, 1) := by decide +kernel
theorem dX12_qGoesOn_242 : decode cX12_qGoesOn 242 = .ok (.goto 4, 3) := by decide +kernel
theorem dX12_qGoesOn_245 : decode cX12_qGoesOn 245 = .ok (.iconst 2, 1) := by decide +kernel
theorem dX12_qGoesOn_246 : decode cX12_qGoesOn 246 = .ok (.istore_n 1, 1) := by decide +kernel
theorem dX12_qGoesOn_247 : decode cX12_qGoesOn 247 = .ok (.aload_n 0, 1) := by decide +kernel
theorem dX12_qGoesOn_248 : decode cX12_qGoesOn 248 = .ok (.iconst 3, 1) := by decide +kernel
theorem dX12_qGoesOn_249 : decode cX12_qGoesOn 249 = .ok (.invokevirtual 608, 3) := by decide +kernel
theorem dX12_qGoesOn_252 : decode cX12_qGoesOn 252 = .ok (.ifCond .ne 27, 3) := by decide +kernel
theorem dX12_qGoesOn_255 : decode cX12_qGoesOn 255 = .ok (.aload_n 0, 1) := by decide +kernel
theorem dX12_qGoesOn_256 : decode cX12_qGoesOn 256 = .ok (.iconst 4, 1) := by decide +kernel
theorem dX12_qGoesOn_257 : decode cX12_qGoesOn 257 = .ok (.invokevirtual 608, 3) := by decide +kernel
theorem dX12_qGoesOn_260 : decode cX12_qGoesOn 260 = .ok (.ifCond .ne 19, 3) := by decide +kernel
theorem dX12_qGoesOn_263 : decode cX12_qGoesOn 263 = .ok (.aload_n 0, 1) := by decide +kernel
theorem dX12_qGoesOn_264 : decode cX12_qGoesOn 264 = .ok (.iconst 1, 1) := by decide +kernel
theorem dX12_qGoesOn_265 : decode cX12_qGoesOn 265 = .ok (.invokevirtual 608, 3) := by decide +kernel
theorem dX12_qGoesOn_268 : decode cX12_qGoesOn 268 = .ok (.ifCond .ne 11, 3) := by decide +kernel
theorem dX12_qGoesOn_271 : decode cX12_qGoesOn 271 = .ok (.aload_n 0, 1) := by decide +kernel
theorem dX12_qGoesOn_272 : decode cX12_qGoesOn 272 = .ok (.iconst 2, 1) := by decide +kernel
theorem dX12_qGoesOn_273 : decode cX12_qGoesOn 273 = .ok (.invokevirtual 608, 3) := by decide +kernel
theorem dX12_qGoesOn_276 : decode cX12_qGoesOn 276 = .ok (.ifCond .eq 10, 3) := by decide +kernel
theorem dX12_qGoesOn_279 : decode cX12_qGoesOn 279 = .ok (.aload_n 0, 1) := by decide +kernel
theorem dX12_qGoesOn_280 : decode cX12_qGoesOn 280 = .ok (.invokevirtual 581, 3) := by decide +kernel
theorem dX12_qGoesOn_283 : decode cX12_qGoesOn 283 = .ok (.goto (-36), 3) := by decide +kernel
theorem dX12_qGoesOn_286 : decode cX12_qGoesOn 286 = .ok (.aload_n 0, 1) := by decide +kernel
theorem dX12_qGoesOn_287 : decode cX12_qGoesOn 287 = .ok (.getfield 213, 3) := by decide +kernel
theorem dX12_qGoesOn_290 : decode cX12_qGoesOn 290 = .ok (.aload_n 0, 1) := by decide +kernel
theorem dX12_qGoesOn_291 : decode cX12_qGoesOn 291 = .ok (.getfield 309, 3) := by decide +kernel
theorem dX12_qGoesOn_294 : decode cX12_qGoesOn 294 = .ok (.iload_n 1, 1) := by decide +kernel
theorem dX12_qGoesOn_295 : decode cX12_qGoesOn 295 = .ok (.iastore, 1) := by decide +kernel
theorem dX12_qGoesOn_296 : decode cX12_qGoesOn 296 = .ok (.aload_n 0, 1) := by decide +kernel
theorem dX12_qGoesOn_297 : decode cX12_qGoesOn 297 = .ok (.dup, 1) := by decide +kernel
theorem dX12_qGoesOn_298 : decode cX12_qGoesOn 298 = .ok (.getfield 309, 3) := by decide +kernel
theorem dX12_qGoesOn_301 : decode cX12_qGoesOn 301 = .ok (.iconst 1, 1) := by decide +kernel
theorem dX12_qGoesOn_302 : decode cX12_qGoesOn 302 = .ok (.iadd, 1) := by decide +kernel
theorem dX12_qGoesOn_303 : decode cX12_qGoesOn 303 = .ok (.putfield 309, 3) := by decide +kernel
theorem dX12_qGoesOn_306 : decode cX12_qGoesOn 306 = .ok (.iconst 1, 1) := by decide +kernel
theorem dX12_qGoesOn_307 : decode cX12_qGoesOn 307 = .ok (.ireturn, 1) := by decide +kernel
theorem dX12_qGoesOn_308 : decode cX12_qGoesOn 308 = .ok (.aload_n 0, 1) := by decide +kernel
theorem dX12_qGoesOn_309 : decode cX12_qGoesOn 309 = .ok (.invokevirtual 602, 3) := by decide +kernel
theorem dX12_qGoesOn_312 : decode cX12_qGoesOn 312 = .ok (.bipush 21, 2) := by decide +kernel
theorem dX12_qGoesOn_314 : decode cX12_qGoesOn 314 = .ok (.if_icmp .eq 12, 3) := by decide +kernel
theorem dX12_qGoesOn_317 : decode cX12_qGoesOn 317 = .ok (.aload_n 0, 1) := by decide +kernel
theorem dX12_qGoesOn_318 : decode cX12_qGoesOn 318 = .ok (.invokevirtual 602, 3) := by decide +kernel
theorem dX12_qGoesOn_321 : decode cX12_qGoesOn 321 = .ok (.bipush 22, 2) := by decide +kernel
theorem dX12_qGoesOn_323 : decode cX12_qGoesOn 323 = .ok (.if_icmp .ne 39, 3) := by decide +kernel
theorem dX12_qGoesOn_326 : decode cX12_qGoesOn 326 = .ok (.aload_n 0, 1) := by decide +kernel
theorem dX12_qGoesOn_327 : decode cX12_qGoesOn 327 = .ok (.bipush 44, 2) := by decide +kernel
theorem dX12_qGoesOn_329 : decode cX12_qGoesOn 329 = .ok (.invokevirtual 298, 3) := by decide +kernel
theorem dX12_qGoesOn_332 : decode cX12_qGoesOn 332 = .ok (.aload_n 0, 1) := by decide +kernel
theorem dX12_qGoesOn_333 : decode cX12_qGoesOn 333 = .ok (.getfield 225, 3) := by decide +kernel
theorem dX12_qGoesOn_336 : decode cX12_qGoesOn 336 = .ok (.ifCond .eq 5, 3) := by decide +kernel
theorem dX12_qGoesOn_339 : decode cX12_qGoesOn 339 = .ok (.iconst 0, 1) := by decide +kernel
theorem dX12_qGoesOn_340 : decode cX12_qGoesOn 340 = .ok (.ireturn, 1) := by decide +kernel
theorem dX12_qGoesOn_341 : decode cX12_qGoesOn 341 = .ok (.aload_n 0, 1) := by decide +kernel
theorem dX12_qGoesOn_342 : decode cX12_qGoesOn 342 = .ok (.invokevirtual 605, 3) := by decide +kernel
theorem dX12_qGoesOn_345 : decode cX12_qGoesOn 345 = .ok (.aload_n 0, 1) := by decide +kernel
theorem dX12_qGoesOn_346 : decode cX12_qGoesOn 346 = .ok (.getfield 213, 3) := by decide +kernel
theorem dX12_qGoesOn_349 : decode cX12_qGoesOn 349 = .ok (.aload_n 0, 1) := by decide +kernel
theorem dX12_qGoesOn_350 : decode cX12_qGoesOn 350 = .ok (.getfield 309, 3) := by decide +kernel
theorem dX12_qGoesOn_353 : decode cX12_qGoesOn 353 = .ok (.iconst 1, 1) := by decide +kernel
theorem dX12_qGoesOn_354 : decode cX12_qGoesOn 354 = .ok (.isub, 1) := by decide +kernel
theorem dX12_qGoesOn_355 : decode cX12_qGoesOn 355 = .ok (.dup2, 1) := by decide +kernel
theorem dX12_qGoesOn_356 : decode cX12_qGoesOn 356 = .ok (.iaload, 1) := by decide +kernel
theorem dX12_qGoesOn_357 : decode cX12_qGoesOn 357 = .ok (.iconst 2, 1) := by decide +kernel
theorem dX12_qGoesOn_358 : decode cX12_qGoesOn 358 = .ok (.iadd, 1) := by decide +kernel
theorem dX12_qGoesOn_359 : decode cX12_qGoesOn 359 = .ok (.iastore, 1) := by decide +kernel
theorem dX12_qGoesOn_360 : decode cX12_qGoesOn 360 = .ok (.iconst 1, 1) := by decide +kernel
theorem dX12_qGoesOn_361 : decode cX12_qGoesOn 361 = .ok (.ireturn, 1) := by decide +kernel
theorem dX12_qGoesOn_362 : decode cX12_qGoesOn 362 = .ok (.aload_n 0, 1) := by decide +kernel
theorem dX12_qGoesOn_363 : decode cX12_qGoesOn 363 = .ok (.invokevirtual 602, 3) := by decide +kernel
theorem dX12_qGoesOn_366 : decode cX12_qGoesOn 366 = .ok (.iconst (-1), 1) := by decide +kernel
theorem dX12_qGoesOn_367 : decode cX12_qGoesOn 367 = .ok (.if_icmp .eq 19, 3) := by decide +kernel
theorem dX12_qGoesOn_370 : decode cX12_qGoesOn 370 = .ok (.aload_n 0, 1) := by decide +kernel
theorem dX12_qGoesOn_371 : decode cX12_qGoesOn 371 = .ok (.getfield 225, 3) := by decide +kernel
theorem dX12_qGoesOn_374 : decode cX12_qGoesOn 374 = .ok (.ifCond .ne 12, 3) := by decide +kernel
theorem dX12_qGoesOn_377 : decode cX12_qGoesOn 377 = .ok (.aload_n 0, 1) := by decide +kernel
theorem dX12_qGoesOn_378 : decode cX12_qGoesOn 378 = .ok (.iconst 1, 1) := by decide +kernel
theorem dX12_qGoesOn_379 : decode cX12_qGoesOn 379 = .ok (.aload_n 0, 1) := by decide +kernel
theorem dX12_qGoesOn_380 : decode cX12_qGoesOn 380 = .ok (.getfield 231, 3) := by decide +kernel
theorem dX12_qGoesOn_383 : decode cX12_qGoesOn 383 = .ok (.invokevirtual 255, 3) := by decide +kernel
theorem dX12_qGoesOn_386 : decode cX12_qGoesOn 386 = .ok (.iconst 0, 1) := by decide +kernel
theorem dX12_qGoesOn_387 : decode cX12_qGoesOn 387 = .ok (.ireturn, 1) := by decide +kernel
theorem dX12_qSums_0 : decode cX12_qSums 0 = .ok (.aload_n 0, 1) := by decide +kernel
theorem dX12_qSums_1 : decode cX12_qSums 1 = .ok (.getfield 315, 3) := by decide +kernel
theorem dX12_qSums_4 : decode cX12_qSums 4 = .ok (.istore_n 1, 1) := by decide +kernel
theorem dX12_qSums_5 : decode cX12_qSums 5 = .ok (.aload_n 0, 1) := by decide +kernel
theorem dX12_qSums_6 : decode cX12_qSums 6 = .ok (.aload_n 0, 1) := by decide +kernel
theorem dX12_qSums_7 : decode cX12_qSums 7 = .ok (.getfield 309, 3) := by decide +kernel
theorem dX12_qSums_10 : decode cX12_qSums 10 = .ok (.putfield 315, 3) := by decide +kernel
theorem dX12_qSums_13 : decode cX12_qSums 13 = .ok (.iconst 1, 1) := by decide +kernel
theorem dX12_qSums_14 : decode cX12_qSums 14 = .ok (.istore_n 2, 1) := by decide +kernel
theorem dX12_qSums_15 : decode cX12_qSums 15 = .ok (.iload_n 2, 1) := by decide +kernel
theorem dX12_qSums_16 : decode cX12_qSums 16 = .ok (.ifCond .eq 37, 3) := by decide +kernel
theorem dX12_qSums_19 : decode cX12_qSums 19 = .ok (.aload_n 0, 1) := by decide +kernel
theorem dX12_qSums_20 : decode cX12_qSums 20 = .ok (.getfield 225, 3) := by decide +kernel
theorem dX12_qSums_23 : decode cX12_qSums 23 = .ok (.ifCond .ne 30, 3) := by decide +kernel
theorem dX12_qSums_26 : decode cX12_qSums 26 = .ok (.aload_n 0, 1) := by decide +kernel
theorem dX12_qSums_27 : decode cX12_qSums 27 = .ok (.invokevirtual 611, 3) := by decide +kernel
theorem dX12_qSums_30 : decode cX12_qSums 30 = .ok (.aload_n 0, 1) := by decide +kernel
theorem dX12_qSums_31 : decode cX12_qSums 31 = .ok (.getfield 225, 3) := by decide +kernel
theorem dX12_qSums_34 : decode cX12_qSums 34 = .ok (.ifCond .ne 14, 3) := by decide +kernel
theorem dX12_qSums_37 : decode cX12_qSums 37 = .ok (.aload_n 0, 1) := by decide +kernel
theorem dX12_qSums_38 : decode cX12_qSums 38 = .ok (.invokevirtual 614, 3) := by decide +kernel
theorem dX12_qSums_41 : decode cX12_qSums 41 = .ok (.ifCond .eq 7, 3) := by decide +kernel
theorem dX12_qSums_44 : decode cX12_qSums 44 = .ok (.iconst 1, 1) := by decide +kernel
theorem dX12_qSums_45 : decode cX12_qSums 45 = .ok (.goto 4, 3) := by decide +kernel
theorem dX12_qSums_48 : decode cX12_qSums 48 = .ok (.iconst 0, 1) := by decide +kernel
theorem dX12_qSums_49 : decode cX12_qSums 49 = .ok (.istore_n 2, 1) := by decide +kernel
theorem dX12_qSums_50 : decode cX12_qSums 50 = .ok (.goto (-35), 3) := by decide +kernel
theorem dX12_qSums_53 : decode cX12_qSums 53 = .ok (.aload_n 0, 1) := by decide +kernel
theorem dX12_qSums_54 : decode cX12_qSums 54 = .ok (.getfield 225, 3) := by decide +kernel
theorem dX12_qSums_57 : decode cX12_qSums 57 = .ok (.ifCond .ne 21, 3) := by decide +kernel
theorem dX12_qSums_60 : decode cX12_qSums 60 = .ok (.aload_n 0, 1) := by decide +kernel
theorem dX12_qSums_61 : decode cX12_qSums 61 = .ok (.getfield 309, 3) := by decide +kernel
theorem dX12_qSums_64 : decode cX12_qSums 64 = .ok (.aload_n 0, 1) := by decide +kernel
theorem dX12_qSums_65 : decode cX12_qSums 65 = .ok (.getfield 315, 3) := by decide +kernel
theorem dX12_qSums_68 : decode cX12_qSums 68 = .ok (.if_icmp .le 10, 3) := by decide +kernel
theorem dX12_qSums_71 : decode cX12_qSums 71 = .ok (.aload_n 0, 1) := by decide +kernel
theorem dX12_qSums_72 : decode cX12_qSums 72 = .ok (.invokevirtual 581, 3) := by decide +kernel
theorem dX12_qSums_75 : decode cX12_qSums 75 = .ok (.goto (-22), 3) := by decide +kernel
theorem dX12_qSums_78 : decode cX12_qSums 78 = .ok (.aload_n 0, 1) := by decide +kernel
theorem dX12_qSums_79 : decode cX12_qSums 79 = .ok (.iload_n 1, 1) := by decide +kernel
theorem dX12_qSums_80 : decode cX12_qSums 80 = .ok (.putfield 315, 3) := by decide +kernel
theorem dX12_qSums_83 : decode cX12_qSums 83 = .ok (.return_, 1) := by decide +kernel
theorem dX12_qFact_0 : decode cX12_qFact 0 = .ok (.aload_n 0, 1) := by decide +kernel
theorem dX12_qFact_1 : decode cX12_qFact 1 = .ok (.aload_n 0, 1) := by decide +kernel
theorem dX12_qFact_2 : decode cX12_qFact 2 = .ok (.getfield 162, 3) := by decide +kernel
theorem dX12_qFact_5 : decode cX12_qFact 5 = .ok (.invokevirtual 252, 3) := by decide +kernel
theorem dX12_qFact_8 : decode cX12_qFact 8 = .ok (.ifCond .eq 10, 3) := by decide +kernel
theorem dX12_qFact_11 : decode cX12_qFact 11 = .ok (.aload_n 0, 1) := by decide +kernel
theorem dX12_qFact_12 : decode cX12_qFact 12 = .ok (.bipush 13, 2) := by decide +kernel
theorem dX12_qFact_14 : decode cX12_qFact 14 = .ok (.invokevirtual 575, 3) := by decide +kernel
theorem dX12_qFact_17 : decode cX12_qFact 17 = .ok (.return_, 1) := by decide +kernel
theorem dX12_qFact_18 : decode cX12_qFact 18 = .ok (.aload_n 0, 1) := by decide +kernel
theorem dX12_qFact_19 : decode cX12_qFact 19 = .ok (.invokevirtual 321, 3) := by decide +kernel
theorem dX12_qFact_22 : decode cX12_qFact 22 = .ok (.aload_n 0, 1) := by decide +kernel
theorem dX12_qFact_23 : decode cX12_qFact 23 = .ok (.getfield 225, 3) := by decide +kernel
theorem dX12_qFact_26 : decode cX12_qFact 26 = .ok (.ifCond .eq 4, 3) := by decide +kernel
theorem dX12_qFact_29 : decode cX12_qFact 29 = .ok (.return_, 1) := by decide +kernel
theorem dX12_qFact_30 : decode cX12_qFact 30 = .ok (.aload_n 0, 1) := by decide +kernel
theorem dX12_qFact_31 : decode cX12_qFact 31 = .ok (.invokevirtual 237, 3) := by decide +kernel
theorem dX12_qFact_34 : decode cX12_qFact 34 = .ok (.istore_n 1, 1) := by decide +kernel
theorem dX12_qFact_35 : decode cX12_qFact 35 = .ok (.iload_n 1, 1) := by decide +kernel
theorem dX12_qFact_36 : decode cX12_qFact 36 = .ok (.bipush 60, 2) := by decide +kernel
theorem dX12_qFact_38 : decode cX12_qFact 38 = .ok (.if_icmp .eq 25, 3) := by decide +kernel
theorem dX12_qFact_41 : decode cX12_qFact 41 = .ok (.iload_n 1, 1) := by decide +kernel
theorem dX12_qFact_42 : decode cX12_qFact 42 = .ok (.bipush 62, 2) := by decide +kernel
theorem dX12_qFact_44 : decode cX12_qFact 44 = .ok (.if_icmp .eq 19, 3) := by decide +kernel
theorem dX12_qFact_47 : decode cX12_qFact 47 = .ok (.iload_n 1, 1) := by decide +kernel
theorem dX12_qFact_48 : decode cX12_qFact 48 = .ok (.bipush 61, 2) := by decide +kernel
theorem dX12_qFact_50 : decode cX12_qFact 50 = .ok (.if_icmp .eq 13, 3) := by decide +kernel
theorem dX12_qFact_53 : decode cX12_qFact 53 = .ok (.aload_n 0, 1) := by decide +kernel
theorem dX12_qFact_54 : decode cX12_qFact 54 = .ok (.iconst 1, 1) := by decide +kernel
theorem dX12_qFact_55 : decode cX12_qFact 55 = .ok (.aload_n 0, 1) := by decide +kernel
theorem dX12_qFact_56 : decode cX12_qFact 56 = .ok (.getfield 231, 3) := by decide +kernel
theorem dX12_qFact_59 : decode cX12_qFact 59 = .ok (.invokevirtual 255, 3) := by decide +kernel
theorem dX12_qFact_62 : decode cX12_qFact 62 = .ok (.return_, 1) := by decide +kernel
theorem dX12_qFact_63 : decode cX12_qFact 63 = .ok (.aload_n 0, 1) := by decide +kernel
theorem dX12_qFact_64 : decode cX12_qFact 64 = .ok (.dup, 1) := by decide +kernel
theorem dX12_qFact_65 : decode cX12_qFact 65 = .ok (.getfield 231, 3) := by decide +kernel
theorem dX12_qFact_68 : decode cX12_qFact 68 = .ok (.iconst 1, 1) := by decide +kernel
theorem dX12_qFact_69 : decode cX12_qFact 69 = .ok (.iadd, 1) := by decide +kernel
theorem dX12_qFact_70 : decode cX12_qFact 70 = .ok (.putfield 231, 3) := by decide +kernel
theorem dX12_qFact_73 : decode cX12_qFact 73 = .ok (.aload_n 0, 1) := by decide +kernel
theorem dX12_qFact_74 : decode cX12_qFact 74 = .ok (.invokevirtual 321, 3) := by decide +kernel
theorem dX12_qFact_77 : decode cX12_qFact 77 = .ok (.aload_n 0, 1) := by decide +kernel
theorem dX12_qFact_78 : decode cX12_qFact 78 = .ok (.iload_n 1, 1) := by decide +kernel
theorem dX12_qFact_79 : decode cX12_qFact 79 = .ok (.bipush 60, 2) := by decide +kernel
theorem dX12_qFact_81 : decode cX12_qFact 81 = .ok (.if_icmp .ne 8, 3) := by decide +kernel
theorem dX12_qFact_84 : decode cX12_qFact 84 = .ok (.bipush 7, 2) := by decide +kernel
theorem dX12_qFact_86 : decode cX12_qFact 86 = .ok (.goto 16, 3) := by decide +kernel
theorem dX12_qFact_89 : decode cX12_qFact 89 = .ok (.iload_n 1, 1) := by decide +kernel
theorem dX12_qFact_90 : decode cX12_qFact 90 = .ok (.bipush 62, 2) := by decide +kernel
theorem dX12_qFact_92 : decode cX12_qFact 92 = .ok (.if_icmp .ne 8, 3) := by decide +kernel
theorem dX12_qFact_95 : decode cX12_qFact 95 = .ok (.bipush 8, 2) := by decide +kernel
theorem dX12_qFact_97 : decode cX12_qFact 97 = .ok (.goto 5, 3) := by decide +kernel
theorem dX12_qFact_100 : decode cX12_qFact 100 = .ok (.bipush 9, 2) := by decide +kernel
theorem dX12_qFact_102 : decode cX12_qFact 102 = .ok (.invokevirtual 575, 3) := by decide +kernel
theorem dX12_qFact_105 : decode cX12_qFact 105 = .ok (.return_, 1) := by decide +kernel
theorem dX12_qHasSquare_0 : decode cX12_qHasSquare 0 = .ok (.iconst 0, 1) := by decide +kernel
theorem dX12_qHasSquare_1 : decode cX12_qHasSquare 1 = .ok (.istore_n 1, 1) := by decide +kernel
theorem dX12_qHasSquare_2 : decode cX12_qHasSquare 2 = .ok (.iload_n 1, 1) := by decide +kernel
theorem dX12_qHasSquare_3 : decode cX12_qHasSquare 3 = .ok (.aload_n 0, 1) := by decide +kernel
theorem dX12_qHasSquare_4 : decode cX12_qHasSquare 4 = .ok (.getfield 309, 3) := by decide +kernel
theorem dX12_qHasSquare_7 : decode cX12_qHasSquare 7 = .ok (.if_icmp .ge 22, 3) := by decide +kernel
theorem dX12_qHasSquare_10 : decode cX12_qHasSquare 10 = .ok (.aload_n 0, 1) := by decide +kernel
theorem dX12_qHasSquare_11 : decode cX12_qHasSquare 11 = .ok (.getfield 213, 3) := by decide +kernel
theorem dX12_qHasSquare_14 : decode cX12_qHasSquare 14 = .ok (.iload_n 1, 1) := by decide +kernel
theorem dX12_qHasSquare_15 : decode cX12_qHasSquare 15 = .ok (.iaload, 1) := by decide +kernel
theorem dX12_qHasSquare_16 : decode cX12_qHasSquare 16 = .ok (.bipush 25, 2) := by decide +kernel
theorem dX12_qHasSquare_18 : decode cX12_qHasSquare 18 = .ok (.if_icmp .ne 5, 3) := by decide +kernel
theorem dX12_qHasSquare_21 : decode cX12_qHasSquare 21 = .ok (.iconst 1, 1) := by decide +kernel
theorem dX12_qHasSquare_22 : decode cX12_qHasSquare 22 = .ok (.ireturn, 1) := by decide +kernel
theorem dX12_qHasSquare_23 : decode cX12_qHasSquare 23 = .ok (.iinc 1 1, 3) := by decide +kernel
theorem dX12_qHasSquare_26 : decode cX12_qHasSquare 26 = .ok (.goto (-24), 3) := by decide +kernel
theorem dX12_qHasSquare_29 : decode cX12_qHasSquare 29 = .ok (.iconst 0, 1) := by decide +kernel
theorem dX12_qHasSquare_30 : decode cX12_qHasSquare 30 = .ok (.ireturn, 1) := by decide +kernel
theorem dX12_qDropsNots_0 : decode cX12_qDropsNots 0 = .ok (.aload_n 0, 1) := by decide +kernel
theorem dX12_qDropsNots_1 : decode cX12_qDropsNots 1 = .ok (.getfield 225, 3) := by decide +kernel
theorem dX12_qDropsNots_4 : decode cX12_qDropsNots 4 = .ok (.ifCond .ne 29, 3) := by decide +kernel
theorem dX12_qDropsNots_7 : decode cX12_qDropsNots 7 = .ok (.aload_n 0, 1) := by decide +kernel
theorem dX12_qDropsNots_8 : decode cX12_qDropsNots 8 = .ok (.bipush 12, 2) := by decide +kernel
theorem dX12_qDropsNots_10 : decode cX12_qDropsNots 10 = .ok (.invokevirtual 608, 3) := by decide +kernel
theorem dX12_qDropsNots_13 : decode cX12_qDropsNots 13 = .ok (.ifCond .eq 20, 3) := by decide +kernel
theorem dX12_qDropsNots_16 : decode cX12_qDropsNots 16 = .ok (.aload_n 0, 1) := by decide +kernel
theorem dX12_qDropsNots_17 : decode cX12_qDropsNots 17 = .ok (.dup, 1) := by decide +kernel
theorem dX12_qDropsNots_18 : decode cX12_qDropsNots 18 = .ok (.getfield 312, 3) := by decide +kernel
theorem dX12_qDropsNots_21 : decode cX12_qDropsNots 21 = .ok (.iconst 1, 1) := by decide +kernel
theorem dX12_qDropsNots_22 : decode cX12_qDropsNots 22 = .ok (.isub, 1) := by decide +kernel
theorem dX12_qDropsNots_23 : decode cX12_qDropsNots 23 = .ok (.putfield 312, 3) := by decide +kernel
theorem dX12_qDropsNots_26 : decode cX12_qDropsNots 26 = .ok (.aload_n 0, 1) := by decide +kernel
theorem dX12_qDropsNots_27 : decode cX12_qDropsNots 27 = .ok (.invokevirtual 581, 3) := by decide +kernel
theorem dX12_qDropsNots_30 : decode cX12_qDropsNots 30 = .ok (.goto (-30), 3) := by decide +kernel
theorem dX12_qDropsNots_33 : decode cX12_qDropsNots 33 = .ok (.return_, 1) := by decide +kernel
theorem dX12_qTest_0 : decode cX12_qTest 0 = .ok (.iconst 1, 1) := by decide +kernel
theorem dX12_qTest_1 : decode cX12_qTest 1 = .ok (.istore_n 1, 1) := by decide +kernel
theorem dX12_qTest_2 : decode cX12_qTest 2 = .ok (.iload_n 1, 1) := by decide +kernel
theorem dX12_qTest_3 : decode cX12_qTest 3 = .ok (.ifCond .eq 107, 3) := by decide +kernel
theorem dX12_qTest_6 : decode cX12_qTest 6 = .ok (.aload_n 0, 1) := by decide +kernel
theorem dX12_qTest_7 : decode cX12_qTest 7 = .ok (.getfield 225, 3) := by decide +kernel
theorem dX12_qTest_10 : decode cX12_qTest 10 = .ok (.ifCond .ne 100, 3) := by decide +kernel
theorem dX12_qTest_13 : decode cX12_qTest 13 = .ok (.aload_n 0, 1) := by decide +kernel
theorem dX12_qTest_14 : decode cX12_qTest 14 = .ok (.invokevirtual 237, 3) := by decide +kernel
theorem dX12_qTest_17 : decode cX12_qTest 17 = .ok (.istore_n 2, 1) := by decide +kernel
theorem dX12_qTest_18 : decode cX12_qTest 18 = .ok (.iload_n 2, 1) := by decide +kernel
theorem dX12_qTest_19 : decode cX12_qTest 19 = .ok (.bipush 91, 2) := by decide +kernel
theorem dX12_qTest_21 : decode cX12_qTest 21 = .ok (.if_icmp .ne 26, 3) := by decide +kernel
theorem dX12_qTest_24 : decode cX12_qTest 24 = .ok (.aload_n 0, 1) := by decide +kernel
theorem dX12_qTest_25 : decode cX12_qTest 25 = .ok (.bipush 25, 2) := by decide +kernel
theorem dX12_qTest_27 : decode cX12_qTest 27 = .ok (.aload_n 0, 1) := by decide +kernel
theorem dX12_qTest_28 : decode cX12_qTest 28 = .ok (.getfield 231, 3) := by decide +kernel
theorem dX12_qTest_31 : decode cX12_qTest 31 = .ok (.invokevirtual 593, 3) := by decide +kernel
theorem dX12_qTest_34 : decode cX12_qTest 34 = .ok (.aload_n 0, 1) := by decide +kernel
theorem dX12_qTest_35 : decode cX12_qTest 35 = .ok (.dup, 1) := by decide +kernel
theorem dX12_qTest_36 : decode cX12_qTest 36 = .ok (.getfield 231, 3) := by decide +kernel
theorem dX12_qTest_39 : decode cX12_qTest 39 = .ok (.iconst 1, 1) := by decide +kernel
theorem dX12_qTest_40 : decode cX12_qTest 40 = .ok (.iadd, 1) := by decide +kernel
theorem dX12_qTest_41 : decode cX12_qTest 41 = .ok (.putfield 231, 3) := by decide +kernel
theorem dX12_qTest_44 : decode cX12_qTest 44 = .ok (.goto (-42), 3) := by decide +kernel
theorem dX12_qTest_47 : decode cX12_qTest 47 = .ok (.aload_n 0, 1) := by decide +kernel
theorem dX12_qTest_48 : decode cX12_qTest 48 = .ok (.aload_n 0, 1) := by decide +kernel
theorem dX12_qTest_49 : decode cX12_qTest 49 = .ok (.getfield 153, 3) := by decide +kernel
theorem dX12_qTest_52 : decode cX12_qTest 52 = .ok (.invokevirtual 248, 3) := by decide +kernel
theorem dX12_qTest_55 : decode cX12_qTest 55 = .ok (.ifCond .eq 24, 3) := by decide +kernel
theorem dX12_qTest_58 : decode cX12_qTest 58 = .ok (.aload_n 0, 1) := by decide +kernel
theorem dX12_qTest_59 : decode cX12_qTest 59 = .ok (.bipush 12, 2) := by decide +kernel
theorem dX12_qTest_61 : decode cX12_qTest 61 = .ok (.aload_n 0, 1) := by decide +kernel
theorem dX12_qTest_62 : decode cX12_qTest 62 = .ok (.getfield 231, 3) := by decide +kernel
theorem dX12_qTest_65 : decode cX12_qTest 65 = .ok (.invokevirtual 593, 3) := by decide +kernel
theorem dX12_qTest_68 : decode cX12_qTest 68 = .ok (.aload_n 0, 1) := by decide +kernel
theorem dX12_qTest_69 : decode cX12_qTest 69 = .ok (.aload_n 0, 1) := by decide +kernel
theorem dX12_qTest_70 : decode cX12_qTest 70 = .ok (.getfield 153, 3) := by decide +kernel
theorem dX12_qTest_73 : decode cX12_qTest 73 = .ok (.invokevirtual 290, 3) := by decide +kernel
theorem dX12_qTest_76 : decode cX12_qTest 76 = .ok (.goto (-74), 3) := by decide +kernel
theorem dX12_qTest_79 : decode cX12_qTest 79 = .ok (.aload_n 0, 1) := by decide +kernel
theorem dX12_qTest_80 : decode cX12_qTest 80 = .ok (.invokevirtual 617, 3) := by decide +kernel
theorem dX12_qTest_83 : decode cX12_qTest 83 = .ok (.aload_n 0, 1) := by decide +kernel
theorem dX12_qTest_84 : decode cX12_qTest 84 = .ok (.invokevirtual 620, 3) := by decide +kernel
theorem dX12_qTest_87 : decode cX12_qTest 87 = .ok (.aload_n 0, 1) := by decide +kernel
theorem dX12_qTest_88 : decode cX12_qTest 88 = .ok (.getfield 225, 3) := by decide +kernel
theorem dX12_qTest_91 : decode cX12_qTest 91 = .ok (.ifCond .ne 14, 3) := by decide +kernel
theorem dX12_qTest_94 : decode cX12_qTest 94 = .ok (.aload_n 0, 1) := by decide +kernel
theorem dX12_qTest_95 : decode cX12_qTest 95 = .ok (.invokevirtual 623, 3) := by decide +kernel
theorem dX12_qTest_98 : decode cX12_qTest 98 = .ok (.ifCond .eq 7, 3) := by decide +kernel
theorem dX12_qTest_101 : decode cX12_qTest 101 = .ok (.iconst 1, 1) := by decide +kernel
theorem dX12_qTest_102 : decode cX12_qTest 102 = .ok (.goto 4, 3) := by decide +kernel
theorem dX12_qTest_105 : decode cX12_qTest 105 = .ok (.iconst 0, 1) := by decide +kernel
theorem dX12_qTest_106 : decode cX12_qTest 106 = .ok (.istore_n 1, 1) := by decide +kernel
theorem dX12_qTest_107 : decode cX12_qTest 107 = .ok (.goto (-105), 3) := by decide +kernel
theorem dX12_qTest_110 : decode cX12_qTest 110 = .ok (.aload_n 0, 1) := by decide +kernel
theorem dX12_qTest_111 : decode cX12_qTest 111 = .ok (.getfield 225, 3) := by decide +kernel
theorem dX12_qTest_114 : decode cX12_qTest 114 = .ok (.ifCond .ne 17, 3) := by decide +kernel
theorem dX12_qTest_117 : decode cX12_qTest 117 = .ok (.aload_n 0, 1) := by decide +kernel
theorem dX12_qTest_118 : decode cX12_qTest 118 = .ok (.getfield 309, 3) := by decide +kernel
theorem dX12_qTest_121 : decode cX12_qTest 121 = .ok (.ifCond .le 10, 3) := by decide +kernel
theorem dX12_qTest_124 : decode cX12_qTest 124 = .ok (.aload_n 0, 1) := by decide +kernel
theorem dX12_qTest_125 : decode cX12_qTest 125 = .ok (.invokevirtual 581, 3) := by decide +kernel
theorem dX12_qTest_128 : decode cX12_qTest 128 = .ok (.goto (-18), 3) := by decide +kernel
theorem dX12_qTest_131 : decode cX12_qTest 131 = .ok (.return_, 1) := by decide +kernel
theorem dX12_qGoesOnTest_0 : decode cX12_qGoesOnTest 0 = .ok (.aload_n 0, 1) := by decide +kernel
theorem dX12_qGoesOnTest_1 : decode cX12_qGoesOnTest 1 = .ok (.getfield 225, 3) := by decide +kernel
theorem dX12_qGoesOnTest_4 : decode cX12_qGoesOnTest 4 = .ok (.ifCond .ne 72, 3) := by decide +kernel
theorem dX12_qGoesOnTest_7 : decode cX12_qGoesOnTest 7 = .ok (.aload_n 0, 1) := by decide +kernel
theorem dX12_qGoesOnTest_8 : decode cX12_qGoesOnTest 8 = .ok (.invokevirtual 237, 3) := by decide +kernel
theorem dX12_qGoesOnTest_11 : decode cX12_qGoesOnTest 11 = .ok (.bipush 93, 2) := by decide +kernel
theorem dX12_qGoesOnTest_13 : decode cX12_qGoesOnTest 13 = .ok (.if_icmp .ne 63, 3) := by decide +kernel
theorem dX12_qGoesOnTest_16 : decode cX12_qGoesOnTest 16 = .ok (.aload_n 0, 1) := by decide +kernel
theorem dX12_qGoesOnTest_17 : decode cX12_qGoesOnTest 17 = .ok (.invokevirtual 626, 3) := by decide +kernel
theorem dX12_qGoesOnTest_20 : decode cX12_qGoesOnTest 20 = .ok (.ifCond .eq 56, 3) := by decide +kernel
theorem dX12_qGoesOnTest_23 : decode cX12_qGoesOnTest 23 = .ok (.aload_n 0, 1) := by decide +kernel
theorem dX12_qGoesOnTest_24 : decode cX12_qGoesOnTest 24 = .ok (.dup, 1) := by decide +kernel
theorem dX12_qGoesOnTest_25 : decode cX12_qGoesOnTest 25 = .ok (.getfield 231, 3) := by decide +kernel
theorem dX12_qGoesOnTest_28 : decode cX12_qGoesOnTest 28 = .ok (.iconst 1, 1) := by decide +kernel
theorem dX12_qGoesOnTest_29 : decode cX12_qGoesOnTest 29 = .ok (.iadd, 1) := by decide +kernel
theorem dX12_qGoesOnTest_30 : decode cX12_qGoesOnTest 30 = .ok (.putfield 231, 3) := by decide +kernel
theorem dX12_qGoesOnTest_33 : decode cX12_qGoesOnTest 33 = .ok (.aload_n 0, 1) := by decide +kernel
theorem dX12_qGoesOnTest_34 : decode cX12_qGoesOnTest 34 = .ok (.bipush 25, 2) := by decide +kernel
theorem dX12_qGoesOnTest_36 : decode cX12_qGoesOnTest 36 = .ok (.invokevirtual 608, 3) := by decide +kernel
theorem dX12_qGoesOnTest_39 : decode cX12_qGoesOnTest 39 = .ok (.ifCond .ne 10, 3) := by decide +kernel
theorem dX12_qGoesOnTest_42 : decode cX12_qGoesOnTest 42 = .ok (.aload_n 0, 1) := by decide +kernel
theorem dX12_qGoesOnTest_43 : decode cX12_qGoesOnTest 43 = .ok (.invokevirtual 581, 3) := by decide +kernel
theorem dX12_qGoesOnTest_46 : decode cX12_qGoesOnTest 46 = .ok (.goto (-13), 3) := by decide +kernel
theorem dX12_qGoesOnTest_49 : decode cX12_qGoesOnTest 49 = .ok (.aload_n 0, 1) := by decide +kernel
theorem dX12_qGoesOnTest_50 : decode cX12_qGoesOnTest 50 = .ok (.dup, 1) := by decide +kernel
theorem dX12_qGoesOnTest_51 : decode cX12_qGoesOnTest 51 = .ok (.getfield 309, 3) := by decide +kernel
theorem dX12_qGoesOnTest_54 : decode cX12_qGoesOnTest 54 = .ok (.iconst 1, 1) := by decide +kernel
theorem dX12_qGoesOnTest_55 : decode cX12_qGoesOnTest 55 = .ok (.isub, 1) := by decide +kernel
theorem dX12_qGoesOnTest_56 : decode cX12_qGoesOnTest 56 = .ok (.putfield 309, 3) := by decide +kernel
theorem dX12_qGoesOnTest_59 : decode cX12_qGoesOnTest 59 = .ok (.aload_n 0, 1) := by decide +kernel
theorem dX12_qGoesOnTest_60 : decode cX12_qGoesOnTest 60 = .ok (.dup, 1) := by decide +kernel
theorem dX12_qGoesOnTest_61 : decode cX12_qGoesOnTest 61 = .ok (.getfield 312, 3) := by decide +kernel
theorem dX12_qGoesOnTest_64 : decode cX12_qGoesOnTest 64 = .ok (.iconst 1, 1) := by decide +kernel
theorem dX12_qGoesOnTest_65 : decode cX12_qGoesOnTest 65 = .ok (.isub, 1) := by decide +kernel
theorem dX12_qGoesOnTest_66 : decode cX12_qGoesOnTest 66 = .ok (.putfield 312, 3) := by decide +kernel
theorem dX12_qGoesOnTest_69 : decode cX12_qGoesOnTest 69 = .ok (.aload_n 0, 1) := by decide +kernel
theorem dX12_qGoesOnTest_70 : decode cX12_qGoesOnTest 70 = .ok (.invokevirtual 620, 3) := by decide +kernel
theorem dX12_qGoesOnTest_73 : decode cX12_qGoesOnTest 73 = .ok (.goto (-73), 3) := by decide +kernel
theorem dX12_qGoesOnTest_76 : decode cX12_qGoesOnTest 76 = .ok (.aload_n 0, 1) := by decide +kernel
theorem dX12_qGoesOnTest_77 : decode cX12_qGoesOnTest 77 = .ok (.aload_n 0, 1) := by decide +kernel
theorem dX12_qGoesOnTest_78 : decode cX12_qGoesOnTest 78 = .ok (.getfield 156, 3) := by decide +kernel
theorem dX12_qGoesOnTest_81 : decode cX12_qGoesOnTest 81 = .ok (.invokevirtual 252, 3) := by decide +kernel
theorem dX12_qGoesOnTest_84 : decode cX12_qGoesOnTest 84 = .ok (.ifCond .eq 42, 3) := by decide +kernel
theorem dX12_qGoesOnTest_87 : decode cX12_qGoesOnTest 87 = .ok (.aload_n 0, 1) := by decide +kernel
theorem dX12_qGoesOnTest_88 : decode cX12_qGoesOnTest 88 = .ok (.bipush 10, 2) := by decide +kernel
theorem dX12_qGoesOnTest_90 : decode cX12_qGoesOnTest 90 = .ok (.invokevirtual 608, 3) := by decide +kernel
theorem dX12_qGoesOnTest_93 : decode cX12_qGoesOnTest 93 = .ok (.ifCond .eq 10, 3) := by decide +kernel
theorem dX12_qGoesOnTest_96 : decode cX12_qGoesOnTest 96 = .ok (.aload_n 0, 1) := by decide +kernel
theorem dX12_qGoesOnTest_97 : decode cX12_qGoesOnTest 97 = .ok (.invokevirtual 581, 3) := by decide +kernel
theorem dX12_qGoesOnTest_100 : decode cX12_qGoesOnTest 100 = .ok (.goto (-13), 3) := by decide +kernel
theorem dX12_qGoesOnTest_103 : decode cX12_qGoesOnTest 103 = .ok (.aload_n 0, 1) := by decide +kernel
theorem dX12_qGoesOnTest_104 : decode cX12_qGoesOnTest 104 = .ok (.getfield 213, 3) := by decide +kernel
theorem dX12_qGoesOnTest_107 : decode cX12_qGoesOnTest 107 = .ok (.aload_n 0, 1) := by decide +kernel
theorem dX12_qGoesOnTest_108 : decode cX12_qGoesOnTest 108 = .ok (.getfield 309, 3) := by decide +kernel
theorem dX12_qGoesOnTest_111 : decode cX12_qGoesOnTest 111 = .ok (.bipush 10, 2) := by decide +kernel
theorem dX12_qGoesOnTest_113 : decode cX12_qGoesOnTest 113 = .ok (.iastore, 1) := by decide +kernel
theorem dX12_qGoesOnTest_114 : decode cX12_qGoesOnTest 114 = .ok (.aload_n 0, 1) := by decide +kernel
theorem dX12_qGoesOnTest_115 : decode cX12_qGoesOnTest 115 = .ok (.dup, 1) := by decide +kernel
theorem dX12_qGoesOnTest_116 : decode cX12_qGoesOnTest 116 = .ok (.getfield 309, 3) := by decide +kernel
theorem dX12_qGoesOnTest_119 : decode cX12_qGoesOnTest 119 = .ok (.iconst 1, 1) := by decide +kernel
theorem dX12_qGoesOnTest_120 : decode cX12_qGoesOnTest 120 = .ok (.iadd, 1) := by decide +kernel
theorem dX12_qGoesOnTest_121 : decode cX12_qGoesOnTest 121 = .ok (.putfield 309, 3) := by decide +kernel
theorem dX12_qGoesOnTest_124 : decode cX12_qGoesOnTest 124 = .ok (.iconst 1, 1) := by decide +kernel
theorem dX12_qGoesOnTest_125 : decode cX12_qGoesOnTest 125 = .ok (.ireturn, 1) := by decide +kernel
theorem dX12_qGoesOnTest_126 : decode cX12_qGoesOnTest 126 = .ok (.aload_n 0, 1) := by decide +kernel
theorem dX12_qGoesOnTest_127 : decode cX12_qGoesOnTest 127 = .ok (.aload_n 0, 1) := by decide +kernel
theorem dX12_qGoesOnTest_128 : decode cX12_qGoesOnTest 128 = .ok (.getfield 159, 3) := by decide +kernel
theorem dX12_qGoesOnTest_131 : decode cX12_qGoesOnTest 131 = .ok (.invokevirtual 252, 3) := by decide +kernel
theorem dX12_qGoesOnTest_134 : decode cX12_qGoesOnTest 134 = .ok (.ifCond .eq 51, 3) := by decide +kernel
theorem dX12_qGoesOnTest_137 : decode cX12_qGoesOnTest 137 = .ok (.aload_n 0, 1) := by decide +kernel
theorem dX12_qGoesOnTest_138 : decode cX12_qGoesOnTest 138 = .ok (.bipush 10, 2) := by decide +kernel
theorem dX12_qGoesOnTest_140 : decode cX12_qGoesOnTest 140 = .ok (.invokevirtual 608, 3) := by decide +kernel
theorem dX12_qGoesOnTest_143 : decode cX12_qGoesOnTest 143 = .ok (.ifCond .ne 12, 3) := by decide +kernel
theorem dX12_qGoesOnTest_146 : decode cX12_qGoesOnTest 146 = .ok (.aload_n 0, 1) := by decide +kernel
theorem dX12_qGoesOnTest_147 : decode cX12_qGoesOnTest 147 = .ok (.bipush 11, 2) := by decide +kernel
theorem dX12_qGoesOnTest_149 : decode cX12_qGoesOnTest 149 = .ok (.invokevirtual 608, 3) := by decide +kernel
theorem dX12_qGoesOnTest_152 : decode cX12_qGoesOnTest 152 = .ok (.ifCond .eq 10, 3) := by decide +kernel
theorem dX12_qGoesOnTest_155 : decode cX12_qGoesOnTest 155 = .ok (.aload_n 0, 1) := by decide +kernel
theorem dX12_qGoesOnTest_156 : decode cX12_qGoesOnTest 156 = .ok (.invokevirtual 581, 3) := by decide +kernel
theorem dX12_qGoesOnTest_159 : decode cX12_qGoesOnTest 159 = .ok (.goto (-22), 3) := by decide +kernel
theorem dX12_qGoesOnTest_162 : decode cX12_qGoesOnTest 162 = .ok (.aload_n 0, 1) := by decide +kernel
theorem dX12_qGoesOnTest_163 : decode cX12_qGoesOnTest 163 = .ok (.getfield 213, 3) := by decide +kernel
theorem dX12_qGoesOnTest_166 : decode cX12_qGoesOnTest 166 = .ok (.aload_n 0, 1) := by decide +kernel
theorem dX12_qGoesOnTest_167 : decode cX12_qGoesOnTest 167 = .ok (.getfield 309, 3) := by decide +kernel
theorem dX12_qGoesOnTest_170 : decode cX12_qGoesOnTest 170 = .ok (.bipush 11, 2) := by decide +kernel
theorem dX12_qGoesOnTest_172 : decode cX12_qGoesOnTest 172 = .ok (.iastore, 1) := by decide +kernel
theorem dX12_qGoesOnTest_173 : decode cX12_qGoesOnTest 173 = .ok (.aload_n 0, 1) := by decide +kernel
theorem dX12_qGoesOnTest_174 : decode cX12_qGoesOnTest 174 = .ok (.dup, 1) := by decide +kernel
theorem dX12_qGoesOnTest_175 : decode cX12_qGoesOnTest 175 = .ok (.getfield 309, 3) := by decide +kernel
theorem dX12_qGoesOnTest_178 : decode cX12_qGoesOnTest 178 = .ok (.iconst 1, 1) := by decide +kernel
theorem dX12_qGoesOnTest_179 : decode cX12_qGoesOnTest 179 = .ok (.iadd, 1) := by decide +kernel
theorem dX12_qGoesOnTest_180 : decode cX12_qGoesOnTest 180 = .ok (.putfield 309, 3) := by decide +kernel
theorem dX12_qGoesOnTest_183 : decode cX12_qGoesOnTest 183 = .ok (.iconst 1, 1) := by decide +kernel
theorem dX12_qGoesOnTest_184 : decode cX12_qGoesOnTest 184 = .ok (.ireturn, 1) := by decide +kernel
theorem dX12_qGoesOnTest_185 : decode cX12_qGoesOnTest 185 = .ok (.aload_n 0, 1) := by decide +kernel
theorem dX12_qGoesOnTest_186 : decode cX12_qGoesOnTest 186 = .ok (.getfield 225, 3) := by decide +kernel
theorem dX12_qGoesOnTest_189 : decode cX12_qGoesOnTest 189 = .ok (.ifCond .ne 19, 3) := by decide +kernel
theorem dX12_qGoesOnTest_192 : decode cX12_qGoesOnTest 192 = .ok (.aload_n 0, 1) := by decide +kernel
theorem dX12_qGoesOnTest_193 : decode cX12_qGoesOnTest 193 = .ok (.invokevirtual 626, 3) := by decide +kernel
theorem dX12_qGoesOnTest_196 : decode cX12_qGoesOnTest 196 = .ok (.ifCond .eq 12, 3) := by decide +kernel
theorem dX12_qGoesOnTest_199 : decode cX12_qGoesOnTest 199 = .ok (.aload_n 0, 1) := by decide +kernel
theorem dX12_qGoesOnTest_200 : decode cX12_qGoesOnTest 200 = .ok (.iconst 1, 1) := by decide +kernel
theorem dX12_qGoesOnTest_201 : decode cX12_qGoesOnTest 201 = .ok (.aload_n 0, 1) := by decide +kernel
theorem dX12_qGoesOnTest_202 : decode cX12_qGoesOnTest 202 = .ok (.getfield 231, 3) := by decide +kernel
theorem dX12_qGoesOnTest_205 : decode cX12_qGoesOnTest 205 = .ok (.invokevirtual 255, 3) := by decide +kernel
theorem dX12_qGoesOnTest_208 : decode cX12_qGoesOnTest 208 = .ok (.iconst 0, 1) := by decide +kernel
theorem dX12_qGoesOnTest_209 : decode cX12_qGoesOnTest 209 = .ok (.ireturn, 1) := by decide +kernel
theorem dX12_qClip_0 : decode cX12_qClip 0 = .ok (.lload_n 0, 1) := by decide +kernel
theorem dX12_qClip_1 : decode cX12_qClip 1 = .ok (.ldc2_w 629, 3) := by decide +kernel
theorem dX12_qClip_4 : decode cX12_qClip 4 = .ok (.lcmp, 1) := by decide +kernel
theorem dX12_qClip_5 : decode cX12_qClip 5 = .ok (.ifCond .le 9, 3) := by decide +kernel
theorem dX12_qClip_8 : decode cX12_qClip 8 = .ok (.ldc2_w 629, 3) := by decide +kernel
theorem dX12_qClip_11 : decode cX12_qClip 11 = .ok (.goto 18, 3) := by decide +kernel
theorem dX12_qClip_14 : decode cX12_qClip 14 = .ok (.lload_n 0, 1) := by decide +kernel
theorem dX12_qClip_15 : decode cX12_qClip 15 = .ok (.ldc2_w 631, 3) := by decide +kernel
theorem dX12_qClip_18 : decode cX12_qClip 18 = .ok (.lcmp, 1) := by decide +kernel
theorem dX12_qClip_19 : decode cX12_qClip 19 = .ok (.ifCond .ge 9, 3) := by decide +kernel
theorem dX12_qClip_22 : decode cX12_qClip 22 = .ok (.ldc2_w 631, 3) := by decide +kernel
theorem dX12_qClip_25 : decode cX12_qClip 25 = .ok (.goto 4, 3) := by decide +kernel
theorem dX12_qClip_28 : decode cX12_qClip 28 = .ok (.lload_n 0, 1) := by decide +kernel
theorem dX12_qClip_29 : decode cX12_qClip 29 = .ok (.lreturn, 1) := by decide +kernel
theorem dX12_qFloor_0 : decode cX12_qFloor 0 = .ok (.lload_n 2, 1) := by decide +kernel
theorem dX12_qFloor_1 : decode cX12_qFloor 1 = .ok (.lconst 0, 1) := by decide +kernel
theorem dX12_qFloor_2 : decode cX12_qFloor 2 = .ok (.lcmp, 1) := by decide +kernel
theorem dX12_qFloor_3 : decode cX12_qFloor 3 = .ok (.ifCond .ne 5, 3) := by decide +kernel
theorem dX12_qFloor_6 : decode cX12_qFloor 6 = .ok (.lconst 0, 1) := by decide +kernel
theorem dX12_qFloor_7 : decode cX12_qFloor 7 = .ok (.lreturn, 1) := by decide +kernel
theorem dX12_qFloor_8 : decode cX12_qFloor 8 = .ok (.lload_n 0, 1) := by decide +kernel
theorem dX12_qFloor_9 : decode cX12_qFloor 9 = .ok (.lload_n 2, 1) := by decide +kernel
theorem dX12_qFloor_10 : decode cX12_qFloor 10 = .ok (.ldiv, 1) := by decide +kernel
theorem dX12_qFloor_11 : decode cX12_qFloor 11 = .ok (.lstore 4, 2) := by decide +kernel
theorem dX12_qFloor_13 : decode cX12_qFloor 13 = .ok (.lload_n 0, 1) := by decide +kernel
theorem dX12_qFloor_14 : decode cX12_qFloor 14 = .ok (.lload_n 2, 1) := by decide +kernel
theorem dX12_qFloor_15 : decode cX12_qFloor 15 = .ok (.lrem, 1) := by decide +kernel
theorem dX12_qFloor_16 : decode cX12_qFloor 16 = .ok (.lconst 0, 1) := by decide +kernel
theorem dX12_qFloor_17 : decode cX12_qFloor 17 = .ok (.lcmp, 1) := by decide +kernel
theorem dX12_qFloor_18 : decode cX12_qFloor 18 = .ok (.ifCond .eq 35, 3) := by decide +kernel
theorem dX12_qFloor_21 : decode cX12_qFloor 21 = .ok (.lload_n 0, 1) := by decide +kernel
theorem dX12_qFloor_22 : decode cX12_qFloor 22 = .ok (.lconst 0, 1) := by decide +kernel
theorem dX12_qFloor_23 : decode cX12_qFloor 23 = .ok (.lcmp, 1) := by decide +kernel
theorem dX12_qFloor_24 : decode cX12_qFloor 24 = .ok (.ifCond .ge 7, 3) := by decide +kernel
theorem dX12_qFloor_27 : decode cX12_qFloor 27 = .ok (.iconst 1, 1) := by decide +kernel
theorem dX12_qFloor_28 : decode cX12_qFloor 28 = .ok (.goto 4, 3) := by decide +kernel
theorem dX12_qFloor_31 : decode cX12_qFloor 31 = .ok (.iconst 0, 1) := by decide +kernel
theorem dX12_qFloor_32 : decode cX12_qFloor 32 = .ok (.lload_n 2, 1) := by decide +kernel
theorem dX12_qFloor_33 : decode cX12_qFloor 33 = .ok (.lconst 0, 1) := by decide +kernel
theorem dX12_qFloor_34 : decode cX12_qFloor 34 = .ok (.lcmp, 1) := by decide +kernel
theorem dX12_qFloor_35 : decode cX12_qFloor 35 = .ok (.ifCond .ge 7, 3) := by decide +kernel
theorem dX12_qFloor_38 : decode cX12_qFloor 38 = .ok (.iconst 1, 1) := by decide +kernel
theorem dX12_qFloor_39 : decode cX12_qFloor 39 = .ok (.goto 4, 3) := by decide +kernel
theorem dX12_qFloor_42 : decode cX12_qFloor 42 = .ok (.iconst 0, 1) := by decide +kernel
theorem dX12_qFloor_43 : decode cX12_qFloor 43 = .ok (.if_icmp .eq 10, 3) := by decide +kernel
theorem dX12_qFloor_46 : decode cX12_qFloor 46 = .ok (.lload 4, 2) := by decide +kernel
theorem dX12_qFloor_48 : decode cX12_qFloor 48 = .ok (.lconst 1, 1) := by decide +kernel
theorem dX12_qFloor_49 : decode cX12_qFloor 49 = .ok (.lsub, 1) := by decide +kernel
theorem dX12_qFloor_50 : decode cX12_qFloor 50 = .ok (.goto 5, 3) := by decide +kernel
theorem dX12_qFloor_53 : decode cX12_qFloor 53 = .ok (.lload 4, 2) := by decide +kernel
theorem dX12_qFloor_55 : decode cX12_qFloor 55 = .ok (.lreturn, 1) := by decide +kernel
theorem dX12_qPuts_0 : decode cX12_qPuts 0 = .ok (.aload_n 0, 1) := by decide +kernel
theorem dX12_qPuts_1 : decode cX12_qPuts 1 = .ok (.getfield 216, 3) := by decide +kernel
theorem dX12_qPuts_4 : decode cX12_qPuts 4 = .ok (.aload_n 0, 1) := by decide +kernel
theorem dX12_qPuts_5 : decode cX12_qPuts 5 = .ok (.getfield 373, 3) := by decide +kernel
theorem dX12_qPuts_8 : decode cX12_qPuts 8 = .ok (.lload_n 1, 1) := by decide +kernel
theorem dX12_qPuts_9 : decode cX12_qPuts 9 = .ok (.lastore, 1) := by decide +kernel
theorem dX12_qPuts_10 : decode cX12_qPuts 10 = .ok (.aload_n 0, 1) := by decide +kernel
theorem dX12_qPuts_11 : decode cX12_qPuts 11 = .ok (.dup, 1) := by decide +kernel
theorem dX12_qPuts_12 : decode cX12_qPuts 12 = .ok (.getfield 373, 3) := by decide +kernel
theorem dX12_qPuts_15 : decode cX12_qPuts 15 = .ok (.iconst 1, 1) := by decide +kernel
theorem dX12_qPuts_16 : decode cX12_qPuts 16 = .ok (.iadd, 1) := by decide +kernel
theorem dX12_qPuts_17 : decode cX12_qPuts 17 = .ok (.putfield 373, 3) := by decide +kernel
theorem dX12_qPuts_20 : decode cX12_qPuts 20 = .ok (.return_, 1) := by decide +kernel
theorem dX12_qJoins_0 : decode cX12_qJoins 0 = .ok (.aload_n 0, 1) := by decide +kernel
theorem dX12_qJoins_1 : decode cX12_qJoins 1 = .ok (.getfield 216, 3) := by decide +kernel
theorem dX12_qJoins_4 : decode cX12_qJoins 4 = .ok (.aload_n 0, 1) := by decide +kernel
theorem dX12_qJoins_5 : decode cX12_qJoins 5 = .ok (.getfield 373, 3) := by decide +kernel
theorem dX12_qJoins_8 : decode cX12_qJoins 8 = .ok (.iconst 1, 1) := by decide +kernel
theorem dX12_qJoins_9 : decode cX12_qJoins 9 = .ok (.isub, 1) := by decide +kernel
theorem dX12_qJoins_10 : decode cX12_qJoins 10 = .ok (.laload, 1) := by decide +kernel
theorem dX12_qJoins_11 : decode cX12_qJoins 11 = .ok (.lstore_n 2, 1) := by decide +kernel
theorem dX12_qJoins_12 : decode cX12_qJoins 12 = .ok (.aload_n 0, 1) := by decide +kernel
theorem dX12_qJoins_13 : decode cX12_qJoins 13 = .ok (.getfield 216, 3) := by decide +kernel
theorem dX12_qJoins_16 : decode cX12_qJoins 16 = .ok (.aload_n 0, 1) := by decide +kernel
theorem dX12_qJoins_17 : decode cX12_qJoins 17 = .ok (.getfield 373, 3) := by decide +kernel
theorem dX12_qJoins_20 : decode cX12_qJoins 20 = .ok (.iconst 2, 1) := by decide +kernel
theorem dX12_qJoins_21 : decode cX12_qJoins 21 = .ok (.isub, 1) := by decide +kernel
theorem dX12_qJoins_22 : decode cX12_qJoins 22 = .ok (.laload, 1) := by decide +kernel
theorem dX12_qJoins_23 : decode cX12_qJoins 23 = .ok (.lstore 4, 2) := by decide +kernel
theorem dX12_qJoins_25 : decode cX12_qJoins 25 = .ok (.aload_n 0, 1) := by decide +kernel
theorem dX12_qJoins_26 : decode cX12_qJoins 26 = .ok (.dup, 1) := by decide +kernel
theorem dX12_qJoins_27 : decode cX12_qJoins 27 = .ok (.getfield 373, 3) := by decide +kernel
theorem dX12_qJoins_30 : decode cX12_qJoins 30 = .ok (.iconst 2, 1) := by decide +kernel
theorem dX12_qJoins_31 : decode cX12_qJoins 31 = .ok (.isub, 1) := by decide +kernel
theorem dX12_qJoins_32 : decode cX12_qJoins 32 = .ok (.putfield 373, 3) := by decide +kernel
theorem dX12_qJoins_35 : decode cX12_qJoins 35 = .ok (.iload_n 1, 1) := by decide +kernel
theorem dX12_qJoins_36 : decode cX12_qJoins 36 = .ok (.tableswitch 219 1 10 #[56, 70, 84, 98, 111, 131, 151, 170, 189, 208], 56) := by decide +kernel
theorem dX12_qJoins_92 : decode cX12_qJoins 92 = .ok (.aload_n 0, 1) := by decide +kernel
theorem dX12_qJoins_93 : decode cX12_qJoins 93 = .ok (.lload 4, 2) := by decide +kernel
theorem dX12_qJoins_95 : decode cX12_qJoins 95 = .ok (.lload_n 2, 1) := by decide +kernel
theorem dX12_qJoins_96 : decode cX12_qJoins 96 = .ok (.ladd, 1) := by decide +kernel
theorem dX12_qJoins_97 : decode cX12_qJoins 97 = .ok (.invokestatic 633, 3) := by decide +kernel
theorem dX12_qJoins_100 : decode cX12_qJoins 100 = .ok (.invokevirtual 376, 3) := by decide +kernel
theorem dX12_qJoins_103 : decode cX12_qJoins 103 = .ok (.goto 170, 3) := by decide +kernel
theorem dX12_qJoins_106 : decode cX12_qJoins 106 = .ok (.aload_n 0, 1) := by decide +kernel
theorem dX12_qJoins_107 : decode cX12_qJoins 107 = .ok (.lload 4, 2) := by decide +kernel
theorem dX12_qJoins_109 : decode cX12_qJoins 109 = .ok (.lload_n 2, 1) := by decide +kernel
theorem dX12_qJoins_110 : decode cX12_qJoins 110 = .ok (.lsub, 1) := by decide +kernel
theorem dX12_qJoins_111 : decode cX12_qJoins 111 = .ok (.invokestatic 633, 3) := by decide +kernel
theorem dX12_qJoins_114 : decode cX12_qJoins 114 = .ok (.invokevirtual 376, 3) := by decide +kernel
theorem dX12_qJoins_117 : decode cX12_qJoins 117 = .ok (.goto 156, 3) := by decide +kernel
theorem dX12_qJoins_120 : decode cX12_qJoins 120 = .ok (.aload_n 0, 1) := by decide +kernel
theorem dX12_qJoins_121 : decode cX12_qJoins 121 = .ok (.lload 4, 2) := by decide +kernel
theorem dX12_qJoins_123 : decode cX12_qJoins 123 = .ok (.lload_n 2, 1) := by decide +kernel
theorem dX12_qJoins_124 : decode cX12_qJoins 124 = .ok (.lmul, 1) := by decide +kernel
theorem dX12_qJoins_125 : decode cX12_qJoins 125 = .ok (.invokestatic 633, 3) := by decide +kernel
theorem dX12_qJoins_128 : decode cX12_qJoins 128 = .ok (.invokevirtual 376, 3) := by decide +kernel
theorem dX12_qJoins_131 : decode cX12_qJoins 131 = .ok (.goto 142, 3) := by decide +kernel
theorem dX12_qJoins_134 : decode cX12_qJoins 134 = .ok (.aload_n 0, 1) := by decide +kernel
theorem dX12_qJoins_135 : decode cX12_qJoins 135 = .ok (.lload 4, 2) := by decide +kernel
theorem dX12_qJoins_137 : decode cX12_qJoins 137 = .ok (.lload_n 2, 1) := by decide +kernel
theorem dX12_qJoins_138 : decode cX12_qJoins 138 = .ok (.invokestatic 637, 3) := by decide +kernel
theorem dX12_qJoins_141 : decode cX12_qJoins 141 = .ok (.invokevirtual 376, 3) := by decide +kernel
theorem dX12_qJoins_144 : decode cX12_qJoins 144 = .ok (.goto 129, 3) := by decide +kernel
theorem dX12_qJoins_147 : decode cX12_qJoins 147 = .ok (.aload_n 0, 1) := by decide +kernel
theorem dX12_qJoins_148 : decode cX12_qJoins 148 = .ok (.lload 4, 2) := by decide +kernel
theorem dX12_qJoins_150 : decode cX12_qJoins 150 = .ok (.lload_n 2, 1) := by decide +kernel
theorem dX12_qJoins_151 : decode cX12_qJoins 151 = .ok (.lcmp, 1) := by decide +kernel
theorem dX12_qJoins_152 : decode cX12_qJoins 152 = .ok (.ifCond .ge 8, 3) := by decide +kernel
theorem dX12_qJoins_155 : decode cX12_qJoins 155 = .ok (.lload 4, 2) := by decide +kernel
theorem dX12_qJoins_157 : decode cX12_qJoins 157 = .ok (.goto 4, 3) := by decide +kernel
theorem dX12_qJoins_160 : decode cX12_qJoins 160 = .ok (.lload_n 2, 1) := by decide +kernel
theorem dX12_qJoins_161 : decode cX12_qJoins 161 = .ok (.invokevirtual 376, 3) := by decide +kernel
theorem dX12_qJoins_164 : decode cX12_qJoins 164 = .ok (.goto 109, 3) := by decide +kernel
theorem dX12_qJoins_167 : decode cX12_qJoins 167 = .ok (.aload_n 0, 1) := by decide +kernel
theorem dX12_qJoins_168 : decode cX12_qJoins 168 = .ok (.lload 4, 2) := by decide +kernel
theorem dX12_qJoins_170 : decode cX12_qJoins 170 = .ok (.lload_n 2, 1) := by decide +kernel
theorem dX12_qJoins_171 : decode cX12_qJoins 171 = .ok (.lcmp, 1) := by decide +kernel
theorem dX12_qJoins_172 : decode cX12_qJoins 172 = .ok (.ifCond .le 8, 3) := by decide +kernel
theorem dX12_qJoins_175 : decode cX12_qJoins 175 = .ok (.lload 4, 2) := by decide +kernel
theorem dX12_qJoins_177 : decode cX12_qJoins 177 = .ok (.goto 4, 3) := by decide +kernel
theorem dX12_qJoins_180 : decode cX12_qJoins 180 = .ok (.lload_n 2, 1) := by decide +kernel
theorem dX12_qJoins_181 : decode cX12_qJoins 181 = .ok (.invokevirtual 376, 3) := by decide +kernel
theorem dX12_qJoins_184 : decode cX12_qJoins 184 = .ok (.goto 89, 3) := by decide +kernel
theorem dX12_qJoins_187 : decode cX12_qJoins 187 = .ok (.aload_n 0, 1) := by decide +kernel
theorem dX12_qJoins_188 : decode cX12_qJoins 188 = .ok (.lload 4, 2) := by decide +kernel
theorem dX12_qJoins_190 : decode cX12_qJoins 190 = .ok (.lload_n 2, 1) := by decide +kernel
theorem dX12_qJoins_191 : decode cX12_qJoins 191 = .ok (.lcmp, 1) := by decide +kernel
theorem dX12_qJoins_192 : decode cX12_qJoins 192 = .ok (.ifCond .ge 7, 3) := by decide +kernel
theorem dX12_qJoins_195 : decode cX12_qJoins 195 = .ok (.lconst 1, 1) := by decide +kernel
theorem dX12_qJoins_196 : decode cX12_qJoins 196 = .ok (.goto 4, 3) := by decide +kernel
theorem dX12_qJoins_199 : decode cX12_qJoins 199 = .ok (.lconst 0, 1) := by decide +kernel
theorem dX12_qJoins_200 : decode cX12_qJoins 200 = .ok (.invokevirtual 376, 3) := by decide +kernel
theorem dX12_qJoins_203 : decode cX12_qJoins 203 = .ok (.goto 70, 3) := by decide +kernel
theorem dX12_qJoins_206 : decode cX12_qJoins 206 = .ok (.aload_n 0, 1) := by decide +kernel
theorem dX12_qJoins_207 : decode cX12_qJoins 207 = .ok (.lload 4, 2) := by decide +kernel
theorem dX12_qJoins_209 : decode cX12_qJoins 209 = .ok (.lload_n 2, 1) := by decide +kernel
theorem dX12_qJoins_210 : decode cX12_qJoins 210 = .ok (.lcmp, 1) := by decide +kernel
theorem dX12_qJoins_211 : decode cX12_qJoins 211 = .ok (.ifCond .le 7, 3) := by decide +kernel
theorem dX12_qJoins_214 : decode cX12_qJoins 214 = .ok (.lconst 1, 1) := by decide +kernel
theorem dX12_qJoins_215 : decode cX12_qJoins 215 = .ok (.goto 4, 3) := by decide +kernel
theorem dX12_qJoins_218 : decode cX12_qJoins 218 = .ok (.lconst 0, 1) := by decide +kernel
theorem dX12_qJoins_219 : decode cX12_qJoins 219 = .ok (.invokevirtual 376, 3) := by decide +kernel
theorem dX12_qJoins_222 : decode cX12_qJoins 222 = .ok (.goto 51, 3) := by decide +kernel
theorem dX12_qJoins_225 : decode cX12_qJoins 225 = .ok (.aload_n 0, 1) := by decide +kernel
theorem dX12_qJoins_226 : decode cX12_qJoins 226 = .ok (.lload 4, 2) := by decide +kernel
theorem dX12_qJoins_228 : decode cX12_qJoins 228 = .ok (.lload_n 2, 1) := by decide +kernel
theorem dX12_qJoins_229 : decode cX12_qJoins 229 = .ok (.lcmp, 1) := by decide +kernel
theorem dX12_qJoins_230 : decode cX12_qJoins 230 = .ok (.ifCond .ne 7, 3) := by decide +kernel
theorem dX12_qJoins_233 : decode cX12_qJoins 233 = .ok (.lconst 1, 1) := by decide +kernel
theorem dX12_qJoins_234 : decode cX12_qJoins 234 = .ok (.goto 4, 3) := by decide +kernel
theorem dX12_qJoins_237 : decode cX12_qJoins 237 = .ok (.lconst 0, 1) := by decide +kernel
theorem dX12_qJoins_238 : decode cX12_qJoins 238 = .ok (.invokevirtual 376, 3) := by decide +kernel
theorem dX12_qJoins_241 : decode cX12_qJoins 241 = .ok (.goto 32, 3) := by decide +kernel
theorem dX12_qJoins_244 : decode cX12_qJoins 244 = .ok (.aload_n 0, 1) := by decide +kernel
theorem dX12_qJoins_245 : decode cX12_qJoins 245 = .ok (.lload 4, 2) := by decide +kernel
theorem dX12_qJoins_247 : decode cX12_qJoins 247 = .ok (.lload_n 2, 1) := by decide +kernel
theorem dX12_qJoins_248 : decode cX12_qJoins 248 = .ok (.lmul, 1) := by decide +kernel
theorem dX12_qJoins_249 : decode cX12_qJoins 249 = .ok (.invokevirtual 376, 3) := by decide +kernel
theorem dX12_qJoins_252 : decode cX12_qJoins 252 = .ok (.goto 21, 3) := by decide +kernel
theorem dX12_qJoins_255 : decode cX12_qJoins 255 = .ok (.aload_n 0, 1) := by decide +kernel
theorem dX12_qJoins_256 : decode cX12_qJoins 256 = .ok (.lload 4, 2) := by decide +kernel
