theorem dX0_init_0 : decode cX0_init 0 = .ok (.aload_n 0, 1) := by decide +kernel
theorem dX0_init_1 : decode cX0_init 1 = .ok (.invokespecial 3, 3) := by decide +kernel
theorem dX0_init_4 : decode cX0_init 4 = .ok (.aload_n 0, 1) := by decide +kernel
theorem dX0_init_5 : decode cX0_init 5 = .ok (.bipush 17, 2) := by decide +kernel
theorem dX0_init_7 : decode cX0_init 7 = .ok (.newarray .int, 2) := by decide +kernel
theorem dX0_init_9 : decode cX0_init 9 = .ok (.putfield 11, 3) := by decide +kernel
theorem dX0_init_12 : decode cX0_init 12 = .ok (.aload_n 0, 1) := by decide +kernel
theorem dX0_init_13 : decode cX0_init 13 = .ok (.bipush 64, 2) := by decide +kernel
theorem dX0_init_15 : decode cX0_init 15 = .ok (.newarray .int, 2) := by decide +kernel
theorem dX0_init_17 : decode cX0_init 17 = .ok (.putfield 17, 3) := by decide +kernel
theorem dX0_init_20 : decode cX0_init 20 = .ok (.aload_n 0, 1) := by decide +kernel
theorem dX0_init_21 : decode cX0_init 21 = .ok (.iconst 0, 1) := by decide +kernel
theorem dX0_init_22 : decode cX0_init 22 = .ok (.putfield 20, 3) := by decide +kernel
theorem dX0_init_25 : decode cX0_init 25 = .ok (.aload_n 0, 1) := by decide +kernel
theorem dX0_init_26 : decode cX0_init 26 = .ok (.aconst_null, 1) := by decide +kernel
theorem dX0_init_27 : decode cX0_init 27 = .ok (.putfield 24, 3) := by decide +kernel
theorem dX0_init_30 : decode cX0_init 30 = .ok (.aload_n 0, 1) := by decide +kernel
theorem dX0_init_31 : decode cX0_init 31 = .ok (.iconst 4, 1) := by decide +kernel
theorem dX0_init_32 : decode cX0_init 32 = .ok (.putfield 30, 3) := by decide +kernel
theorem dX0_init_35 : decode cX0_init 35 = .ok (.aload_n 0, 1) := by decide +kernel
theorem dX0_init_36 : decode cX0_init 36 = .ok (.aload_n 1, 1) := by decide +kernel
theorem dX0_init_37 : decode cX0_init 37 = .ok (.putfield 33, 3) := by decide +kernel
theorem dX0_init_40 : decode cX0_init 40 = .ok (.return_, 1) := by decide +kernel
theorem dX0_padding_0 : decode cX0_padding 0 = .ok (.aload_n 1, 1) := by decide +kernel
theorem dX0_padding_1 : decode cX0_padding 1 = .ok (.iconst 1, 1) := by decide +kernel
theorem dX0_padding_2 : decode cX0_padding 2 = .ok (.invokevirtual 37, 3) := by decide +kernel
theorem dX0_padding_5 : decode cX0_padding 5 = .ok (.ifCond .ne 5, 3) := by decide +kernel
theorem dX0_padding_8 : decode cX0_padding 8 = .ok (.iconst 0, 1) := by decide +kernel
theorem dX0_padding_9 : decode cX0_padding 9 = .ok (.ireturn, 1) := by decide +kernel
theorem dX0_padding_10 : decode cX0_padding 10 = .ok (.aload_n 0, 1) := by decide +kernel
theorem dX0_padding_11 : decode cX0_padding 11 = .ok (.getfield 11, 3) := by decide +kernel
theorem dX0_padding_14 : decode cX0_padding 14 = .ok (.bipush 7, 2) := by decide +kernel
theorem dX0_padding_16 : decode cX0_padding 16 = .ok (.iload_n 2, 1) := by decide +kernel
theorem dX0_padding_17 : decode cX0_padding 17 = .ok (.iastore, 1) := by decide +kernel
theorem dX0_padding_18 : decode cX0_padding 18 = .ok (.iconst 0, 1) := by decide +kernel
theorem dX0_padding_19 : decode cX0_padding 19 = .ok (.bipush 99, 2) := by decide +kernel
theorem dX0_padding_21 : decode cX0_padding 21 = .ok (.aload_n 0, 1) := by decide +kernel
theorem dX0_padding_22 : decode cX0_padding 22 = .ok (.aload_n 1, 1) := by decide +kernel
theorem dX0_padding_23 : decode cX0_padding 23 = .ok (.iconst 1, 1) := by decide +kernel
theorem dX0_padding_24 : decode cX0_padding 24 = .ok (.invokevirtual 41, 3) := by decide +kernel
theorem dX0_padding_27 : decode cX0_padding 27 = .ok (.invokestatic 45, 3) := by decide +kernel
theorem dX0_padding_30 : decode cX0_padding 30 = .ok (.invokestatic 51, 3) := by decide +kernel
theorem dX0_padding_33 : decode cX0_padding 33 = .ok (.ireturn, 1) := by decide +kernel
theorem dX0_rank_0 : decode cX0_rank 0 = .ok (.aload_n 1, 1) := by decide +kernel
theorem dX0_rank_1 : decode cX0_rank 1 = .ok (.iconst 0, 1) := by decide +kernel
theorem dX0_rank_2 : decode cX0_rank 2 = .ok (.invokevirtual 37, 3) := by decide +kernel
theorem dX0_rank_5 : decode cX0_rank 5 = .ok (.ifCond .ne 5, 3) := by decide +kernel
theorem dX0_rank_8 : decode cX0_rank 8 = .ok (.iload_n 3, 1) := by decide +kernel
theorem dX0_rank_9 : decode cX0_rank 9 = .ok (.ireturn, 1) := by decide +kernel
theorem dX0_rank_10 : decode cX0_rank 10 = .ok (.aload_n 0, 1) := by decide +kernel
theorem dX0_rank_11 : decode cX0_rank 11 = .ok (.getfield 11, 3) := by decide +kernel
theorem dX0_rank_14 : decode cX0_rank 14 = .ok (.bipush 7, 2) := by decide +kernel
theorem dX0_rank_16 : decode cX0_rank 16 = .ok (.iload_n 2, 1) := by decide +kernel
theorem dX0_rank_17 : decode cX0_rank 17 = .ok (.iastore, 1) := by decide +kernel
theorem dX0_rank_18 : decode cX0_rank 18 = .ok (.aload_n 0, 1) := by decide +kernel
theorem dX0_rank_19 : decode cX0_rank 19 = .ok (.getfield 11, 3) := by decide +kernel
theorem dX0_rank_22 : decode cX0_rank 22 = .ok (.bipush 8, 2) := by decide +kernel
theorem dX0_rank_24 : decode cX0_rank 24 = .ok (.iload_n 3, 1) := by decide +kernel
theorem dX0_rank_25 : decode cX0_rank 25 = .ok (.iastore, 1) := by decide +kernel
theorem dX0_rank_26 : decode cX0_rank 26 = .ok (.aload_n 0, 1) := by decide +kernel
theorem dX0_rank_27 : decode cX0_rank 27 = .ok (.getfield 11, 3) := by decide +kernel
theorem dX0_rank_30 : decode cX0_rank 30 = .ok (.bipush 9, 2) := by decide +kernel
theorem dX0_rank_32 : decode cX0_rank 32 = .ok (.iload 4, 2) := by decide +kernel
theorem dX0_rank_34 : decode cX0_rank 34 = .ok (.iastore, 1) := by decide +kernel
theorem dX0_rank_35 : decode cX0_rank 35 = .ok (.aload_n 0, 1) := by decide +kernel
theorem dX0_rank_36 : decode cX0_rank 36 = .ok (.aload_n 1, 1) := by decide +kernel
theorem dX0_rank_37 : decode cX0_rank 37 = .ok (.iconst 0, 1) := by decide +kernel
theorem dX0_rank_38 : decode cX0_rank 38 = .ok (.invokevirtual 41, 3) := by decide +kernel
theorem dX0_rank_41 : decode cX0_rank 41 = .ok (.ireturn, 1) := by decide +kernel
theorem dX0_isTrapped_0 : decode cX0_isTrapped 0 = .ok (.aload_n 1, 1) := by decide +kernel
theorem dX0_isTrapped_1 : decode cX0_isTrapped 1 = .ok (.iconst 2, 1) := by decide +kernel
theorem dX0_isTrapped_2 : decode cX0_isTrapped 2 = .ok (.invokevirtual 37, 3) := by decide +kernel
theorem dX0_isTrapped_5 : decode cX0_isTrapped 5 = .ok (.ifCond .ne 5, 3) := by decide +kernel
theorem dX0_isTrapped_8 : decode cX0_isTrapped 8 = .ok (.iconst 0, 1) := by decide +kernel
theorem dX0_isTrapped_9 : decode cX0_isTrapped 9 = .ok (.ireturn, 1) := by decide +kernel
theorem dX0_isTrapped_10 : decode cX0_isTrapped 10 = .ok (.aload_n 0, 1) := by decide +kernel
theorem dX0_isTrapped_11 : decode cX0_isTrapped 11 = .ok (.aload_n 2, 1) := by decide +kernel
theorem dX0_isTrapped_12 : decode cX0_isTrapped 12 = .ok (.aload_n 1, 1) := by decide +kernel
theorem dX0_isTrapped_13 : decode cX0_isTrapped 13 = .ok (.getfield 54, 3) := by decide +kernel
theorem dX0_isTrapped_16 : decode cX0_isTrapped 16 = .ok (.invokevirtual 55, 3) := by decide +kernel
theorem dX0_isTrapped_19 : decode cX0_isTrapped 19 = .ok (.aload_n 0, 1) := by decide +kernel
theorem dX0_isTrapped_20 : decode cX0_isTrapped 20 = .ok (.aload_n 1, 1) := by decide +kernel
theorem dX0_isTrapped_21 : decode cX0_isTrapped 21 = .ok (.iconst 2, 1) := by decide +kernel
theorem dX0_isTrapped_22 : decode cX0_isTrapped 22 = .ok (.invokevirtual 41, 3) := by decide +kernel
theorem dX0_isTrapped_25 : decode cX0_isTrapped 25 = .ok (.ifCond .eq 7, 3) := by decide +kernel
theorem dX0_isTrapped_28 : decode cX0_isTrapped 28 = .ok (.iconst 1, 1) := by decide +kernel
theorem dX0_isTrapped_29 : decode cX0_isTrapped 29 = .ok (.goto 4, 3) := by decide +kernel
theorem dX0_isTrapped_32 : decode cX0_isTrapped 32 = .ok (.iconst 0, 1) := by decide +kernel
theorem dX0_isTrapped_33 : decode cX0_isTrapped 33 = .ok (.ireturn, 1) := by decide +kernel
theorem dX0_askOf_0 : decode cX0_askOf 0 = .ok (.iload_n 2, 1) := by decide +kernel
theorem dX0_askOf_1 : decode cX0_askOf 1 = .ok (.ifCond .lt 12, 3) := by decide +kernel
theorem dX0_askOf_4 : decode cX0_askOf 4 = .ok (.iload_n 2, 1) := by decide +kernel
theorem dX0_askOf_5 : decode cX0_askOf 5 = .ok (.aload_n 0, 1) := by decide +kernel
theorem dX0_askOf_6 : decode cX0_askOf 6 = .ok (.getfield 33, 3) := by decide +kernel
theorem dX0_askOf_9 : decode cX0_askOf 9 = .ok (.arraylength, 1) := by decide +kernel
theorem dX0_askOf_10 : decode cX0_askOf 10 = .ok (.if_icmp .lt 5, 3) := by decide +kernel
theorem dX0_askOf_13 : decode cX0_askOf 13 = .ok (.iconst 0, 1) := by decide +kernel
theorem dX0_askOf_14 : decode cX0_askOf 14 = .ok (.ireturn, 1) := by decide +kernel
theorem dX0_askOf_15 : decode cX0_askOf 15 = .ok (.aload_n 0, 1) := by decide +kernel
theorem dX0_askOf_16 : decode cX0_askOf 16 = .ok (.aload_n 0, 1) := by decide +kernel
theorem dX0_askOf_17 : decode cX0_askOf 17 = .ok (.getfield 33, 3) := by decide +kernel
theorem dX0_askOf_20 : decode cX0_askOf 20 = .ok (.iload_n 2, 1) := by decide +kernel
theorem dX0_askOf_21 : decode cX0_askOf 21 = .ok (.aaload, 1) := by decide +kernel
theorem dX0_askOf_22 : decode cX0_askOf 22 = .ok (.putfield 24, 3) := by decide +kernel
theorem dX0_askOf_25 : decode cX0_askOf 25 = .ok (.aload_n 0, 1) := by decide +kernel
theorem dX0_askOf_26 : decode cX0_askOf 26 = .ok (.aload_n 0, 1) := by decide +kernel
theorem dX0_askOf_27 : decode cX0_askOf 27 = .ok (.getfield 24, 3) := by decide +kernel
theorem dX0_askOf_30 : decode cX0_askOf 30 = .ok (.iload_n 3, 1) := by decide +kernel
theorem dX0_askOf_31 : decode cX0_askOf 31 = .ok (.invokevirtual 55, 3) := by decide +kernel
theorem dX0_askOf_34 : decode cX0_askOf 34 = .ok (.aload_n 0, 1) := by decide +kernel
theorem dX0_askOf_35 : decode cX0_askOf 35 = .ok (.getfield 11, 3) := by decide +kernel
theorem dX0_askOf_38 : decode cX0_askOf 38 = .ok (.bipush 14, 2) := by decide +kernel
theorem dX0_askOf_40 : decode cX0_askOf 40 = .ok (.iload_n 2, 1) := by decide +kernel
theorem dX0_askOf_41 : decode cX0_askOf 41 = .ok (.iastore, 1) := by decide +kernel
theorem dX0_askOf_42 : decode cX0_askOf 42 = .ok (.aload_n 0, 1) := by decide +kernel
theorem dX0_askOf_43 : decode cX0_askOf 43 = .ok (.getfield 11, 3) := by decide +kernel
theorem dX0_askOf_46 : decode cX0_askOf 46 = .ok (.bipush 15, 2) := by decide +kernel
theorem dX0_askOf_48 : decode cX0_askOf 48 = .ok (.aload_n 0, 1) := by decide +kernel
theorem dX0_askOf_49 : decode cX0_askOf 49 = .ok (.getfield 24, 3) := by decide +kernel
theorem dX0_askOf_52 : decode cX0_askOf 52 = .ok (.getfield 59, 3) := by decide +kernel
theorem dX0_askOf_55 : decode cX0_askOf 55 = .ok (.iastore, 1) := by decide +kernel
theorem dX0_askOf_56 : decode cX0_askOf 56 = .ok (.aload_n 0, 1) := by decide +kernel
theorem dX0_askOf_57 : decode cX0_askOf 57 = .ok (.getfield 11, 3) := by decide +kernel
theorem dX0_askOf_60 : decode cX0_askOf 60 = .ok (.iconst 3, 1) := by decide +kernel
theorem dX0_askOf_61 : decode cX0_askOf 61 = .ok (.aload_n 0, 1) := by decide +kernel
theorem dX0_askOf_62 : decode cX0_askOf 62 = .ok (.getfield 24, 3) := by decide +kernel
theorem dX0_askOf_65 : decode cX0_askOf 65 = .ok (.getfield 64, 3) := by decide +kernel
theorem dX0_askOf_68 : decode cX0_askOf 68 = .ok (.iastore, 1) := by decide +kernel
theorem dX0_askOf_69 : decode cX0_askOf 69 = .ok (.aload_n 0, 1) := by decide +kernel
theorem dX0_askOf_70 : decode cX0_askOf 70 = .ok (.getfield 11, 3) := by decide +kernel
theorem dX0_askOf_73 : decode cX0_askOf 73 = .ok (.bipush 16, 2) := by decide +kernel
theorem dX0_askOf_75 : decode cX0_askOf 75 = .ok (.aload_n 0, 1) := by decide +kernel
theorem dX0_askOf_76 : decode cX0_askOf 76 = .ok (.getfield 24, 3) := by decide +kernel
theorem dX0_askOf_79 : decode cX0_askOf 79 = .ok (.getfield 67, 3) := by decide +kernel
theorem dX0_askOf_82 : decode cX0_askOf 82 = .ok (.ifCond .eq 7, 3) := by decide +kernel
theorem dX0_askOf_85 : decode cX0_askOf 85 = .ok (.iconst 1, 1) := by decide +kernel
theorem dX0_askOf_86 : decode cX0_askOf 86 = .ok (.goto 4, 3) := by decide +kernel
theorem dX0_askOf_89 : decode cX0_askOf 89 = .ok (.iconst 0, 1) := by decide +kernel
theorem dX0_askOf_90 : decode cX0_askOf 90 = .ok (.iastore, 1) := by decide +kernel
theorem dX0_askOf_91 : decode cX0_askOf 91 = .ok (.aload_n 0, 1) := by decide +kernel
theorem dX0_askOf_92 : decode cX0_askOf 92 = .ok (.aload_n 1, 1) := by decide +kernel
theorem dX0_askOf_93 : decode cX0_askOf 93 = .ok (.iconst 0, 1) := by decide +kernel
theorem dX0_askOf_94 : decode cX0_askOf 94 = .ok (.invokevirtual 41, 3) := by decide +kernel
theorem dX0_askOf_97 : decode cX0_askOf 97 = .ok (.ireturn, 1) := by decide +kernel
theorem dX0_setBounds_0 : decode cX0_setBounds 0 = .ok (.aload_n 0, 1) := by decide +kernel
theorem dX0_setBounds_1 : decode cX0_setBounds 1 = .ok (.iload_n 2, 1) := by decide +kernel
theorem dX0_setBounds_2 : decode cX0_setBounds 2 = .ok (.putfield 30, 3) := by decide +kernel
theorem dX0_setBounds_5 : decode cX0_setBounds 5 = .ok (.aload_n 0, 1) := by decide +kernel
theorem dX0_setBounds_6 : decode cX0_setBounds 6 = .ok (.getfield 11, 3) := by decide +kernel
theorem dX0_setBounds_9 : decode cX0_setBounds 9 = .ok (.bipush 10, 2) := by decide +kernel
theorem dX0_setBounds_11 : decode cX0_setBounds 11 = .ok (.aload_n 1, 1) := by decide +kernel
theorem dX0_setBounds_12 : decode cX0_setBounds 12 = .ok (.getfield 71, 3) := by decide +kernel
theorem dX0_setBounds_15 : decode cX0_setBounds 15 = .ok (.iastore, 1) := by decide +kernel
theorem dX0_setBounds_16 : decode cX0_setBounds 16 = .ok (.aload_n 0, 1) := by decide +kernel
theorem dX0_setBounds_17 : decode cX0_setBounds 17 = .ok (.getfield 11, 3) := by decide +kernel
theorem dX0_setBounds_20 : decode cX0_setBounds 20 = .ok (.bipush 11, 2) := by decide +kernel
theorem dX0_setBounds_22 : decode cX0_setBounds 22 = .ok (.aload_n 1, 1) := by decide +kernel
theorem dX0_setBounds_23 : decode cX0_setBounds 23 = .ok (.iload_n 2, 1) := by decide +kernel
theorem dX0_setBounds_24 : decode cX0_setBounds 24 = .ok (.invokevirtual 74, 3) := by decide +kernel
theorem dX0_setBounds_27 : decode cX0_setBounds 27 = .ok (.iastore, 1) := by decide +kernel
theorem dX0_setBounds_28 : decode cX0_setBounds 28 = .ok (.aload_n 0, 1) := by decide +kernel
theorem dX0_setBounds_29 : decode cX0_setBounds 29 = .ok (.getfield 11, 3) := by decide +kernel
theorem dX0_setBounds_32 : decode cX0_setBounds 32 = .ok (.bipush 12, 2) := by decide +kernel
theorem dX0_setBounds_34 : decode cX0_setBounds 34 = .ok (.aload_n 1, 1) := by decide +kernel
theorem dX0_setBounds_35 : decode cX0_setBounds 35 = .ok (.iload_n 2, 1) := by decide +kernel
theorem dX0_setBounds_36 : decode cX0_setBounds 36 = .ok (.invokevirtual 78, 3) := by decide +kernel
theorem dX0_setBounds_39 : decode cX0_setBounds 39 = .ok (.iastore, 1) := by decide +kernel
theorem dX0_setBounds_40 : decode cX0_setBounds 40 = .ok (.aload_n 0, 1) := by decide +kernel
theorem dX0_setBounds_41 : decode cX0_setBounds 41 = .ok (.getfield 11, 3) := by decide +kernel
theorem dX0_setBounds_44 : decode cX0_setBounds 44 = .ok (.bipush 13, 2) := by decide +kernel
theorem dX0_setBounds_46 : decode cX0_setBounds 46 = .ok (.aload_n 1, 1) := by decide +kernel
theorem dX0_setBounds_47 : decode cX0_setBounds 47 = .ok (.getfield 81, 3) := by decide +kernel
theorem dX0_setBounds_50 : decode cX0_setBounds 50 = .ok (.iastore, 1) := by decide +kernel
theorem dX0_setBounds_51 : decode cX0_setBounds 51 = .ok (.return_, 1) := by decide +kernel
theorem dX0_work_0 : decode cX0_work 0 = .ok (.aload_n 0, 1) := by decide +kernel
theorem dX0_work_1 : decode cX0_work 1 = .ok (.iconst 0, 1) := by decide +kernel
theorem dX0_work_2 : decode cX0_work 2 = .ok (.putfield 20, 3) := by decide +kernel
theorem dX0_work_5 : decode cX0_work 5 = .ok (.aload_n 1, 1) := by decide +kernel
theorem dX0_work_6 : decode cX0_work 6 = .ok (.getfield 84, 3) := by decide +kernel
theorem dX0_work_9 : decode cX0_work 9 = .ok (.iload_n 2, 1) := by decide +kernel
theorem dX0_work_10 : decode cX0_work 10 = .ok (.iaload, 1) := by decide +kernel
theorem dX0_work_11 : decode cX0_work 11 = .ok (.aload_n 1, 1) := by decide +kernel
theorem dX0_work_12 : decode cX0_work 12 = .ok (.getfield 87, 3) := by decide +kernel
theorem dX0_work_15 : decode cX0_work 15 = .ok (.arraylength, 1) := by decide +kernel
theorem dX0_work_16 : decode cX0_work 16 = .ok (.invokestatic 45, 3) := by decide +kernel
theorem dX0_work_19 : decode cX0_work 19 = .ok (.istore_n 3, 1) := by decide +kernel
theorem dX0_work_20 : decode cX0_work 20 = .ok (.aload_n 1, 1) := by decide +kernel
theorem dX0_work_21 : decode cX0_work 21 = .ok (.getfield 90, 3) := by decide +kernel
theorem dX0_work_24 : decode cX0_work 24 = .ok (.iload_n 2, 1) := by decide +kernel
theorem dX0_work_25 : decode cX0_work 25 = .ok (.iaload, 1) := by decide +kernel
theorem dX0_work_26 : decode cX0_work 26 = .ok (.istore 4, 2) := by decide +kernel
theorem dX0_work_28 : decode cX0_work 28 = .ok (.iload 4, 2) := by decide +kernel
theorem dX0_work_30 : decode cX0_work 30 = .ok (.iload_n 3, 1) := by decide +kernel
theorem dX0_work_31 : decode cX0_work 31 = .ok (.if_icmp .ge 129, 3) := by decide +kernel
theorem dX0_work_34 : decode cX0_work 34 = .ok (.aload_n 1, 1) := by decide +kernel
theorem dX0_work_35 : decode cX0_work 35 = .ok (.getfield 87, 3) := by decide +kernel
theorem dX0_work_38 : decode cX0_work 38 = .ok (.iload 4, 2) := by decide +kernel
theorem dX0_work_40 : decode cX0_work 40 = .ok (.iaload, 1) := by decide +kernel
theorem dX0_work_41 : decode cX0_work 41 = .ok (.istore 5, 2) := by decide +kernel
theorem dX0_work_43 : decode cX0_work 43 = .ok (.iconst (-1), 1) := by decide +kernel
theorem dX0_work_44 : decode cX0_work 44 = .ok (.iload 5, 2) := by decide +kernel
theorem dX0_work_46 : decode cX0_work 46 = .ok (.isub, 1) := by decide +kernel
theorem dX0_work_47 : decode cX0_work 47 = .ok (.istore 6, 2) := by decide +kernel
theorem dX0_work_49 : decode cX0_work 49 = .ok (.iload 5, 2) := by decide +kernel
theorem dX0_work_51 : decode cX0_work 51 = .ok (.ifCond .lt 12, 3) := by decide +kernel
theorem dX0_work_54 : decode cX0_work 54 = .ok (.aload_n 0, 1) := by decide +kernel
theorem dX0_work_55 : decode cX0_work 55 = .ok (.iload 5, 2) := by decide +kernel
theorem dX0_work_57 : decode cX0_work 57 = .ok (.invokevirtual 93, 3) := by decide +kernel
theorem dX0_work_60 : decode cX0_work 60 = .ok (.goto 94, 3) := by decide +kernel
theorem dX0_work_63 : decode cX0_work 63 = .ok (.iload 6, 2) := by decide +kernel
theorem dX0_work_65 : decode cX0_work 65 = .ok (.aload_n 0, 1) := by decide +kernel
theorem dX0_work_66 : decode cX0_work 66 = .ok (.getfield 11, 3) := by decide +kernel
theorem dX0_work_69 : decode cX0_work 69 = .ok (.arraylength, 1) := by decide +kernel
theorem dX0_work_70 : decode cX0_work 70 = .ok (.if_icmp .ge 17, 3) := by decide +kernel
theorem dX0_work_73 : decode cX0_work 73 = .ok (.aload_n 0, 1) := by decide +kernel
theorem dX0_work_74 : decode cX0_work 74 = .ok (.aload_n 0, 1) := by decide +kernel
theorem dX0_work_75 : decode cX0_work 75 = .ok (.getfield 11, 3) := by decide +kernel
theorem dX0_work_78 : decode cX0_work 78 = .ok (.iload 6, 2) := by decide +kernel
theorem dX0_work_80 : decode cX0_work 80 = .ok (.iaload, 1) := by decide +kernel
theorem dX0_work_81 : decode cX0_work 81 = .ok (.invokevirtual 93, 3) := by decide +kernel
theorem dX0_work_84 : decode cX0_work 84 = .ok (.goto 70, 3) := by decide +kernel
theorem dX0_work_87 : decode cX0_work 87 = .ok (.iload 6, 2) := by decide +kernel
theorem dX0_work_89 : decode cX0_work 89 = .ok (.bipush 22, 2) := by decide +kernel
theorem dX0_work_91 : decode cX0_work 91 = .ok (.if_icmp .ne 11, 3) := by decide +kernel
theorem dX0_work_94 : decode cX0_work 94 = .ok (.aload_n 0, 1) := by decide +kernel
theorem dX0_work_95 : decode cX0_work 95 = .ok (.iconst 1, 1) := by decide +kernel
theorem dX0_work_96 : decode cX0_work 96 = .ok (.invokevirtual 93, 3) := by decide +kernel
theorem dX0_work_99 : decode cX0_work 99 = .ok (.goto 55, 3) := by decide +kernel
theorem dX0_work_102 : decode cX0_work 102 = .ok (.iload 6, 2) := by decide +kernel
theorem dX0_work_104 : decode cX0_work 104 = .ok (.bipush 21, 2) := by decide +kernel
theorem dX0_work_106 : decode cX0_work 106 = .ok (.if_icmp .eq 10, 3) := by decide +kernel
theorem dX0_work_109 : decode cX0_work 109 = .ok (.iload 6, 2) := by decide +kernel
theorem dX0_work_111 : decode cX0_work 111 = .ok (.bipush 19, 2) := by decide +kernel
theorem dX0_work_113 : decode cX0_work 113 = .ok (.if_icmp .ge 20, 3) := by decide +kernel
theorem dX0_work_116 : decode cX0_work 116 = .ok (.aload_n 0, 1) := by decide +kernel
theorem dX0_work_117 : decode cX0_work 117 = .ok (.aload_n 0, 1) := by decide +kernel
theorem dX0_work_118 : decode cX0_work 118 = .ok (.iload 6, 2) := by decide +kernel
theorem dX0_work_120 : decode cX0_work 120 = .ok (.aload_n 0, 1) := by decide +kernel
theorem dX0_work_121 : decode cX0_work 121 = .ok (.invokevirtual 97, 3) := by decide +kernel
theorem dX0_work_124 : decode cX0_work 124 = .ok (.invokevirtual 101, 3) := by decide +kernel
theorem dX0_work_127 : decode cX0_work 127 = .ok (.invokevirtual 93, 3) := by decide +kernel
theorem dX0_work_130 : decode cX0_work 130 = .ok (.goto 24, 3) := by decide +kernel
theorem dX0_work_133 : decode cX0_work 133 = .ok (.aload_n 0, 1) := by decide +kernel
theorem dX0_work_134 : decode cX0_work 134 = .ok (.invokevirtual 97, 3) := by decide +kernel
theorem dX0_work_137 : decode cX0_work 137 = .ok (.istore 7, 2) := by decide +kernel
theorem dX0_work_139 : decode cX0_work 139 = .ok (.aload_n 0, 1) := by decide +kernel
theorem dX0_work_140 : decode cX0_work 140 = .ok (.iload 6, 2) := by decide +kernel
theorem dX0_work_142 : decode cX0_work 142 = .ok (.aload_n 0, 1) := by decide +kernel
theorem dX0_work_143 : decode cX0_work 143 = .ok (.invokevirtual 97, 3) := by decide +kernel
theorem dX0_work_146 : decode cX0_work 146 = .ok (.iload 7, 2) := by decide +kernel
theorem dX0_work_148 : decode cX0_work 148 = .ok (.invokestatic 104, 3) := by decide +kernel
theorem dX0_work_151 : decode cX0_work 151 = .ok (.invokevirtual 93, 3) := by decide +kernel
theorem dX0_work_154 : decode cX0_work 154 = .ok (.iinc 4 1, 3) := by decide +kernel
theorem dX0_work_157 : decode cX0_work 157 = .ok (.goto (-129), 3) := by decide +kernel
theorem dX0_work_160 : decode cX0_work 160 = .ok (.aload_n 0, 1) := by decide +kernel
theorem dX0_work_161 : decode cX0_work 161 = .ok (.invokevirtual 97, 3) := by decide +kernel
theorem dX0_work_164 : decode cX0_work 164 = .ok (.ireturn, 1) := by decide +kernel
theorem dX0_push_0 : decode cX0_push 0 = .ok (.aload_n 0, 1) := by decide +kernel
theorem dX0_push_1 : decode cX0_push 1 = .ok (.getfield 20, 3) := by decide +kernel
theorem dX0_push_4 : decode cX0_push 4 = .ok (.aload_n 0, 1) := by decide +kernel
theorem dX0_push_5 : decode cX0_push 5 = .ok (.getfield 17, 3) := by decide +kernel
theorem dX0_push_8 : decode cX0_push 8 = .ok (.arraylength, 1) := by decide +kernel
theorem dX0_push_9 : decode cX0_push 9 = .ok (.if_icmp .ge 23, 3) := by decide +kernel
theorem dX0_push_12 : decode cX0_push 12 = .ok (.aload_n 0, 1) := by decide +kernel
theorem dX0_push_13 : decode cX0_push 13 = .ok (.getfield 17, 3) := by decide +kernel
theorem dX0_push_16 : decode cX0_push 16 = .ok (.aload_n 0, 1) := by decide +kernel
theorem dX0_push_17 : decode cX0_push 17 = .ok (.getfield 20, 3) := by decide +kernel
theorem dX0_push_20 : decode cX0_push 20 = .ok (.iload_n 1, 1) := by decide +kernel
theorem dX0_push_21 : decode cX0_push 21 = .ok (.iastore, 1) := by decide +kernel
theorem dX0_push_22 : decode cX0_push 22 = .ok (.aload_n 0, 1) := by decide +kernel
theorem dX0_push_23 : decode cX0_push 23 = .ok (.dup, 1) := by decide +kernel
theorem dX0_push_24 : decode cX0_push 24 = .ok (.getfield 20, 3) := by decide +kernel
theorem dX0_push_27 : decode cX0_push 27 = .ok (.iconst 1, 1) := by decide +kernel
theorem dX0_push_28 : decode cX0_push 28 = .ok (.iadd, 1) := by decide +kernel
theorem dX0_push_29 : decode cX0_push 29 = .ok (.putfield 20, 3) := by decide +kernel
theorem dX0_push_32 : decode cX0_push 32 = .ok (.return_, 1) := by decide +kernel
theorem dX0_pop_0 : decode cX0_pop 0 = .ok (.aload_n 0, 1) := by decide +kernel
theorem dX0_pop_1 : decode cX0_pop 1 = .ok (.getfield 20, 3) := by decide +kernel
theorem dX0_pop_4 : decode cX0_pop 4 = .ok (.ifCond .gt 5, 3) := by decide +kernel
theorem dX0_pop_7 : decode cX0_pop 7 = .ok (.iconst 0, 1) := by decide +kernel
theorem dX0_pop_8 : decode cX0_pop 8 = .ok (.ireturn, 1) := by decide +kernel
theorem dX0_pop_9 : decode cX0_pop 9 = .ok (.aload_n 0, 1) := by decide +kernel
theorem dX0_pop_10 : decode cX0_pop 10 = .ok (.dup, 1) := by decide +kernel
theorem dX0_pop_11 : decode cX0_pop 11 = .ok (.getfield 20, 3) := by decide +kernel
theorem dX0_pop_14 : decode cX0_pop 14 = .ok (.iconst 1, 1) := by decide +kernel
theorem dX0_pop_15 : decode cX0_pop 15 = .ok (.isub, 1) := by decide +kernel
theorem dX0_pop_16 : decode cX0_pop 16 = .ok (.putfield 20, 3) := by decide +kernel
theorem dX0_pop_19 : decode cX0_pop 19 = .ok (.aload_n 0, 1) := by decide +kernel
theorem dX0_pop_20 : decode cX0_pop 20 = .ok (.getfield 17, 3) := by decide +kernel
theorem dX0_pop_23 : decode cX0_pop 23 = .ok (.aload_n 0, 1) := by decide +kernel
theorem dX0_pop_24 : decode cX0_pop 24 = .ok (.getfield 20, 3) := by decide +kernel
theorem dX0_pop_27 : decode cX0_pop 27 = .ok (.iaload, 1) := by decide +kernel
theorem dX0_pop_28 : decode cX0_pop 28 = .ok (.ireturn, 1) := by decide +kernel
theorem dX0_ofOne_0 : decode cX0_ofOne 0 = .ok (.iload_n 1, 1) := by decide +kernel
theorem dX0_ofOne_1 : decode cX0_ofOne 1 = .ok (.bipush 21, 2) := by decide +kernel
theorem dX0_ofOne_3 : decode cX0_ofOne 3 = .ok (.if_icmp .ne 7, 3) := by decide +kernel
theorem dX0_ofOne_6 : decode cX0_ofOne 6 = .ok (.iconst 1, 1) := by decide +kernel
theorem dX0_ofOne_7 : decode cX0_ofOne 7 = .ok (.iload_n 2, 1) := by decide +kernel
theorem dX0_ofOne_8 : decode cX0_ofOne 8 = .ok (.isub, 1) := by decide +kernel
theorem dX0_ofOne_9 : decode cX0_ofOne 9 = .ok (.ireturn, 1) := by decide +kernel
theorem dX0_ofOne_10 : decode cX0_ofOne 10 = .ok (.iload_n 1, 1) := by decide +kernel
theorem dX0_ofOne_11 : decode cX0_ofOne 11 = .ok (.bipush 17, 2) := by decide +kernel
theorem dX0_ofOne_13 : decode cX0_ofOne 13 = .ok (.if_icmp .ne 31, 3) := by decide +kernel
theorem dX0_ofOne_16 : decode cX0_ofOne 16 = .ok (.iload_n 2, 1) := by decide +kernel
theorem dX0_ofOne_17 : decode cX0_ofOne 17 = .ok (.ifCond .lt 25, 3) := by decide +kernel
theorem dX0_ofOne_20 : decode cX0_ofOne 20 = .ok (.iload_n 2, 1) := by decide +kernel
theorem dX0_ofOne_21 : decode cX0_ofOne 21 = .ok (.bipush 16, 2) := by decide +kernel
theorem dX0_ofOne_23 : decode cX0_ofOne 23 = .ok (.if_icmp .ge 19, 3) := by decide +kernel
theorem dX0_ofOne_26 : decode cX0_ofOne 26 = .ok (.aload_n 0, 1) := by decide +kernel
theorem dX0_ofOne_27 : decode cX0_ofOne 27 = .ok (.getfield 33, 3) := by decide +kernel
theorem dX0_ofOne_30 : decode cX0_ofOne 30 = .ok (.iload_n 2, 1) := by decide +kernel
theorem dX0_ofOne_31 : decode cX0_ofOne 31 = .ok (.aaload, 1) := by decide +kernel
theorem dX0_ofOne_32 : decode cX0_ofOne 32 = .ok (.aload_n 0, 1) := by decide +kernel
theorem dX0_ofOne_33 : decode cX0_ofOne 33 = .ok (.getfield 30, 3) := by decide +kernel
theorem dX0_ofOne_36 : decode cX0_ofOne 36 = .ok (.invokevirtual 74, 3) := by decide +kernel
theorem dX0_ofOne_39 : decode cX0_ofOne 39 = .ok (.goto 4, 3) := by decide +kernel
theorem dX0_ofOne_42 : decode cX0_ofOne 42 = .ok (.iconst 0, 1) := by decide +kernel
theorem dX0_ofOne_43 : decode cX0_ofOne 43 = .ok (.ireturn, 1) := by decide +kernel
theorem dX0_ofOne_44 : decode cX0_ofOne 44 = .ok (.aload_n 0, 1) := by decide +kernel
theorem dX0_ofOne_45 : decode cX0_ofOne 45 = .ok (.getfield 24, 3) := by decide +kernel
theorem dX0_ofOne_48 : decode cX0_ofOne 48 = .ok (.ifnull 29, 3) := by decide +kernel
theorem dX0_ofOne_51 : decode cX0_ofOne 51 = .ok (.iload_n 2, 1) := by decide +kernel
theorem dX0_ofOne_52 : decode cX0_ofOne 52 = .ok (.invokestatic 108, 3) := by decide +kernel
theorem dX0_ofOne_55 : decode cX0_ofOne 55 = .ok (.ifCond .eq 22, 3) := by decide +kernel
theorem dX0_ofOne_58 : decode cX0_ofOne 58 = .ok (.aload_n 0, 1) := by decide +kernel
theorem dX0_ofOne_59 : decode cX0_ofOne 59 = .ok (.getfield 24, 3) := by decide +kernel
theorem dX0_ofOne_62 : decode cX0_ofOne 62 = .ok (.iload_n 2, 1) := by decide +kernel
theorem dX0_ofOne_63 : decode cX0_ofOne 63 = .ok (.aload_n 0, 1) := by decide +kernel
theorem dX0_ofOne_64 : decode cX0_ofOne 64 = .ok (.getfield 30, 3) := by decide +kernel
theorem dX0_ofOne_67 : decode cX0_ofOne 67 = .ok (.invokevirtual 111, 3) := by decide +kernel
theorem dX0_ofOne_70 : decode cX0_ofOne 70 = .ok (.ifCond .eq 7, 3) := by decide +kernel
theorem dX0_ofOne_73 : decode cX0_ofOne 73 = .ok (.iconst 1, 1) := by decide +kernel
theorem dX0_ofOne_74 : decode cX0_ofOne 74 = .ok (.goto 4, 3) := by decide +kernel
theorem dX0_ofOne_77 : decode cX0_ofOne 77 = .ok (.iconst 0, 1) := by decide +kernel
theorem dX0_ofOne_78 : decode cX0_ofOne 78 = .ok (.istore_n 3, 1) := by decide +kernel
theorem dX0_ofOne_79 : decode cX0_ofOne 79 = .ok (.iload_n 3, 1) := by decide +kernel
theorem dX0_ofOne_80 : decode cX0_ofOne 80 = .ok (.ifCond .eq 7, 3) := by decide +kernel
theorem dX0_ofOne_83 : decode cX0_ofOne 83 = .ok (.iconst 1, 1) := by decide +kernel
theorem dX0_ofOne_84 : decode cX0_ofOne 84 = .ok (.goto 4, 3) := by decide +kernel
theorem dX0_ofOne_87 : decode cX0_ofOne 87 = .ok (.iconst 0, 1) := by decide +kernel
theorem dX0_ofOne_88 : decode cX0_ofOne 88 = .ok (.ireturn, 1) := by decide +kernel
theorem dX0_ofTwo_0 : decode cX0_ofTwo 0 = .ok (.iload_n 0, 1) := by decide +kernel
theorem dX0_ofTwo_1 : decode cX0_ofTwo 1 = .ok (.lookupswitch 171 #[(19, 91), (20, 95), (23, 99), (24, 105), (42, 162), (43, 144), (45, 153), (60, 111), (61, 133), (62, 122)], 91) := by decide +kernel
theorem dX0_ofTwo_92 : decode cX0_ofTwo 92 = .ok (.iload_n 1, 1) := by decide +kernel
theorem dX0_ofTwo_93 : decode cX0_ofTwo 93 = .ok (.iload_n 2, 1) := by decide +kernel
theorem dX0_ofTwo_94 : decode cX0_ofTwo 94 = .ok (.ior, 1) := by decide +kernel
theorem dX0_ofTwo_95 : decode cX0_ofTwo 95 = .ok (.ireturn, 1) := by decide +kernel
theorem dX0_ofTwo_96 : decode cX0_ofTwo 96 = .ok (.iload_n 1, 1) := by decide +kernel
theorem dX0_ofTwo_97 : decode cX0_ofTwo 97 = .ok (.iload_n 2, 1) := by decide +kernel
theorem dX0_ofTwo_98 : decode cX0_ofTwo 98 = .ok (.iand, 1) := by decide +kernel
theorem dX0_ofTwo_99 : decode cX0_ofTwo 99 = .ok (.ireturn, 1) := by decide +kernel
theorem dX0_ofTwo_100 : decode cX0_ofTwo 100 = .ok (.iload_n 1, 1) := by decide +kernel
theorem dX0_ofTwo_101 : decode cX0_ofTwo 101 = .ok (.iload_n 2, 1) := by decide +kernel
theorem dX0_ofTwo_102 : decode cX0_ofTwo 102 = .ok (.invokestatic 45, 3) := by decide +kernel
theorem dX0_ofTwo_105 : decode cX0_ofTwo 105 = .ok (.ireturn, 1) := by decide +kernel
theorem dX0_ofTwo_106 : decode cX0_ofTwo 106 = .ok (.iload_n 1, 1) := by decide +kernel
theorem dX0_ofTwo_107 : decode cX0_ofTwo 107 = .ok (.iload_n 2, 1) := by decide +kernel
theorem dX0_ofTwo_108 : decode cX0_ofTwo 108 = .ok (.invokestatic 51, 3) := by decide +kernel
theorem dX0_ofTwo_111 : decode cX0_ofTwo 111 = .ok (.ireturn, 1) := by decide +kernel
theorem dX0_ofTwo_112 : decode cX0_ofTwo 112 = .ok (.iload_n 1, 1) := by decide +kernel
theorem dX0_ofTwo_113 : decode cX0_ofTwo 113 = .ok (.iload_n 2, 1) := by decide +kernel
theorem dX0_ofTwo_114 : decode cX0_ofTwo 114 = .ok (.if_icmp .ge 7, 3) := by decide +kernel
theorem dX0_ofTwo_117 : decode cX0_ofTwo 117 = .ok (.iconst 1, 1) := by decide +kernel
theorem dX0_ofTwo_118 : decode cX0_ofTwo 118 = .ok (.goto 4, 3) := by decide +kernel
theorem dX0_ofTwo_121 : decode cX0_ofTwo 121 = .ok (.iconst 0, 1) := by decide +kernel
theorem dX0_ofTwo_122 : decode cX0_ofTwo 122 = .ok (.ireturn, 1) := by decide +kernel
theorem dX0_ofTwo_123 : decode cX0_ofTwo 123 = .ok (.iload_n 1, 1) := by decide +kernel
theorem dX0_ofTwo_124 : decode cX0_ofTwo 124 = .ok (.iload_n 2, 1) := by decide +kernel
theorem dX0_ofTwo_125 : decode cX0_ofTwo 125 = .ok (.if_icmp .le 7, 3) := by decide +kernel
theorem dX0_ofTwo_128 : decode cX0_ofTwo 128 = .ok (.iconst 1, 1) := by decide +kernel
theorem dX0_ofTwo_129 : decode cX0_ofTwo 129 = .ok (.goto 4, 3) := by decide +kernel
theorem dX0_ofTwo_132 : decode cX0_ofTwo 132 = .ok (.iconst 0, 1) := by decide +kernel
theorem dX0_ofTwo_133 : decode cX0_ofTwo 133 = .ok (.ireturn, 1) := by decide +kernel
theorem dX0_ofTwo_134 : decode cX0_ofTwo 134 = .ok (.iload_n 1, 1) := by decide +kernel
theorem dX0_ofTwo_135 : decode cX0_ofTwo 135 = .ok (.iload_n 2, 1) := by decide +kernel
theorem dX0_ofTwo_136 : decode cX0_ofTwo 136 = .ok (.if_icmp .ne 7, 3) := by decide +kernel
theorem dX0_ofTwo_139 : decode cX0_ofTwo 139 = .ok (.iconst 1, 1) := by decide +kernel
theorem dX0_ofTwo_140 : decode cX0_ofTwo 140 = .ok (.goto 4, 3) := by decide +kernel
theorem dX0_ofTwo_143 : decode cX0_ofTwo 143 = .ok (.iconst 0, 1) := by decide +kernel
theorem dX0_ofTwo_144 : decode cX0_ofTwo 144 = .ok (.ireturn, 1) := by decide +kernel
theorem dX0_ofTwo_145 : decode cX0_ofTwo 145 = .ok (.iload_n 1, 1) := by decide +kernel
theorem dX0_ofTwo_146 : decode cX0_ofTwo 146 = .ok (.i2l, 1) := by decide +kernel
theorem dX0_ofTwo_147 : decode cX0_ofTwo 147 = .ok (.iload_n 2, 1) := by decide +kernel
theorem dX0_ofTwo_148 : decode cX0_ofTwo 148 = .ok (.i2l, 1) := by decide +kernel
theorem dX0_ofTwo_149 : decode cX0_ofTwo 149 = .ok (.ladd, 1) := by decide +kernel
theorem dX0_ofTwo_150 : decode cX0_ofTwo 150 = .ok (.invokestatic 115, 3) := by decide +kernel
theorem dX0_ofTwo_153 : decode cX0_ofTwo 153 = .ok (.ireturn, 1) := by decide +kernel
theorem dX0_ofTwo_154 : decode cX0_ofTwo 154 = .ok (.iload_n 1, 1) := by decide +kernel
theorem dX0_ofTwo_155 : decode cX0_ofTwo 155 = .ok (.i2l, 1) := by decide +kernel
theorem dX0_ofTwo_156 : decode cX0_ofTwo 156 = .ok (.iload_n 2, 1) := by decide +kernel
theorem dX0_ofTwo_157 : decode cX0_ofTwo 157 = .ok (.i2l, 1) := by decide +kernel
theorem dX0_ofTwo_158 : decode cX0_ofTwo 158 = .ok (.lsub, 1) := by decide +kernel
theorem dX0_ofTwo_159 : decode cX0_ofTwo 159 = .ok (.invokestatic 115, 3) := by decide +kernel
theorem dX0_ofTwo_162 : decode cX0_ofTwo 162 = .ok (.ireturn, 1) := by decide +kernel
theorem dX0_ofTwo_163 : decode cX0_ofTwo 163 = .ok (.iload_n 1, 1) := by decide +kernel
theorem dX0_ofTwo_164 : decode cX0_ofTwo 164 = .ok (.i2l, 1) := by decide +kernel
theorem dX0_ofTwo_165 : decode cX0_ofTwo 165 = .ok (.iload_n 2, 1) := by decide +kernel
theorem dX0_ofTwo_166 : decode cX0_ofTwo 166 = .ok (.i2l, 1) := by decide +kernel
theorem dX0_ofTwo_167 : decode cX0_ofTwo 167 = .ok (.lmul, 1) := by decide +kernel
theorem dX0_ofTwo_168 : decode cX0_ofTwo 168 = .ok (.invokestatic 115, 3) := by decide +kernel
theorem dX0_ofTwo_171 : decode cX0_ofTwo 171 = .ok (.ireturn, 1) := by decide +kernel
theorem dX0_ofTwo_172 : decode cX0_ofTwo 172 = .ok (.iload_n 2, 1) := by decide +kernel
theorem dX0_ofTwo_173 : decode cX0_ofTwo 173 = .ok (.ifCond .ne 7, 3) := by decide +kernel
theorem dX0_ofTwo_176 : decode cX0_ofTwo 176 = .ok (.iconst 0, 1) := by decide +kernel
theorem dX0_ofTwo_177 : decode cX0_ofTwo 177 = .ok (.goto 8, 3) := by decide +kernel
theorem dX0_ofTwo_180 : decode cX0_ofTwo 180 = .ok (.iload_n 1, 1) := by decide +kernel
theorem dX0_ofTwo_181 : decode cX0_ofTwo 181 = .ok (.iload_n 2, 1) := by decide +kernel
theorem dX0_ofTwo_182 : decode cX0_ofTwo 182 = .ok (.invokestatic 119, 3) := by decide +kernel
theorem dX0_ofTwo_185 : decode cX0_ofTwo 185 = .ok (.ireturn, 1) := by decide +kernel
theorem dX0_clamp_0 : decode cX0_clamp 0 = .ok (.ldc2_w 122, 3) := by decide +kernel
theorem dX0_clamp_3 : decode cX0_clamp 3 = .ok (.ldc2_w 124, 3) := by decide +kernel
theorem dX0_clamp_6 : decode cX0_clamp 6 = .ok (.lload_n 0, 1) := by decide +kernel
theorem dX0_clamp_7 : decode cX0_clamp 7 = .ok (.invokestatic 126, 3) := by decide +kernel
theorem dX0_clamp_10 : decode cX0_clamp 10 = .ok (.invokestatic 129, 3) := by decide +kernel
theorem dX0_clamp_13 : decode cX0_clamp 13 = .ok (.l2i, 1) := by decide +kernel
theorem dX0_clamp_14 : decode cX0_clamp 14 = .ok (.ireturn, 1) := by decide +kernel
theorem dX1_init_0 : decode cX1_init 0 = .ok (.aload_n 0, 1) := by decide +kernel
theorem dX1_init_1 : decode cX1_init 1 = .ok (.invokespecial 3, 3) := by decide +kernel
theorem dX1_init_4 : decode cX1_init 4 = .ok (.aload_n 0, 1) := by decide +kernel
theorem dX1_init_5 : decode cX1_init 5 = .ok (.iconst (-1), 1) := by decide +kernel
theorem dX1_init_6 : decode cX1_init 6 = .ok (.putfield 9, 3) := by decide +kernel
theorem dX1_init_9 : decode cX1_init 9 = .ok (.aload_n 0, 1) := by decide +kernel
theorem dX1_init_10 : decode cX1_init 10 = .ok (.iconst (-1), 1) := by decide +kernel
theorem dX1_init_11 : decode cX1_init 11 = .ok (.putfield 15, 3) := by decide +kernel
theorem dX1_init_14 : decode cX1_init 14 = .ok (.aload_n 0, 1) := by decide +kernel
theorem dX1_init_15 : decode cX1_init 15 = .ok (.iconst 0, 1) := by decide +kernel
theorem dX1_init_16 : decode cX1_init 16 = .ok (.putfield 18, 3) := by decide +kernel
theorem dX1_init_19 : decode cX1_init 19 = .ok (.aload_n 0, 1) := by decide +kernel
theorem dX1_init_20 : decode cX1_init 20 = .ok (.aload_n 1, 1) := by decide +kernel
theorem dX1_init_21 : decode cX1_init 21 = .ok (.putfield 21, 3) := by decide +kernel
theorem dX1_init_24 : decode cX1_init 24 = .ok (.aload_n 0, 1) := by decide +kernel
theorem dX1_init_25 : decode cX1_init 25 = .ok (.aload_n 2, 1) := by decide +kernel
theorem dX1_init_26 : decode cX1_init 26 = .ok (.putfield 25, 3) := by decide +kernel
theorem dX1_init_29 : decode cX1_init 29 = .ok (.return_, 1) := by decide +kernel
theorem dX1_search_0 : decode cX1_search 0 = .ok (.aload_n 0, 1) := by decide +kernel
theorem dX1_search_1 : decode cX1_search 1 = .ok (.iconst (-1), 1) := by decide +kernel
theorem dX1_search_2 : decode cX1_search 2 = .ok (.putfield 9, 3) := by decide +kernel
theorem dX1_search_5 : decode cX1_search 5 = .ok (.iload_n 2, 1) := by decide +kernel
theorem dX1_search_6 : decode cX1_search 6 = .ok (.iconst 1, 1) := by decide +kernel
theorem dX1_search_7 : decode cX1_search 7 = .ok (.if_icmp .lt 22, 3) := by decide +kernel
theorem dX1_search_10 : decode cX1_search 10 = .ok (.iload_n 2, 1) := by decide +kernel
theorem dX1_search_11 : decode cX1_search 11 = .ok (.sipush 1024, 3) := by decide +kernel
theorem dX1_search_14 : decode cX1_search 14 = .ok (.if_icmp .gt 15, 3) := by decide +kernel
theorem dX1_search_17 : decode cX1_search 17 = .ok (.aload_n 0, 1) := by decide +kernel
theorem dX1_search_18 : decode cX1_search 18 = .ok (.getfield 21, 3) := by decide +kernel
theorem dX1_search_21 : decode cX1_search 21 = .ok (.getfield 29, 3) := by decide +kernel
theorem dX1_search_24 : decode cX1_search 24 = .ok (.bipush 32, 2) := by decide +kernel
theorem dX1_search_26 : decode cX1_search 26 = .ok (.if_icmp .lt 5, 3) := by decide +kernel
theorem dX1_search_29 : decode cX1_search 29 = .ok (.iconst 0, 1) := by decide +kernel
theorem dX1_search_30 : decode cX1_search 30 = .ok (.ireturn, 1) := by decide +kernel
theorem dX1_search_31 : decode cX1_search 31 = .ok (.iload_n 2, 1) := by decide +kernel
theorem dX1_search_32 : decode cX1_search 32 = .ok (.aload_n 0, 1) := by decide +kernel
theorem dX1_search_33 : decode cX1_search 33 = .ok (.getfield 25, 3) := by decide +kernel
theorem dX1_search_36 : decode cX1_search 36 = .ok (.aload_n 1, 1) := by decide +kernel
theorem dX1_search_37 : decode cX1_search 37 = .ok (.iload_n 2, 1) := by decide +kernel
theorem dX1_search_38 : decode cX1_search 38 = .ok (.invokevirtual 34, 3) := by decide +kernel
theorem dX1_search_41 : decode cX1_search 41 = .ok (.iadd, 1) := by decide +kernel
theorem dX1_search_42 : decode cX1_search 42 = .ok (.istore_n 3, 1) := by decide +kernel
theorem dX1_search_43 : decode cX1_search 43 = .ok (.iconst 0, 1) := by decide +kernel
theorem dX1_search_44 : decode cX1_search 44 = .ok (.iload_n 3, 1) := by decide +kernel
theorem dX1_search_45 : decode cX1_search 45 = .ok (.aload_n 1, 1) := by decide +kernel
theorem dX1_search_46 : decode cX1_search 46 = .ok (.getfield 40, 3) := by decide +kernel
theorem dX1_search_49 : decode cX1_search 49 = .ok (.invokestatic 45, 3) := by decide +kernel
theorem dX1_search_52 : decode cX1_search 52 = .ok (.istore 4, 2) := by decide +kernel
theorem dX1_search_54 : decode cX1_search 54 = .ok (.aload_n 0, 1) := by decide +kernel
theorem dX1_search_55 : decode cX1_search 55 = .ok (.iload_n 3, 1) := by decide +kernel
theorem dX1_search_56 : decode cX1_search 56 = .ok (.iload 4, 2) := by decide +kernel
theorem dX1_search_58 : decode cX1_search 58 = .ok (.invokestatic 51, 3) := by decide +kernel
theorem dX1_search_61 : decode cX1_search 61 = .ok (.putfield 18, 3) := by decide +kernel
theorem dX1_search_64 : decode cX1_search 64 = .ok (.iconst 0, 1) := by decide +kernel
theorem dX1_search_65 : decode cX1_search 65 = .ok (.istore 5, 2) := by decide +kernel
theorem dX1_search_67 : decode cX1_search 67 = .ok (.iconst 0, 1) := by decide +kernel
theorem dX1_search_68 : decode cX1_search 68 = .ok (.istore 6, 2) := by decide +kernel
theorem dX1_search_70 : decode cX1_search 70 = .ok (.iload 6, 2) := by decide +kernel
theorem dX1_search_72 : decode cX1_search 72 = .ok (.aload_n 0, 1) := by decide +kernel
theorem dX1_search_73 : decode cX1_search 73 = .ok (.getfield 21, 3) := by decide +kernel
theorem dX1_search_76 : decode cX1_search 76 = .ok (.getfield 29, 3) := by decide +kernel
theorem dX1_search_79 : decode cX1_search 79 = .ok (.if_icmp .gt 108, 3) := by decide +kernel
theorem dX1_search_82 : decode cX1_search 82 = .ok (.aload_n 0, 1) := by decide +kernel
theorem dX1_search_83 : decode cX1_search 83 = .ok (.getfield 21, 3) := by decide +kernel
theorem dX1_search_86 : decode cX1_search 86 = .ok (.iload 6, 2) := by decide +kernel
theorem dX1_search_88 : decode cX1_search 88 = .ok (.invokevirtual 55, 3) := by decide +kernel
theorem dX1_search_91 : decode cX1_search 91 = .ok (.istore 7, 2) := by decide +kernel
theorem dX1_search_93 : decode cX1_search 93 = .ok (.aload_n 0, 1) := by decide +kernel
theorem dX1_search_94 : decode cX1_search 94 = .ok (.getfield 21, 3) := by decide +kernel
theorem dX1_search_97 : decode cX1_search 97 = .ok (.iload 6, 2) := by decide +kernel
theorem dX1_search_99 : decode cX1_search 99 = .ok (.aload_n 1, 1) := by decide +kernel
theorem dX1_search_100 : decode cX1_search 100 = .ok (.getfield 59, 3) := by decide +kernel
theorem dX1_search_103 : decode cX1_search 103 = .ok (.invokevirtual 62, 3) := by decide +kernel
theorem dX1_search_106 : decode cX1_search 106 = .ok (.istore 8, 2) := by decide +kernel
theorem dX1_search_108 : decode cX1_search 108 = .ok (.iload 7, 2) := by decide +kernel
theorem dX1_search_110 : decode cX1_search 110 = .ok (.iload 4, 2) := by decide +kernel
theorem dX1_search_112 : decode cX1_search 112 = .ok (.invokestatic 51, 3) := by decide +kernel
theorem dX1_search_115 : decode cX1_search 115 = .ok (.istore 9, 2) := by decide +kernel
theorem dX1_search_117 : decode cX1_search 117 = .ok (.iload 9, 2) := by decide +kernel
theorem dX1_search_119 : decode cX1_search 119 = .ok (.aload_n 0, 1) := by decide +kernel
theorem dX1_search_120 : decode cX1_search 120 = .ok (.getfield 18, 3) := by decide +kernel
theorem dX1_search_123 : decode cX1_search 123 = .ok (.iadd, 1) := by decide +kernel
theorem dX1_search_124 : decode cX1_search 124 = .ok (.iload 7, 2) := by decide +kernel
theorem dX1_search_126 : decode cX1_search 126 = .ok (.iload 8, 2) := by decide +kernel
theorem dX1_search_128 : decode cX1_search 128 = .ok (.iadd, 1) := by decide +kernel
theorem dX1_search_129 : decode cX1_search 129 = .ok (.if_icmp .gt 52, 3) := by decide +kernel
theorem dX1_search_132 : decode cX1_search 132 = .ok (.aload_n 0, 1) := by decide +kernel
theorem dX1_search_133 : decode cX1_search 133 = .ok (.getfield 25, 3) := by decide +kernel
theorem dX1_search_136 : decode cX1_search 136 = .ok (.aload_n 1, 1) := by decide +kernel
theorem dX1_search_137 : decode cX1_search 137 = .ok (.aload_n 0, 1) := by decide +kernel
theorem dX1_search_138 : decode cX1_search 138 = .ok (.getfield 18, 3) := by decide +kernel
theorem dX1_search_141 : decode cX1_search 141 = .ok (.iload 7, 2) := by decide +kernel
theorem dX1_search_143 : decode cX1_search 143 = .ok (.iload 8, 2) := by decide +kernel
theorem dX1_search_145 : decode cX1_search 145 = .ok (.invokevirtual 65, 3) := by decide +kernel
theorem dX1_search_148 : decode cX1_search 148 = .ok (.istore 10, 2) := by decide +kernel
theorem dX1_search_150 : decode cX1_search 150 = .ok (.aload_n 0, 1) := by decide +kernel
theorem dX1_search_151 : decode cX1_search 151 = .ok (.getfield 9, 3) := by decide +kernel
theorem dX1_search_154 : decode cX1_search 154 = .ok (.iconst (-1), 1) := by decide +kernel
theorem dX1_search_155 : decode cX1_search 155 = .ok (.if_icmp .eq 10, 3) := by decide +kernel
theorem dX1_search_158 : decode cX1_search 158 = .ok (.iload 10, 2) := by decide +kernel
theorem dX1_search_160 : decode cX1_search 160 = .ok (.iload 5, 2) := by decide +kernel
theorem dX1_search_162 : decode cX1_search 162 = .ok (.if_icmp .ge 19, 3) := by decide +kernel
theorem dX1_search_165 : decode cX1_search 165 = .ok (.aload_n 0, 1) := by decide +kernel
theorem dX1_search_166 : decode cX1_search 166 = .ok (.iload 6, 2) := by decide +kernel
theorem dX1_search_168 : decode cX1_search 168 = .ok (.putfield 9, 3) := by decide +kernel
theorem dX1_search_171 : decode cX1_search 171 = .ok (.aload_n 0, 1) := by decide +kernel
theorem dX1_search_172 : decode cX1_search 172 = .ok (.iload 9, 2) := by decide +kernel
theorem dX1_search_174 : decode cX1_search 174 = .ok (.putfield 15, 3) := by decide +kernel
theorem dX1_search_177 : decode cX1_search 177 = .ok (.iload 10, 2) := by decide +kernel
theorem dX1_search_179 : decode cX1_search 179 = .ok (.istore 5, 2) := by decide +kernel
theorem dX1_search_181 : decode cX1_search 181 = .ok (.iinc 6 1, 3) := by decide +kernel
theorem dX1_search_184 : decode cX1_search 184 = .ok (.goto (-114), 3) := by decide +kernel
theorem dX1_search_187 : decode cX1_search 187 = .ok (.aload_n 0, 1) := by decide +kernel
theorem dX1_search_188 : decode cX1_search 188 = .ok (.getfield 9, 3) := by decide +kernel
theorem dX1_search_191 : decode cX1_search 191 = .ok (.iconst (-1), 1) := by decide +kernel
theorem dX1_search_192 : decode cX1_search 192 = .ok (.if_icmp .eq 7, 3) := by decide +kernel
theorem dX1_search_195 : decode cX1_search 195 = .ok (.iconst 1, 1) := by decide +kernel
theorem dX1_search_196 : decode cX1_search 196 = .ok (.goto 4, 3) := by decide +kernel
theorem dX1_search_199 : decode cX1_search 199 = .ok (.iconst 0, 1) := by decide +kernel
theorem dX1_search_200 : decode cX1_search 200 = .ok (.ireturn, 1) := by decide +kernel
theorem dX2_init_0 : decode cX2_init 0 = .ok (.aload_n 0, 1) := by decide +kernel
theorem dX2_init_1 : decode cX2_init 1 = .ok (.invokespecial 1, 3) := by decide +kernel
theorem dX2_init_4 : decode cX2_init 4 = .ok (.aload_n 0, 1) := by decide +kernel
theorem dX2_init_5 : decode cX2_init 5 = .ok (.iconst 0, 1) := by decide +kernel
theorem dX2_init_6 : decode cX2_init 6 = .ok (.putfield 7, 3) := by decide +kernel
theorem dX2_init_9 : decode cX2_init 9 = .ok (.aload_n 0, 1) := by decide +kernel
theorem dX2_init_10 : decode cX2_init 10 = .ok (.iconst 0, 1) := by decide +kernel
theorem dX2_init_11 : decode cX2_init 11 = .ok (.putfield 13, 3) := by decide +kernel
theorem dX2_init_14 : decode cX2_init 14 = .ok (.aload_n 0, 1) := by decide +kernel
theorem dX2_init_15 : decode cX2_init 15 = .ok (.bipush 20, 2) := by decide +kernel
theorem dX2_init_17 : decode cX2_init 17 = .ok (.anewarray 16, 3) := by decide +kernel
theorem dX2_init_20 : decode cX2_init 20 = .ok (.putfield 18, 3) := by decide +kernel
theorem dX2_init_23 : decode cX2_init 23 = .ok (.return_, 1) := by decide +kernel
theorem dX2_clear_0 : decode cX2_clear 0 = .ok (.aload_n 0, 1) := by decide +kernel
theorem dX2_clear_1 : decode cX2_clear 1 = .ok (.iconst 0, 1) := by decide +kernel
theorem dX2_clear_2 : decode cX2_clear 2 = .ok (.putfield 7, 3) := by decide +kernel
theorem dX2_clear_5 : decode cX2_clear 5 = .ok (.return_, 1) := by decide +kernel
theorem dX2_keep_0 : decode cX2_keep 0 = .ok (.aload_n 0, 1) := by decide +kernel
theorem dX2_keep_1 : decode cX2_keep 1 = .ok (.getfield 18, 3) := by decide +kernel
theorem dX2_keep_4 : decode cX2_keep 4 = .ok (.aload_n 0, 1) := by decide +kernel
theorem dX2_keep_5 : decode cX2_keep 5 = .ok (.getfield 13, 3) := by decide +kernel
theorem dX2_keep_8 : decode cX2_keep 8 = .ok (.aaload, 1) := by decide +kernel
theorem dX2_keep_9 : decode cX2_keep 9 = .ok (.ifnonnull 19, 3) := by decide +kernel
theorem dX2_keep_12 : decode cX2_keep 12 = .ok (.aload_n 0, 1) := by decide +kernel
theorem dX2_keep_13 : decode cX2_keep 13 = .ok (.getfield 18, 3) := by decide +kernel
theorem dX2_keep_16 : decode cX2_keep 16 = .ok (.aload_n 0, 1) := by decide +kernel
theorem dX2_keep_17 : decode cX2_keep 17 = .ok (.getfield 13, 3) := by decide +kernel
theorem dX2_keep_20 : decode cX2_keep 20 = .ok (.new 16, 3) := by decide +kernel
theorem dX2_keep_23 : decode cX2_keep 23 = .ok (.dup, 1) := by decide +kernel
theorem dX2_keep_24 : decode cX2_keep 24 = .ok (.invokespecial 22, 3) := by decide +kernel
theorem dX2_keep_27 : decode cX2_keep 27 = .ok (.aastore, 1) := by decide +kernel
theorem dX2_keep_28 : decode cX2_keep 28 = .ok (.aload_n 0, 1) := by decide +kernel
theorem dX2_keep_29 : decode cX2_keep 29 = .ok (.getfield 18, 3) := by decide +kernel
theorem dX2_keep_32 : decode cX2_keep 32 = .ok (.aload_n 0, 1) := by decide +kernel
theorem dX2_keep_33 : decode cX2_keep 33 = .ok (.getfield 13, 3) := by decide +kernel
theorem dX2_keep_36 : decode cX2_keep 36 = .ok (.aaload, 1) := by decide +kernel
theorem dX2_keep_37 : decode cX2_keep 37 = .ok (.aload_n 1, 1) := by decide +kernel
theorem dX2_keep_38 : decode cX2_keep 38 = .ok (.invokevirtual 23, 3) := by decide +kernel
theorem dX2_keep_41 : decode cX2_keep 41 = .ok (.aload_n 0, 1) := by decide +kernel
theorem dX2_keep_42 : decode cX2_keep 42 = .ok (.aload_n 0, 1) := by decide +kernel
theorem dX2_keep_43 : decode cX2_keep 43 = .ok (.getfield 13, 3) := by decide +kernel
theorem dX2_keep_46 : decode cX2_keep 46 = .ok (.iconst 1, 1) := by decide +kernel
theorem dX2_keep_47 : decode cX2_keep 47 = .ok (.iadd, 1) := by decide +kernel
theorem dX2_keep_48 : decode cX2_keep 48 = .ok (.bipush 20, 2) := by decide +kernel
theorem dX2_keep_50 : decode cX2_keep 50 = .ok (.if_icmp .ge 12, 3) := by decide +kernel
theorem dX2_keep_53 : decode cX2_keep 53 = .ok (.aload_n 0, 1) := by decide +kernel
theorem dX2_keep_54 : decode cX2_keep 54 = .ok (.getfield 13, 3) := by decide +kernel
theorem dX2_keep_57 : decode cX2_keep 57 = .ok (.iconst 1, 1) := by decide +kernel
theorem dX2_keep_58 : decode cX2_keep 58 = .ok (.iadd, 1) := by decide +kernel
theorem dX2_keep_59 : decode cX2_keep 59 = .ok (.goto 4, 3) := by decide +kernel
theorem dX2_keep_62 : decode cX2_keep 62 = .ok (.iconst 0, 1) := by decide +kernel
theorem dX2_keep_63 : decode cX2_keep 63 = .ok (.putfield 13, 3) := by decide +kernel
theorem dX2_keep_66 : decode cX2_keep 66 = .ok (.aload_n 0, 1) := by decide +kernel
theorem dX2_keep_67 : decode cX2_keep 67 = .ok (.bipush 20, 2) := by decide +kernel
theorem dX2_keep_69 : decode cX2_keep 69 = .ok (.aload_n 0, 1) := by decide +kernel
theorem dX2_keep_70 : decode cX2_keep 70 = .ok (.getfield 7, 3) := by decide +kernel
theorem dX2_keep_73 : decode cX2_keep 73 = .ok (.iconst 1, 1) := by decide +kernel
theorem dX2_keep_74 : decode cX2_keep 74 = .ok (.iadd, 1) := by decide +kernel
theorem dX2_keep_75 : decode cX2_keep 75 = .ok (.invokestatic 27, 3) := by decide +kernel
theorem dX2_keep_78 : decode cX2_keep 78 = .ok (.putfield 7, 3) := by decide +kernel
theorem dX2_keep_81 : decode cX2_keep 81 = .ok (.return_, 1) := by decide +kernel
theorem dX2_goBack_0 : decode cX2_goBack 0 = .ok (.aload_n 0, 1) := by decide +kernel
theorem dX2_goBack_1 : decode cX2_goBack 1 = .ok (.getfield 13, 3) := by decide +kernel
theorem dX2_goBack_4 : decode cX2_goBack 4 = .ok (.ifCond .le 12, 3) := by decide +kernel
theorem dX2_goBack_7 : decode cX2_goBack 7 = .ok (.aload_n 0, 1) := by decide +kernel
theorem dX2_goBack_8 : decode cX2_goBack 8 = .ok (.getfield 13, 3) := by decide +kernel
theorem dX2_goBack_11 : decode cX2_goBack 11 = .ok (.iconst 1, 1) := by decide +kernel
theorem dX2_goBack_12 : decode cX2_goBack 12 = .ok (.isub, 1) := by decide +kernel
theorem dX2_goBack_13 : decode cX2_goBack 13 = .ok (.goto 5, 3) := by decide +kernel
theorem dX2_goBack_16 : decode cX2_goBack 16 = .ok (.bipush 19, 2) := by decide +kernel
theorem dX2_goBack_18 : decode cX2_goBack 18 = .ok (.istore_n 2, 1) := by decide +kernel
theorem dX2_goBack_19 : decode cX2_goBack 19 = .ok (.aload_n 0, 1) := by decide +kernel
theorem dX2_goBack_20 : decode cX2_goBack 20 = .ok (.getfield 7, 3) := by decide +kernel
theorem dX2_goBack_23 : decode cX2_goBack 23 = .ok (.ifCond .eq 12, 3) := by decide +kernel
theorem dX2_goBack_26 : decode cX2_goBack 26 = .ok (.aload_n 0, 1) := by decide +kernel
theorem dX2_goBack_27 : decode cX2_goBack 27 = .ok (.getfield 18, 3) := by decide +kernel
theorem dX2_goBack_30 : decode cX2_goBack 30 = .ok (.iload_n 2, 1) := by decide +kernel
theorem dX2_goBack_31 : decode cX2_goBack 31 = .ok (.aaload, 1) := by decide +kernel
theorem dX2_goBack_32 : decode cX2_goBack 32 = .ok (.ifnonnull 5, 3) := by decide +kernel
theorem dX2_goBack_35 : decode cX2_goBack 35 = .ok (.iconst 0, 1) := by decide +kernel
theorem dX2_goBack_36 : decode cX2_goBack 36 = .ok (.ireturn, 1) := by decide +kernel
theorem dX2_goBack_37 : decode cX2_goBack 37 = .ok (.aload_n 1, 1) := by decide +kernel
theorem dX2_goBack_38 : decode cX2_goBack 38 = .ok (.aload_n 0, 1) := by decide +kernel
theorem dX2_goBack_39 : decode cX2_goBack 39 = .ok (.getfield 18, 3) := by decide +kernel
theorem dX2_goBack_42 : decode cX2_goBack 42 = .ok (.iload_n 2, 1) := by decide +kernel
theorem dX2_goBack_43 : decode cX2_goBack 43 = .ok (.aaload, 1) := by decide +kernel
theorem dX2_goBack_44 : decode cX2_goBack 44 = .ok (.invokevirtual 23, 3) := by decide +kernel
theorem dX2_goBack_47 : decode cX2_goBack 47 = .ok (.aload_n 0, 1) := by decide +kernel
theorem dX2_goBack_48 : decode cX2_goBack 48 = .ok (.iload_n 2, 1) := by decide +kernel
theorem dX2_goBack_49 : decode cX2_goBack 49 = .ok (.putfield 13, 3) := by decide +kernel
theorem dX2_goBack_52 : decode cX2_goBack 52 = .ok (.aload_n 0, 1) := by decide +kernel
theorem dX2_goBack_53 : decode cX2_goBack 53 = .ok (.dup, 1) := by decide +kernel
theorem dX2_goBack_54 : decode cX2_goBack 54 = .ok (.getfield 7, 3) := by decide +kernel
theorem dX2_goBack_57 : decode cX2_goBack 57 = .ok (.iconst 1, 1) := by decide +kernel
theorem dX2_goBack_58 : decode cX2_goBack 58 = .ok (.isub, 1) := by decide +kernel
theorem dX2_goBack_59 : decode cX2_goBack 59 = .ok (.putfield 7, 3) := by decide +kernel
theorem dX2_goBack_62 : decode cX2_goBack 62 = .ok (.iconst 1, 1) := by decide +kernel
theorem dX2_goBack_63 : decode cX2_goBack 63 = .ok (.ireturn, 1) := by decide +kernel
theorem dX3_init_0 : decode cX3_init 0 = .ok (.aload_n 0, 1) := by decide +kernel
theorem dX3_init_1 : decode cX3_init 1 = .ok (.invokespecial 3, 3) := by decide +kernel
theorem dX3_init_4 : decode cX3_init 4 = .ok (.aload_n 0, 1) := by decide +kernel
theorem dX3_init_5 : decode cX3_init 5 = .ok (.sipush 450, 3) := by decide +kernel
theorem dX3_init_8 : decode cX3_init 8 = .ok (.newarray .byte, 2) := by decide +kernel
theorem dX3_init_10 : decode cX3_init 10 = .ok (.putfield 13, 3) := by decide +kernel
theorem dX3_init_13 : decode cX3_init 13 = .ok (.aload_n 0, 1) := by decide +kernel
theorem dX3_init_14 : decode cX3_init 14 = .ok (.iconst 0, 1) := by decide +kernel
theorem dX3_init_15 : decode cX3_init 15 = .ok (.putfield 17, 3) := by decide +kernel
theorem dX3_init_18 : decode cX3_init 18 = .ok (.return_, 1) := by decide +kernel
theorem dX3_add_0 : decode cX3_add 0 = .ok (.aload_n 0, 1) := by decide +kernel
theorem dX3_add_1 : decode cX3_add 1 = .ok (.getfield 17, 3) := by decide +kernel
theorem dX3_add_4 : decode cX3_add 4 = .ok (.aload_n 0, 1) := by decide +kernel
theorem dX3_add_5 : decode cX3_add 5 = .ok (.getfield 13, 3) := by decide +kernel
theorem dX3_add_8 : decode cX3_add 8 = .ok (.arraylength, 1) := by decide +kernel
theorem dX3_add_9 : decode cX3_add 9 = .ok (.if_icmp .ge 24, 3) := by decide +kernel
theorem dX3_add_12 : decode cX3_add 12 = .ok (.aload_n 0, 1) := by decide +kernel
theorem dX3_add_13 : decode cX3_add 13 = .ok (.getfield 13, 3) := by decide +kernel
theorem dX3_add_16 : decode cX3_add 16 = .ok (.aload_n 0, 1) := by decide +kernel
theorem dX3_add_17 : decode cX3_add 17 = .ok (.getfield 17, 3) := by decide +kernel
theorem dX3_add_20 : decode cX3_add 20 = .ok (.iload_n 1, 1) := by decide +kernel
theorem dX3_add_21 : decode cX3_add 21 = .ok (.i2b, 1) := by decide +kernel
theorem dX3_add_22 : decode cX3_add 22 = .ok (.bastore, 1) := by decide +kernel
theorem dX3_add_23 : decode cX3_add 23 = .ok (.aload_n 0, 1) := by decide +kernel
theorem dX3_add_24 : decode cX3_add 24 = .ok (.dup, 1) := by decide +kernel
theorem dX3_add_25 : decode cX3_add 25 = .ok (.getfield 17, 3) := by decide +kernel
theorem dX3_add_28 : decode cX3_add 28 = .ok (.iconst 1, 1) := by decide +kernel
theorem dX3_add_29 : decode cX3_add 29 = .ok (.iadd, 1) := by decide +kernel
theorem dX3_add_30 : decode cX3_add 30 = .ok (.putfield 17, 3) := by decide +kernel
theorem dX3_add_33 : decode cX3_add 33 = .ok (.return_, 1) := by decide +kernel
theorem dX3_addTwo_0 : decode cX3_addTwo 0 = .ok (.aload_n 0, 1) := by decide +kernel
theorem dX3_addTwo_1 : decode cX3_addTwo 1 = .ok (.iload_n 1, 1) := by decide +kernel
theorem dX3_addTwo_2 : decode cX3_addTwo 2 = .ok (.bipush 8, 2) := by decide +kernel
theorem dX3_addTwo_4 : decode cX3_addTwo 4 = .ok (.ishr, 1) := by decide +kernel
theorem dX3_addTwo_5 : decode cX3_addTwo 5 = .ok (.invokevirtual 21, 3) := by decide +kernel
theorem dX3_addTwo_8 : decode cX3_addTwo 8 = .ok (.aload_n 0, 1) := by decide +kernel
theorem dX3_addTwo_9 : decode cX3_addTwo 9 = .ok (.iload_n 1, 1) := by decide +kernel
theorem dX3_addTwo_10 : decode cX3_addTwo 10 = .ok (.invokevirtual 21, 3) := by decide +kernel
theorem dX3_addTwo_13 : decode cX3_addTwo 13 = .ok (.return_, 1) := by decide +kernel
theorem dX3_write_0 : decode cX3_write 0 = .ok (.aload_n 0, 1) := by decide +kernel
theorem dX3_write_1 : decode cX3_write 1 = .ok (.iconst 0, 1) := by decide +kernel
theorem dX3_write_2 : decode cX3_write 2 = .ok (.putfield 17, 3) := by decide +kernel
theorem dX3_write_5 : decode cX3_write 5 = .ok (.iconst 0, 1) := by decide +kernel
theorem dX3_write_6 : decode cX3_write 6 = .ok (.istore_n 3, 1) := by decide +kernel
theorem dX3_write_7 : decode cX3_write 7 = .ok (.iload_n 3, 1) := by decide +kernel
theorem dX3_write_8 : decode cX3_write 8 = .ok (.aload_n 2, 1) := by decide +kernel
theorem dX3_write_9 : decode cX3_write 9 = .ok (.invokestatic 25, 3) := by decide +kernel
theorem dX3_write_12 : decode cX3_write 12 = .ok (.if_icmp .ge 19, 3) := by decide +kernel
theorem dX3_write_15 : decode cX3_write 15 = .ok (.aload_n 0, 1) := by decide +kernel
theorem dX3_write_16 : decode cX3_write 16 = .ok (.aload_n 1, 1) := by decide +kernel
theorem dX3_write_17 : decode cX3_write 17 = .ok (.getfield 29, 3) := by decide +kernel
theorem dX3_write_20 : decode cX3_write 20 = .ok (.iload_n 3, 1) := by decide +kernel
theorem dX3_write_21 : decode cX3_write 21 = .ok (.aaload, 1) := by decide +kernel
theorem dX3_write_22 : decode cX3_write 22 = .ok (.invokevirtual 33, 3) := by decide +kernel
theorem dX3_write_25 : decode cX3_write 25 = .ok (.iinc 3 1, 3) := by decide +kernel
theorem dX3_write_28 : decode cX3_write 28 = .ok (.goto (-21), 3) := by decide +kernel
theorem dX3_write_31 : decode cX3_write 31 = .ok (.aload_n 0, 1) := by decide +kernel
theorem dX3_write_32 : decode cX3_write 32 = .ok (.aload_n 1, 1) := by decide +kernel
theorem dX3_write_33 : decode cX3_write 33 = .ok (.getfield 37, 3) := by decide +kernel
theorem dX3_write_36 : decode cX3_write 36 = .ok (.invokevirtual 21, 3) := by decide +kernel
theorem dX3_write_39 : decode cX3_write 39 = .ok (.iconst 0, 1) := by decide +kernel
theorem dX3_write_40 : decode cX3_write 40 = .ok (.istore_n 3, 1) := by decide +kernel
theorem dX3_write_41 : decode cX3_write 41 = .ok (.iload_n 3, 1) := by decide +kernel
theorem dX3_write_42 : decode cX3_write 42 = .ok (.aload_n 1, 1) := by decide +kernel
theorem dX3_write_43 : decode cX3_write 43 = .ok (.getfield 37, 3) := by decide +kernel
theorem dX3_write_46 : decode cX3_write 46 = .ok (.if_icmp .ge 39, 3) := by decide +kernel
theorem dX3_write_49 : decode cX3_write 49 = .ok (.aload_n 0, 1) := by decide +kernel
theorem dX3_write_50 : decode cX3_write 50 = .ok (.aload_n 1, 1) := by decide +kernel
theorem dX3_write_51 : decode cX3_write 51 = .ok (.getfield 40, 3) := by decide +kernel
theorem dX3_write_54 : decode cX3_write 54 = .ok (.iload_n 3, 1) := by decide +kernel
theorem dX3_write_55 : decode cX3_write 55 = .ok (.iaload, 1) := by decide +kernel
theorem dX3_write_56 : decode cX3_write 56 = .ok (.invokevirtual 44, 3) := by decide +kernel
theorem dX3_write_59 : decode cX3_write 59 = .ok (.aload_n 0, 1) := by decide +kernel
theorem dX3_write_60 : decode cX3_write 60 = .ok (.aload_n 1, 1) := by decide +kernel
theorem dX3_write_61 : decode cX3_write 61 = .ok (.getfield 47, 3) := by decide +kernel
theorem dX3_write_64 : decode cX3_write 64 = .ok (.iload_n 3, 1) := by decide +kernel
theorem dX3_write_65 : decode cX3_write 65 = .ok (.iaload, 1) := by decide +kernel
theorem dX3_write_66 : decode cX3_write 66 = .ok (.invokevirtual 44, 3) := by decide +kernel
theorem dX3_write_69 : decode cX3_write 69 = .ok (.aload_n 0, 1) := by decide +kernel
theorem dX3_write_70 : decode cX3_write 70 = .ok (.aload_n 1, 1) := by decide +kernel
theorem dX3_write_71 : decode cX3_write 71 = .ok (.getfield 50, 3) := by decide +kernel
theorem dX3_write_74 : decode cX3_write 74 = .ok (.iload_n 3, 1) := by decide +kernel
theorem dX3_write_75 : decode cX3_write 75 = .ok (.iaload, 1) := by decide +kernel
theorem dX3_write_76 : decode cX3_write 76 = .ok (.invokevirtual 44, 3) := by decide +kernel
theorem dX3_write_79 : decode cX3_write 79 = .ok (.iinc 3 1, 3) := by decide +kernel
theorem dX3_write_82 : decode cX3_write 82 = .ok (.goto (-41), 3) := by decide +kernel
theorem dX3_write_85 : decode cX3_write 85 = .ok (.aload_n 0, 1) := by decide +kernel
theorem dX3_write_86 : decode cX3_write 86 = .ok (.aload_n 0, 1) := by decide +kernel
theorem dX3_write_87 : decode cX3_write 87 = .ok (.getfield 13, 3) := by decide +kernel
theorem dX3_write_90 : decode cX3_write 90 = .ok (.aload_n 0, 1) := by decide +kernel
theorem dX3_write_91 : decode cX3_write 91 = .ok (.getfield 17, 3) := by decide +kernel
theorem dX3_write_94 : decode cX3_write 94 = .ok (.invokestatic 53, 3) := by decide +kernel
theorem dX3_write_97 : decode cX3_write 97 = .ok (.invokevirtual 21, 3) := by decide +kernel
theorem dX3_write_100 : decode cX3_write 100 = .ok (.return_, 1) := by decide +kernel
theorem dX3_writeCell_0 : decode cX3_writeCell 0 = .ok (.aload_n 1, 1) := by decide +kernel
theorem dX3_writeCell_1 : decode cX3_writeCell 1 = .ok (.getfield 57, 3) := by decide +kernel
theorem dX3_writeCell_4 : decode cX3_writeCell 4 = .ok (.ifCond .ne 25, 3) := by decide +kernel
theorem dX3_writeCell_7 : decode cX3_writeCell 7 = .ok (.iconst 0, 1) := by decide +kernel
theorem dX3_writeCell_8 : decode cX3_writeCell 8 = .ok (.istore_n 2, 1) := by decide +kernel
theorem dX3_writeCell_9 : decode cX3_writeCell 9 = .ok (.iload_n 2, 1) := by decide +kernel
theorem dX3_writeCell_10 : decode cX3_writeCell 10 = .ok (.bipush 8, 2) := by decide +kernel
theorem dX3_writeCell_12 : decode cX3_writeCell 12 = .ok (.if_icmp .ge 16, 3) := by decide +kernel
theorem dX3_writeCell_15 : decode cX3_writeCell 15 = .ok (.aload_n 0, 1) := by decide +kernel
theorem dX3_writeCell_16 : decode cX3_writeCell 16 = .ok (.sipush 255, 3) := by decide +kernel
theorem dX3_writeCell_19 : decode cX3_writeCell 19 = .ok (.invokevirtual 21, 3) := by decide +kernel
theorem dX3_writeCell_22 : decode cX3_writeCell 22 = .ok (.iinc 2 1, 3) := by decide +kernel
theorem dX3_writeCell_25 : decode cX3_writeCell 25 = .ok (.goto (-16), 3) := by decide +kernel
theorem dX3_writeCell_28 : decode cX3_writeCell 28 = .ok (.return_, 1) := by decide +kernel
theorem dX3_writeCell_29 : decode cX3_writeCell 29 = .ok (.aload_n 0, 1) := by decide +kernel
theorem dX3_writeCell_30 : decode cX3_writeCell 30 = .ok (.aload_n 1, 1) := by decide +kernel
theorem dX3_writeCell_31 : decode cX3_writeCell 31 = .ok (.getfield 63, 3) := by decide +kernel
theorem dX3_writeCell_34 : decode cX3_writeCell 34 = .ok (.ifCond .eq 7, 3) := by decide +kernel
theorem dX3_writeCell_37 : decode cX3_writeCell 37 = .ok (.iconst 1, 1) := by decide +kernel
theorem dX3_writeCell_38 : decode cX3_writeCell 38 = .ok (.goto 4, 3) := by decide +kernel
theorem dX3_writeCell_41 : decode cX3_writeCell 41 = .ok (.iconst 0, 1) := by decide +kernel
theorem dX3_writeCell_42 : decode cX3_writeCell 42 = .ok (.invokevirtual 21, 3) := by decide +kernel
theorem dX3_writeCell_45 : decode cX3_writeCell 45 = .ok (.aload_n 0, 1) := by decide +kernel
theorem dX3_writeCell_46 : decode cX3_writeCell 46 = .ok (.aload_n 1, 1) := by decide +kernel
theorem dX3_writeCell_47 : decode cX3_writeCell 47 = .ok (.getfield 66, 3) := by decide +kernel
theorem dX3_writeCell_50 : decode cX3_writeCell 50 = .ok (.invokevirtual 44, 3) := by decide +kernel
theorem dX3_writeCell_53 : decode cX3_writeCell 53 = .ok (.aload_n 0, 1) := by decide +kernel
theorem dX3_writeCell_54 : decode cX3_writeCell 54 = .ok (.aload_n 1, 1) := by decide +kernel
theorem dX3_writeCell_55 : decode cX3_writeCell 55 = .ok (.getfield 69, 3) := by decide +kernel
theorem dX3_writeCell_58 : decode cX3_writeCell 58 = .ok (.invokevirtual 21, 3) := by decide +kernel
theorem dX3_writeCell_61 : decode cX3_writeCell 61 = .ok (.aload_n 0, 1) := by decide +kernel
theorem dX3_writeCell_62 : decode cX3_writeCell 62 = .ok (.aload_n 1, 1) := by decide +kernel
theorem dX3_writeCell_63 : decode cX3_writeCell 63 = .ok (.getfield 72, 3) := by decide +kernel
theorem dX3_writeCell_66 : decode cX3_writeCell 66 = .ok (.invokevirtual 21, 3) := by decide +kernel
theorem dX3_writeCell_69 : decode cX3_writeCell 69 = .ok (.aload_n 0, 1) := by decide +kernel
theorem dX3_writeCell_70 : decode cX3_writeCell 70 = .ok (.aload_n 1, 1) := by decide +kernel
theorem dX3_writeCell_71 : decode cX3_writeCell 71 = .ok (.getfield 75, 3) := by decide +kernel
theorem dX3_writeCell_74 : decode cX3_writeCell 74 = .ok (.invokevirtual 21, 3) := by decide +kernel
theorem dX3_writeCell_77 : decode cX3_writeCell 77 = .ok (.aload_n 0, 1) := by decide +kernel
theorem dX3_writeCell_78 : decode cX3_writeCell 78 = .ok (.aload_n 1, 1) := by decide +kernel
theorem dX3_writeCell_79 : decode cX3_writeCell 79 = .ok (.getfield 78, 3) := by decide +kernel
theorem dX3_writeCell_82 : decode cX3_writeCell 82 = .ok (.invokevirtual 21, 3) := by decide +kernel
theorem dX3_writeCell_85 : decode cX3_writeCell 85 = .ok (.aload_n 0, 1) := by decide +kernel
theorem dX3_writeCell_86 : decode cX3_writeCell 86 = .ok (.aload_n 1, 1) := by decide +kernel
theorem dX3_writeCell_87 : decode cX3_writeCell 87 = .ok (.getfield 81, 3) := by decide +kernel
theorem dX3_writeCell_90 : decode cX3_writeCell 90 = .ok (.invokevirtual 21, 3) := by decide +kernel
theorem dX3_writeCell_93 : decode cX3_writeCell 93 = .ok (.return_, 1) := by decide +kernel
theorem dX3_cells_0 : decode cX3_cells 0 = .ok (.bipush 32, 2) := by decide +kernel
theorem dX3_cells_2 : decode cX3_cells 2 = .ok (.bipush 16, 2) := by decide +kernel
theorem dX3_cells_4 : decode cX3_cells 4 = .ok (.iconst 4, 1) := by decide +kernel
theorem dX3_cells_5 : decode cX3_cells 5 = .ok (.aload_n 0, 1) := by decide +kernel
theorem dX3_cells_6 : decode cX3_cells 6 = .ok (.getfield 84, 3) := by decide +kernel
theorem dX3_cells_9 : decode cX3_cells 9 = .ok (.imul, 1) := by decide +kernel
theorem dX3_cells_10 : decode cX3_cells 10 = .ok (.iadd, 1) := by decide +kernel
theorem dX3_cells_11 : decode cX3_cells 11 = .ok (.invokestatic 89, 3) := by decide +kernel
theorem dX3_cells_14 : decode cX3_cells 14 = .ok (.ireturn, 1) := by decide +kernel
theorem dX3_check_0 : decode cX3_check 0 = .ok (.sipush 149, 3) := by decide +kernel
theorem dX3_check_3 : decode cX3_check 3 = .ok (.istore_n 2, 1) := by decide +kernel
theorem dX3_check_4 : decode cX3_check 4 = .ok (.iconst 0, 1) := by decide +kernel
theorem dX3_check_5 : decode cX3_check 5 = .ok (.istore_n 3, 1) := by decide +kernel
theorem dX3_check_6 : decode cX3_check 6 = .ok (.iload_n 3, 1) := by decide +kernel
theorem dX3_check_7 : decode cX3_check 7 = .ok (.iload_n 1, 1) := by decide +kernel
theorem dX3_check_8 : decode cX3_check 8 = .ok (.if_icmp .ge 31, 3) := by decide +kernel
theorem dX3_check_11 : decode cX3_check 11 = .ok (.iload_n 3, 1) := by decide +kernel
theorem dX3_check_12 : decode cX3_check 12 = .ok (.aload_n 0, 1) := by decide +kernel
theorem dX3_check_13 : decode cX3_check 13 = .ok (.arraylength, 1) := by decide +kernel
theorem dX3_check_14 : decode cX3_check 14 = .ok (.if_icmp .ge 25, 3) := by decide +kernel
theorem dX3_check_17 : decode cX3_check 17 = .ok (.iconst 3, 1) := by decide +kernel
theorem dX3_check_18 : decode cX3_check 18 = .ok (.iload_n 2, 1) := by decide +kernel
theorem dX3_check_19 : decode cX3_check 19 = .ok (.imul, 1) := by decide +kernel
theorem dX3_check_20 : decode cX3_check 20 = .ok (.aload_n 0, 1) := by decide +kernel
theorem dX3_check_21 : decode cX3_check 21 = .ok (.iload_n 3, 1) := by decide +kernel
theorem dX3_check_22 : decode cX3_check 22 = .ok (.baload, 1) := by decide +kernel
theorem dX3_check_23 : decode cX3_check 23 = .ok (.sipush 255, 3) := by decide +kernel
theorem dX3_check_26 : decode cX3_check 26 = .ok (.iand, 1) := by decide +kernel
theorem dX3_check_27 : decode cX3_check 27 = .ok (.iadd, 1) := by decide +kernel
theorem dX3_check_28 : decode cX3_check 28 = .ok (.sipush 251, 3) := by decide +kernel
theorem dX3_check_31 : decode cX3_check 31 = .ok (.irem, 1) := by decide +kernel
theorem dX3_check_32 : decode cX3_check 32 = .ok (.istore_n 2, 1) := by decide +kernel
theorem dX3_check_33 : decode cX3_check 33 = .ok (.iinc 3 1, 3) := by decide +kernel
theorem dX3_check_36 : decode cX3_check 36 = .ok (.goto (-30), 3) := by decide +kernel
theorem dX3_check_39 : decode cX3_check 39 = .ok (.iload_n 2, 1) := by decide +kernel
theorem dX3_check_40 : decode cX3_check 40 = .ok (.ireturn, 1) := by decide +kernel
theorem dX3_read_0 : decode cX3_read 0 = .ok (.aload_n 3, 1) := by decide +kernel
theorem dX3_read_1 : decode cX3_read 1 = .ok (.invokestatic 25, 3) := by decide +kernel
theorem dX3_read_4 : decode cX3_read 4 = .ok (.istore 4, 2) := by decide +kernel
theorem dX3_read_6 : decode cX3_read 6 = .ok (.iload_n 1, 1) := by decide +kernel
theorem dX3_read_7 : decode cX3_read 7 = .ok (.bipush 8, 2) := by decide +kernel
theorem dX3_read_9 : decode cX3_read 9 = .ok (.iload 4, 2) := by decide +kernel
theorem dX3_read_11 : decode cX3_read 11 = .ok (.imul, 1) := by decide +kernel
theorem dX3_read_12 : decode cX3_read 12 = .ok (.iconst 2, 1) := by decide +kernel
theorem dX3_read_13 : decode cX3_read 13 = .ok (.iadd, 1) := by decide +kernel
theorem dX3_read_14 : decode cX3_read 14 = .ok (.if_icmp .lt 9, 3) := by decide +kernel
theorem dX3_read_17 : decode cX3_read 17 = .ok (.iload_n 1, 1) := by decide +kernel
theorem dX3_read_18 : decode cX3_read 18 = .ok (.aload_n 0, 1) := by decide +kernel
theorem dX3_read_19 : decode cX3_read 19 = .ok (.arraylength, 1) := by decide +kernel
theorem dX3_read_20 : decode cX3_read 20 = .ok (.if_icmp .le 5, 3) := by decide +kernel
theorem dX3_read_23 : decode cX3_read 23 = .ok (.iconst 0, 1) := by decide +kernel
theorem dX3_read_24 : decode cX3_read 24 = .ok (.ireturn, 1) := by decide +kernel
theorem dX3_read_25 : decode cX3_read 25 = .ok (.aload_n 0, 1) := by decide +kernel
theorem dX3_read_26 : decode cX3_read 26 = .ok (.bipush 8, 2) := by decide +kernel
theorem dX3_read_28 : decode cX3_read 28 = .ok (.iload 4, 2) := by decide +kernel
theorem dX3_read_30 : decode cX3_read 30 = .ok (.imul, 1) := by decide +kernel
theorem dX3_read_31 : decode cX3_read 31 = .ok (.baload, 1) := by decide +kernel
theorem dX3_read_32 : decode cX3_read 32 = .ok (.sipush 255, 3) := by decide +kernel
theorem dX3_read_35 : decode cX3_read 35 = .ok (.iand, 1) := by decide +kernel
theorem dX3_read_36 : decode cX3_read 36 = .ok (.istore 5, 2) := by decide +kernel
theorem dX3_read_38 : decode cX3_read 38 = .ok (.iload 5, 2) := by decide +kernel
theorem dX3_read_40 : decode cX3_read 40 = .ok (.bipush 32, 2) := by decide +kernel
theorem dX3_read_42 : decode cX3_read 42 = .ok (.if_icmp .gt 39, 3) := by decide +kernel
theorem dX3_read_45 : decode cX3_read 45 = .ok (.iload_n 1, 1) := by decide +kernel
theorem dX3_read_46 : decode cX3_read 46 = .ok (.bipush 8, 2) := by decide +kernel
theorem dX3_read_48 : decode cX3_read 48 = .ok (.iload 4, 2) := by decide +kernel
theorem dX3_read_50 : decode cX3_read 50 = .ok (.imul, 1) := by decide +kernel
theorem dX3_read_51 : decode cX3_read 51 = .ok (.bipush 6, 2) := by decide +kernel
theorem dX3_read_53 : decode cX3_read 53 = .ok (.iload 5, 2) := by decide +kernel
theorem dX3_read_55 : decode cX3_read 55 = .ok (.imul, 1) := by decide +kernel
theorem dX3_read_56 : decode cX3_read 56 = .ok (.iadd, 1) := by decide +kernel
theorem dX3_read_57 : decode cX3_read 57 = .ok (.iconst 2, 1) := by decide +kernel
theorem dX3_read_58 : decode cX3_read 58 = .ok (.iadd, 1) := by decide +kernel
theorem dX3_read_59 : decode cX3_read 59 = .ok (.if_icmp .ne 22, 3) := by decide +kernel
theorem dX3_read_62 : decode cX3_read 62 = .ok (.aload_n 0, 1) := by decide +kernel
theorem dX3_read_63 : decode cX3_read 63 = .ok (.iload_n 1, 1) := by decide +kernel
theorem dX3_read_64 : decode cX3_read 64 = .ok (.iconst 1, 1) := by decide +kernel
theorem dX3_read_65 : decode cX3_read 65 = .ok (.isub, 1) := by decide +kernel
theorem dX3_read_66 : decode cX3_read 66 = .ok (.invokestatic 53, 3) := by decide +kernel
theorem dX3_read_69 : decode cX3_read 69 = .ok (.aload_n 0, 1) := by decide +kernel
theorem dX3_read_70 : decode cX3_read 70 = .ok (.iload_n 1, 1) := by decide +kernel
theorem dX3_read_71 : decode cX3_read 71 = .ok (.iconst 1, 1) := by decide +kernel
theorem dX3_read_72 : decode cX3_read 72 = .ok (.isub, 1) := by decide +kernel
theorem dX3_read_73 : decode cX3_read 73 = .ok (.baload, 1) := by decide +kernel
theorem dX3_read_74 : decode cX3_read 74 = .ok (.sipush 255, 3) := by decide +kernel
theorem dX3_read_77 : decode cX3_read 77 = .ok (.iand, 1) := by decide +kernel
theorem dX3_read_78 : decode cX3_read 78 = .ok (.if_icmp .eq 5, 3) := by decide +kernel
theorem dX3_read_81 : decode cX3_read 81 = .ok (.iconst 0, 1) := by decide +kernel
theorem dX3_read_82 : decode cX3_read 82 = .ok (.ireturn, 1) := by decide +kernel
theorem dX3_read_83 : decode cX3_read 83 = .ok (.aload_n 2, 1) := by decide +kernel
theorem dX3_read_84 : decode cX3_read 84 = .ok (.invokevirtual 95, 3) := by decide +kernel
theorem dX3_read_87 : decode cX3_read 87 = .ok (.iconst 0, 1) := by decide +kernel
theorem dX3_read_88 : decode cX3_read 88 = .ok (.istore 6, 2) := by decide +kernel
theorem dX3_read_90 : decode cX3_read 90 = .ok (.iload 6, 2) := by decide +kernel
theorem dX3_read_92 : decode cX3_read 92 = .ok (.iload 4, 2) := by decide +kernel
theorem dX3_read_94 : decode cX3_read 94 = .ok (.if_icmp .ge 53, 3) := by decide +kernel
theorem dX3_read_97 : decode cX3_read 97 = .ok (.iload 6, 2) := by decide +kernel
theorem dX3_read_99 : decode cX3_read 99 = .ok (.bipush 16, 2) := by decide +kernel
theorem dX3_read_101 : decode cX3_read 101 = .ok (.if_icmp .ge 7, 3) := by decide +kernel
theorem dX3_read_104 : decode cX3_read 104 = .ok (.iconst (-1), 1) := by decide +kernel
theorem dX3_read_105 : decode cX3_read 105 = .ok (.goto 10, 3) := by decide +kernel
theorem dX3_read_108 : decode cX3_read 108 = .ok (.iload 6, 2) := by decide +kernel
theorem dX3_read_110 : decode cX3_read 110 = .ok (.bipush 16, 2) := by decide +kernel
theorem dX3_read_112 : decode cX3_read 112 = .ok (.isub, 1) := by decide +kernel
theorem dX3_read_113 : decode cX3_read 113 = .ok (.iconst 4, 1) := by decide +kernel
theorem dX3_read_114 : decode cX3_read 114 = .ok (.idiv, 1) := by decide +kernel
theorem dX3_read_115 : decode cX3_read 115 = .ok (.istore 7, 2) := by decide +kernel
theorem dX3_read_117 : decode cX3_read 117 = .ok (.aload_n 0, 1) := by decide +kernel
theorem dX3_read_118 : decode cX3_read 118 = .ok (.bipush 8, 2) := by decide +kernel
theorem dX3_read_120 : decode cX3_read 120 = .ok (.iload 6, 2) := by decide +kernel
theorem dX3_read_122 : decode cX3_read 122 = .ok (.imul, 1) := by decide +kernel
theorem dX3_read_123 : decode cX3_read 123 = .ok (.aload_n 2, 1) := by decide +kernel
theorem dX3_read_124 : decode cX3_read 124 = .ok (.getfield 29, 3) := by decide +kernel
theorem dX3_read_127 : decode cX3_read 127 = .ok (.iload 6, 2) := by decide +kernel
theorem dX3_read_129 : decode cX3_read 129 = .ok (.aaload, 1) := by decide +kernel
theorem dX3_read_130 : decode cX3_read 130 = .ok (.iload 7, 2) := by decide +kernel
theorem dX3_read_132 : decode cX3_read 132 = .ok (.aload_n 3, 1) := by decide +kernel
theorem dX3_read_133 : decode cX3_read 133 = .ok (.invokestatic 98, 3) := by decide +kernel
theorem dX3_read_136 : decode cX3_read 136 = .ok (.ifCond .ne 5, 3) := by decide +kernel
theorem dX3_read_139 : decode cX3_read 139 = .ok (.iconst 0, 1) := by decide +kernel
theorem dX3_read_140 : decode cX3_read 140 = .ok (.ireturn, 1) := by decide +kernel
theorem dX3_read_141 : decode cX3_read 141 = .ok (.iinc 6 1, 3) := by decide +kernel
theorem dX3_read_144 : decode cX3_read 144 = .ok (.goto (-54), 3) := by decide +kernel
theorem dX3_read_147 : decode cX3_read 147 = .ok (.iconst 0, 1) := by decide +kernel
theorem dX3_read_148 : decode cX3_read 148 = .ok (.istore 6, 2) := by decide +kernel
theorem dX3_read_150 : decode cX3_read 150 = .ok (.iload 6, 2) := by decide +kernel
theorem dX3_read_152 : decode cX3_read 152 = .ok (.iload 5, 2) := by decide +kernel
theorem dX3_read_154 : decode cX3_read 154 = .ok (.if_icmp .ge 33, 3) := by decide +kernel
theorem dX3_read_157 : decode cX3_read 157 = .ok (.aload_n 0, 1) := by decide +kernel
theorem dX3_read_158 : decode cX3_read 158 = .ok (.bipush 8, 2) := by decide +kernel
theorem dX3_read_160 : decode cX3_read 160 = .ok (.iload 4, 2) := by decide +kernel
theorem dX3_read_162 : decode cX3_read 162 = .ok (.imul, 1) := by decide +kernel
theorem dX3_read_163 : decode cX3_read 163 = .ok (.iconst 1, 1) := by decide +kernel
theorem dX3_read_164 : decode cX3_read 164 = .ok (.iadd, 1) := by decide +kernel
theorem dX3_read_165 : decode cX3_read 165 = .ok (.bipush 6, 2) := by decide +kernel
theorem dX3_read_167 : decode cX3_read 167 = .ok (.iload 6, 2) := by decide +kernel
theorem dX3_read_169 : decode cX3_read 169 = .ok (.imul, 1) := by decide +kernel
theorem dX3_read_170 : decode cX3_read 170 = .ok (.iadd, 1) := by decide +kernel
theorem dX3_read_171 : decode cX3_read 171 = .ok (.aload_n 2, 1) := by decide +kernel
theorem dX3_read_172 : decode cX3_read 172 = .ok (.aload_n 3, 1) := by decide +kernel
theorem dX3_read_173 : decode cX3_read 173 = .ok (.invokestatic 102, 3) := by decide +kernel
theorem dX3_read_176 : decode cX3_read 176 = .ok (.ifCond .ne 5, 3) := by decide +kernel
theorem dX3_read_179 : decode cX3_read 179 = .ok (.iconst 0, 1) := by decide +kernel
theorem dX3_read_180 : decode cX3_read 180 = .ok (.ireturn, 1) := by decide +kernel
theorem dX3_read_181 : decode cX3_read 181 = .ok (.iinc 6 1, 3) := by decide +kernel
theorem dX3_read_184 : decode cX3_read 184 = .ok (.goto (-34), 3) := by decide +kernel
theorem dX3_read_187 : decode cX3_read 187 = .ok (.iconst 1, 1) := by decide +kernel
theorem dX3_read_188 : decode cX3_read 188 = .ok (.ireturn, 1) := by decide +kernel
theorem dX3_readCell_0 : decode cX3_readCell 0 = .ok (.iload_n 3, 1) := by decide +kernel
theorem dX3_readCell_1 : decode cX3_readCell 1 = .ok (.iconst (-1), 1) := by decide +kernel
theorem dX3_readCell_2 : decode cX3_readCell 2 = .ok (.if_icmp .eq 13, 3) := by decide +kernel
theorem dX3_readCell_5 : decode cX3_readCell 5 = .ok (.aload_n 0, 1) := by decide +kernel
theorem dX3_readCell_6 : decode cX3_readCell 6 = .ok (.iload_n 1, 1) := by decide +kernel
theorem dX3_readCell_7 : decode cX3_readCell 7 = .ok (.invokestatic 106, 3) := by decide +kernel
theorem dX3_readCell_10 : decode cX3_readCell 10 = .ok (.ifCond .eq 5, 3) := by decide +kernel
theorem dX3_readCell_13 : decode cX3_readCell 13 = .ok (.iconst 1, 1) := by decide +kernel
theorem dX3_readCell_14 : decode cX3_readCell 14 = .ok (.ireturn, 1) := by decide +kernel
theorem dX3_readCell_15 : decode cX3_readCell 15 = .ok (.aload_n 2, 1) := by decide +kernel
theorem dX3_readCell_16 : decode cX3_readCell 16 = .ok (.iconst 1, 1) := by decide +kernel
theorem dX3_readCell_17 : decode cX3_readCell 17 = .ok (.putfield 57, 3) := by decide +kernel
theorem dX3_readCell_20 : decode cX3_readCell 20 = .ok (.aload_n 2, 1) := by decide +kernel
theorem dX3_readCell_21 : decode cX3_readCell 21 = .ok (.aload_n 0, 1) := by decide +kernel
theorem dX3_readCell_22 : decode cX3_readCell 22 = .ok (.iload_n 1, 1) := by decide +kernel
theorem dX3_readCell_23 : decode cX3_readCell 23 = .ok (.invokestatic 110, 3) := by decide +kernel
theorem dX3_readCell_26 : decode cX3_readCell 26 = .ok (.iconst 1, 1) := by decide +kernel
theorem dX3_readCell_27 : decode cX3_readCell 27 = .ok (.if_icmp .ne 7, 3) := by decide +kernel
theorem dX3_readCell_30 : decode cX3_readCell 30 = .ok (.iconst 1, 1) := by decide +kernel
theorem dX3_readCell_31 : decode cX3_readCell 31 = .ok (.goto 4, 3) := by decide +kernel
theorem dX3_readCell_34 : decode cX3_readCell 34 = .ok (.iconst 0, 1) := by decide +kernel
theorem dX3_readCell_35 : decode cX3_readCell 35 = .ok (.putfield 63, 3) := by decide +kernel
theorem dX3_readCell_38 : decode cX3_readCell 38 = .ok (.aload_n 2, 1) := by decide +kernel
theorem dX3_readCell_39 : decode cX3_readCell 39 = .ok (.aload_n 0, 1) := by decide +kernel
theorem dX3_readCell_40 : decode cX3_readCell 40 = .ok (.iload_n 1, 1) := by decide +kernel
theorem dX3_readCell_41 : decode cX3_readCell 41 = .ok (.iconst 1, 1) := by decide +kernel
theorem dX3_readCell_42 : decode cX3_readCell 42 = .ok (.iadd, 1) := by decide +kernel
theorem dX3_readCell_43 : decode cX3_readCell 43 = .ok (.invokestatic 113, 3) := by decide +kernel
theorem dX3_readCell_46 : decode cX3_readCell 46 = .ok (.putfield 66, 3) := by decide +kernel
theorem dX3_readCell_49 : decode cX3_readCell 49 = .ok (.aload_n 2, 1) := by decide +kernel
theorem dX3_readCell_50 : decode cX3_readCell 50 = .ok (.aload_n 0, 1) := by decide +kernel
theorem dX3_readCell_51 : decode cX3_readCell 51 = .ok (.iload_n 1, 1) := by decide +kernel
theorem dX3_readCell_52 : decode cX3_readCell 52 = .ok (.iconst 3, 1) := by decide +kernel
theorem dX3_readCell_53 : decode cX3_readCell 53 = .ok (.iadd, 1) := by decide +kernel
theorem dX3_readCell_54 : decode cX3_readCell 54 = .ok (.invokestatic 110, 3) := by decide +kernel
theorem dX3_readCell_57 : decode cX3_readCell 57 = .ok (.putfield 69, 3) := by decide +kernel
theorem dX3_readCell_60 : decode cX3_readCell 60 = .ok (.aload_n 2, 1) := by decide +kernel
theorem dX3_readCell_61 : decode cX3_readCell 61 = .ok (.aload_n 0, 1) := by decide +kernel
theorem dX3_readCell_62 : decode cX3_readCell 62 = .ok (.iload_n 1, 1) := by decide +kernel
theorem dX3_readCell_63 : decode cX3_readCell 63 = .ok (.iconst 4, 1) := by decide +kernel
theorem dX3_readCell_64 : decode cX3_readCell 64 = .ok (.iadd, 1) := by decide +kernel
theorem dX3_readCell_65 : decode cX3_readCell 65 = .ok (.invokestatic 110, 3) := by decide +kernel
theorem dX3_readCell_68 : decode cX3_readCell 68 = .ok (.putfield 72, 3) := by decide +kernel
theorem dX3_readCell_71 : decode cX3_readCell 71 = .ok (.aload_n 2, 1) := by decide +kernel
theorem dX3_readCell_72 : decode cX3_readCell 72 = .ok (.aload_n 0, 1) := by decide +kernel
theorem dX3_readCell_73 : decode cX3_readCell 73 = .ok (.iload_n 1, 1) := by decide +kernel
theorem dX3_readCell_74 : decode cX3_readCell 74 = .ok (.iconst 5, 1) := by decide +kernel
theorem dX3_readCell_75 : decode cX3_readCell 75 = .ok (.iadd, 1) := by decide +kernel
theorem dX3_readCell_76 : decode cX3_readCell 76 = .ok (.invokestatic 110, 3) := by decide +kernel
theorem dX3_readCell_79 : decode cX3_readCell 79 = .ok (.putfield 75, 3) := by decide +kernel
theorem dX3_readCell_82 : decode cX3_readCell 82 = .ok (.aload_n 2, 1) := by decide +kernel
theorem dX3_readCell_83 : decode cX3_readCell 83 = .ok (.aload_n 0, 1) := by decide +kernel
theorem dX3_readCell_84 : decode cX3_readCell 84 = .ok (.iload_n 1, 1) := by decide +kernel
theorem dX3_readCell_85 : decode cX3_readCell 85 = .ok (.bipush 6, 2) := by decide +kernel
theorem dX3_readCell_87 : decode cX3_readCell 87 = .ok (.iadd, 1) := by decide +kernel
theorem dX3_readCell_88 : decode cX3_readCell 88 = .ok (.invokestatic 110, 3) := by decide +kernel
theorem dX3_readCell_91 : decode cX3_readCell 91 = .ok (.putfield 78, 3) := by decide +kernel
theorem dX3_readCell_94 : decode cX3_readCell 94 = .ok (.aload_n 2, 1) := by decide +kernel
theorem dX3_readCell_95 : decode cX3_readCell 95 = .ok (.aload_n 0, 1) := by decide +kernel
theorem dX3_readCell_96 : decode cX3_readCell 96 = .ok (.iload_n 1, 1) := by decide +kernel
theorem dX3_readCell_97 : decode cX3_readCell 97 = .ok (.bipush 7, 2) := by decide +kernel
theorem dX3_readCell_99 : decode cX3_readCell 99 = .ok (.iadd, 1) := by decide +kernel
theorem dX3_readCell_100 : decode cX3_readCell 100 = .ok (.invokestatic 110, 3) := by decide +kernel
theorem dX3_readCell_103 : decode cX3_readCell 103 = .ok (.putfield 81, 3) := by decide +kernel
theorem dX3_readCell_106 : decode cX3_readCell 106 = .ok (.iload_n 3, 1) := by decide +kernel
theorem dX3_readCell_107 : decode cX3_readCell 107 = .ok (.ifCond .lt 22, 3) := by decide +kernel
theorem dX3_readCell_110 : decode cX3_readCell 110 = .ok (.iload_n 3, 1) := by decide +kernel
theorem dX3_readCell_111 : decode cX3_readCell 111 = .ok (.iconst 4, 1) := by decide +kernel
theorem dX3_readCell_112 : decode cX3_readCell 112 = .ok (.if_icmp .ge 17, 3) := by decide +kernel
theorem dX3_readCell_115 : decode cX3_readCell 115 = .ok (.aload_n 2, 1) := by decide +kernel
theorem dX3_readCell_116 : decode cX3_readCell 116 = .ok (.getfield 81, 3) := by decide +kernel
theorem dX3_readCell_119 : decode cX3_readCell 119 = .ok (.aload 4, 2) := by decide +kernel
theorem dX3_readCell_121 : decode cX3_readCell 121 = .ok (.getfield 116, 3) := by decide +kernel
theorem dX3_readCell_124 : decode cX3_readCell 124 = .ok (.iload_n 3, 1) := by decide +kernel
theorem dX3_readCell_125 : decode cX3_readCell 125 = .ok (.iaload, 1) := by decide +kernel
theorem dX3_readCell_126 : decode cX3_readCell 126 = .ok (.if_icmp .ne 7, 3) := by decide +kernel
theorem dX3_readCell_129 : decode cX3_readCell 129 = .ok (.iconst 1, 1) := by decide +kernel
theorem dX3_readCell_130 : decode cX3_readCell 130 = .ok (.goto 4, 3) := by decide +kernel
theorem dX3_readCell_133 : decode cX3_readCell 133 = .ok (.iconst 0, 1) := by decide +kernel
theorem dX3_readCell_134 : decode cX3_readCell 134 = .ok (.istore 5, 2) := by decide +kernel
theorem dX3_readCell_136 : decode cX3_readCell 136 = .ok (.aload_n 0, 1) := by decide +kernel
theorem dX3_readCell_137 : decode cX3_readCell 137 = .ok (.iload_n 1, 1) := by decide +kernel
theorem dX3_readCell_138 : decode cX3_readCell 138 = .ok (.invokestatic 110, 3) := by decide +kernel
theorem dX3_readCell_141 : decode cX3_readCell 141 = .ok (.iconst 1, 1) := by decide +kernel
theorem dX3_readCell_142 : decode cX3_readCell 142 = .ok (.if_icmp .gt 24, 3) := by decide +kernel
theorem dX3_readCell_145 : decode cX3_readCell 145 = .ok (.aload_n 2, 1) := by decide +kernel
theorem dX3_readCell_146 : decode cX3_readCell 146 = .ok (.aload 4, 2) := by decide +kernel
theorem dX3_readCell_148 : decode cX3_readCell 148 = .ok (.getfield 119, 3) := by decide +kernel
theorem dX3_readCell_151 : decode cX3_readCell 151 = .ok (.invokestatic 122, 3) := by decide +kernel
theorem dX3_readCell_154 : decode cX3_readCell 154 = .ok (.ifCond .eq 12, 3) := by decide +kernel
theorem dX3_readCell_157 : decode cX3_readCell 157 = .ok (.iload 5, 2) := by decide +kernel
theorem dX3_readCell_159 : decode cX3_readCell 159 = .ok (.ifCond .eq 7, 3) := by decide +kernel
theorem dX3_readCell_162 : decode cX3_readCell 162 = .ok (.iconst 1, 1) := by decide +kernel
theorem dX3_readCell_163 : decode cX3_readCell 163 = .ok (.goto 4, 3) := by decide +kernel
theorem dX3_readCell_166 : decode cX3_readCell 166 = .ok (.iconst 0, 1) := by decide +kernel
theorem dX3_readCell_167 : decode cX3_readCell 167 = .ok (.ireturn, 1) := by decide +kernel
theorem dX3_canBe_0 : decode cX3_canBe 0 = .ok (.iconst 1, 1) := by decide +kernel
theorem dX3_canBe_1 : decode cX3_canBe 1 = .ok (.iload_n 1, 1) := by decide +kernel
theorem dX3_canBe_2 : decode cX3_canBe 2 = .ok (.ishl, 1) := by decide +kernel
theorem dX3_canBe_3 : decode cX3_canBe 3 = .ok (.istore_n 2, 1) := by decide +kernel
theorem dX3_canBe_4 : decode cX3_canBe 4 = .ok (.aload_n 0, 1) := by decide +kernel
theorem dX3_canBe_5 : decode cX3_canBe 5 = .ok (.getfield 66, 3) := by decide +kernel
theorem dX3_canBe_8 : decode cX3_canBe 8 = .ok (.sipush 4096, 3) := by decide +kernel
theorem dX3_canBe_11 : decode cX3_canBe 11 = .ok (.if_icmp .ge 71, 3) := by decide +kernel
theorem dX3_canBe_14 : decode cX3_canBe 14 = .ok (.aload_n 0, 1) := by decide +kernel
theorem dX3_canBe_15 : decode cX3_canBe 15 = .ok (.getfield 69, 3) := by decide +kernel
theorem dX3_canBe_18 : decode cX3_canBe 18 = .ok (.bipush 13, 2) := by decide +kernel
theorem dX3_canBe_20 : decode cX3_canBe 20 = .ok (.iload_n 1, 1) := by decide +kernel
theorem dX3_canBe_21 : decode cX3_canBe 21 = .ok (.isub, 1) := by decide +kernel
theorem dX3_canBe_22 : decode cX3_canBe 22 = .ok (.if_icmp .gt 60, 3) := by decide +kernel
theorem dX3_canBe_25 : decode cX3_canBe 25 = .ok (.aload_n 0, 1) := by decide +kernel
theorem dX3_canBe_26 : decode cX3_canBe 26 = .ok (.getfield 72, 3) := by decide +kernel
theorem dX3_canBe_29 : decode cX3_canBe 29 = .ok (.iload_n 2, 1) := by decide +kernel
theorem dX3_canBe_30 : decode cX3_canBe 30 = .ok (.if_icmp .ge 52, 3) := by decide +kernel
theorem dX3_canBe_33 : decode cX3_canBe 33 = .ok (.aload_n 0, 1) := by decide +kernel
theorem dX3_canBe_34 : decode cX3_canBe 34 = .ok (.getfield 75, 3) := by decide +kernel
theorem dX3_canBe_37 : decode cX3_canBe 37 = .ok (.iload_n 2, 1) := by decide +kernel
theorem dX3_canBe_38 : decode cX3_canBe 38 = .ok (.if_icmp .ge 44, 3) := by decide +kernel
theorem dX3_canBe_41 : decode cX3_canBe 41 = .ok (.aload_n 0, 1) := by decide +kernel
theorem dX3_canBe_42 : decode cX3_canBe 42 = .ok (.getfield 75, 3) := by decide +kernel
theorem dX3_canBe_45 : decode cX3_canBe 45 = .ok (.aload_n 0, 1) := by decide +kernel
theorem dX3_canBe_46 : decode cX3_canBe 46 = .ok (.getfield 72, 3) := by decide +kernel
theorem dX3_canBe_49 : decode cX3_canBe 49 = .ok (.isub, 1) := by decide +kernel
theorem dX3_canBe_50 : decode cX3_canBe 50 = .ok (.iload_n 2, 1) := by decide +kernel
theorem dX3_canBe_51 : decode cX3_canBe 51 = .ok (.iconst 1, 1) := by decide +kernel
theorem dX3_canBe_52 : decode cX3_canBe 52 = .ok (.isub, 1) := by decide +kernel
theorem dX3_canBe_53 : decode cX3_canBe 53 = .ok (.iand, 1) := by decide +kernel
theorem dX3_canBe_54 : decode cX3_canBe 54 = .ok (.iload_n 2, 1) := by decide +kernel
theorem dX3_canBe_55 : decode cX3_canBe 55 = .ok (.iconst 2, 1) := by decide +kernel
theorem dX3_canBe_56 : decode cX3_canBe 56 = .ok (.idiv, 1) := by decide +kernel
theorem dX3_canBe_57 : decode cX3_canBe 57 = .ok (.if_icmp .gt 25, 3) := by decide +kernel
theorem dX3_canBe_60 : decode cX3_canBe 60 = .ok (.aload_n 0, 1) := by decide +kernel
theorem dX3_canBe_61 : decode cX3_canBe 61 = .ok (.getfield 78, 3) := by decide +kernel
theorem dX3_canBe_64 : decode cX3_canBe 64 = .ok (.bipush 7, 2) := by decide +kernel
theorem dX3_canBe_66 : decode cX3_canBe 66 = .ok (.if_icmp .gt 16, 3) := by decide +kernel
theorem dX3_canBe_69 : decode cX3_canBe 69 = .ok (.aload_n 0, 1) := by decide +kernel
theorem dX3_canBe_70 : decode cX3_canBe 70 = .ok (.getfield 81, 3) := by decide +kernel
theorem dX3_canBe_73 : decode cX3_canBe 73 = .ok (.bipush 7, 2) := by decide +kernel
theorem dX3_canBe_75 : decode cX3_canBe 75 = .ok (.if_icmp .gt 7, 3) := by decide +kernel
theorem dX3_canBe_78 : decode cX3_canBe 78 = .ok (.iconst 1, 1) := by decide +kernel
theorem dX3_canBe_79 : decode cX3_canBe 79 = .ok (.goto 4, 3) := by decide +kernel
theorem dX3_canBe_82 : decode cX3_canBe 82 = .ok (.iconst 0, 1) := by decide +kernel
theorem dX3_canBe_83 : decode cX3_canBe 83 = .ok (.ireturn, 1) := by decide +kernel
theorem dX3_isEmpty_0 : decode cX3_isEmpty 0 = .ok (.iconst 0, 1) := by decide +kernel
theorem dX3_isEmpty_1 : decode cX3_isEmpty 1 = .ok (.istore_n 2, 1) := by decide +kernel
theorem dX3_isEmpty_2 : decode cX3_isEmpty 2 = .ok (.iload_n 2, 1) := by decide +kernel
theorem dX3_isEmpty_3 : decode cX3_isEmpty 3 = .ok (.bipush 8, 2) := by decide +kernel
theorem dX3_isEmpty_5 : decode cX3_isEmpty 5 = .ok (.if_icmp .ge 24, 3) := by decide +kernel
theorem dX3_isEmpty_8 : decode cX3_isEmpty 8 = .ok (.aload_n 0, 1) := by decide +kernel
theorem dX3_isEmpty_9 : decode cX3_isEmpty 9 = .ok (.iload_n 1, 1) := by decide +kernel
theorem dX3_isEmpty_10 : decode cX3_isEmpty 10 = .ok (.iload_n 2, 1) := by decide +kernel
theorem dX3_isEmpty_11 : decode cX3_isEmpty 11 = .ok (.iadd, 1) := by decide +kernel
theorem dX3_isEmpty_12 : decode cX3_isEmpty 12 = .ok (.invokestatic 110, 3) := by decide +kernel
theorem dX3_isEmpty_15 : decode cX3_isEmpty 15 = .ok (.sipush 255, 3) := by decide +kernel
theorem dX3_isEmpty_18 : decode cX3_isEmpty 18 = .ok (.if_icmp .eq 5, 3) := by decide +kernel
theorem dX3_isEmpty_21 : decode cX3_isEmpty 21 = .ok (.iconst 0, 1) := by decide +kernel
theorem dX3_isEmpty_22 : decode cX3_isEmpty 22 = .ok (.ireturn, 1) := by decide +kernel
theorem dX3_isEmpty_23 : decode cX3_isEmpty 23 = .ok (.iinc 2 1, 3) := by decide +kernel
theorem dX3_isEmpty_26 : decode cX3_isEmpty 26 = .ok (.goto (-24), 3) := by decide +kernel
theorem dX3_isEmpty_29 : decode cX3_isEmpty 29 = .ok (.iconst 1, 1) := by decide +kernel
theorem dX3_isEmpty_30 : decode cX3_isEmpty 30 = .ok (.ireturn, 1) := by decide +kernel
theorem dX3_readObject_0 : decode cX3_readObject 0 = .ok (.aload_n 0, 1) := by decide +kernel
theorem dX3_readObject_1 : decode cX3_readObject 1 = .ok (.iload_n 1, 1) := by decide +kernel
theorem dX3_readObject_2 : decode cX3_readObject 2 = .ok (.invokestatic 113, 3) := by decide +kernel
theorem dX3_readObject_5 : decode cX3_readObject 5 = .ok (.istore 4, 2) := by decide +kernel
theorem dX3_readObject_7 : decode cX3_readObject 7 = .ok (.aload_n 0, 1) := by decide +kernel
theorem dX3_readObject_8 : decode cX3_readObject 8 = .ok (.iload_n 1, 1) := by decide +kernel
theorem dX3_readObject_9 : decode cX3_readObject 9 = .ok (.iconst 2, 1) := by decide +kernel
theorem dX3_readObject_10 : decode cX3_readObject 10 = .ok (.iadd, 1) := by decide +kernel
theorem dX3_readObject_11 : decode cX3_readObject 11 = .ok (.invokestatic 113, 3) := by decide +kernel
theorem dX3_readObject_14 : decode cX3_readObject 14 = .ok (.istore 5, 2) := by decide +kernel
theorem dX3_readObject_16 : decode cX3_readObject 16 = .ok (.aload_n 0, 1) := by decide +kernel
theorem dX3_readObject_17 : decode cX3_readObject 17 = .ok (.iload_n 1, 1) := by decide +kernel
theorem dX3_readObject_18 : decode cX3_readObject 18 = .ok (.iconst 4, 1) := by decide +kernel
theorem dX3_readObject_19 : decode cX3_readObject 19 = .ok (.iadd, 1) := by decide +kernel
theorem dX3_readObject_20 : decode cX3_readObject 20 = .ok (.invokestatic 113, 3) := by decide +kernel
theorem dX3_readObject_23 : decode cX3_readObject 23 = .ok (.istore 6, 2) := by decide +kernel
theorem dX3_readObject_25 : decode cX3_readObject 25 = .ok (.aload_n 2, 1) := by decide +kernel
theorem dX3_readObject_26 : decode cX3_readObject 26 = .ok (.aload_n 2, 1) := by decide +kernel
theorem dX3_readObject_27 : decode cX3_readObject 27 = .ok (.getfield 37, 3) := by decide +kernel
theorem dX3_readObject_30 : decode cX3_readObject 30 = .ok (.invokevirtual 126, 3) := by decide +kernel
theorem dX3_readObject_33 : decode cX3_readObject 33 = .ok (.istore 7, 2) := by decide +kernel
theorem dX3_readObject_35 : decode cX3_readObject 35 = .ok (.iload 4, 2) := by decide +kernel
theorem dX3_readObject_37 : decode cX3_readObject 37 = .ok (.iload 7, 2) := by decide +kernel
theorem dX3_readObject_39 : decode cX3_readObject 39 = .ok (.if_icmp .lt 42, 3) := by decide +kernel
theorem dX3_readObject_42 : decode cX3_readObject 42 = .ok (.iload 4, 2) := by decide +kernel
theorem dX3_readObject_44 : decode cX3_readObject 44 = .ok (.iload 5, 2) := by decide +kernel
theorem dX3_readObject_46 : decode cX3_readObject 46 = .ok (.iadd, 1) := by decide +kernel
theorem dX3_readObject_47 : decode cX3_readObject 47 = .ok (.aload_n 3, 1) := by decide +kernel
theorem dX3_readObject_48 : decode cX3_readObject 48 = .ok (.getfield 130, 3) := by decide +kernel
theorem dX3_readObject_51 : decode cX3_readObject 51 = .ok (.if_icmp .gt 30, 3) := by decide +kernel
theorem dX3_readObject_54 : decode cX3_readObject 54 = .ok (.iload 6, 2) := by decide +kernel
theorem dX3_readObject_56 : decode cX3_readObject 56 = .ok (.iconst 1, 1) := by decide +kernel
theorem dX3_readObject_57 : decode cX3_readObject 57 = .ok (.if_icmp .lt 24, 3) := by decide +kernel
theorem dX3_readObject_60 : decode cX3_readObject 60 = .ok (.iload 6, 2) := by decide +kernel
theorem dX3_readObject_62 : decode cX3_readObject 62 = .ok (.iload 5, 2) := by decide +kernel
theorem dX3_readObject_64 : decode cX3_readObject 64 = .ok (.if_icmp .gt 17, 3) := by decide +kernel
theorem dX3_readObject_67 : decode cX3_readObject 67 = .ok (.iload 4, 2) := by decide +kernel
theorem dX3_readObject_69 : decode cX3_readObject 69 = .ok (.iload 5, 2) := by decide +kernel
theorem dX3_readObject_71 : decode cX3_readObject 71 = .ok (.aload_n 3, 1) := by decide +kernel
theorem dX3_readObject_72 : decode cX3_readObject 72 = .ok (.getfield 119, 3) := by decide +kernel
theorem dX3_readObject_75 : decode cX3_readObject 75 = .ok (.invokestatic 133, 3) := by decide +kernel
theorem dX3_readObject_78 : decode cX3_readObject 78 = .ok (.ifCond .ne 5, 3) := by decide +kernel
theorem dX3_readObject_81 : decode cX3_readObject 81 = .ok (.iconst 0, 1) := by decide +kernel
theorem dX3_readObject_82 : decode cX3_readObject 82 = .ok (.ireturn, 1) := by decide +kernel
theorem dX3_readObject_83 : decode cX3_readObject 83 = .ok (.aload_n 2, 1) := by decide +kernel
theorem dX3_readObject_84 : decode cX3_readObject 84 = .ok (.getfield 40, 3) := by decide +kernel
theorem dX3_readObject_87 : decode cX3_readObject 87 = .ok (.aload_n 2, 1) := by decide +kernel
theorem dX3_readObject_88 : decode cX3_readObject 88 = .ok (.getfield 37, 3) := by decide +kernel
theorem dX3_readObject_91 : decode cX3_readObject 91 = .ok (.iload 4, 2) := by decide +kernel
theorem dX3_readObject_93 : decode cX3_readObject 93 = .ok (.iastore, 1) := by decide +kernel
theorem dX3_readObject_94 : decode cX3_readObject 94 = .ok (.aload_n 2, 1) := by decide +kernel
theorem dX3_readObject_95 : decode cX3_readObject 95 = .ok (.getfield 47, 3) := by decide +kernel
theorem dX3_readObject_98 : decode cX3_readObject 98 = .ok (.aload_n 2, 1) := by decide +kernel
theorem dX3_readObject_99 : decode cX3_readObject 99 = .ok (.getfield 37, 3) := by decide +kernel
theorem dX3_readObject_102 : decode cX3_readObject 102 = .ok (.iload 5, 2) := by decide +kernel
theorem dX3_readObject_104 : decode cX3_readObject 104 = .ok (.iastore, 1) := by decide +kernel
theorem dX3_readObject_105 : decode cX3_readObject 105 = .ok (.aload_n 2, 1) := by decide +kernel
theorem dX3_readObject_106 : decode cX3_readObject 106 = .ok (.getfield 50, 3) := by decide +kernel
theorem dX3_readObject_109 : decode cX3_readObject 109 = .ok (.aload_n 2, 1) := by decide +kernel
theorem dX3_readObject_110 : decode cX3_readObject 110 = .ok (.getfield 37, 3) := by decide +kernel
theorem dX3_readObject_113 : decode cX3_readObject 113 = .ok (.iload 6, 2) := by decide +kernel
theorem dX3_readObject_115 : decode cX3_readObject 115 = .ok (.iastore, 1) := by decide +kernel
theorem dX3_readObject_116 : decode cX3_readObject 116 = .ok (.aload_n 2, 1) := by decide +kernel
theorem dX3_readObject_117 : decode cX3_readObject 117 = .ok (.dup, 1) := by decide +kernel
theorem dX3_readObject_118 : decode cX3_readObject 118 = .ok (.getfield 37, 3) := by decide +kernel
theorem dX3_readObject_121 : decode cX3_readObject 121 = .ok (.iconst 1, 1) := by decide +kernel
theorem dX3_readObject_122 : decode cX3_readObject 122 = .ok (.iadd, 1) := by decide +kernel
theorem dX3_readObject_123 : decode cX3_readObject 123 = .ok (.putfield 37, 3) := by decide +kernel
theorem dX3_readObject_126 : decode cX3_readObject 126 = .ok (.iconst 1, 1) := by decide +kernel
theorem dX3_readObject_127 : decode cX3_readObject 127 = .ok (.ireturn, 1) := by decide +kernel
theorem dX3_numberAt_0 : decode cX3_numberAt 0 = .ok (.iload_n 1, 1) := by decide +kernel
theorem dX3_numberAt_1 : decode cX3_numberAt 1 = .ok (.ifCond .lt 19, 3) := by decide +kernel
theorem dX3_numberAt_4 : decode cX3_numberAt 4 = .ok (.iload_n 1, 1) := by decide +kernel
theorem dX3_numberAt_5 : decode cX3_numberAt 5 = .ok (.aload_n 0, 1) := by decide +kernel
theorem dX3_numberAt_6 : decode cX3_numberAt 6 = .ok (.arraylength, 1) := by decide +kernel
theorem dX3_numberAt_7 : decode cX3_numberAt 7 = .ok (.if_icmp .ge 13, 3) := by decide +kernel
theorem dX3_numberAt_10 : decode cX3_numberAt 10 = .ok (.aload_n 0, 1) := by decide +kernel
theorem dX3_numberAt_11 : decode cX3_numberAt 11 = .ok (.iload_n 1, 1) := by decide +kernel
theorem dX3_numberAt_12 : decode cX3_numberAt 12 = .ok (.baload, 1) := by decide +kernel
theorem dX3_numberAt_13 : decode cX3_numberAt 13 = .ok (.sipush 255, 3) := by decide +kernel
theorem dX3_numberAt_16 : decode cX3_numberAt 16 = .ok (.iand, 1) := by decide +kernel
theorem dX3_numberAt_17 : decode cX3_numberAt 17 = .ok (.goto 6, 3) := by decide +kernel
theorem dX3_numberAt_20 : decode cX3_numberAt 20 = .ok (.sipush 255, 3) := by decide +kernel
theorem dX3_numberAt_23 : decode cX3_numberAt 23 = .ok (.ireturn, 1) := by decide +kernel
theorem dX3_twoAt_0 : decode cX3_twoAt 0 = .ok (.sipush 256, 3) := by decide +kernel
theorem dX3_twoAt_3 : decode cX3_twoAt 3 = .ok (.aload_n 0, 1) := by decide +kernel
theorem dX3_twoAt_4 : decode cX3_twoAt 4 = .ok (.iload_n 1, 1) := by decide +kernel
theorem dX3_twoAt_5 : decode cX3_twoAt 5 = .ok (.invokestatic 110, 3) := by decide +kernel
theorem dX3_twoAt_8 : decode cX3_twoAt 8 = .ok (.imul, 1) := by decide +kernel
theorem dX3_twoAt_9 : decode cX3_twoAt 9 = .ok (.aload_n 0, 1) := by decide +kernel
theorem dX3_twoAt_10 : decode cX3_twoAt 10 = .ok (.iload_n 1, 1) := by decide +kernel
theorem dX3_twoAt_11 : decode cX3_twoAt 11 = .ok (.iconst 1, 1) := by decide +kernel
theorem dX3_twoAt_12 : decode cX3_twoAt 12 = .ok (.iadd, 1) := by decide +kernel
theorem dX3_twoAt_13 : decode cX3_twoAt 13 = .ok (.invokestatic 110, 3) := by decide +kernel
theorem dX3_twoAt_16 : decode cX3_twoAt 16 = .ok (.iadd, 1) := by decide +kernel
theorem dX3_twoAt_17 : decode cX3_twoAt 17 = .ok (.ireturn, 1) := by decide +kernel
theorem dX4_init_0 : decode cX4_init 0 = .ok (.aload_n 0, 1) := by decide +kernel
theorem dX4_init_1 : decode cX4_init 1 = .ok (.invokespecial 3, 3) := by decide +kernel
theorem dX4_init_4 : decode cX4_init 4 = .ok (.aload_n 0, 1) := by decide +kernel
theorem dX4_init_5 : decode cX4_init 5 = .ok (.iconst 0, 1) := by decide +kernel
theorem dX4_init_6 : decode cX4_init 6 = .ok (.putfield 9, 3) := by decide +kernel
theorem dX4_init_9 : decode cX4_init 9 = .ok (.aload_n 0, 1) := by decide +kernel
theorem dX4_init_10 : decode cX4_init 10 = .ok (.iconst 0, 1) := by decide +kernel
theorem dX4_init_11 : decode cX4_init 11 = .ok (.putfield 15, 3) := by decide +kernel
theorem dX4_init_14 : decode cX4_init 14 = .ok (.aload_n 0, 1) := by decide +kernel
theorem dX4_init_15 : decode cX4_init 15 = .ok (.iconst 4, 1) := by decide +kernel
theorem dX4_init_16 : decode cX4_init 16 = .ok (.putfield 18, 3) := by decide +kernel
theorem dX4_init_19 : decode cX4_init 19 = .ok (.aload_n 0, 1) := by decide +kernel
theorem dX4_init_20 : decode cX4_init 20 = .ok (.iconst 0, 1) := by decide +kernel
theorem dX4_init_21 : decode cX4_init 21 = .ok (.putfield 21, 3) := by decide +kernel
theorem dX4_init_24 : decode cX4_init 24 = .ok (.aload_n 0, 1) := by decide +kernel
theorem dX4_init_25 : decode cX4_init 25 = .ok (.bipush 24, 2) := by decide +kernel
theorem dX4_init_27 : decode cX4_init 27 = .ok (.newarray .byte, 2) := by decide +kernel
theorem dX4_init_29 : decode cX4_init 29 = .ok (.putfield 24, 3) := by decide +kernel
theorem dX4_init_32 : decode cX4_init 32 = .ok (.aload_n 0, 1) := by decide +kernel
theorem dX4_init_33 : decode cX4_init 33 = .ok (.iconst 4, 1) := by decide +kernel
theorem dX4_init_34 : decode cX4_init 34 = .ok (.newarray .int, 2) := by decide +kernel
theorem dX4_init_36 : decode cX4_init 36 = .ok (.putfield 28, 3) := by decide +kernel
theorem dX4_init_39 : decode cX4_init 39 = .ok (.aload_n 0, 1) := by decide +kernel
theorem dX4_init_40 : decode cX4_init 40 = .ok (.sipush 1600, 3) := by decide +kernel
theorem dX4_init_43 : decode cX4_init 43 = .ok (.newarray .int, 2) := by decide +kernel
theorem dX4_init_45 : decode cX4_init 45 = .ok (.putfield 32, 3) := by decide +kernel
theorem dX4_init_48 : decode cX4_init 48 = .ok (.aload_n 0, 1) := by decide +kernel
theorem dX4_init_49 : decode cX4_init 49 = .ok (.iconst 3, 1) := by decide +kernel
theorem dX4_init_50 : decode cX4_init 50 = .ok (.newarray .int, 2) := by decide +kernel
theorem dX4_init_52 : decode cX4_init 52 = .ok (.putfield 35, 3) := by decide +kernel
theorem dX4_init_55 : decode cX4_init 55 = .ok (.aload_n 0, 1) := by decide +kernel
theorem dX4_init_56 : decode cX4_init 56 = .ok (.iconst 3, 1) := by decide +kernel
theorem dX4_init_57 : decode cX4_init 57 = .ok (.newarray .int, 2) := by decide +kernel
theorem dX4_init_59 : decode cX4_init 59 = .ok (.putfield 38, 3) := by decide +kernel
theorem dX4_init_62 : decode cX4_init 62 = .ok (.aload_n 0, 1) := by decide +kernel
theorem dX4_init_63 : decode cX4_init 63 = .ok (.iconst 0, 1) := by decide +kernel
theorem dX4_init_64 : decode cX4_init 64 = .ok (.putfield 41, 3) := by decide +kernel
theorem dX4_init_67 : decode cX4_init 67 = .ok (.return_, 1) := by decide +kernel
theorem dX4_clear_0 : decode cX4_clear 0 = .ok (.aload_n 0, 1) := by decide +kernel
theorem dX4_clear_1 : decode cX4_clear 1 = .ok (.iconst 0, 1) := by decide +kernel
theorem dX4_clear_2 : decode cX4_clear 2 = .ok (.putfield 9, 3) := by decide +kernel
theorem dX4_clear_5 : decode cX4_clear 5 = .ok (.aload_n 0, 1) := by decide +kernel
theorem dX4_clear_6 : decode cX4_clear 6 = .ok (.iconst 0, 1) := by decide +kernel
theorem dX4_clear_7 : decode cX4_clear 7 = .ok (.putfield 21, 3) := by decide +kernel
theorem dX4_clear_10 : decode cX4_clear 10 = .ok (.aload_n 0, 1) := by decide +kernel
theorem dX4_clear_11 : decode cX4_clear 11 = .ok (.iconst 0, 1) := by decide +kernel
theorem dX4_clear_12 : decode cX4_clear 12 = .ok (.putfield 41, 3) := by decide +kernel
theorem dX4_clear_15 : decode cX4_clear 15 = .ok (.aload_n 0, 1) := by decide +kernel
theorem dX4_clear_16 : decode cX4_clear 16 = .ok (.getfield 24, 3) := by decide +kernel
theorem dX4_clear_19 : decode cX4_clear 19 = .ok (.iconst 0, 1) := by decide +kernel
theorem dX4_clear_20 : decode cX4_clear 20 = .ok (.invokestatic 44, 3) := by decide +kernel
theorem dX4_clear_23 : decode cX4_clear 23 = .ok (.aload_n 0, 1) := by decide +kernel
theorem dX4_clear_24 : decode cX4_clear 24 = .ok (.getfield 35, 3) := by decide +kernel
theorem dX4_clear_27 : decode cX4_clear 27 = .ok (.iconst 0, 1) := by decide +kernel
theorem dX4_clear_28 : decode cX4_clear 28 = .ok (.invokestatic 50, 3) := by decide +kernel
theorem dX4_clear_31 : decode cX4_clear 31 = .ok (.aload_n 0, 1) := by decide +kernel
theorem dX4_clear_32 : decode cX4_clear 32 = .ok (.getfield 38, 3) := by decide +kernel
theorem dX4_clear_35 : decode cX4_clear 35 = .ok (.iconst 0, 1) := by decide +kernel
theorem dX4_clear_36 : decode cX4_clear 36 = .ok (.invokestatic 50, 3) := by decide +kernel
theorem dX4_clear_39 : decode cX4_clear 39 = .ok (.return_, 1) := by decide +kernel
theorem dX4_setName_0 : decode cX4_setName 0 = .ok (.iconst 0, 1) := by decide +kernel
theorem dX4_setName_1 : decode cX4_setName 1 = .ok (.istore 5, 2) := by decide +kernel
theorem dX4_setName_3 : decode cX4_setName 3 = .ok (.iload 5, 2) := by decide +kernel
theorem dX4_setName_5 : decode cX4_setName 5 = .ok (.bipush 6, 2) := by decide +kernel
theorem dX4_setName_7 : decode cX4_setName 7 = .ok (.if_icmp .ge 70, 3) := by decide +kernel
theorem dX4_setName_10 : decode cX4_setName 10 = .ok (.iload_n 1, 1) := by decide +kernel
theorem dX4_setName_11 : decode cX4_setName 11 = .ok (.iconst 4, 1) := by decide +kernel
theorem dX4_setName_12 : decode cX4_setName 12 = .ok (.if_icmp .ge 65, 3) := by decide +kernel
theorem dX4_setName_15 : decode cX4_setName 15 = .ok (.iload 5, 2) := by decide +kernel
theorem dX4_setName_17 : decode cX4_setName 17 = .ok (.iload 4, 2) := by decide +kernel
theorem dX4_setName_19 : decode cX4_setName 19 = .ok (.if_icmp .ge 16, 3) := by decide +kernel
theorem dX4_setName_22 : decode cX4_setName 22 = .ok (.iload_n 3, 1) := by decide +kernel
theorem dX4_setName_23 : decode cX4_setName 23 = .ok (.iload 5, 2) := by decide +kernel
theorem dX4_setName_25 : decode cX4_setName 25 = .ok (.iadd, 1) := by decide +kernel
theorem dX4_setName_26 : decode cX4_setName 26 = .ok (.aload_n 2, 1) := by decide +kernel
theorem dX4_setName_27 : decode cX4_setName 27 = .ok (.arraylength, 1) := by decide +kernel
theorem dX4_setName_28 : decode cX4_setName 28 = .ok (.if_icmp .ge 7, 3) := by decide +kernel
theorem dX4_setName_31 : decode cX4_setName 31 = .ok (.iconst 1, 1) := by decide +kernel
theorem dX4_setName_32 : decode cX4_setName 32 = .ok (.goto 4, 3) := by decide +kernel
theorem dX4_setName_35 : decode cX4_setName 35 = .ok (.iconst 0, 1) := by decide +kernel
theorem dX4_setName_36 : decode cX4_setName 36 = .ok (.istore 6, 2) := by decide +kernel
theorem dX4_setName_38 : decode cX4_setName 38 = .ok (.aload_n 0, 1) := by decide +kernel
theorem dX4_setName_39 : decode cX4_setName 39 = .ok (.getfield 24, 3) := by decide +kernel
theorem dX4_setName_42 : decode cX4_setName 42 = .ok (.iload_n 1, 1) := by decide +kernel
theorem dX4_setName_43 : decode cX4_setName 43 = .ok (.bipush 6, 2) := by decide +kernel
theorem dX4_setName_45 : decode cX4_setName 45 = .ok (.imul, 1) := by decide +kernel
theorem dX4_setName_46 : decode cX4_setName 46 = .ok (.iload 5, 2) := by decide +kernel
theorem dX4_setName_48 : decode cX4_setName 48 = .ok (.iadd, 1) := by decide +kernel
theorem dX4_setName_49 : decode cX4_setName 49 = .ok (.iload 6, 2) := by decide +kernel
theorem dX4_setName_51 : decode cX4_setName 51 = .ok (.ifCond .eq 18, 3) := by decide +kernel
theorem dX4_setName_54 : decode cX4_setName 54 = .ok (.aload_n 2, 1) := by decide +kernel
theorem dX4_setName_55 : decode cX4_setName 55 = .ok (.iload_n 3, 1) := by decide +kernel
theorem dX4_setName_56 : decode cX4_setName 56 = .ok (.iload 5, 2) := by decide +kernel
theorem dX4_setName_58 : decode cX4_setName 58 = .ok (.iadd, 1) := by decide +kernel
theorem dX4_setName_59 : decode cX4_setName 59 = .ok (.baload, 1) := by decide +kernel
theorem dX4_setName_60 : decode cX4_setName 60 = .ok (.bipush 97, 2) := by decide +kernel
theorem dX4_setName_62 : decode cX4_setName 62 = .ok (.isub, 1) := by decide +kernel
theorem dX4_setName_63 : decode cX4_setName 63 = .ok (.iconst 1, 1) := by decide +kernel
theorem dX4_setName_64 : decode cX4_setName 64 = .ok (.iadd, 1) := by decide +kernel
theorem dX4_setName_65 : decode cX4_setName 65 = .ok (.i2b, 1) := by decide +kernel
theorem dX4_setName_66 : decode cX4_setName 66 = .ok (.goto 4, 3) := by decide +kernel
theorem dX4_setName_69 : decode cX4_setName 69 = .ok (.iconst 0, 1) := by decide +kernel
theorem dX4_setName_70 : decode cX4_setName 70 = .ok (.bastore, 1) := by decide +kernel
theorem dX4_setName_71 : decode cX4_setName 71 = .ok (.iinc 5 1, 3) := by decide +kernel
theorem dX4_setName_74 : decode cX4_setName 74 = .ok (.goto (-71), 3) := by decide +kernel
theorem dX4_setName_77 : decode cX4_setName 77 = .ok (.return_, 1) := by decide +kernel
theorem dX4_hasNameTwice_0 : decode cX4_hasNameTwice 0 = .ok (.iconst 0, 1) := by decide +kernel
theorem dX4_hasNameTwice_1 : decode cX4_hasNameTwice 1 = .ok (.istore_n 2, 1) := by decide +kernel
theorem dX4_hasNameTwice_2 : decode cX4_hasNameTwice 2 = .ok (.iload_n 2, 1) := by decide +kernel
theorem dX4_hasNameTwice_3 : decode cX4_hasNameTwice 3 = .ok (.iload_n 1, 1) := by decide +kernel
theorem dX4_hasNameTwice_4 : decode cX4_hasNameTwice 4 = .ok (.if_icmp .ge 61, 3) := by decide +kernel
theorem dX4_hasNameTwice_7 : decode cX4_hasNameTwice 7 = .ok (.iload_n 1, 1) := by decide +kernel
theorem dX4_hasNameTwice_8 : decode cX4_hasNameTwice 8 = .ok (.iconst 4, 1) := by decide +kernel
theorem dX4_hasNameTwice_9 : decode cX4_hasNameTwice 9 = .ok (.if_icmp .ge 56, 3) := by decide +kernel
theorem dX4_hasNameTwice_12 : decode cX4_hasNameTwice 12 = .ok (.iconst 0, 1) := by decide +kernel
theorem dX4_hasNameTwice_13 : decode cX4_hasNameTwice 13 = .ok (.istore_n 3, 1) := by decide +kernel
theorem dX4_hasNameTwice_14 : decode cX4_hasNameTwice 14 = .ok (.iload_n 3, 1) := by decide +kernel
theorem dX4_hasNameTwice_15 : decode cX4_hasNameTwice 15 = .ok (.bipush 6, 2) := by decide +kernel
theorem dX4_hasNameTwice_17 : decode cX4_hasNameTwice 17 = .ok (.if_icmp .ge 34, 3) := by decide +kernel
theorem dX4_hasNameTwice_20 : decode cX4_hasNameTwice 20 = .ok (.aload_n 0, 1) := by decide +kernel
theorem dX4_hasNameTwice_21 : decode cX4_hasNameTwice 21 = .ok (.getfield 24, 3) := by decide +kernel
theorem dX4_hasNameTwice_24 : decode cX4_hasNameTwice 24 = .ok (.iload_n 2, 1) := by decide +kernel
theorem dX4_hasNameTwice_25 : decode cX4_hasNameTwice 25 = .ok (.bipush 6, 2) := by decide +kernel
theorem dX4_hasNameTwice_27 : decode cX4_hasNameTwice 27 = .ok (.imul, 1) := by decide +kernel
theorem dX4_hasNameTwice_28 : decode cX4_hasNameTwice 28 = .ok (.iload_n 3, 1) := by decide +kernel
theorem dX4_hasNameTwice_29 : decode cX4_hasNameTwice 29 = .ok (.iadd, 1) := by decide +kernel
theorem dX4_hasNameTwice_30 : decode cX4_hasNameTwice 30 = .ok (.baload, 1) := by decide +kernel
theorem dX4_hasNameTwice_31 : decode cX4_hasNameTwice 31 = .ok (.aload_n 0, 1) := by decide +kernel
theorem dX4_hasNameTwice_32 : decode cX4_hasNameTwice 32 = .ok (.getfield 24, 3) := by decide +kernel
theorem dX4_hasNameTwice_35 : decode cX4_hasNameTwice 35 = .ok (.iload_n 1, 1) := by decide +kernel
theorem dX4_hasNameTwice_36 : decode cX4_hasNameTwice 36 = .ok (.bipush 6, 2) := by decide +kernel
theorem dX4_hasNameTwice_38 : decode cX4_hasNameTwice 38 = .ok (.imul, 1) := by decide +kernel
theorem dX4_hasNameTwice_39 : decode cX4_hasNameTwice 39 = .ok (.iload_n 3, 1) := by decide +kernel
theorem dX4_hasNameTwice_40 : decode cX4_hasNameTwice 40 = .ok (.iadd, 1) := by decide +kernel
theorem dX4_hasNameTwice_41 : decode cX4_hasNameTwice 41 = .ok (.baload, 1) := by decide +kernel
theorem dX4_hasNameTwice_42 : decode cX4_hasNameTwice 42 = .ok (.if_icmp .ne 9, 3) := by decide +kernel
theorem dX4_hasNameTwice_45 : decode cX4_hasNameTwice 45 = .ok (.iinc 3 1, 3) := by decide +kernel
theorem dX4_hasNameTwice_48 : decode cX4_hasNameTwice 48 = .ok (.goto (-34), 3) := by decide +kernel
theorem dX4_hasNameTwice_51 : decode cX4_hasNameTwice 51 = .ok (.iload_n 3, 1) := by decide +kernel
theorem dX4_hasNameTwice_52 : decode cX4_hasNameTwice 52 = .ok (.bipush 6, 2) := by decide +kernel
theorem dX4_hasNameTwice_54 : decode cX4_hasNameTwice 54 = .ok (.if_icmp .ne 5, 3) := by decide +kernel
theorem dX4_hasNameTwice_57 : decode cX4_hasNameTwice 57 = .ok (.iconst 1, 1) := by decide +kernel
theorem dX4_hasNameTwice_58 : decode cX4_hasNameTwice 58 = .ok (.ireturn, 1) := by decide +kernel
theorem dX4_hasNameTwice_59 : decode cX4_hasNameTwice 59 = .ok (.iinc 2 1, 3) := by decide +kernel
theorem dX4_hasNameTwice_62 : decode cX4_hasNameTwice 62 = .ok (.goto (-60), 3) := by decide +kernel
theorem dX4_hasNameTwice_65 : decode cX4_hasNameTwice 65 = .ok (.iconst 0, 1) := by decide +kernel
theorem dX4_hasNameTwice_66 : decode cX4_hasNameTwice 66 = .ok (.ireturn, 1) := by decide +kernel
theorem dX4_addNumber_0 : decode cX4_addNumber 0 = .ok (.aload_n 0, 1) := by decide +kernel
theorem dX4_addNumber_1 : decode cX4_addNumber 1 = .ok (.getfield 41, 3) := by decide +kernel
theorem dX4_addNumber_4 : decode cX4_addNumber 4 = .ok (.aload_n 0, 1) := by decide +kernel
theorem dX4_addNumber_5 : decode cX4_addNumber 5 = .ok (.getfield 32, 3) := by decide +kernel
theorem dX4_addNumber_8 : decode cX4_addNumber 8 = .ok (.arraylength, 1) := by decide +kernel
theorem dX4_addNumber_9 : decode cX4_addNumber 9 = .ok (.if_icmp .ge 23, 3) := by decide +kernel
theorem dX4_addNumber_12 : decode cX4_addNumber 12 = .ok (.aload_n 0, 1) := by decide +kernel
theorem dX4_addNumber_13 : decode cX4_addNumber 13 = .ok (.getfield 32, 3) := by decide +kernel
theorem dX4_addNumber_16 : decode cX4_addNumber 16 = .ok (.aload_n 0, 1) := by decide +kernel
theorem dX4_addNumber_17 : decode cX4_addNumber 17 = .ok (.getfield 41, 3) := by decide +kernel
theorem dX4_addNumber_20 : decode cX4_addNumber 20 = .ok (.iload_n 1, 1) := by decide +kernel
theorem dX4_addNumber_21 : decode cX4_addNumber 21 = .ok (.iastore, 1) := by decide +kernel
theorem dX4_addNumber_22 : decode cX4_addNumber 22 = .ok (.aload_n 0, 1) := by decide +kernel
theorem dX4_addNumber_23 : decode cX4_addNumber 23 = .ok (.dup, 1) := by decide +kernel
theorem dX4_addNumber_24 : decode cX4_addNumber 24 = .ok (.getfield 41, 3) := by decide +kernel
theorem dX4_addNumber_27 : decode cX4_addNumber 27 = .ok (.iconst 1, 1) := by decide +kernel
theorem dX4_addNumber_28 : decode cX4_addNumber 28 = .ok (.iadd, 1) := by decide +kernel
theorem dX4_addNumber_29 : decode cX4_addNumber 29 = .ok (.putfield 41, 3) := by decide +kernel
theorem dX4_addNumber_32 : decode cX4_addNumber 32 = .ok (.return_, 1) := by decide +kernel
theorem dX4_addOperation_0 : decode cX4_addOperation 0 = .ok (.aload_n 0, 1) := by decide +kernel
theorem dX4_addOperation_1 : decode cX4_addOperation 1 = .ok (.iconst (-1), 1) := by decide +kernel
theorem dX4_addOperation_2 : decode cX4_addOperation 2 = .ok (.iload_n 1, 1) := by decide +kernel
theorem dX4_addOperation_3 : decode cX4_addOperation 3 = .ok (.isub, 1) := by decide +kernel
theorem dX4_addOperation_4 : decode cX4_addOperation 4 = .ok (.invokevirtual 53, 3) := by decide +kernel
theorem dX4_addOperation_7 : decode cX4_addOperation 7 = .ok (.return_, 1) := by decide +kernel
theorem dX4_beginFormula_0 : decode cX4_beginFormula 0 = .ok (.iload_n 1, 1) := by decide +kernel
theorem dX4_beginFormula_1 : decode cX4_beginFormula 1 = .ok (.ifCond .lt 22, 3) := by decide +kernel
theorem dX4_beginFormula_4 : decode cX4_beginFormula 4 = .ok (.iload_n 1, 1) := by decide +kernel
theorem dX4_beginFormula_5 : decode cX4_beginFormula 5 = .ok (.aload_n 0, 1) := by decide +kernel
theorem dX4_beginFormula_6 : decode cX4_beginFormula 6 = .ok (.getfield 35, 3) := by decide +kernel
theorem dX4_beginFormula_9 : decode cX4_beginFormula 9 = .ok (.arraylength, 1) := by decide +kernel
theorem dX4_beginFormula_10 : decode cX4_beginFormula 10 = .ok (.if_icmp .ge 13, 3) := by decide +kernel
theorem dX4_beginFormula_13 : decode cX4_beginFormula 13 = .ok (.aload_n 0, 1) := by decide +kernel
theorem dX4_beginFormula_14 : decode cX4_beginFormula 14 = .ok (.getfield 35, 3) := by decide +kernel
theorem dX4_beginFormula_17 : decode cX4_beginFormula 17 = .ok (.iload_n 1, 1) := by decide +kernel
theorem dX4_beginFormula_18 : decode cX4_beginFormula 18 = .ok (.aload_n 0, 1) := by decide +kernel
theorem dX4_beginFormula_19 : decode cX4_beginFormula 19 = .ok (.getfield 41, 3) := by decide +kernel
theorem dX4_beginFormula_22 : decode cX4_beginFormula 22 = .ok (.iastore, 1) := by decide +kernel
theorem dX4_beginFormula_23 : decode cX4_beginFormula 23 = .ok (.return_, 1) := by decide +kernel
theorem dX4_endFormula_0 : decode cX4_endFormula 0 = .ok (.iload_n 1, 1) := by decide +kernel
theorem dX4_endFormula_1 : decode cX4_endFormula 1 = .ok (.ifCond .lt 22, 3) := by decide +kernel
theorem dX4_endFormula_4 : decode cX4_endFormula 4 = .ok (.iload_n 1, 1) := by decide +kernel
theorem dX4_endFormula_5 : decode cX4_endFormula 5 = .ok (.aload_n 0, 1) := by decide +kernel
theorem dX4_endFormula_6 : decode cX4_endFormula 6 = .ok (.getfield 38, 3) := by decide +kernel
theorem dX4_endFormula_9 : decode cX4_endFormula 9 = .ok (.arraylength, 1) := by decide +kernel
theorem dX4_endFormula_10 : decode cX4_endFormula 10 = .ok (.if_icmp .ge 13, 3) := by decide +kernel
theorem dX4_endFormula_13 : decode cX4_endFormula 13 = .ok (.aload_n 0, 1) := by decide +kernel
theorem dX4_endFormula_14 : decode cX4_endFormula 14 = .ok (.getfield 38, 3) := by decide +kernel
theorem dX4_endFormula_17 : decode cX4_endFormula 17 = .ok (.iload_n 1, 1) := by decide +kernel
theorem dX4_endFormula_18 : decode cX4_endFormula 18 = .ok (.aload_n 0, 1) := by decide +kernel
theorem dX4_endFormula_19 : decode cX4_endFormula 19 = .ok (.getfield 41, 3) := by decide +kernel
theorem dX4_endFormula_22 : decode cX4_endFormula 22 = .ok (.iastore, 1) := by decide +kernel
theorem dX4_endFormula_23 : decode cX4_endFormula 23 = .ok (.return_, 1) := by decide +kernel
theorem dX4_hasFormula_0 : decode cX4_hasFormula 0 = .ok (.iload_n 1, 1) := by decide +kernel
theorem dX4_hasFormula_1 : decode cX4_hasFormula 1 = .ok (.ifCond .lt 31, 3) := by decide +kernel
theorem dX4_hasFormula_4 : decode cX4_hasFormula 4 = .ok (.iload_n 1, 1) := by decide +kernel
theorem dX4_hasFormula_5 : decode cX4_hasFormula 5 = .ok (.aload_n 0, 1) := by decide +kernel
theorem dX4_hasFormula_6 : decode cX4_hasFormula 6 = .ok (.getfield 38, 3) := by decide +kernel
theorem dX4_hasFormula_9 : decode cX4_hasFormula 9 = .ok (.arraylength, 1) := by decide +kernel
theorem dX4_hasFormula_10 : decode cX4_hasFormula 10 = .ok (.if_icmp .ge 22, 3) := by decide +kernel
theorem dX4_hasFormula_13 : decode cX4_hasFormula 13 = .ok (.aload_n 0, 1) := by decide +kernel
theorem dX4_hasFormula_14 : decode cX4_hasFormula 14 = .ok (.getfield 38, 3) := by decide +kernel
theorem dX4_hasFormula_17 : decode cX4_hasFormula 17 = .ok (.iload_n 1, 1) := by decide +kernel
theorem dX4_hasFormula_18 : decode cX4_hasFormula 18 = .ok (.iaload, 1) := by decide +kernel
theorem dX4_hasFormula_19 : decode cX4_hasFormula 19 = .ok (.aload_n 0, 1) := by decide +kernel
theorem dX4_hasFormula_20 : decode cX4_hasFormula 20 = .ok (.getfield 35, 3) := by decide +kernel
theorem dX4_hasFormula_23 : decode cX4_hasFormula 23 = .ok (.iload_n 1, 1) := by decide +kernel
theorem dX4_hasFormula_24 : decode cX4_hasFormula 24 = .ok (.iaload, 1) := by decide +kernel
theorem dX4_hasFormula_25 : decode cX4_hasFormula 25 = .ok (.if_icmp .le 7, 3) := by decide +kernel
theorem dX4_hasFormula_28 : decode cX4_hasFormula 28 = .ok (.iconst 1, 1) := by decide +kernel
theorem dX4_hasFormula_29 : decode cX4_hasFormula 29 = .ok (.goto 4, 3) := by decide +kernel
theorem dX4_hasFormula_32 : decode cX4_hasFormula 32 = .ok (.iconst 0, 1) := by decide +kernel
theorem dX4_hasFormula_33 : decode cX4_hasFormula 33 = .ok (.ireturn, 1) := by decide +kernel
theorem dX5_init_0 : decode cX5_init 0 = .ok (.aload_n 0, 1) := by decide +kernel
theorem dX5_init_1 : decode cX5_init 1 = .ok (.invokespecial 7, 3) := by decide +kernel
theorem dX5_init_4 : decode cX5_init 4 = .ok (.aload_n 0, 1) := by decide +kernel
theorem dX5_init_5 : decode cX5_init 5 = .ok (.iconst 0, 1) := by decide +kernel
theorem dX5_init_6 : decode cX5_init 6 = .ok (.putfield 13, 3) := by decide +kernel
theorem dX5_init_9 : decode cX5_init 9 = .ok (.aload_n 0, 1) := by decide +kernel
theorem dX5_init_10 : decode cX5_init 10 = .ok (.iconst (-1), 1) := by decide +kernel
theorem dX5_init_11 : decode cX5_init 11 = .ok (.putfield 17, 3) := by decide +kernel
theorem dX5_init_14 : decode cX5_init 14 = .ok (.aload_n 0, 1) := by decide +kernel
theorem dX5_init_15 : decode cX5_init 15 = .ok (.new 20, 3) := by decide +kernel
theorem dX5_init_18 : decode cX5_init 18 = .ok (.dup, 1) := by decide +kernel
theorem dX5_init_19 : decode cX5_init 19 = .ok (.invokespecial 22, 3) := by decide +kernel
theorem dX5_init_22 : decode cX5_init 22 = .ok (.putfield 23, 3) := by decide +kernel
theorem dX5_init_25 : decode cX5_init 25 = .ok (.aload_n 0, 1) := by decide +kernel
theorem dX5_init_26 : decode cX5_init 26 = .ok (.iconst 0, 1) := by decide +kernel
theorem dX5_init_27 : decode cX5_init 27 = .ok (.putfield 27, 3) := by decide +kernel
theorem dX5_init_30 : decode cX5_init 30 = .ok (.aload_n 0, 1) := by decide +kernel
theorem dX5_init_31 : decode cX5_init 31 = .ok (.aload_n 1, 1) := by decide +kernel
theorem dX5_init_32 : decode cX5_init 32 = .ok (.putfield 30, 3) := by decide +kernel
theorem dX5_init_35 : decode cX5_init 35 = .ok (.return_, 1) := by decide +kernel
theorem dX5_begin_0 : decode cX5_begin 0 = .ok (.aload_n 0, 1) := by decide +kernel
theorem dX5_begin_1 : decode cX5_begin 1 = .ok (.iconst 0, 1) := by decide +kernel
theorem dX5_begin_2 : decode cX5_begin 2 = .ok (.putfield 13, 3) := by decide +kernel
theorem dX5_begin_5 : decode cX5_begin 5 = .ok (.aload_n 0, 1) := by decide +kernel
theorem dX5_begin_6 : decode cX5_begin 6 = .ok (.iconst (-1), 1) := by decide +kernel
theorem dX5_begin_7 : decode cX5_begin 7 = .ok (.putfield 17, 3) := by decide +kernel
theorem dX5_begin_10 : decode cX5_begin 10 = .ok (.aload_n 0, 1) := by decide +kernel
theorem dX5_begin_11 : decode cX5_begin 11 = .ok (.aload_n 3, 1) := by decide +kernel
theorem dX5_begin_12 : decode cX5_begin 12 = .ok (.putfield 30, 3) := by decide +kernel
theorem dX5_begin_15 : decode cX5_begin 15 = .ok (.aload_n 3, 1) := by decide +kernel
theorem dX5_begin_16 : decode cX5_begin 16 = .ok (.invokevirtual 34, 3) := by decide +kernel
theorem dX5_begin_19 : decode cX5_begin 19 = .ok (.aload_n 0, 1) := by decide +kernel
theorem dX5_begin_20 : decode cX5_begin 20 = .ok (.getfield 23, 3) := by decide +kernel
theorem dX5_begin_23 : decode cX5_begin 23 = .ok (.aload_n 1, 1) := by decide +kernel
theorem dX5_begin_24 : decode cX5_begin 24 = .ok (.iload_n 2, 1) := by decide +kernel
theorem dX5_begin_25 : decode cX5_begin 25 = .ok (.invokevirtual 39, 3) := by decide +kernel
theorem dX5_begin_28 : decode cX5_begin 28 = .ok (.return_, 1) := by decide +kernel
theorem dX5_fail_0 : decode cX5_fail 0 = .ok (.aload_n 0, 1) := by decide +kernel
theorem dX5_fail_1 : decode cX5_fail 1 = .ok (.iload_n 1, 1) := by decide +kernel
theorem dX5_fail_2 : decode cX5_fail 2 = .ok (.putfield 13, 3) := by decide +kernel
theorem dX5_fail_5 : decode cX5_fail 5 = .ok (.aload_n 0, 1) := by decide +kernel
theorem dX5_fail_6 : decode cX5_fail 6 = .ok (.iload_n 2, 1) := by decide +kernel
theorem dX5_fail_7 : decode cX5_fail 7 = .ok (.putfield 17, 3) := by decide +kernel
theorem dX5_fail_10 : decode cX5_fail 10 = .ok (.iconst 0, 1) := by decide +kernel
theorem dX5_fail_11 : decode cX5_fail 11 = .ok (.ireturn, 1) := by decide +kernel
theorem dX5_readMachine_0 : decode cX5_readMachine 0 = .ok (.aload_n 0, 1) := by decide +kernel
theorem dX5_readMachine_1 : decode cX5_readMachine 1 = .ok (.aload_n 1, 1) := by decide +kernel
theorem dX5_readMachine_2 : decode cX5_readMachine 2 = .ok (.iload_n 2, 1) := by decide +kernel
theorem dX5_readMachine_3 : decode cX5_readMachine 3 = .ok (.aload_n 3, 1) := by decide +kernel
theorem dX5_readMachine_4 : decode cX5_readMachine 4 = .ok (.invokevirtual 43, 3) := by decide +kernel
theorem dX5_readMachine_7 : decode cX5_readMachine 7 = .ok (.iconst 0, 1) := by decide +kernel
theorem dX5_readMachine_8 : decode cX5_readMachine 8 = .ok (.istore 4, 2) := by decide +kernel
theorem dX5_readMachine_10 : decode cX5_readMachine 10 = .ok (.iload 4, 2) := by decide +kernel
theorem dX5_readMachine_12 : decode cX5_readMachine 12 = .ok (.bipush 40, 2) := by decide +kernel
theorem dX5_readMachine_14 : decode cX5_readMachine 14 = .ok (.if_icmp .ge 48, 3) := by decide +kernel
theorem dX5_readMachine_17 : decode cX5_readMachine 17 = .ok (.aload_n 0, 1) := by decide +kernel
theorem dX5_readMachine_18 : decode cX5_readMachine 18 = .ok (.getfield 23, 3) := by decide +kernel
theorem dX5_readMachine_21 : decode cX5_readMachine 21 = .ok (.getfield 46, 3) := by decide +kernel
theorem dX5_readMachine_24 : decode cX5_readMachine 24 = .ok (.ifCond .eq 38, 3) := by decide +kernel
theorem dX5_readMachine_27 : decode cX5_readMachine 27 = .ok (.aload_n 0, 1) := by decide +kernel
theorem dX5_readMachine_28 : decode cX5_readMachine 28 = .ok (.aload_n 3, 1) := by decide +kernel
theorem dX5_readMachine_29 : decode cX5_readMachine 29 = .ok (.invokevirtual 49, 3) := by decide +kernel
theorem dX5_readMachine_32 : decode cX5_readMachine 32 = .ok (.ifCond .eq 12, 3) := by decide +kernel
theorem dX5_readMachine_35 : decode cX5_readMachine 35 = .ok (.aload_n 0, 1) := by decide +kernel
theorem dX5_readMachine_36 : decode cX5_readMachine 36 = .ok (.bipush 59, 2) := by decide +kernel
theorem dX5_readMachine_38 : decode cX5_readMachine 38 = .ok (.invokevirtual 53, 3) := by decide +kernel
theorem dX5_readMachine_41 : decode cX5_readMachine 41 = .ok (.ifCond .ne 5, 3) := by decide +kernel
theorem dX5_readMachine_44 : decode cX5_readMachine 44 = .ok (.iconst 0, 1) := by decide +kernel
theorem dX5_readMachine_45 : decode cX5_readMachine 45 = .ok (.ireturn, 1) := by decide +kernel
theorem dX5_readMachine_46 : decode cX5_readMachine 46 = .ok (.aload_n 3, 1) := by decide +kernel
theorem dX5_readMachine_47 : decode cX5_readMachine 47 = .ok (.dup, 1) := by decide +kernel
theorem dX5_readMachine_48 : decode cX5_readMachine 48 = .ok (.getfield 57, 3) := by decide +kernel
theorem dX5_readMachine_51 : decode cX5_readMachine 51 = .ok (.iconst 1, 1) := by decide +kernel
theorem dX5_readMachine_52 : decode cX5_readMachine 52 = .ok (.iadd, 1) := by decide +kernel
theorem dX5_readMachine_53 : decode cX5_readMachine 53 = .ok (.putfield 57, 3) := by decide +kernel
theorem dX5_readMachine_56 : decode cX5_readMachine 56 = .ok (.iinc 4 1, 3) := by decide +kernel
theorem dX5_readMachine_59 : decode cX5_readMachine 59 = .ok (.goto (-49), 3) := by decide +kernel
theorem dX5_readMachine_62 : decode cX5_readMachine 62 = .ok (.aload_n 0, 1) := by decide +kernel
theorem dX5_readMachine_63 : decode cX5_readMachine 63 = .ok (.getfield 23, 3) := by decide +kernel
theorem dX5_readMachine_66 : decode cX5_readMachine 66 = .ok (.getfield 46, 3) := by decide +kernel
theorem dX5_readMachine_69 : decode cX5_readMachine 69 = .ok (.ifCond .eq 16, 3) := by decide +kernel
theorem dX5_readMachine_72 : decode cX5_readMachine 72 = .ok (.aload_n 0, 1) := by decide +kernel
theorem dX5_readMachine_73 : decode cX5_readMachine 73 = .ok (.iconst 5, 1) := by decide +kernel
theorem dX5_readMachine_74 : decode cX5_readMachine 74 = .ok (.aload_n 0, 1) := by decide +kernel
theorem dX5_readMachine_75 : decode cX5_readMachine 75 = .ok (.getfield 23, 3) := by decide +kernel
theorem dX5_readMachine_78 : decode cX5_readMachine 78 = .ok (.getfield 60, 3) := by decide +kernel
theorem dX5_readMachine_81 : decode cX5_readMachine 81 = .ok (.invokevirtual 63, 3) := by decide +kernel
theorem dX5_readMachine_84 : decode cX5_readMachine 84 = .ok (.ireturn, 1) := by decide +kernel
theorem dX5_readMachine_85 : decode cX5_readMachine 85 = .ok (.aload_n 3, 1) := by decide +kernel
theorem dX5_readMachine_86 : decode cX5_readMachine 86 = .ok (.getfield 57, 3) := by decide +kernel
theorem dX5_readMachine_89 : decode cX5_readMachine 89 = .ok (.ifCond .gt 18, 3) := by decide +kernel
theorem dX5_readMachine_92 : decode cX5_readMachine 92 = .ok (.aload_n 0, 1) := by decide +kernel
theorem dX5_readMachine_93 : decode cX5_readMachine 93 = .ok (.iconst 1, 1) := by decide +kernel
theorem dX5_readMachine_94 : decode cX5_readMachine 94 = .ok (.aload_n 0, 1) := by decide +kernel
theorem dX5_readMachine_95 : decode cX5_readMachine 95 = .ok (.getfield 23, 3) := by decide +kernel
theorem dX5_readMachine_98 : decode cX5_readMachine 98 = .ok (.getfield 60, 3) := by decide +kernel
theorem dX5_readMachine_101 : decode cX5_readMachine 101 = .ok (.invokevirtual 63, 3) := by decide +kernel
theorem dX5_readMachine_104 : decode cX5_readMachine 104 = .ok (.ifCond .eq 7, 3) := by decide +kernel
theorem dX5_readMachine_107 : decode cX5_readMachine 107 = .ok (.iconst 1, 1) := by decide +kernel
theorem dX5_readMachine_108 : decode cX5_readMachine 108 = .ok (.goto 4, 3) := by decide +kernel
theorem dX5_readMachine_111 : decode cX5_readMachine 111 = .ok (.iconst 0, 1) := by decide +kernel
theorem dX5_readMachine_112 : decode cX5_readMachine 112 = .ok (.ireturn, 1) := by decide +kernel
theorem dX5_statement_0 : decode cX5_statement 0 = .ok (.aload_n 1, 1) := by decide +kernel
theorem dX5_statement_1 : decode cX5_statement 1 = .ok (.getfield 57, 3) := by decide +kernel
theorem dX5_statement_4 : decode cX5_statement 4 = .ok (.ifCond .ne 9, 3) := by decide +kernel
theorem dX5_statement_7 : decode cX5_statement 7 = .ok (.aload_n 0, 1) := by decide +kernel
theorem dX5_statement_8 : decode cX5_statement 8 = .ok (.aload_n 1, 1) := by decide +kernel
theorem dX5_statement_9 : decode cX5_statement 9 = .ok (.invokevirtual 67, 3) := by decide +kernel
theorem dX5_statement_12 : decode cX5_statement 12 = .ok (.ireturn, 1) := by decide +kernel
theorem dX5_statement_13 : decode cX5_statement 13 = .ok (.aload_n 0, 1) := by decide +kernel
theorem dX5_statement_14 : decode cX5_statement 14 = .ok (.getfield 23, 3) := by decide +kernel
theorem dX5_statement_17 : decode cX5_statement 17 = .ok (.getfield 46, 3) := by decide +kernel
theorem dX5_statement_20 : decode cX5_statement 20 = .ok (.iconst 1, 1) := by decide +kernel
theorem dX5_statement_21 : decode cX5_statement 21 = .ok (.if_icmp .ne 13, 3) := by decide +kernel
theorem dX5_statement_24 : decode cX5_statement 24 = .ok (.aload_n 0, 1) := by decide +kernel
theorem dX5_statement_25 : decode cX5_statement 25 = .ok (.getfield 23, 3) := by decide +kernel
theorem dX5_statement_28 : decode cX5_statement 28 = .ok (.getfield 70, 3) := by decide +kernel
theorem dX5_statement_31 : decode cX5_statement 31 = .ok (.goto 4, 3) := by decide +kernel
theorem dX5_statement_34 : decode cX5_statement 34 = .ok (.iconst (-1), 1) := by decide +kernel
theorem dX5_statement_35 : decode cX5_statement 35 = .ok (.istore_n 2, 1) := by decide +kernel
theorem dX5_statement_36 : decode cX5_statement 36 = .ok (.iload_n 2, 1) := by decide +kernel
theorem dX5_statement_37 : decode cX5_statement 37 = .ok (.tableswitch 140 2 6 #[35, 140, 41, 74, 107], 35) := by decide +kernel
theorem dX5_statement_72 : decode cX5_statement 72 = .ok (.aload_n 0, 1) := by decide +kernel
theorem dX5_statement_73 : decode cX5_statement 73 = .ok (.aload_n 1, 1) := by decide +kernel
theorem dX5_statement_74 : decode cX5_statement 74 = .ok (.invokevirtual 73, 3) := by decide +kernel
theorem dX5_statement_77 : decode cX5_statement 77 = .ok (.ireturn, 1) := by decide +kernel
theorem dX5_statement_78 : decode cX5_statement 78 = .ok (.aload_n 0, 1) := by decide +kernel
theorem dX5_statement_79 : decode cX5_statement 79 = .ok (.iconst 0, 1) := by decide +kernel
theorem dX5_statement_80 : decode cX5_statement 80 = .ok (.sipush 896, 3) := by decide +kernel
theorem dX5_statement_83 : decode cX5_statement 83 = .ok (.invokevirtual 76, 3) := by decide +kernel
theorem dX5_statement_86 : decode cX5_statement 86 = .ok (.ifCond .eq 23, 3) := by decide +kernel
theorem dX5_statement_89 : decode cX5_statement 89 = .ok (.aload_n 0, 1) := by decide +kernel
theorem dX5_statement_90 : decode cX5_statement 90 = .ok (.iconst 0, 1) := by decide +kernel
theorem dX5_statement_91 : decode cX5_statement 91 = .ok (.invokevirtual 79, 3) := by decide +kernel
theorem dX5_statement_94 : decode cX5_statement 94 = .ok (.ifCond .eq 15, 3) := by decide +kernel
theorem dX5_statement_97 : decode cX5_statement 97 = .ok (.aload_n 0, 1) := by decide +kernel
theorem dX5_statement_98 : decode cX5_statement 98 = .ok (.iconst 0, 1) := by decide +kernel
theorem dX5_statement_99 : decode cX5_statement 99 = .ok (.invokevirtual 82, 3) := by decide +kernel
theorem dX5_statement_102 : decode cX5_statement 102 = .ok (.ifCond .eq 7, 3) := by decide +kernel
theorem dX5_statement_105 : decode cX5_statement 105 = .ok (.iconst 1, 1) := by decide +kernel
theorem dX5_statement_106 : decode cX5_statement 106 = .ok (.goto 4, 3) := by decide +kernel
theorem dX5_statement_109 : decode cX5_statement 109 = .ok (.iconst 0, 1) := by decide +kernel
theorem dX5_statement_110 : decode cX5_statement 110 = .ok (.ireturn, 1) := by decide +kernel
theorem dX5_statement_111 : decode cX5_statement 111 = .ok (.aload_n 0, 1) := by decide +kernel
theorem dX5_statement_112 : decode cX5_statement 112 = .ok (.iconst 1, 1) := by decide +kernel
theorem dX5_statement_113 : decode cX5_statement 113 = .ok (.sipush 128, 3) := by decide +kernel
theorem dX5_statement_116 : decode cX5_statement 116 = .ok (.invokevirtual 76, 3) := by decide +kernel
theorem dX5_statement_119 : decode cX5_statement 119 = .ok (.ifCond .eq 23, 3) := by decide +kernel
theorem dX5_statement_122 : decode cX5_statement 122 = .ok (.aload_n 0, 1) := by decide +kernel
theorem dX5_statement_123 : decode cX5_statement 123 = .ok (.iconst 0, 1) := by decide +kernel
theorem dX5_statement_124 : decode cX5_statement 124 = .ok (.invokevirtual 79, 3) := by decide +kernel
theorem dX5_statement_127 : decode cX5_statement 127 = .ok (.ifCond .eq 15, 3) := by decide +kernel
theorem dX5_statement_130 : decode cX5_statement 130 = .ok (.aload_n 0, 1) := by decide +kernel
theorem dX5_statement_131 : decode cX5_statement 131 = .ok (.iconst 1, 1) := by decide +kernel
theorem dX5_statement_132 : decode cX5_statement 132 = .ok (.invokevirtual 82, 3) := by decide +kernel
theorem dX5_statement_135 : decode cX5_statement 135 = .ok (.ifCond .eq 7, 3) := by decide +kernel
theorem dX5_statement_138 : decode cX5_statement 138 = .ok (.iconst 1, 1) := by decide +kernel
theorem dX5_statement_139 : decode cX5_statement 139 = .ok (.goto 4, 3) := by decide +kernel
theorem dX5_statement_142 : decode cX5_statement 142 = .ok (.iconst 0, 1) := by decide +kernel
theorem dX5_statement_143 : decode cX5_statement 143 = .ok (.ireturn, 1) := by decide +kernel
theorem dX5_statement_144 : decode cX5_statement 144 = .ok (.aload_n 0, 1) := by decide +kernel
theorem dX5_statement_145 : decode cX5_statement 145 = .ok (.iconst 2, 1) := by decide +kernel
theorem dX5_statement_146 : decode cX5_statement 146 = .ok (.sipush 15360, 3) := by decide +kernel
theorem dX5_statement_149 : decode cX5_statement 149 = .ok (.invokevirtual 76, 3) := by decide +kernel
theorem dX5_statement_152 : decode cX5_statement 152 = .ok (.ifCond .eq 23, 3) := by decide +kernel
theorem dX5_statement_155 : decode cX5_statement 155 = .ok (.aload_n 0, 1) := by decide +kernel
theorem dX5_statement_156 : decode cX5_statement 156 = .ok (.iconst 0, 1) := by decide +kernel
theorem dX5_statement_157 : decode cX5_statement 157 = .ok (.invokevirtual 85, 3) := by decide +kernel
theorem dX5_statement_160 : decode cX5_statement 160 = .ok (.ifCond .eq 15, 3) := by decide +kernel
theorem dX5_statement_163 : decode cX5_statement 163 = .ok (.aload_n 0, 1) := by decide +kernel
theorem dX5_statement_164 : decode cX5_statement 164 = .ok (.iconst 2, 1) := by decide +kernel
theorem dX5_statement_165 : decode cX5_statement 165 = .ok (.invokevirtual 82, 3) := by decide +kernel
theorem dX5_statement_168 : decode cX5_statement 168 = .ok (.ifCond .eq 7, 3) := by decide +kernel
theorem dX5_statement_171 : decode cX5_statement 171 = .ok (.iconst 1, 1) := by decide +kernel
theorem dX5_statement_172 : decode cX5_statement 172 = .ok (.goto 4, 3) := by decide +kernel
theorem dX5_statement_175 : decode cX5_statement 175 = .ok (.iconst 0, 1) := by decide +kernel
theorem dX5_statement_176 : decode cX5_statement 176 = .ok (.ireturn, 1) := by decide +kernel
theorem dX5_statement_177 : decode cX5_statement 177 = .ok (.aload_n 0, 1) := by decide +kernel
theorem dX5_statement_178 : decode cX5_statement 178 = .ok (.iconst 1, 1) := by decide +kernel
theorem dX5_statement_179 : decode cX5_statement 179 = .ok (.aload_n 0, 1) := by decide +kernel
theorem dX5_statement_180 : decode cX5_statement 180 = .ok (.getfield 23, 3) := by decide +kernel
theorem dX5_statement_183 : decode cX5_statement 183 = .ok (.getfield 60, 3) := by decide +kernel
theorem dX5_statement_186 : decode cX5_statement 186 = .ok (.invokevirtual 63, 3) := by decide +kernel
theorem dX5_statement_189 : decode cX5_statement 189 = .ok (.ireturn, 1) := by decide +kernel
theorem dX5_memoryStatement_0 : decode cX5_memoryStatement 0 = .ok (.aload_n 0, 1) := by decide +kernel
theorem dX5_memoryStatement_1 : decode cX5_memoryStatement 1 = .ok (.iconst 0, 1) := by decide +kernel
theorem dX5_memoryStatement_2 : decode cX5_memoryStatement 2 = .ok (.invokevirtual 88, 3) := by decide +kernel
theorem dX5_memoryStatement_5 : decode cX5_memoryStatement 5 = .ok (.ifCond .eq 15, 3) := by decide +kernel
theorem dX5_memoryStatement_8 : decode cX5_memoryStatement 8 = .ok (.aload_n 0, 1) := by decide +kernel
theorem dX5_memoryStatement_9 : decode cX5_memoryStatement 9 = .ok (.bipush 64, 2) := by decide +kernel
theorem dX5_memoryStatement_11 : decode cX5_memoryStatement 11 = .ok (.sipush 1024, 3) := by decide +kernel
theorem dX5_memoryStatement_14 : decode cX5_memoryStatement 14 = .ok (.invokevirtual 91, 3) := by decide +kernel
theorem dX5_memoryStatement_17 : decode cX5_memoryStatement 17 = .ok (.ifCond .ne 5, 3) := by decide +kernel
theorem dX5_memoryStatement_20 : decode cX5_memoryStatement 20 = .ok (.iconst 0, 1) := by decide +kernel
theorem dX5_memoryStatement_21 : decode cX5_memoryStatement 21 = .ok (.ireturn, 1) := by decide +kernel
theorem dX5_memoryStatement_22 : decode cX5_memoryStatement 22 = .ok (.aload_n 1, 1) := by decide +kernel
theorem dX5_memoryStatement_23 : decode cX5_memoryStatement 23 = .ok (.aload_n 0, 1) := by decide +kernel
theorem dX5_memoryStatement_24 : decode cX5_memoryStatement 24 = .ok (.getfield 23, 3) := by decide +kernel
theorem dX5_memoryStatement_27 : decode cX5_memoryStatement 27 = .ok (.getfield 70, 3) := by decide +kernel
theorem dX5_memoryStatement_30 : decode cX5_memoryStatement 30 = .ok (.putfield 94, 3) := by decide +kernel
theorem dX5_memoryStatement_33 : decode cX5_memoryStatement 33 = .ok (.aload_n 0, 1) := by decide +kernel
theorem dX5_memoryStatement_34 : decode cX5_memoryStatement 34 = .ok (.getfield 23, 3) := by decide +kernel
theorem dX5_memoryStatement_37 : decode cX5_memoryStatement 37 = .ok (.invokevirtual 97, 3) := by decide +kernel
theorem dX5_memoryStatement_40 : decode cX5_memoryStatement 40 = .ok (.aload_n 0, 1) := by decide +kernel
theorem dX5_memoryStatement_41 : decode cX5_memoryStatement 41 = .ok (.iconst 1, 1) := by decide +kernel
theorem dX5_memoryStatement_42 : decode cX5_memoryStatement 42 = .ok (.invokevirtual 88, 3) := by decide +kernel
theorem dX5_memoryStatement_45 : decode cX5_memoryStatement 45 = .ok (.ifCond .eq 13, 3) := by decide +kernel
theorem dX5_memoryStatement_48 : decode cX5_memoryStatement 48 = .ok (.aload_n 0, 1) := by decide +kernel
theorem dX5_memoryStatement_49 : decode cX5_memoryStatement 49 = .ok (.iconst 4, 1) := by decide +kernel
theorem dX5_memoryStatement_50 : decode cX5_memoryStatement 50 = .ok (.bipush 8, 2) := by decide +kernel
theorem dX5_memoryStatement_52 : decode cX5_memoryStatement 52 = .ok (.invokevirtual 91, 3) := by decide +kernel
theorem dX5_memoryStatement_55 : decode cX5_memoryStatement 55 = .ok (.ifCond .ne 5, 3) := by decide +kernel
theorem dX5_memoryStatement_58 : decode cX5_memoryStatement 58 = .ok (.iconst 0, 1) := by decide +kernel
theorem dX5_memoryStatement_59 : decode cX5_memoryStatement 59 = .ok (.ireturn, 1) := by decide +kernel
theorem dX5_memoryStatement_60 : decode cX5_memoryStatement 60 = .ok (.aload_n 1, 1) := by decide +kernel
theorem dX5_memoryStatement_61 : decode cX5_memoryStatement 61 = .ok (.aload_n 0, 1) := by decide +kernel
theorem dX5_memoryStatement_62 : decode cX5_memoryStatement 62 = .ok (.getfield 23, 3) := by decide +kernel
theorem dX5_memoryStatement_65 : decode cX5_memoryStatement 65 = .ok (.getfield 70, 3) := by decide +kernel
theorem dX5_memoryStatement_68 : decode cX5_memoryStatement 68 = .ok (.putfield 100, 3) := by decide +kernel
theorem dX5_memoryStatement_71 : decode cX5_memoryStatement 71 = .ok (.aload_n 0, 1) := by decide +kernel
theorem dX5_memoryStatement_72 : decode cX5_memoryStatement 72 = .ok (.getfield 23, 3) := by decide +kernel
theorem dX5_memoryStatement_75 : decode cX5_memoryStatement 75 = .ok (.invokevirtual 97, 3) := by decide +kernel
theorem dX5_memoryStatement_78 : decode cX5_memoryStatement 78 = .ok (.iconst 1, 1) := by decide +kernel
theorem dX5_memoryStatement_79 : decode cX5_memoryStatement 79 = .ok (.ireturn, 1) := by decide +kernel
theorem dX5_shelfStatement_0 : decode cX5_shelfStatement 0 = .ok (.aload_n 1, 1) := by decide +kernel
theorem dX5_shelfStatement_1 : decode cX5_shelfStatement 1 = .ok (.getfield 103, 3) := by decide +kernel
theorem dX5_shelfStatement_4 : decode cX5_shelfStatement 4 = .ok (.iconst 4, 1) := by decide +kernel
theorem dX5_shelfStatement_5 : decode cX5_shelfStatement 5 = .ok (.if_icmp .lt 16, 3) := by decide +kernel
theorem dX5_shelfStatement_8 : decode cX5_shelfStatement 8 = .ok (.aload_n 0, 1) := by decide +kernel
theorem dX5_shelfStatement_9 : decode cX5_shelfStatement 9 = .ok (.iconst 5, 1) := by decide +kernel
theorem dX5_shelfStatement_10 : decode cX5_shelfStatement 10 = .ok (.aload_n 0, 1) := by decide +kernel
theorem dX5_shelfStatement_11 : decode cX5_shelfStatement 11 = .ok (.getfield 23, 3) := by decide +kernel
theorem dX5_shelfStatement_14 : decode cX5_shelfStatement 14 = .ok (.getfield 60, 3) := by decide +kernel
theorem dX5_shelfStatement_17 : decode cX5_shelfStatement 17 = .ok (.invokevirtual 63, 3) := by decide +kernel
theorem dX5_shelfStatement_20 : decode cX5_shelfStatement 20 = .ok (.ireturn, 1) := by decide +kernel
theorem dX5_shelfStatement_21 : decode cX5_shelfStatement 21 = .ok (.aload_n 0, 1) := by decide +kernel
theorem dX5_shelfStatement_22 : decode cX5_shelfStatement 22 = .ok (.getfield 23, 3) := by decide +kernel
theorem dX5_shelfStatement_25 : decode cX5_shelfStatement 25 = .ok (.invokevirtual 97, 3) := by decide +kernel
theorem dX5_shelfStatement_28 : decode cX5_shelfStatement 28 = .ok (.aload_n 0, 1) := by decide +kernel
theorem dX5_shelfStatement_29 : decode cX5_shelfStatement 29 = .ok (.aload_n 1, 1) := by decide +kernel
theorem dX5_shelfStatement_30 : decode cX5_shelfStatement 30 = .ok (.invokevirtual 106, 3) := by decide +kernel
theorem dX5_shelfStatement_33 : decode cX5_shelfStatement 33 = .ok (.ifCond .eq 21, 3) := by decide +kernel
theorem dX5_shelfStatement_36 : decode cX5_shelfStatement 36 = .ok (.aload_n 0, 1) := by decide +kernel
theorem dX5_shelfStatement_37 : decode cX5_shelfStatement 37 = .ok (.iconst 3, 1) := by decide +kernel
theorem dX5_shelfStatement_38 : decode cX5_shelfStatement 38 = .ok (.invokevirtual 88, 3) := by decide +kernel
theorem dX5_shelfStatement_41 : decode cX5_shelfStatement 41 = .ok (.ifCond .eq 13, 3) := by decide +kernel
theorem dX5_shelfStatement_44 : decode cX5_shelfStatement 44 = .ok (.aload_n 0, 1) := by decide +kernel
theorem dX5_shelfStatement_45 : decode cX5_shelfStatement 45 = .ok (.iconst 1, 1) := by decide +kernel
theorem dX5_shelfStatement_46 : decode cX5_shelfStatement 46 = .ok (.bipush 7, 2) := by decide +kernel
theorem dX5_shelfStatement_48 : decode cX5_shelfStatement 48 = .ok (.invokevirtual 91, 3) := by decide +kernel
theorem dX5_shelfStatement_51 : decode cX5_shelfStatement 51 = .ok (.ifCond .ne 5, 3) := by decide +kernel
theorem dX5_shelfStatement_54 : decode cX5_shelfStatement 54 = .ok (.iconst 0, 1) := by decide +kernel
theorem dX5_shelfStatement_55 : decode cX5_shelfStatement 55 = .ok (.ireturn, 1) := by decide +kernel
theorem dX5_shelfStatement_56 : decode cX5_shelfStatement 56 = .ok (.aload_n 1, 1) := by decide +kernel
theorem dX5_shelfStatement_57 : decode cX5_shelfStatement 57 = .ok (.getfield 109, 3) := by decide +kernel
theorem dX5_shelfStatement_60 : decode cX5_shelfStatement 60 = .ok (.aload_n 1, 1) := by decide +kernel
theorem dX5_shelfStatement_61 : decode cX5_shelfStatement 61 = .ok (.getfield 103, 3) := by decide +kernel
theorem dX5_shelfStatement_64 : decode cX5_shelfStatement 64 = .ok (.aload_n 0, 1) := by decide +kernel
theorem dX5_shelfStatement_65 : decode cX5_shelfStatement 65 = .ok (.getfield 23, 3) := by decide +kernel
theorem dX5_shelfStatement_68 : decode cX5_shelfStatement 68 = .ok (.getfield 70, 3) := by decide +kernel
theorem dX5_shelfStatement_71 : decode cX5_shelfStatement 71 = .ok (.iastore, 1) := by decide +kernel
theorem dX5_shelfStatement_72 : decode cX5_shelfStatement 72 = .ok (.aload_n 1, 1) := by decide +kernel
theorem dX5_shelfStatement_73 : decode cX5_shelfStatement 73 = .ok (.dup, 1) := by decide +kernel
theorem dX5_shelfStatement_74 : decode cX5_shelfStatement 74 = .ok (.getfield 103, 3) := by decide +kernel
theorem dX5_shelfStatement_77 : decode cX5_shelfStatement 77 = .ok (.iconst 1, 1) := by decide +kernel
theorem dX5_shelfStatement_78 : decode cX5_shelfStatement 78 = .ok (.iadd, 1) := by decide +kernel
theorem dX5_shelfStatement_79 : decode cX5_shelfStatement 79 = .ok (.putfield 103, 3) := by decide +kernel
theorem dX5_shelfStatement_82 : decode cX5_shelfStatement 82 = .ok (.aload_n 0, 1) := by decide +kernel
theorem dX5_shelfStatement_83 : decode cX5_shelfStatement 83 = .ok (.getfield 23, 3) := by decide +kernel
theorem dX5_shelfStatement_86 : decode cX5_shelfStatement 86 = .ok (.invokevirtual 97, 3) := by decide +kernel
theorem dX5_shelfStatement_89 : decode cX5_shelfStatement 89 = .ok (.iconst 1, 1) := by decide +kernel
theorem dX5_shelfStatement_90 : decode cX5_shelfStatement 90 = .ok (.ireturn, 1) := by decide +kernel
theorem dX5_name_0 : decode cX5_name 0 = .ok (.aload_n 0, 1) := by decide +kernel
theorem dX5_name_1 : decode cX5_name 1 = .ok (.getfield 23, 3) := by decide +kernel
theorem dX5_name_4 : decode cX5_name 4 = .ok (.getfield 70, 3) := by decide +kernel
theorem dX5_name_7 : decode cX5_name 7 = .ok (.ifCond .lt 19, 3) := by decide +kernel
theorem dX5_name_10 : decode cX5_name 10 = .ok (.aload_n 0, 1) := by decide +kernel
theorem dX5_name_11 : decode cX5_name 11 = .ok (.getfield 23, 3) := by decide +kernel
theorem dX5_name_14 : decode cX5_name 14 = .ok (.getfield 70, 3) := by decide +kernel
theorem dX5_name_17 : decode cX5_name 17 = .ok (.bipush 25, 2) := by decide +kernel
theorem dX5_name_19 : decode cX5_name 19 = .ok (.if_icmp .ge 7, 3) := by decide +kernel
theorem dX5_name_22 : decode cX5_name 22 = .ok (.iconst 1, 1) := by decide +kernel
theorem dX5_name_23 : decode cX5_name 23 = .ok (.goto 4, 3) := by decide +kernel
theorem dX5_name_26 : decode cX5_name 26 = .ok (.iconst 0, 1) := by decide +kernel
theorem dX5_name_27 : decode cX5_name 27 = .ok (.istore_n 2, 1) := by decide +kernel
theorem dX5_name_28 : decode cX5_name 28 = .ok (.aload_n 0, 1) := by decide +kernel
theorem dX5_name_29 : decode cX5_name 29 = .ok (.getfield 23, 3) := by decide +kernel
theorem dX5_name_32 : decode cX5_name 32 = .ok (.getfield 46, 3) := by decide +kernel
theorem dX5_name_35 : decode cX5_name 35 = .ok (.iconst 1, 1) := by decide +kernel
theorem dX5_name_36 : decode cX5_name 36 = .ok (.if_icmp .ne 7, 3) := by decide +kernel
theorem dX5_name_39 : decode cX5_name 39 = .ok (.iload_n 2, 1) := by decide +kernel
theorem dX5_name_40 : decode cX5_name 40 = .ok (.ifCond .eq 16, 3) := by decide +kernel
theorem dX5_name_43 : decode cX5_name 43 = .ok (.aload_n 0, 1) := by decide +kernel
theorem dX5_name_44 : decode cX5_name 44 = .ok (.iconst 1, 1) := by decide +kernel
theorem dX5_name_45 : decode cX5_name 45 = .ok (.aload_n 0, 1) := by decide +kernel
theorem dX5_name_46 : decode cX5_name 46 = .ok (.getfield 23, 3) := by decide +kernel
theorem dX5_name_49 : decode cX5_name 49 = .ok (.getfield 60, 3) := by decide +kernel
theorem dX5_name_52 : decode cX5_name 52 = .ok (.invokevirtual 63, 3) := by decide +kernel
theorem dX5_name_55 : decode cX5_name 55 = .ok (.ireturn, 1) := by decide +kernel
theorem dX5_name_56 : decode cX5_name 56 = .ok (.aload_n 0, 1) := by decide +kernel
theorem dX5_name_57 : decode cX5_name 57 = .ok (.getfield 23, 3) := by decide +kernel
theorem dX5_name_60 : decode cX5_name 60 = .ok (.getfield 113, 3) := by decide +kernel
theorem dX5_name_63 : decode cX5_name 63 = .ok (.aload_n 0, 1) := by decide +kernel
theorem dX5_name_64 : decode cX5_name 64 = .ok (.getfield 23, 3) := by decide +kernel
theorem dX5_name_67 : decode cX5_name 67 = .ok (.getfield 60, 3) := by decide +kernel
theorem dX5_name_70 : decode cX5_name 70 = .ok (.isub, 1) := by decide +kernel
theorem dX5_name_71 : decode cX5_name 71 = .ok (.istore_n 3, 1) := by decide +kernel
theorem dX5_name_72 : decode cX5_name 72 = .ok (.iload_n 3, 1) := by decide +kernel
theorem dX5_name_73 : decode cX5_name 73 = .ok (.bipush 6, 2) := by decide +kernel
theorem dX5_name_75 : decode cX5_name 75 = .ok (.if_icmp .le 19, 3) := by decide +kernel
theorem dX5_name_78 : decode cX5_name 78 = .ok (.aload_n 0, 1) := by decide +kernel
theorem dX5_name_79 : decode cX5_name 79 = .ok (.iconst 1, 1) := by decide +kernel
theorem dX5_name_80 : decode cX5_name 80 = .ok (.aload_n 0, 1) := by decide +kernel
theorem dX5_name_81 : decode cX5_name 81 = .ok (.getfield 23, 3) := by decide +kernel
theorem dX5_name_84 : decode cX5_name 84 = .ok (.getfield 60, 3) := by decide +kernel
theorem dX5_name_87 : decode cX5_name 87 = .ok (.bipush 6, 2) := by decide +kernel
theorem dX5_name_89 : decode cX5_name 89 = .ok (.iadd, 1) := by decide +kernel
theorem dX5_name_90 : decode cX5_name 90 = .ok (.invokevirtual 63, 3) := by decide +kernel
theorem dX5_name_93 : decode cX5_name 93 = .ok (.ireturn, 1) := by decide +kernel
theorem dX5_name_94 : decode cX5_name 94 = .ok (.aload_n 1, 1) := by decide +kernel
theorem dX5_name_95 : decode cX5_name 95 = .ok (.aload_n 1, 1) := by decide +kernel
theorem dX5_name_96 : decode cX5_name 96 = .ok (.getfield 103, 3) := by decide +kernel
theorem dX5_name_99 : decode cX5_name 99 = .ok (.aload_n 0, 1) := by decide +kernel
theorem dX5_name_100 : decode cX5_name 100 = .ok (.getfield 23, 3) := by decide +kernel
theorem dX5_name_103 : decode cX5_name 103 = .ok (.getfield 116, 3) := by decide +kernel
theorem dX5_name_106 : decode cX5_name 106 = .ok (.aload_n 0, 1) := by decide +kernel
theorem dX5_name_107 : decode cX5_name 107 = .ok (.getfield 23, 3) := by decide +kernel
theorem dX5_name_110 : decode cX5_name 110 = .ok (.getfield 60, 3) := by decide +kernel
theorem dX5_name_113 : decode cX5_name 113 = .ok (.iload_n 3, 1) := by decide +kernel
theorem dX5_name_114 : decode cX5_name 114 = .ok (.invokevirtual 120, 3) := by decide +kernel
theorem dX5_name_117 : decode cX5_name 117 = .ok (.aload_n 1, 1) := by decide +kernel
theorem dX5_name_118 : decode cX5_name 118 = .ok (.aload_n 1, 1) := by decide +kernel
theorem dX5_name_119 : decode cX5_name 119 = .ok (.getfield 103, 3) := by decide +kernel
theorem dX5_name_122 : decode cX5_name 122 = .ok (.invokevirtual 124, 3) := by decide +kernel
theorem dX5_name_125 : decode cX5_name 125 = .ok (.ifCond .eq 16, 3) := by decide +kernel
theorem dX5_name_128 : decode cX5_name 128 = .ok (.aload_n 0, 1) := by decide +kernel
theorem dX5_name_129 : decode cX5_name 129 = .ok (.iconst 3, 1) := by decide +kernel
theorem dX5_name_130 : decode cX5_name 130 = .ok (.aload_n 0, 1) := by decide +kernel
theorem dX5_name_131 : decode cX5_name 131 = .ok (.getfield 23, 3) := by decide +kernel
theorem dX5_name_134 : decode cX5_name 134 = .ok (.getfield 60, 3) := by decide +kernel
theorem dX5_name_137 : decode cX5_name 137 = .ok (.invokevirtual 63, 3) := by decide +kernel
theorem dX5_name_140 : decode cX5_name 140 = .ok (.ireturn, 1) := by decide +kernel
theorem dX5_name_141 : decode cX5_name 141 = .ok (.aload_n 0, 1) := by decide +kernel
theorem dX5_name_142 : decode cX5_name 142 = .ok (.getfield 23, 3) := by decide +kernel
theorem dX5_name_145 : decode cX5_name 145 = .ok (.invokevirtual 97, 3) := by decide +kernel
theorem dX5_name_148 : decode cX5_name 148 = .ok (.iconst 1, 1) := by decide +kernel
theorem dX5_name_149 : decode cX5_name 149 = .ok (.ireturn, 1) := by decide +kernel
theorem dX5_begins_0 : decode cX5_begins 0 = .ok (.aload_n 0, 1) := by decide +kernel
theorem dX5_begins_1 : decode cX5_begins 1 = .ok (.getfield 30, 3) := by decide +kernel
theorem dX5_begins_4 : decode cX5_begins 4 = .ok (.iload_n 1, 1) := by decide +kernel
theorem dX5_begins_5 : decode cX5_begins 5 = .ok (.invokevirtual 127, 3) := by decide +kernel
theorem dX5_begins_8 : decode cX5_begins 8 = .ok (.ifCond .eq 16, 3) := by decide +kernel
theorem dX5_begins_11 : decode cX5_begins 11 = .ok (.aload_n 0, 1) := by decide +kernel
theorem dX5_begins_12 : decode cX5_begins 12 = .ok (.iconst 5, 1) := by decide +kernel
theorem dX5_begins_13 : decode cX5_begins 13 = .ok (.aload_n 0, 1) := by decide +kernel
theorem dX5_begins_14 : decode cX5_begins 14 = .ok (.getfield 23, 3) := by decide +kernel
theorem dX5_begins_17 : decode cX5_begins 17 = .ok (.getfield 60, 3) := by decide +kernel
theorem dX5_begins_20 : decode cX5_begins 20 = .ok (.invokevirtual 63, 3) := by decide +kernel
theorem dX5_begins_23 : decode cX5_begins 23 = .ok (.ireturn, 1) := by decide +kernel
theorem dX5_begins_24 : decode cX5_begins 24 = .ok (.aload_n 0, 1) := by decide +kernel
theorem dX5_begins_25 : decode cX5_begins 25 = .ok (.getfield 23, 3) := by decide +kernel
theorem dX5_begins_28 : decode cX5_begins 28 = .ok (.invokevirtual 97, 3) := by decide +kernel
theorem dX5_begins_31 : decode cX5_begins 31 = .ok (.aload_n 0, 1) := by decide +kernel
theorem dX5_begins_32 : decode cX5_begins 32 = .ok (.iload_n 2, 1) := by decide +kernel
theorem dX5_begins_33 : decode cX5_begins 33 = .ok (.putfield 27, 3) := by decide +kernel
theorem dX5_begins_36 : decode cX5_begins 36 = .ok (.aload_n 0, 1) := by decide +kernel
theorem dX5_begins_37 : decode cX5_begins 37 = .ok (.getfield 30, 3) := by decide +kernel
theorem dX5_begins_40 : decode cX5_begins 40 = .ok (.iload_n 1, 1) := by decide +kernel
theorem dX5_begins_41 : decode cX5_begins 41 = .ok (.invokevirtual 130, 3) := by decide +kernel
theorem dX5_begins_44 : decode cX5_begins 44 = .ok (.iconst 1, 1) := by decide +kernel
theorem dX5_begins_45 : decode cX5_begins 45 = .ok (.ireturn, 1) := by decide +kernel
theorem dX5_ends_0 : decode cX5_ends 0 = .ok (.aload_n 0, 1) := by decide +kernel
theorem dX5_ends_1 : decode cX5_ends 1 = .ok (.getfield 30, 3) := by decide +kernel
theorem dX5_ends_4 : decode cX5_ends 4 = .ok (.iload_n 1, 1) := by decide +kernel
theorem dX5_ends_5 : decode cX5_ends 5 = .ok (.invokevirtual 134, 3) := by decide +kernel
theorem dX5_ends_8 : decode cX5_ends 8 = .ok (.iconst 1, 1) := by decide +kernel
theorem dX5_ends_9 : decode cX5_ends 9 = .ok (.ireturn, 1) := by decide +kernel
theorem dX5_readQuestion_0 : decode cX5_readQuestion 0 = .ok (.aload_n 0, 1) := by decide +kernel
theorem dX5_readQuestion_1 : decode cX5_readQuestion 1 = .ok (.aload_n 1, 1) := by decide +kernel
theorem dX5_readQuestion_2 : decode cX5_readQuestion 2 = .ok (.iload_n 2, 1) := by decide +kernel
theorem dX5_readQuestion_3 : decode cX5_readQuestion 3 = .ok (.aload_n 3, 1) := by decide +kernel
theorem dX5_readQuestion_4 : decode cX5_readQuestion 4 = .ok (.invokevirtual 43, 3) := by decide +kernel
theorem dX5_readQuestion_7 : decode cX5_readQuestion 7 = .ok (.aload_n 0, 1) := by decide +kernel
theorem dX5_readQuestion_8 : decode cX5_readQuestion 8 = .ok (.getfield 23, 3) := by decide +kernel
theorem dX5_readQuestion_11 : decode cX5_readQuestion 11 = .ok (.getfield 46, 3) := by decide +kernel
theorem dX5_readQuestion_14 : decode cX5_readQuestion 14 = .ok (.iconst 1, 1) := by decide +kernel
theorem dX5_readQuestion_15 : decode cX5_readQuestion 15 = .ok (.if_icmp .ne 13, 3) := by decide +kernel
theorem dX5_readQuestion_18 : decode cX5_readQuestion 18 = .ok (.aload_n 0, 1) := by decide +kernel
theorem dX5_readQuestion_19 : decode cX5_readQuestion 19 = .ok (.getfield 23, 3) := by decide +kernel
theorem dX5_readQuestion_22 : decode cX5_readQuestion 22 = .ok (.getfield 70, 3) := by decide +kernel
theorem dX5_readQuestion_25 : decode cX5_readQuestion 25 = .ok (.goto 4, 3) := by decide +kernel
theorem dX5_readQuestion_28 : decode cX5_readQuestion 28 = .ok (.iconst (-1), 1) := by decide +kernel
theorem dX5_readQuestion_29 : decode cX5_readQuestion 29 = .ok (.istore 4, 2) := by decide +kernel
theorem dX5_readQuestion_31 : decode cX5_readQuestion 31 = .ok (.iload 4, 2) := by decide +kernel
theorem dX5_readQuestion_33 : decode cX5_readQuestion 33 = .ok (.bipush 25, 2) := by decide +kernel
theorem dX5_readQuestion_35 : decode cX5_readQuestion 35 = .ok (.if_icmp .ge 18, 3) := by decide +kernel
theorem dX5_readQuestion_38 : decode cX5_readQuestion 38 = .ok (.aload_n 0, 1) := by decide +kernel
theorem dX5_readQuestion_39 : decode cX5_readQuestion 39 = .ok (.iconst 1, 1) := by decide +kernel
theorem dX5_readQuestion_40 : decode cX5_readQuestion 40 = .ok (.aload_n 0, 1) := by decide +kernel
theorem dX5_readQuestion_41 : decode cX5_readQuestion 41 = .ok (.getfield 23, 3) := by decide +kernel
theorem dX5_readQuestion_44 : decode cX5_readQuestion 44 = .ok (.getfield 60, 3) := by decide +kernel
theorem dX5_readQuestion_47 : decode cX5_readQuestion 47 = .ok (.invokevirtual 63, 3) := by decide +kernel
theorem dX5_readQuestion_50 : decode cX5_readQuestion 50 = .ok (.pop, 1) := by decide +kernel
theorem dX5_readQuestion_51 : decode cX5_readQuestion 51 = .ok (.iconst (-1), 1) := by decide +kernel
theorem dX5_readQuestion_52 : decode cX5_readQuestion 52 = .ok (.ireturn, 1) := by decide +kernel
theorem dX5_readQuestion_53 : decode cX5_readQuestion 53 = .ok (.aload_n 0, 1) := by decide +kernel
theorem dX5_readQuestion_54 : decode cX5_readQuestion 54 = .ok (.iconst 0, 1) := by decide +kernel
theorem dX5_readQuestion_55 : decode cX5_readQuestion 55 = .ok (.ldc 137, 2) := by decide +kernel
theorem dX5_readQuestion_57 : decode cX5_readQuestion 57 = .ok (.invokevirtual 76, 3) := by decide +kernel
theorem dX5_readQuestion_60 : decode cX5_readQuestion 60 = .ok (.ifCond .eq 41, 3) := by decide +kernel
theorem dX5_readQuestion_63 : decode cX5_readQuestion 63 = .ok (.iload 4, 2) := by decide +kernel
theorem dX5_readQuestion_65 : decode cX5_readQuestion 65 = .ok (.bipush 27, 2) := by decide +kernel
theorem dX5_readQuestion_67 : decode cX5_readQuestion 67 = .ok (.if_icmp .gt 14, 3) := by decide +kernel
theorem dX5_readQuestion_70 : decode cX5_readQuestion 70 = .ok (.aload_n 0, 1) := by decide +kernel
theorem dX5_readQuestion_71 : decode cX5_readQuestion 71 = .ok (.iconst 0, 1) := by decide +kernel
theorem dX5_readQuestion_72 : decode cX5_readQuestion 72 = .ok (.invokevirtual 85, 3) := by decide +kernel
theorem dX5_readQuestion_75 : decode cX5_readQuestion 75 = .ok (.ifCond .eq 26, 3) := by decide +kernel
theorem dX5_readQuestion_78 : decode cX5_readQuestion 78 = .ok (.goto 11, 3) := by decide +kernel
theorem dX5_readQuestion_81 : decode cX5_readQuestion 81 = .ok (.aload_n 0, 1) := by decide +kernel
theorem dX5_readQuestion_82 : decode cX5_readQuestion 82 = .ok (.iconst 0, 1) := by decide +kernel
theorem dX5_readQuestion_83 : decode cX5_readQuestion 83 = .ok (.invokevirtual 79, 3) := by decide +kernel
theorem dX5_readQuestion_86 : decode cX5_readQuestion 86 = .ok (.ifCond .eq 15, 3) := by decide +kernel
theorem dX5_readQuestion_89 : decode cX5_readQuestion 89 = .ok (.aload_n 0, 1) := by decide +kernel
theorem dX5_readQuestion_90 : decode cX5_readQuestion 90 = .ok (.iconst 0, 1) := by decide +kernel
theorem dX5_readQuestion_91 : decode cX5_readQuestion 91 = .ok (.invokevirtual 82, 3) := by decide +kernel
theorem dX5_readQuestion_94 : decode cX5_readQuestion 94 = .ok (.ifCond .eq 7, 3) := by decide +kernel
theorem dX5_readQuestion_97 : decode cX5_readQuestion 97 = .ok (.iconst 1, 1) := by decide +kernel
theorem dX5_readQuestion_98 : decode cX5_readQuestion 98 = .ok (.goto 4, 3) := by decide +kernel
theorem dX5_readQuestion_101 : decode cX5_readQuestion 101 = .ok (.iconst 0, 1) := by decide +kernel
theorem dX5_readQuestion_102 : decode cX5_readQuestion 102 = .ok (.istore 5, 2) := by decide +kernel
theorem dX5_readQuestion_104 : decode cX5_readQuestion 104 = .ok (.iload 5, 2) := by decide +kernel
theorem dX5_readQuestion_106 : decode cX5_readQuestion 106 = .ok (.ifCond .eq 27, 3) := by decide +kernel
theorem dX5_readQuestion_109 : decode cX5_readQuestion 109 = .ok (.aload_n 0, 1) := by decide +kernel
theorem dX5_readQuestion_110 : decode cX5_readQuestion 110 = .ok (.getfield 23, 3) := by decide +kernel
theorem dX5_readQuestion_113 : decode cX5_readQuestion 113 = .ok (.getfield 46, 3) := by decide +kernel
theorem dX5_readQuestion_116 : decode cX5_readQuestion 116 = .ok (.ifCond .eq 17, 3) := by decide +kernel
theorem dX5_readQuestion_119 : decode cX5_readQuestion 119 = .ok (.aload_n 0, 1) := by decide +kernel
theorem dX5_readQuestion_120 : decode cX5_readQuestion 120 = .ok (.iconst 1, 1) := by decide +kernel
theorem dX5_readQuestion_121 : decode cX5_readQuestion 121 = .ok (.aload_n 0, 1) := by decide +kernel
theorem dX5_readQuestion_122 : decode cX5_readQuestion 122 = .ok (.getfield 23, 3) := by decide +kernel
theorem dX5_readQuestion_125 : decode cX5_readQuestion 125 = .ok (.getfield 60, 3) := by decide +kernel
theorem dX5_readQuestion_128 : decode cX5_readQuestion 128 = .ok (.invokevirtual 63, 3) := by decide +kernel
theorem dX5_readQuestion_131 : decode cX5_readQuestion 131 = .ok (.istore 5, 2) := by decide +kernel
theorem dX5_readQuestion_133 : decode cX5_readQuestion 133 = .ok (.iload 5, 2) := by decide +kernel
theorem dX5_readQuestion_135 : decode cX5_readQuestion 135 = .ok (.ifCond .eq 8, 3) := by decide +kernel
theorem dX5_readQuestion_138 : decode cX5_readQuestion 138 = .ok (.iload 4, 2) := by decide +kernel
theorem dX5_readQuestion_140 : decode cX5_readQuestion 140 = .ok (.goto 4, 3) := by decide +kernel
theorem dX5_readQuestion_143 : decode cX5_readQuestion 143 = .ok (.iconst (-1), 1) := by decide +kernel
theorem dX5_readQuestion_144 : decode cX5_readQuestion 144 = .ok (.ireturn, 1) := by decide +kernel
theorem dX5_word_0 : decode cX5_word 0 = .ok (.aload_n 0, 1) := by decide +kernel
theorem dX5_word_1 : decode cX5_word 1 = .ok (.getfield 23, 3) := by decide +kernel
theorem dX5_word_4 : decode cX5_word 4 = .ok (.iload_n 1, 1) := by decide +kernel
theorem dX5_word_5 : decode cX5_word 5 = .ok (.invokevirtual 138, 3) := by decide +kernel
theorem dX5_word_8 : decode cX5_word 8 = .ok (.ifCond .ne 16, 3) := by decide +kernel
theorem dX5_word_11 : decode cX5_word 11 = .ok (.aload_n 0, 1) := by decide +kernel
theorem dX5_word_12 : decode cX5_word 12 = .ok (.iconst 1, 1) := by decide +kernel
theorem dX5_word_13 : decode cX5_word 13 = .ok (.aload_n 0, 1) := by decide +kernel
theorem dX5_word_14 : decode cX5_word 14 = .ok (.getfield 23, 3) := by decide +kernel
theorem dX5_word_17 : decode cX5_word 17 = .ok (.getfield 60, 3) := by decide +kernel
theorem dX5_word_20 : decode cX5_word 20 = .ok (.invokevirtual 63, 3) := by decide +kernel
theorem dX5_word_23 : decode cX5_word 23 = .ok (.ireturn, 1) := by decide +kernel
theorem dX5_word_24 : decode cX5_word 24 = .ok (.aload_n 0, 1) := by decide +kernel
theorem dX5_word_25 : decode cX5_word 25 = .ok (.getfield 23, 3) := by decide +kernel
theorem dX5_word_28 : decode cX5_word 28 = .ok (.invokevirtual 97, 3) := by decide +kernel
theorem dX5_word_31 : decode cX5_word 31 = .ok (.iconst 1, 1) := by decide +kernel
theorem dX5_word_32 : decode cX5_word 32 = .ok (.ireturn, 1) := by decide +kernel
theorem dX5_sign_0 : decode cX5_sign 0 = .ok (.aload_n 0, 1) := by decide +kernel
theorem dX5_sign_1 : decode cX5_sign 1 = .ok (.getfield 23, 3) := by decide +kernel
theorem dX5_sign_4 : decode cX5_sign 4 = .ok (.iload_n 1, 1) := by decide +kernel
theorem dX5_sign_5 : decode cX5_sign 5 = .ok (.invokevirtual 141, 3) := by decide +kernel
theorem dX5_sign_8 : decode cX5_sign 8 = .ok (.ifCond .ne 16, 3) := by decide +kernel
theorem dX5_sign_11 : decode cX5_sign 11 = .ok (.aload_n 0, 1) := by decide +kernel
theorem dX5_sign_12 : decode cX5_sign 12 = .ok (.iconst 1, 1) := by decide +kernel
theorem dX5_sign_13 : decode cX5_sign 13 = .ok (.aload_n 0, 1) := by decide +kernel
theorem dX5_sign_14 : decode cX5_sign 14 = .ok (.getfield 23, 3) := by decide +kernel
theorem dX5_sign_17 : decode cX5_sign 17 = .ok (.getfield 60, 3) := by decide +kernel
theorem dX5_sign_20 : decode cX5_sign 20 = .ok (.invokevirtual 63, 3) := by decide +kernel
theorem dX5_sign_23 : decode cX5_sign 23 = .ok (.ireturn, 1) := by decide +kernel
theorem dX5_sign_24 : decode cX5_sign 24 = .ok (.aload_n 0, 1) := by decide +kernel
theorem dX5_sign_25 : decode cX5_sign 25 = .ok (.getfield 23, 3) := by decide +kernel
theorem dX5_sign_28 : decode cX5_sign 28 = .ok (.invokevirtual 97, 3) := by decide +kernel
theorem dX5_sign_31 : decode cX5_sign 31 = .ok (.iconst 1, 1) := by decide +kernel
theorem dX5_sign_32 : decode cX5_sign 32 = .ok (.ireturn, 1) := by decide +kernel
theorem dX5_number_0 : decode cX5_number 0 = .ok (.aload_n 0, 1) := by decide +kernel
theorem dX5_number_1 : decode cX5_number 1 = .ok (.getfield 23, 3) := by decide +kernel
theorem dX5_number_4 : decode cX5_number 4 = .ok (.getfield 46, 3) := by decide +kernel
theorem dX5_number_7 : decode cX5_number 7 = .ok (.iconst 2, 1) := by decide +kernel
theorem dX5_number_8 : decode cX5_number 8 = .ok (.if_icmp .eq 16, 3) := by decide +kernel
theorem dX5_number_11 : decode cX5_number 11 = .ok (.aload_n 0, 1) := by decide +kernel
theorem dX5_number_12 : decode cX5_number 12 = .ok (.iconst 1, 1) := by decide +kernel
theorem dX5_number_13 : decode cX5_number 13 = .ok (.aload_n 0, 1) := by decide +kernel
theorem dX5_number_14 : decode cX5_number 14 = .ok (.getfield 23, 3) := by decide +kernel
theorem dX5_number_17 : decode cX5_number 17 = .ok (.getfield 60, 3) := by decide +kernel
theorem dX5_number_20 : decode cX5_number 20 = .ok (.invokevirtual 63, 3) := by decide +kernel
theorem dX5_number_23 : decode cX5_number 23 = .ok (.ireturn, 1) := by decide +kernel
theorem dX5_number_24 : decode cX5_number 24 = .ok (.aload_n 0, 1) := by decide +kernel
theorem dX5_number_25 : decode cX5_number 25 = .ok (.getfield 23, 3) := by decide +kernel
theorem dX5_number_28 : decode cX5_number 28 = .ok (.invokevirtual 144, 3) := by decide +kernel
theorem dX5_number_31 : decode cX5_number 31 = .ok (.ifCond .eq 18, 3) := by decide +kernel
theorem dX5_number_34 : decode cX5_number 34 = .ok (.aload_n 0, 1) := by decide +kernel
theorem dX5_number_35 : decode cX5_number 35 = .ok (.iconst 1, 1) := by decide +kernel
theorem dX5_number_36 : decode cX5_number 36 = .ok (.aload_n 0, 1) := by decide +kernel
theorem dX5_number_37 : decode cX5_number 37 = .ok (.getfield 23, 3) := by decide +kernel
theorem dX5_number_40 : decode cX5_number 40 = .ok (.getfield 60, 3) := by decide +kernel
theorem dX5_number_43 : decode cX5_number 43 = .ok (.iconst 4, 1) := by decide +kernel
theorem dX5_number_44 : decode cX5_number 44 = .ok (.iadd, 1) := by decide +kernel
theorem dX5_number_45 : decode cX5_number 45 = .ok (.invokevirtual 63, 3) := by decide +kernel
theorem dX5_number_48 : decode cX5_number 48 = .ok (.ireturn, 1) := by decide +kernel
theorem dX5_number_49 : decode cX5_number 49 = .ok (.aload_n 0, 1) := by decide +kernel
theorem dX5_number_50 : decode cX5_number 50 = .ok (.getfield 23, 3) := by decide +kernel
theorem dX5_number_53 : decode cX5_number 53 = .ok (.getfield 70, 3) := by decide +kernel
theorem dX5_number_56 : decode cX5_number 56 = .ok (.iload_n 1, 1) := by decide +kernel
theorem dX5_number_57 : decode cX5_number 57 = .ok (.if_icmp .lt 14, 3) := by decide +kernel
theorem dX5_number_60 : decode cX5_number 60 = .ok (.aload_n 0, 1) := by decide +kernel
theorem dX5_number_61 : decode cX5_number 61 = .ok (.getfield 23, 3) := by decide +kernel
theorem dX5_number_64 : decode cX5_number 64 = .ok (.getfield 70, 3) := by decide +kernel
theorem dX5_number_67 : decode cX5_number 67 = .ok (.iload_n 2, 1) := by decide +kernel
theorem dX5_number_68 : decode cX5_number 68 = .ok (.if_icmp .le 18, 3) := by decide +kernel
theorem dX5_number_71 : decode cX5_number 71 = .ok (.aload_n 0, 1) := by decide +kernel
theorem dX5_number_72 : decode cX5_number 72 = .ok (.iconst 2, 1) := by decide +kernel
theorem dX5_number_73 : decode cX5_number 73 = .ok (.aload_n 0, 1) := by decide +kernel
theorem dX5_number_74 : decode cX5_number 74 = .ok (.getfield 23, 3) := by decide +kernel
theorem dX5_number_77 : decode cX5_number 77 = .ok (.getfield 60, 3) := by decide +kernel
theorem dX5_number_80 : decode cX5_number 80 = .ok (.invokevirtual 63, 3) := by decide +kernel
theorem dX5_number_83 : decode cX5_number 83 = .ok (.ifCond .eq 7, 3) := by decide +kernel
theorem dX5_number_86 : decode cX5_number 86 = .ok (.iconst 1, 1) := by decide +kernel
theorem dX5_number_87 : decode cX5_number 87 = .ok (.goto 4, 3) := by decide +kernel
theorem dX5_number_90 : decode cX5_number 90 = .ok (.iconst 0, 1) := by decide +kernel
theorem dX5_number_91 : decode cX5_number 91 = .ok (.ireturn, 1) := by decide +kernel
theorem dX5_opening_0 : decode cX5_opening 0 = .ok (.iload_n 1, 1) := by decide +kernel
theorem dX5_opening_1 : decode cX5_opening 1 = .ok (.bipush 6, 2) := by decide +kernel
theorem dX5_opening_3 : decode cX5_opening 3 = .ok (.if_icmp .lt 16, 3) := by decide +kernel
theorem dX5_opening_6 : decode cX5_opening 6 = .ok (.aload_n 0, 1) := by decide +kernel
theorem dX5_opening_7 : decode cX5_opening 7 = .ok (.iconst 4, 1) := by decide +kernel
theorem dX5_opening_8 : decode cX5_opening 8 = .ok (.aload_n 0, 1) := by decide +kernel
theorem dX5_opening_9 : decode cX5_opening 9 = .ok (.getfield 23, 3) := by decide +kernel
theorem dX5_opening_12 : decode cX5_opening 12 = .ok (.getfield 60, 3) := by decide +kernel
theorem dX5_opening_15 : decode cX5_opening 15 = .ok (.invokevirtual 63, 3) := by decide +kernel
theorem dX5_opening_18 : decode cX5_opening 18 = .ok (.ireturn, 1) := by decide +kernel
theorem dX5_opening_19 : decode cX5_opening 19 = .ok (.aload_n 0, 1) := by decide +kernel
theorem dX5_opening_20 : decode cX5_opening 20 = .ok (.getfield 23, 3) := by decide +kernel
theorem dX5_opening_23 : decode cX5_opening 23 = .ok (.invokevirtual 97, 3) := by decide +kernel
theorem dX5_opening_26 : decode cX5_opening 26 = .ok (.iconst 1, 1) := by decide +kernel
theorem dX5_opening_27 : decode cX5_opening 27 = .ok (.ireturn, 1) := by decide +kernel
theorem dX5_test_0 : decode cX5_test 0 = .ok (.aload_n 0, 1) := by decide +kernel
theorem dX5_test_1 : decode cX5_test 1 = .ok (.iload_n 1, 1) := by decide +kernel
theorem dX5_test_2 : decode cX5_test 2 = .ok (.invokevirtual 148, 3) := by decide +kernel
theorem dX5_test_5 : decode cX5_test 5 = .ok (.ifCond .ne 5, 3) := by decide +kernel
theorem dX5_test_8 : decode cX5_test 8 = .ok (.iconst 0, 1) := by decide +kernel
theorem dX5_test_9 : decode cX5_test 9 = .ok (.ireturn, 1) := by decide +kernel
theorem dX5_test_10 : decode cX5_test 10 = .ok (.iconst 0, 1) := by decide +kernel
theorem dX5_test_11 : decode cX5_test 11 = .ok (.istore_n 2, 1) := by decide +kernel
theorem dX5_test_12 : decode cX5_test 12 = .ok (.iload_n 2, 1) := by decide +kernel
theorem dX5_test_13 : decode cX5_test 13 = .ok (.sipush 1600, 3) := by decide +kernel
theorem dX5_test_16 : decode cX5_test 16 = .ok (.if_icmp .ge 47, 3) := by decide +kernel
theorem dX5_test_19 : decode cX5_test 19 = .ok (.aload_n 0, 1) := by decide +kernel
theorem dX5_test_20 : decode cX5_test 20 = .ok (.getfield 23, 3) := by decide +kernel
theorem dX5_test_23 : decode cX5_test 23 = .ok (.bipush 19, 2) := by decide +kernel
theorem dX5_test_25 : decode cX5_test 25 = .ok (.invokevirtual 138, 3) := by decide +kernel
theorem dX5_test_28 : decode cX5_test 28 = .ok (.ifCond .eq 35, 3) := by decide +kernel
theorem dX5_test_31 : decode cX5_test 31 = .ok (.aload_n 0, 1) := by decide +kernel
theorem dX5_test_32 : decode cX5_test 32 = .ok (.getfield 23, 3) := by decide +kernel
theorem dX5_test_35 : decode cX5_test 35 = .ok (.invokevirtual 97, 3) := by decide +kernel
theorem dX5_test_38 : decode cX5_test 38 = .ok (.aload_n 0, 1) := by decide +kernel
theorem dX5_test_39 : decode cX5_test 39 = .ok (.iload_n 1, 1) := by decide +kernel
theorem dX5_test_40 : decode cX5_test 40 = .ok (.invokevirtual 148, 3) := by decide +kernel
theorem dX5_test_43 : decode cX5_test 43 = .ok (.ifCond .ne 5, 3) := by decide +kernel
theorem dX5_test_46 : decode cX5_test 46 = .ok (.iconst 0, 1) := by decide +kernel
theorem dX5_test_47 : decode cX5_test 47 = .ok (.ireturn, 1) := by decide +kernel
theorem dX5_test_48 : decode cX5_test 48 = .ok (.aload_n 0, 1) := by decide +kernel
theorem dX5_test_49 : decode cX5_test 49 = .ok (.getfield 30, 3) := by decide +kernel
theorem dX5_test_52 : decode cX5_test 52 = .ok (.bipush 19, 2) := by decide +kernel
theorem dX5_test_54 : decode cX5_test 54 = .ok (.invokevirtual 151, 3) := by decide +kernel
theorem dX5_test_57 : decode cX5_test 57 = .ok (.iinc 2 1, 3) := by decide +kernel
theorem dX5_test_60 : decode cX5_test 60 = .ok (.goto (-48), 3) := by decide +kernel
theorem dX5_test_63 : decode cX5_test 63 = .ok (.iconst 1, 1) := by decide +kernel
theorem dX5_test_64 : decode cX5_test 64 = .ok (.ireturn, 1) := by decide +kernel
theorem dX5_both_0 : decode cX5_both 0 = .ok (.aload_n 0, 1) := by decide +kernel
theorem dX5_both_1 : decode cX5_both 1 = .ok (.iload_n 1, 1) := by decide +kernel
theorem dX5_both_2 : decode cX5_both 2 = .ok (.invokevirtual 154, 3) := by decide +kernel
theorem dX5_both_5 : decode cX5_both 5 = .ok (.ifCond .ne 5, 3) := by decide +kernel
theorem dX5_both_8 : decode cX5_both 8 = .ok (.iconst 0, 1) := by decide +kernel
theorem dX5_both_9 : decode cX5_both 9 = .ok (.ireturn, 1) := by decide +kernel
theorem dX5_both_10 : decode cX5_both 10 = .ok (.iconst 0, 1) := by decide +kernel
theorem dX5_both_11 : decode cX5_both 11 = .ok (.istore_n 2, 1) := by decide +kernel
theorem dX5_both_12 : decode cX5_both 12 = .ok (.iload_n 2, 1) := by decide +kernel
theorem dX5_both_13 : decode cX5_both 13 = .ok (.sipush 1600, 3) := by decide +kernel
theorem dX5_both_16 : decode cX5_both 16 = .ok (.if_icmp .ge 47, 3) := by decide +kernel
theorem dX5_both_19 : decode cX5_both 19 = .ok (.aload_n 0, 1) := by decide +kernel
theorem dX5_both_20 : decode cX5_both 20 = .ok (.getfield 23, 3) := by decide +kernel
theorem dX5_both_23 : decode cX5_both 23 = .ok (.bipush 20, 2) := by decide +kernel
theorem dX5_both_25 : decode cX5_both 25 = .ok (.invokevirtual 138, 3) := by decide +kernel
theorem dX5_both_28 : decode cX5_both 28 = .ok (.ifCond .eq 35, 3) := by decide +kernel
theorem dX5_both_31 : decode cX5_both 31 = .ok (.aload_n 0, 1) := by decide +kernel
theorem dX5_both_32 : decode cX5_both 32 = .ok (.getfield 23, 3) := by decide +kernel
theorem dX5_both_35 : decode cX5_both 35 = .ok (.invokevirtual 97, 3) := by decide +kernel
theorem dX5_both_38 : decode cX5_both 38 = .ok (.aload_n 0, 1) := by decide +kernel
theorem dX5_both_39 : decode cX5_both 39 = .ok (.iload_n 1, 1) := by decide +kernel
theorem dX5_both_40 : decode cX5_both 40 = .ok (.invokevirtual 154, 3) := by decide +kernel
theorem dX5_both_43 : decode cX5_both 43 = .ok (.ifCond .ne 5, 3) := by decide +kernel
theorem dX5_both_46 : decode cX5_both 46 = .ok (.iconst 0, 1) := by decide +kernel
theorem dX5_both_47 : decode cX5_both 47 = .ok (.ireturn, 1) := by decide +kernel
theorem dX5_both_48 : decode cX5_both 48 = .ok (.aload_n 0, 1) := by decide +kernel
theorem dX5_both_49 : decode cX5_both 49 = .ok (.getfield 30, 3) := by decide +kernel
theorem dX5_both_52 : decode cX5_both 52 = .ok (.bipush 20, 2) := by decide +kernel
theorem dX5_both_54 : decode cX5_both 54 = .ok (.invokevirtual 151, 3) := by decide +kernel
theorem dX5_both_57 : decode cX5_both 57 = .ok (.iinc 2 1, 3) := by decide +kernel
theorem dX5_both_60 : decode cX5_both 60 = .ok (.goto (-48), 3) := by decide +kernel
theorem dX5_both_63 : decode cX5_both 63 = .ok (.iconst 1, 1) := by decide +kernel
theorem dX5_both_64 : decode cX5_both 64 = .ok (.ireturn, 1) := by decide +kernel
theorem dX5_fact_0 : decode cX5_fact 0 = .ok (.aload_n 0, 1) := by decide +kernel
theorem dX5_fact_1 : decode cX5_fact 1 = .ok (.getfield 23, 3) := by decide +kernel
theorem dX5_fact_4 : decode cX5_fact 4 = .ok (.bipush 22, 2) := by decide +kernel
theorem dX5_fact_6 : decode cX5_fact 6 = .ok (.invokevirtual 138, 3) := by decide +kernel
theorem dX5_fact_9 : decode cX5_fact 9 = .ok (.ifCond .eq 21, 3) := by decide +kernel
theorem dX5_fact_12 : decode cX5_fact 12 = .ok (.aload_n 0, 1) := by decide +kernel
theorem dX5_fact_13 : decode cX5_fact 13 = .ok (.getfield 23, 3) := by decide +kernel
theorem dX5_fact_16 : decode cX5_fact 16 = .ok (.invokevirtual 97, 3) := by decide +kernel
theorem dX5_fact_19 : decode cX5_fact 19 = .ok (.aload_n 0, 1) := by decide +kernel
theorem dX5_fact_20 : decode cX5_fact 20 = .ok (.getfield 30, 3) := by decide +kernel
theorem dX5_fact_23 : decode cX5_fact 23 = .ok (.bipush 22, 2) := by decide +kernel
theorem dX5_fact_25 : decode cX5_fact 25 = .ok (.invokevirtual 151, 3) := by decide +kernel
theorem dX5_fact_28 : decode cX5_fact 28 = .ok (.iconst 1, 1) := by decide +kernel
theorem dX5_fact_29 : decode cX5_fact 29 = .ok (.ireturn, 1) := by decide +kernel
theorem dX5_fact_30 : decode cX5_fact 30 = .ok (.aload_n 0, 1) := by decide +kernel
theorem dX5_fact_31 : decode cX5_fact 31 = .ok (.getfield 23, 3) := by decide +kernel
theorem dX5_fact_34 : decode cX5_fact 34 = .ok (.bipush 21, 2) := by decide +kernel
theorem dX5_fact_36 : decode cX5_fact 36 = .ok (.invokevirtual 138, 3) := by decide +kernel
theorem dX5_fact_39 : decode cX5_fact 39 = .ok (.ifCond .eq 34, 3) := by decide +kernel
theorem dX5_fact_42 : decode cX5_fact 42 = .ok (.aload_n 0, 1) := by decide +kernel
theorem dX5_fact_43 : decode cX5_fact 43 = .ok (.iload_n 1, 1) := by decide +kernel
theorem dX5_fact_44 : decode cX5_fact 44 = .ok (.invokevirtual 157, 3) := by decide +kernel
theorem dX5_fact_47 : decode cX5_fact 47 = .ok (.ifCond .eq 13, 3) := by decide +kernel
theorem dX5_fact_50 : decode cX5_fact 50 = .ok (.aload_n 0, 1) := by decide +kernel
theorem dX5_fact_51 : decode cX5_fact 51 = .ok (.iload_n 1, 1) := by decide +kernel
theorem dX5_fact_52 : decode cX5_fact 52 = .ok (.iconst 1, 1) := by decide +kernel
theorem dX5_fact_53 : decode cX5_fact 53 = .ok (.iadd, 1) := by decide +kernel
theorem dX5_fact_54 : decode cX5_fact 54 = .ok (.invokevirtual 154, 3) := by decide +kernel
theorem dX5_fact_57 : decode cX5_fact 57 = .ok (.ifCond .ne 5, 3) := by decide +kernel
theorem dX5_fact_60 : decode cX5_fact 60 = .ok (.iconst 0, 1) := by decide +kernel
theorem dX5_fact_61 : decode cX5_fact 61 = .ok (.ireturn, 1) := by decide +kernel
theorem dX5_fact_62 : decode cX5_fact 62 = .ok (.aload_n 0, 1) := by decide +kernel
theorem dX5_fact_63 : decode cX5_fact 63 = .ok (.getfield 30, 3) := by decide +kernel
theorem dX5_fact_66 : decode cX5_fact 66 = .ok (.bipush 21, 2) := by decide +kernel
theorem dX5_fact_68 : decode cX5_fact 68 = .ok (.invokevirtual 151, 3) := by decide +kernel
theorem dX5_fact_71 : decode cX5_fact 71 = .ok (.iconst 1, 1) := by decide +kernel
theorem dX5_fact_72 : decode cX5_fact 72 = .ok (.ireturn, 1) := by decide +kernel
theorem dX5_fact_73 : decode cX5_fact 73 = .ok (.aload_n 0, 1) := by decide +kernel
theorem dX5_fact_74 : decode cX5_fact 74 = .ok (.getfield 23, 3) := by decide +kernel
theorem dX5_fact_77 : decode cX5_fact 77 = .ok (.bipush 91, 2) := by decide +kernel
theorem dX5_fact_79 : decode cX5_fact 79 = .ok (.invokevirtual 141, 3) := by decide +kernel
theorem dX5_fact_82 : decode cX5_fact 82 = .ok (.ifCond .eq 36, 3) := by decide +kernel
theorem dX5_fact_85 : decode cX5_fact 85 = .ok (.aload_n 0, 1) := by decide +kernel
theorem dX5_fact_86 : decode cX5_fact 86 = .ok (.iload_n 1, 1) := by decide +kernel
theorem dX5_fact_87 : decode cX5_fact 87 = .ok (.invokevirtual 157, 3) := by decide +kernel
theorem dX5_fact_90 : decode cX5_fact 90 = .ok (.ifCond .eq 26, 3) := by decide +kernel
theorem dX5_fact_93 : decode cX5_fact 93 = .ok (.aload_n 0, 1) := by decide +kernel
theorem dX5_fact_94 : decode cX5_fact 94 = .ok (.iload_n 1, 1) := by decide +kernel
theorem dX5_fact_95 : decode cX5_fact 95 = .ok (.iconst 1, 1) := by decide +kernel
theorem dX5_fact_96 : decode cX5_fact 96 = .ok (.iadd, 1) := by decide +kernel
theorem dX5_fact_97 : decode cX5_fact 97 = .ok (.invokevirtual 85, 3) := by decide +kernel
theorem dX5_fact_100 : decode cX5_fact 100 = .ok (.ifCond .eq 16, 3) := by decide +kernel
theorem dX5_fact_103 : decode cX5_fact 103 = .ok (.aload_n 0, 1) := by decide +kernel
theorem dX5_fact_104 : decode cX5_fact 104 = .ok (.bipush 93, 2) := by decide +kernel
theorem dX5_fact_106 : decode cX5_fact 106 = .ok (.invokevirtual 53, 3) := by decide +kernel
theorem dX5_fact_109 : decode cX5_fact 109 = .ok (.ifCond .eq 7, 3) := by decide +kernel
theorem dX5_fact_112 : decode cX5_fact 112 = .ok (.iconst 1, 1) := by decide +kernel
theorem dX5_fact_113 : decode cX5_fact 113 = .ok (.goto 4, 3) := by decide +kernel
theorem dX5_fact_116 : decode cX5_fact 116 = .ok (.iconst 0, 1) := by decide +kernel
theorem dX5_fact_117 : decode cX5_fact 117 = .ok (.ireturn, 1) := by decide +kernel
theorem dX5_fact_118 : decode cX5_fact 118 = .ok (.aload_n 0, 1) := by decide +kernel
theorem dX5_fact_119 : decode cX5_fact 119 = .ok (.iload_n 1, 1) := by decide +kernel
theorem dX5_fact_120 : decode cX5_fact 120 = .ok (.invokevirtual 79, 3) := by decide +kernel
theorem dX5_fact_123 : decode cX5_fact 123 = .ok (.ifCond .ne 5, 3) := by decide +kernel
theorem dX5_fact_126 : decode cX5_fact 126 = .ok (.iconst 0, 1) := by decide +kernel
theorem dX5_fact_127 : decode cX5_fact 127 = .ok (.ireturn, 1) := by decide +kernel
theorem dX5_fact_128 : decode cX5_fact 128 = .ok (.aload_n 0, 1) := by decide +kernel
theorem dX5_fact_129 : decode cX5_fact 129 = .ok (.getfield 23, 3) := by decide +kernel
theorem dX5_fact_132 : decode cX5_fact 132 = .ok (.bipush 60, 2) := by decide +kernel
theorem dX5_fact_134 : decode cX5_fact 134 = .ok (.invokevirtual 141, 3) := by decide +kernel
theorem dX5_fact_137 : decode cX5_fact 137 = .ok (.ifCond .ne 40, 3) := by decide +kernel
theorem dX5_fact_140 : decode cX5_fact 140 = .ok (.aload_n 0, 1) := by decide +kernel
theorem dX5_fact_141 : decode cX5_fact 141 = .ok (.getfield 23, 3) := by decide +kernel
theorem dX5_fact_144 : decode cX5_fact 144 = .ok (.bipush 62, 2) := by decide +kernel
theorem dX5_fact_146 : decode cX5_fact 146 = .ok (.invokevirtual 141, 3) := by decide +kernel
theorem dX5_fact_149 : decode cX5_fact 149 = .ok (.ifCond .ne 28, 3) := by decide +kernel
theorem dX5_fact_152 : decode cX5_fact 152 = .ok (.aload_n 0, 1) := by decide +kernel
theorem dX5_fact_153 : decode cX5_fact 153 = .ok (.getfield 23, 3) := by decide +kernel
theorem dX5_fact_156 : decode cX5_fact 156 = .ok (.bipush 61, 2) := by decide +kernel
theorem dX5_fact_158 : decode cX5_fact 158 = .ok (.invokevirtual 141, 3) := by decide +kernel
theorem dX5_fact_161 : decode cX5_fact 161 = .ok (.ifCond .ne 16, 3) := by decide +kernel
theorem dX5_fact_164 : decode cX5_fact 164 = .ok (.aload_n 0, 1) := by decide +kernel
theorem dX5_fact_165 : decode cX5_fact 165 = .ok (.iconst 1, 1) := by decide +kernel
theorem dX5_fact_166 : decode cX5_fact 166 = .ok (.aload_n 0, 1) := by decide +kernel
theorem dX5_fact_167 : decode cX5_fact 167 = .ok (.getfield 23, 3) := by decide +kernel
theorem dX5_fact_170 : decode cX5_fact 170 = .ok (.getfield 60, 3) := by decide +kernel
theorem dX5_fact_173 : decode cX5_fact 173 = .ok (.invokevirtual 63, 3) := by decide +kernel
theorem dX5_fact_176 : decode cX5_fact 176 = .ok (.ireturn, 1) := by decide +kernel
theorem dX5_fact_177 : decode cX5_fact 177 = .ok (.aload_n 0, 1) := by decide +kernel
theorem dX5_fact_178 : decode cX5_fact 178 = .ok (.getfield 23, 3) := by decide +kernel
theorem dX5_fact_181 : decode cX5_fact 181 = .ok (.getfield 70, 3) := by decide +kernel
theorem dX5_fact_184 : decode cX5_fact 184 = .ok (.istore_n 2, 1) := by decide +kernel
theorem dX5_fact_185 : decode cX5_fact 185 = .ok (.aload_n 0, 1) := by decide +kernel
theorem dX5_fact_186 : decode cX5_fact 186 = .ok (.getfield 23, 3) := by decide +kernel
theorem dX5_fact_189 : decode cX5_fact 189 = .ok (.invokevirtual 97, 3) := by decide +kernel
theorem dX5_fact_192 : decode cX5_fact 192 = .ok (.aload_n 0, 1) := by decide +kernel
theorem dX5_fact_193 : decode cX5_fact 193 = .ok (.iload_n 1, 1) := by decide +kernel
theorem dX5_fact_194 : decode cX5_fact 194 = .ok (.invokevirtual 79, 3) := by decide +kernel
theorem dX5_fact_197 : decode cX5_fact 197 = .ok (.ifCond .ne 5, 3) := by decide +kernel
theorem dX5_fact_200 : decode cX5_fact 200 = .ok (.iconst 0, 1) := by decide +kernel
theorem dX5_fact_201 : decode cX5_fact 201 = .ok (.ireturn, 1) := by decide +kernel
theorem dX5_fact_202 : decode cX5_fact 202 = .ok (.aload_n 0, 1) := by decide +kernel
theorem dX5_fact_203 : decode cX5_fact 203 = .ok (.getfield 30, 3) := by decide +kernel
theorem dX5_fact_206 : decode cX5_fact 206 = .ok (.iload_n 2, 1) := by decide +kernel
theorem dX5_fact_207 : decode cX5_fact 207 = .ok (.invokevirtual 151, 3) := by decide +kernel
theorem dX5_fact_210 : decode cX5_fact 210 = .ok (.iconst 1, 1) := by decide +kernel
theorem dX5_fact_211 : decode cX5_fact 211 = .ok (.ireturn, 1) := by decide +kernel
theorem dX5_sum_0 : decode cX5_sum 0 = .ok (.aload_n 0, 1) := by decide +kernel
theorem dX5_sum_1 : decode cX5_sum 1 = .ok (.iload_n 1, 1) := by decide +kernel
theorem dX5_sum_2 : decode cX5_sum 2 = .ok (.invokevirtual 160, 3) := by decide +kernel
theorem dX5_sum_5 : decode cX5_sum 5 = .ok (.ifCond .ne 5, 3) := by decide +kernel
theorem dX5_sum_8 : decode cX5_sum 8 = .ok (.iconst 0, 1) := by decide +kernel
theorem dX5_sum_9 : decode cX5_sum 9 = .ok (.ireturn, 1) := by decide +kernel
theorem dX5_sum_10 : decode cX5_sum 10 = .ok (.iconst 0, 1) := by decide +kernel
theorem dX5_sum_11 : decode cX5_sum 11 = .ok (.istore_n 2, 1) := by decide +kernel
theorem dX5_sum_12 : decode cX5_sum 12 = .ok (.iload_n 2, 1) := by decide +kernel
theorem dX5_sum_13 : decode cX5_sum 13 = .ok (.sipush 1600, 3) := by decide +kernel
theorem dX5_sum_16 : decode cX5_sum 16 = .ok (.if_icmp .ge 66, 3) := by decide +kernel
theorem dX5_sum_19 : decode cX5_sum 19 = .ok (.aload_n 0, 1) := by decide +kernel
theorem dX5_sum_20 : decode cX5_sum 20 = .ok (.getfield 23, 3) := by decide +kernel
theorem dX5_sum_23 : decode cX5_sum 23 = .ok (.bipush 43, 2) := by decide +kernel
theorem dX5_sum_25 : decode cX5_sum 25 = .ok (.invokevirtual 141, 3) := by decide +kernel
theorem dX5_sum_28 : decode cX5_sum 28 = .ok (.ifCond .ne 15, 3) := by decide +kernel
theorem dX5_sum_31 : decode cX5_sum 31 = .ok (.aload_n 0, 1) := by decide +kernel
theorem dX5_sum_32 : decode cX5_sum 32 = .ok (.getfield 23, 3) := by decide +kernel
theorem dX5_sum_35 : decode cX5_sum 35 = .ok (.bipush 45, 2) := by decide +kernel
theorem dX5_sum_37 : decode cX5_sum 37 = .ok (.invokevirtual 141, 3) := by decide +kernel
theorem dX5_sum_40 : decode cX5_sum 40 = .ok (.ifCond .eq 42, 3) := by decide +kernel
theorem dX5_sum_43 : decode cX5_sum 43 = .ok (.aload_n 0, 1) := by decide +kernel
theorem dX5_sum_44 : decode cX5_sum 44 = .ok (.getfield 23, 3) := by decide +kernel
theorem dX5_sum_47 : decode cX5_sum 47 = .ok (.getfield 70, 3) := by decide +kernel
theorem dX5_sum_50 : decode cX5_sum 50 = .ok (.istore_n 3, 1) := by decide +kernel
theorem dX5_sum_51 : decode cX5_sum 51 = .ok (.aload_n 0, 1) := by decide +kernel
theorem dX5_sum_52 : decode cX5_sum 52 = .ok (.getfield 23, 3) := by decide +kernel
theorem dX5_sum_55 : decode cX5_sum 55 = .ok (.invokevirtual 97, 3) := by decide +kernel
theorem dX5_sum_58 : decode cX5_sum 58 = .ok (.aload_n 0, 1) := by decide +kernel
theorem dX5_sum_59 : decode cX5_sum 59 = .ok (.iload_n 1, 1) := by decide +kernel
theorem dX5_sum_60 : decode cX5_sum 60 = .ok (.invokevirtual 160, 3) := by decide +kernel
theorem dX5_sum_63 : decode cX5_sum 63 = .ok (.ifCond .ne 5, 3) := by decide +kernel
theorem dX5_sum_66 : decode cX5_sum 66 = .ok (.iconst 0, 1) := by decide +kernel
theorem dX5_sum_67 : decode cX5_sum 67 = .ok (.ireturn, 1) := by decide +kernel
theorem dX5_sum_68 : decode cX5_sum 68 = .ok (.aload_n 0, 1) := by decide +kernel
theorem dX5_sum_69 : decode cX5_sum 69 = .ok (.getfield 30, 3) := by decide +kernel
theorem dX5_sum_72 : decode cX5_sum 72 = .ok (.iload_n 3, 1) := by decide +kernel
theorem dX5_sum_73 : decode cX5_sum 73 = .ok (.invokevirtual 151, 3) := by decide +kernel
theorem dX5_sum_76 : decode cX5_sum 76 = .ok (.iinc 2 1, 3) := by decide +kernel
theorem dX5_sum_79 : decode cX5_sum 79 = .ok (.goto (-67), 3) := by decide +kernel
theorem dX5_sum_82 : decode cX5_sum 82 = .ok (.iconst 1, 1) := by decide +kernel
theorem dX5_sum_83 : decode cX5_sum 83 = .ok (.ireturn, 1) := by decide +kernel
theorem dX5_product_0 : decode cX5_product 0 = .ok (.aload_n 0, 1) := by decide +kernel
theorem dX5_product_1 : decode cX5_product 1 = .ok (.iload_n 1, 1) := by decide +kernel
theorem dX5_product_2 : decode cX5_product 2 = .ok (.invokevirtual 163, 3) := by decide +kernel
theorem dX5_product_5 : decode cX5_product 5 = .ok (.ifCond .ne 5, 3) := by decide +kernel
theorem dX5_product_8 : decode cX5_product 8 = .ok (.iconst 0, 1) := by decide +kernel
theorem dX5_product_9 : decode cX5_product 9 = .ok (.ireturn, 1) := by decide +kernel
theorem dX5_product_10 : decode cX5_product 10 = .ok (.iconst 0, 1) := by decide +kernel
theorem dX5_product_11 : decode cX5_product 11 = .ok (.istore_n 2, 1) := by decide +kernel
theorem dX5_product_12 : decode cX5_product 12 = .ok (.iload_n 2, 1) := by decide +kernel
theorem dX5_product_13 : decode cX5_product 13 = .ok (.sipush 1600, 3) := by decide +kernel
theorem dX5_product_16 : decode cX5_product 16 = .ok (.if_icmp .ge 66, 3) := by decide +kernel
theorem dX5_product_19 : decode cX5_product 19 = .ok (.aload_n 0, 1) := by decide +kernel
theorem dX5_product_20 : decode cX5_product 20 = .ok (.getfield 23, 3) := by decide +kernel
theorem dX5_product_23 : decode cX5_product 23 = .ok (.bipush 42, 2) := by decide +kernel
theorem dX5_product_25 : decode cX5_product 25 = .ok (.invokevirtual 141, 3) := by decide +kernel
theorem dX5_product_28 : decode cX5_product 28 = .ok (.ifCond .ne 15, 3) := by decide +kernel
theorem dX5_product_31 : decode cX5_product 31 = .ok (.aload_n 0, 1) := by decide +kernel
theorem dX5_product_32 : decode cX5_product 32 = .ok (.getfield 23, 3) := by decide +kernel
theorem dX5_product_35 : decode cX5_product 35 = .ok (.bipush 47, 2) := by decide +kernel
theorem dX5_product_37 : decode cX5_product 37 = .ok (.invokevirtual 141, 3) := by decide +kernel
theorem dX5_product_40 : decode cX5_product 40 = .ok (.ifCond .eq 42, 3) := by decide +kernel
theorem dX5_product_43 : decode cX5_product 43 = .ok (.aload_n 0, 1) := by decide +kernel
theorem dX5_product_44 : decode cX5_product 44 = .ok (.getfield 23, 3) := by decide +kernel
theorem dX5_product_47 : decode cX5_product 47 = .ok (.getfield 70, 3) := by decide +kernel
theorem dX5_product_50 : decode cX5_product 50 = .ok (.istore_n 3, 1) := by decide +kernel
theorem dX5_product_51 : decode cX5_product 51 = .ok (.aload_n 0, 1) := by decide +kernel
theorem dX5_product_52 : decode cX5_product 52 = .ok (.getfield 23, 3) := by decide +kernel
theorem dX5_product_55 : decode cX5_product 55 = .ok (.invokevirtual 97, 3) := by decide +kernel
theorem dX5_product_58 : decode cX5_product 58 = .ok (.aload_n 0, 1) := by decide +kernel
theorem dX5_product_59 : decode cX5_product 59 = .ok (.iload_n 1, 1) := by decide +kernel
theorem dX5_product_60 : decode cX5_product 60 = .ok (.invokevirtual 163, 3) := by decide +kernel
theorem dX5_product_63 : decode cX5_product 63 = .ok (.ifCond .ne 5, 3) := by decide +kernel
theorem dX5_product_66 : decode cX5_product 66 = .ok (.iconst 0, 1) := by decide +kernel
theorem dX5_product_67 : decode cX5_product 67 = .ok (.ireturn, 1) := by decide +kernel
theorem dX5_product_68 : decode cX5_product 68 = .ok (.aload_n 0, 1) := by decide +kernel
theorem dX5_product_69 : decode cX5_product 69 = .ok (.getfield 30, 3) := by decide +kernel
theorem dX5_product_72 : decode cX5_product 72 = .ok (.iload_n 3, 1) := by decide +kernel
theorem dX5_product_73 : decode cX5_product 73 = .ok (.invokevirtual 151, 3) := by decide +kernel
theorem dX5_product_76 : decode cX5_product 76 = .ok (.iinc 2 1, 3) := by decide +kernel
theorem dX5_product_79 : decode cX5_product 79 = .ok (.goto (-67), 3) := by decide +kernel
theorem dX5_product_82 : decode cX5_product 82 = .ok (.iconst 1, 1) := by decide +kernel
theorem dX5_product_83 : decode cX5_product 83 = .ok (.ireturn, 1) := by decide +kernel
theorem dX5_part_0 : decode cX5_part 0 = .ok (.aload_n 0, 1) := by decide +kernel
theorem dX5_part_1 : decode cX5_part 1 = .ok (.getfield 23, 3) := by decide +kernel
theorem dX5_part_4 : decode cX5_part 4 = .ok (.getfield 46, 3) := by decide +kernel
theorem dX5_part_7 : decode cX5_part 7 = .ok (.iconst 2, 1) := by decide +kernel
theorem dX5_part_8 : decode cX5_part 8 = .ok (.if_icmp .ne 39, 3) := by decide +kernel
theorem dX5_part_11 : decode cX5_part 11 = .ok (.aload_n 0, 1) := by decide +kernel
theorem dX5_part_12 : decode cX5_part 12 = .ok (.iconst 0, 1) := by decide +kernel
theorem dX5_part_13 : decode cX5_part 13 = .ok (.sipush 9999, 3) := by decide +kernel
theorem dX5_part_16 : decode cX5_part 16 = .ok (.invokevirtual 91, 3) := by decide +kernel
theorem dX5_part_19 : decode cX5_part 19 = .ok (.ifCond .ne 5, 3) := by decide +kernel
theorem dX5_part_22 : decode cX5_part 22 = .ok (.iconst 0, 1) := by decide +kernel
theorem dX5_part_23 : decode cX5_part 23 = .ok (.ireturn, 1) := by decide +kernel
theorem dX5_part_24 : decode cX5_part 24 = .ok (.aload_n 0, 1) := by decide +kernel
theorem dX5_part_25 : decode cX5_part 25 = .ok (.getfield 30, 3) := by decide +kernel
theorem dX5_part_28 : decode cX5_part 28 = .ok (.aload_n 0, 1) := by decide +kernel
theorem dX5_part_29 : decode cX5_part 29 = .ok (.getfield 23, 3) := by decide +kernel
theorem dX5_part_32 : decode cX5_part 32 = .ok (.getfield 70, 3) := by decide +kernel
theorem dX5_part_35 : decode cX5_part 35 = .ok (.invokevirtual 166, 3) := by decide +kernel
theorem dX5_part_38 : decode cX5_part 38 = .ok (.aload_n 0, 1) := by decide +kernel
theorem dX5_part_39 : decode cX5_part 39 = .ok (.getfield 23, 3) := by decide +kernel
theorem dX5_part_42 : decode cX5_part 42 = .ok (.invokevirtual 97, 3) := by decide +kernel
theorem dX5_part_45 : decode cX5_part 45 = .ok (.iconst 1, 1) := by decide +kernel
theorem dX5_part_46 : decode cX5_part 46 = .ok (.ireturn, 1) := by decide +kernel
theorem dX5_part_47 : decode cX5_part 47 = .ok (.aload_n 0, 1) := by decide +kernel
theorem dX5_part_48 : decode cX5_part 48 = .ok (.getfield 23, 3) := by decide +kernel
theorem dX5_part_51 : decode cX5_part 51 = .ok (.bipush 40, 2) := by decide +kernel
theorem dX5_part_53 : decode cX5_part 53 = .ok (.invokevirtual 141, 3) := by decide +kernel
theorem dX5_part_56 : decode cX5_part 56 = .ok (.ifCond .eq 36, 3) := by decide +kernel
theorem dX5_part_59 : decode cX5_part 59 = .ok (.aload_n 0, 1) := by decide +kernel
theorem dX5_part_60 : decode cX5_part 60 = .ok (.iload_n 1, 1) := by decide +kernel
theorem dX5_part_61 : decode cX5_part 61 = .ok (.invokevirtual 157, 3) := by decide +kernel
theorem dX5_part_64 : decode cX5_part 64 = .ok (.ifCond .eq 26, 3) := by decide +kernel
theorem dX5_part_67 : decode cX5_part 67 = .ok (.aload_n 0, 1) := by decide +kernel
theorem dX5_part_68 : decode cX5_part 68 = .ok (.iload_n 1, 1) := by decide +kernel
theorem dX5_part_69 : decode cX5_part 69 = .ok (.iconst 1, 1) := by decide +kernel
theorem dX5_part_70 : decode cX5_part 70 = .ok (.iadd, 1) := by decide +kernel
theorem dX5_part_71 : decode cX5_part 71 = .ok (.invokevirtual 79, 3) := by decide +kernel
theorem dX5_part_74 : decode cX5_part 74 = .ok (.ifCond .eq 16, 3) := by decide +kernel
theorem dX5_part_77 : decode cX5_part 77 = .ok (.aload_n 0, 1) := by decide +kernel
theorem dX5_part_78 : decode cX5_part 78 = .ok (.bipush 41, 2) := by decide +kernel
theorem dX5_part_80 : decode cX5_part 80 = .ok (.invokevirtual 53, 3) := by decide +kernel
theorem dX5_part_83 : decode cX5_part 83 = .ok (.ifCond .eq 7, 3) := by decide +kernel
theorem dX5_part_86 : decode cX5_part 86 = .ok (.iconst 1, 1) := by decide +kernel
theorem dX5_part_87 : decode cX5_part 87 = .ok (.goto 4, 3) := by decide +kernel
theorem dX5_part_90 : decode cX5_part 90 = .ok (.iconst 0, 1) := by decide +kernel
theorem dX5_part_91 : decode cX5_part 91 = .ok (.ireturn, 1) := by decide +kernel
theorem dX5_part_92 : decode cX5_part 92 = .ok (.aload_n 0, 1) := by decide +kernel
theorem dX5_part_93 : decode cX5_part 93 = .ok (.getfield 23, 3) := by decide +kernel
theorem dX5_part_96 : decode cX5_part 96 = .ok (.bipush 23, 2) := by decide +kernel
theorem dX5_part_98 : decode cX5_part 98 = .ok (.invokevirtual 138, 3) := by decide +kernel
theorem dX5_part_101 : decode cX5_part 101 = .ok (.ifCond .ne 15, 3) := by decide +kernel
theorem dX5_part_104 : decode cX5_part 104 = .ok (.aload_n 0, 1) := by decide +kernel
theorem dX5_part_105 : decode cX5_part 105 = .ok (.getfield 23, 3) := by decide +kernel
theorem dX5_part_108 : decode cX5_part 108 = .ok (.bipush 24, 2) := by decide +kernel
theorem dX5_part_110 : decode cX5_part 110 = .ok (.invokevirtual 138, 3) := by decide +kernel
theorem dX5_part_113 : decode cX5_part 113 = .ok (.ifCond .eq 9, 3) := by decide +kernel
theorem dX5_part_116 : decode cX5_part 116 = .ok (.aload_n 0, 1) := by decide +kernel
theorem dX5_part_117 : decode cX5_part 117 = .ok (.iload_n 1, 1) := by decide +kernel
theorem dX5_part_118 : decode cX5_part 118 = .ok (.invokevirtual 169, 3) := by decide +kernel
theorem dX5_part_121 : decode cX5_part 121 = .ok (.ireturn, 1) := by decide +kernel
theorem dX5_part_122 : decode cX5_part 122 = .ok (.aload_n 0, 1) := by decide +kernel
theorem dX5_part_123 : decode cX5_part 123 = .ok (.iload_n 1, 1) := by decide +kernel
theorem dX5_part_124 : decode cX5_part 124 = .ok (.invokevirtual 172, 3) := by decide +kernel
theorem dX5_part_127 : decode cX5_part 127 = .ok (.ireturn, 1) := by decide +kernel
theorem dX5_pair_0 : decode cX5_pair 0 = .ok (.aload_n 0, 1) := by decide +kernel
theorem dX5_pair_1 : decode cX5_pair 1 = .ok (.getfield 23, 3) := by decide +kernel
theorem dX5_pair_4 : decode cX5_pair 4 = .ok (.getfield 70, 3) := by decide +kernel
theorem dX5_pair_7 : decode cX5_pair 7 = .ok (.istore_n 2, 1) := by decide +kernel
theorem dX5_pair_8 : decode cX5_pair 8 = .ok (.aload_n 0, 1) := by decide +kernel
theorem dX5_pair_9 : decode cX5_pair 9 = .ok (.getfield 23, 3) := by decide +kernel
theorem dX5_pair_12 : decode cX5_pair 12 = .ok (.invokevirtual 97, 3) := by decide +kernel
theorem dX5_pair_15 : decode cX5_pair 15 = .ok (.aload_n 0, 1) := by decide +kernel
theorem dX5_pair_16 : decode cX5_pair 16 = .ok (.getfield 23, 3) := by decide +kernel
theorem dX5_pair_19 : decode cX5_pair 19 = .ok (.bipush 40, 2) := by decide +kernel
theorem dX5_pair_21 : decode cX5_pair 21 = .ok (.invokevirtual 141, 3) := by decide +kernel
theorem dX5_pair_24 : decode cX5_pair 24 = .ok (.ifCond .ne 16, 3) := by decide +kernel
theorem dX5_pair_27 : decode cX5_pair 27 = .ok (.aload_n 0, 1) := by decide +kernel
theorem dX5_pair_28 : decode cX5_pair 28 = .ok (.iconst 1, 1) := by decide +kernel
theorem dX5_pair_29 : decode cX5_pair 29 = .ok (.aload_n 0, 1) := by decide +kernel
theorem dX5_pair_30 : decode cX5_pair 30 = .ok (.getfield 23, 3) := by decide +kernel
theorem dX5_pair_33 : decode cX5_pair 33 = .ok (.getfield 60, 3) := by decide +kernel
theorem dX5_pair_36 : decode cX5_pair 36 = .ok (.invokevirtual 63, 3) := by decide +kernel
theorem dX5_pair_39 : decode cX5_pair 39 = .ok (.ireturn, 1) := by decide +kernel
theorem dX5_pair_40 : decode cX5_pair 40 = .ok (.aload_n 0, 1) := by decide +kernel
theorem dX5_pair_41 : decode cX5_pair 41 = .ok (.iload_n 1, 1) := by decide +kernel
theorem dX5_pair_42 : decode cX5_pair 42 = .ok (.invokevirtual 157, 3) := by decide +kernel
theorem dX5_pair_45 : decode cX5_pair 45 = .ok (.ifCond .eq 41, 3) := by decide +kernel
theorem dX5_pair_48 : decode cX5_pair 48 = .ok (.aload_n 0, 1) := by decide +kernel
theorem dX5_pair_49 : decode cX5_pair 49 = .ok (.iload_n 1, 1) := by decide +kernel
theorem dX5_pair_50 : decode cX5_pair 50 = .ok (.iconst 1, 1) := by decide +kernel
theorem dX5_pair_51 : decode cX5_pair 51 = .ok (.iadd, 1) := by decide +kernel
theorem dX5_pair_52 : decode cX5_pair 52 = .ok (.invokevirtual 79, 3) := by decide +kernel
theorem dX5_pair_55 : decode cX5_pair 55 = .ok (.ifCond .eq 31, 3) := by decide +kernel
theorem dX5_pair_58 : decode cX5_pair 58 = .ok (.aload_n 0, 1) := by decide +kernel
theorem dX5_pair_59 : decode cX5_pair 59 = .ok (.bipush 44, 2) := by decide +kernel
theorem dX5_pair_61 : decode cX5_pair 61 = .ok (.invokevirtual 53, 3) := by decide +kernel
theorem dX5_pair_64 : decode cX5_pair 64 = .ok (.ifCond .eq 22, 3) := by decide +kernel
theorem dX5_pair_67 : decode cX5_pair 67 = .ok (.aload_n 0, 1) := by decide +kernel
theorem dX5_pair_68 : decode cX5_pair 68 = .ok (.iload_n 1, 1) := by decide +kernel
theorem dX5_pair_69 : decode cX5_pair 69 = .ok (.iconst 1, 1) := by decide +kernel
theorem dX5_pair_70 : decode cX5_pair 70 = .ok (.iadd, 1) := by decide +kernel
theorem dX5_pair_71 : decode cX5_pair 71 = .ok (.invokevirtual 79, 3) := by decide +kernel
theorem dX5_pair_74 : decode cX5_pair 74 = .ok (.ifCond .eq 12, 3) := by decide +kernel
theorem dX5_pair_77 : decode cX5_pair 77 = .ok (.aload_n 0, 1) := by decide +kernel
theorem dX5_pair_78 : decode cX5_pair 78 = .ok (.bipush 41, 2) := by decide +kernel
theorem dX5_pair_80 : decode cX5_pair 80 = .ok (.invokevirtual 53, 3) := by decide +kernel
theorem dX5_pair_83 : decode cX5_pair 83 = .ok (.ifCond .ne 5, 3) := by decide +kernel
theorem dX5_pair_86 : decode cX5_pair 86 = .ok (.iconst 0, 1) := by decide +kernel
theorem dX5_pair_87 : decode cX5_pair 87 = .ok (.ireturn, 1) := by decide +kernel
theorem dX5_pair_88 : decode cX5_pair 88 = .ok (.aload_n 0, 1) := by decide +kernel
theorem dX5_pair_89 : decode cX5_pair 89 = .ok (.getfield 30, 3) := by decide +kernel
theorem dX5_pair_92 : decode cX5_pair 92 = .ok (.iload_n 2, 1) := by decide +kernel
theorem dX5_pair_93 : decode cX5_pair 93 = .ok (.invokevirtual 151, 3) := by decide +kernel
theorem dX5_pair_96 : decode cX5_pair 96 = .ok (.iconst 1, 1) := by decide +kernel
theorem dX5_pair_97 : decode cX5_pair 97 = .ok (.ireturn, 1) := by decide +kernel
theorem dX5_wordPart_0 : decode cX5_wordPart 0 = .ok (.aload_n 0, 1) := by decide +kernel
theorem dX5_wordPart_1 : decode cX5_wordPart 1 = .ok (.getfield 23, 3) := by decide +kernel
theorem dX5_wordPart_4 : decode cX5_wordPart 4 = .ok (.getfield 46, 3) := by decide +kernel
theorem dX5_wordPart_7 : decode cX5_wordPart 7 = .ok (.iconst 1, 1) := by decide +kernel
theorem dX5_wordPart_8 : decode cX5_wordPart 8 = .ok (.if_icmp .ne 13, 3) := by decide +kernel
theorem dX5_wordPart_11 : decode cX5_wordPart 11 = .ok (.aload_n 0, 1) := by decide +kernel
theorem dX5_wordPart_12 : decode cX5_wordPart 12 = .ok (.getfield 23, 3) := by decide +kernel
theorem dX5_wordPart_15 : decode cX5_wordPart 15 = .ok (.getfield 70, 3) := by decide +kernel
theorem dX5_wordPart_18 : decode cX5_wordPart 18 = .ok (.goto 4, 3) := by decide +kernel
theorem dX5_wordPart_21 : decode cX5_wordPart 21 = .ok (.iconst (-1), 1) := by decide +kernel
theorem dX5_wordPart_22 : decode cX5_wordPart 22 = .ok (.istore_n 2, 1) := by decide +kernel
theorem dX5_wordPart_23 : decode cX5_wordPart 23 = .ok (.iload_n 2, 1) := by decide +kernel
theorem dX5_wordPart_24 : decode cX5_wordPart 24 = .ok (.ifCond .lt 20, 3) := by decide +kernel
theorem dX5_wordPart_27 : decode cX5_wordPart 27 = .ok (.iload_n 2, 1) := by decide +kernel
theorem dX5_wordPart_28 : decode cX5_wordPart 28 = .ok (.bipush 18, 2) := by decide +kernel
theorem dX5_wordPart_30 : decode cX5_wordPart 30 = .ok (.if_icmp .gt 14, 3) := by decide +kernel
theorem dX5_wordPart_33 : decode cX5_wordPart 33 = .ok (.aload_n 0, 1) := by decide +kernel
theorem dX5_wordPart_34 : decode cX5_wordPart 34 = .ok (.getfield 27, 3) := by decide +kernel
theorem dX5_wordPart_37 : decode cX5_wordPart 37 = .ok (.iload_n 2, 1) := by decide +kernel
theorem dX5_wordPart_38 : decode cX5_wordPart 38 = .ok (.ishr, 1) := by decide +kernel
theorem dX5_wordPart_39 : decode cX5_wordPart 39 = .ok (.iconst 1, 1) := by decide +kernel
theorem dX5_wordPart_40 : decode cX5_wordPart 40 = .ok (.iand, 1) := by decide +kernel
theorem dX5_wordPart_41 : decode cX5_wordPart 41 = .ok (.ifCond .ne 16, 3) := by decide +kernel
theorem dX5_wordPart_44 : decode cX5_wordPart 44 = .ok (.aload_n 0, 1) := by decide +kernel
theorem dX5_wordPart_45 : decode cX5_wordPart 45 = .ok (.iconst 1, 1) := by decide +kernel
theorem dX5_wordPart_46 : decode cX5_wordPart 46 = .ok (.aload_n 0, 1) := by decide +kernel
theorem dX5_wordPart_47 : decode cX5_wordPart 47 = .ok (.getfield 23, 3) := by decide +kernel
theorem dX5_wordPart_50 : decode cX5_wordPart 50 = .ok (.getfield 60, 3) := by decide +kernel
theorem dX5_wordPart_53 : decode cX5_wordPart 53 = .ok (.invokevirtual 63, 3) := by decide +kernel
theorem dX5_wordPart_56 : decode cX5_wordPart 56 = .ok (.ireturn, 1) := by decide +kernel
theorem dX5_wordPart_57 : decode cX5_wordPart 57 = .ok (.iload_n 2, 1) := by decide +kernel
theorem dX5_wordPart_58 : decode cX5_wordPart 58 = .ok (.bipush 17, 2) := by decide +kernel
theorem dX5_wordPart_60 : decode cX5_wordPart 60 = .ok (.if_icmp .ge 13, 3) := by decide +kernel
theorem dX5_wordPart_63 : decode cX5_wordPart 63 = .ok (.aload_n 0, 1) := by decide +kernel
theorem dX5_wordPart_64 : decode cX5_wordPart 64 = .ok (.getfield 23, 3) := by decide +kernel
theorem dX5_wordPart_67 : decode cX5_wordPart 67 = .ok (.invokevirtual 97, 3) := by decide +kernel
theorem dX5_wordPart_70 : decode cX5_wordPart 70 = .ok (.goto 23, 3) := by decide +kernel
theorem dX5_wordPart_73 : decode cX5_wordPart 73 = .ok (.aload_n 0, 1) := by decide +kernel
theorem dX5_wordPart_74 : decode cX5_wordPart 74 = .ok (.iload_n 1, 1) := by decide +kernel
theorem dX5_wordPart_75 : decode cX5_wordPart 75 = .ok (.invokevirtual 157, 3) := by decide +kernel
theorem dX5_wordPart_78 : decode cX5_wordPart 78 = .ok (.ifCond .eq 13, 3) := by decide +kernel
theorem dX5_wordPart_81 : decode cX5_wordPart 81 = .ok (.aload_n 0, 1) := by decide +kernel
theorem dX5_wordPart_82 : decode cX5_wordPart 82 = .ok (.iload_n 1, 1) := by decide +kernel
theorem dX5_wordPart_83 : decode cX5_wordPart 83 = .ok (.iconst 1, 1) := by decide +kernel
theorem dX5_wordPart_84 : decode cX5_wordPart 84 = .ok (.iadd, 1) := by decide +kernel
theorem dX5_wordPart_85 : decode cX5_wordPart 85 = .ok (.invokevirtual 163, 3) := by decide +kernel
theorem dX5_wordPart_88 : decode cX5_wordPart 88 = .ok (.ifCond .ne 5, 3) := by decide +kernel
theorem dX5_wordPart_91 : decode cX5_wordPart 91 = .ok (.iconst 0, 1) := by decide +kernel
theorem dX5_wordPart_92 : decode cX5_wordPart 92 = .ok (.ireturn, 1) := by decide +kernel
theorem dX5_wordPart_93 : decode cX5_wordPart 93 = .ok (.aload_n 0, 1) := by decide +kernel
theorem dX5_wordPart_94 : decode cX5_wordPart 94 = .ok (.getfield 30, 3) := by decide +kernel
theorem dX5_wordPart_97 : decode cX5_wordPart 97 = .ok (.iload_n 2, 1) := by decide +kernel
theorem dX5_wordPart_98 : decode cX5_wordPart 98 = .ok (.invokevirtual 151, 3) := by decide +kernel
theorem dX5_wordPart_101 : decode cX5_wordPart 101 = .ok (.iconst 1, 1) := by decide +kernel
theorem dX5_wordPart_102 : decode cX5_wordPart 102 = .ok (.ireturn, 1) := by decide +kernel
theorem dX6_init_0 : decode cX6_init 0 = .ok (.aload_n 0, 1) := by decide +kernel
theorem dX6_init_1 : decode cX6_init 1 = .ok (.invokespecial 3, 3) := by decide +kernel
theorem dX6_init_4 : decode cX6_init 4 = .ok (.aload_n 0, 1) := by decide +kernel
theorem dX6_init_5 : decode cX6_init 5 = .ok (.iconst 1, 1) := by decide +kernel
theorem dX6_init_6 : decode cX6_init 6 = .ok (.putfield 9, 3) := by decide +kernel
theorem dX6_init_9 : decode cX6_init 9 = .ok (.aload_n 0, 1) := by decide +kernel
theorem dX6_init_10 : decode cX6_init 10 = .ok (.iconst 0, 1) := by decide +kernel
theorem dX6_init_11 : decode cX6_init 11 = .ok (.putfield 15, 3) := by decide +kernel
theorem dX6_init_14 : decode cX6_init 14 = .ok (.aload_n 0, 1) := by decide +kernel
theorem dX6_init_15 : decode cX6_init 15 = .ok (.iconst 0, 1) := by decide +kernel
theorem dX6_init_16 : decode cX6_init 16 = .ok (.putfield 18, 3) := by decide +kernel
theorem dX6_init_19 : decode cX6_init 19 = .ok (.aload_n 0, 1) := by decide +kernel
theorem dX6_init_20 : decode cX6_init 20 = .ok (.iconst 0, 1) := by decide +kernel
theorem dX6_init_21 : decode cX6_init 21 = .ok (.putfield 22, 3) := by decide +kernel
theorem dX6_init_24 : decode cX6_init 24 = .ok (.aload_n 0, 1) := by decide +kernel
theorem dX6_init_25 : decode cX6_init 25 = .ok (.iconst 0, 1) := by decide +kernel
theorem dX6_init_26 : decode cX6_init 26 = .ok (.putfield 25, 3) := by decide +kernel
theorem dX6_init_29 : decode cX6_init 29 = .ok (.aload_n 0, 1) := by decide +kernel
theorem dX6_init_30 : decode cX6_init 30 = .ok (.iconst 0, 1) := by decide +kernel
theorem dX6_init_31 : decode cX6_init 31 = .ok (.putfield 28, 3) := by decide +kernel
theorem dX6_init_34 : decode cX6_init 34 = .ok (.aload_n 0, 1) := by decide +kernel
theorem dX6_init_35 : decode cX6_init 35 = .ok (.iconst 0, 1) := by decide +kernel
theorem dX6_init_36 : decode cX6_init 36 = .ok (.putfield 31, 3) := by decide +kernel
theorem dX6_init_39 : decode cX6_init 39 = .ok (.aload_n 0, 1) := by decide +kernel
theorem dX6_init_40 : decode cX6_init 40 = .ok (.iconst 0, 1) := by decide +kernel
theorem dX6_init_41 : decode cX6_init 41 = .ok (.putfield 34, 3) := by decide +kernel
theorem dX6_init_44 : decode cX6_init 44 = .ok (.return_, 1) := by decide +kernel
theorem dX6_clear_0 : decode cX6_clear 0 = .ok (.aload_n 0, 1) := by decide +kernel
theorem dX6_clear_1 : decode cX6_clear 1 = .ok (.iload_n 1, 1) := by decide +kernel
theorem dX6_clear_2 : decode cX6_clear 2 = .ok (.putfield 9, 3) := by decide +kernel
theorem dX6_clear_5 : decode cX6_clear 5 = .ok (.aload_n 0, 1) := by decide +kernel
theorem dX6_clear_6 : decode cX6_clear 6 = .ok (.iconst 0, 1) := by decide +kernel
theorem dX6_clear_7 : decode cX6_clear 7 = .ok (.putfield 15, 3) := by decide +kernel
theorem dX6_clear_10 : decode cX6_clear 10 = .ok (.aload_n 0, 1) := by decide +kernel
theorem dX6_clear_11 : decode cX6_clear 11 = .ok (.iconst 0, 1) := by decide +kernel
theorem dX6_clear_12 : decode cX6_clear 12 = .ok (.putfield 18, 3) := by decide +kernel
theorem dX6_clear_15 : decode cX6_clear 15 = .ok (.aload_n 0, 1) := by decide +kernel
theorem dX6_clear_16 : decode cX6_clear 16 = .ok (.iconst 0, 1) := by decide +kernel
theorem dX6_clear_17 : decode cX6_clear 17 = .ok (.putfield 22, 3) := by decide +kernel
theorem dX6_clear_20 : decode cX6_clear 20 = .ok (.aload_n 0, 1) := by decide +kernel
theorem dX6_clear_21 : decode cX6_clear 21 = .ok (.iconst 0, 1) := by decide +kernel
theorem dX6_clear_22 : decode cX6_clear 22 = .ok (.putfield 25, 3) := by decide +kernel
theorem dX6_clear_25 : decode cX6_clear 25 = .ok (.aload_n 0, 1) := by decide +kernel
theorem dX6_clear_26 : decode cX6_clear 26 = .ok (.iconst 0, 1) := by decide +kernel
theorem dX6_clear_27 : decode cX6_clear 27 = .ok (.putfield 28, 3) := by decide +kernel
theorem dX6_clear_30 : decode cX6_clear 30 = .ok (.aload_n 0, 1) := by decide +kernel
theorem dX6_clear_31 : decode cX6_clear 31 = .ok (.iconst 0, 1) := by decide +kernel
theorem dX6_clear_32 : decode cX6_clear 32 = .ok (.putfield 31, 3) := by decide +kernel
theorem dX6_clear_35 : decode cX6_clear 35 = .ok (.aload_n 0, 1) := by decide +kernel
theorem dX6_clear_36 : decode cX6_clear 36 = .ok (.iconst 0, 1) := by decide +kernel
theorem dX6_clear_37 : decode cX6_clear 37 = .ok (.putfield 34, 3) := by decide +kernel
theorem dX6_clear_40 : decode cX6_clear 40 = .ok (.return_, 1) := by decide +kernel
theorem dX6_become_0 : decode cX6_become 0 = .ok (.aload_n 0, 1) := by decide +kernel
theorem dX6_become_1 : decode cX6_become 1 = .ok (.aload_n 1, 1) := by decide +kernel
theorem dX6_become_2 : decode cX6_become 2 = .ok (.getfield 9, 3) := by decide +kernel
theorem dX6_become_5 : decode cX6_become 5 = .ok (.putfield 9, 3) := by decide +kernel
theorem dX6_become_8 : decode cX6_become 8 = .ok (.aload_n 0, 1) := by decide +kernel
theorem dX6_become_9 : decode cX6_become 9 = .ok (.aload_n 1, 1) := by decide +kernel
theorem dX6_become_10 : decode cX6_become 10 = .ok (.getfield 15, 3) := by decide +kernel
theorem dX6_become_13 : decode cX6_become 13 = .ok (.putfield 15, 3) := by decide +kernel
theorem dX6_become_16 : decode cX6_become 16 = .ok (.aload_n 0, 1) := by decide +kernel
theorem dX6_become_17 : decode cX6_become 17 = .ok (.aload_n 1, 1) := by decide +kernel
theorem dX6_become_18 : decode cX6_become 18 = .ok (.getfield 18, 3) := by decide +kernel
theorem dX6_become_21 : decode cX6_become 21 = .ok (.putfield 18, 3) := by decide +kernel
theorem dX6_become_24 : decode cX6_become 24 = .ok (.aload_n 0, 1) := by decide +kernel
theorem dX6_become_25 : decode cX6_become 25 = .ok (.aload_n 1, 1) := by decide +kernel
theorem dX6_become_26 : decode cX6_become 26 = .ok (.getfield 22, 3) := by decide +kernel
theorem dX6_become_29 : decode cX6_become 29 = .ok (.putfield 22, 3) := by decide +kernel
theorem dX6_become_32 : decode cX6_become 32 = .ok (.aload_n 0, 1) := by decide +kernel
theorem dX6_become_33 : decode cX6_become 33 = .ok (.aload_n 1, 1) := by decide +kernel
theorem dX6_become_34 : decode cX6_become 34 = .ok (.getfield 25, 3) := by decide +kernel
theorem dX6_become_37 : decode cX6_become 37 = .ok (.putfield 25, 3) := by decide +kernel
theorem dX6_become_40 : decode cX6_become 40 = .ok (.aload_n 0, 1) := by decide +kernel
theorem dX6_become_41 : decode cX6_become 41 = .ok (.aload_n 1, 1) := by decide +kernel
theorem dX6_become_42 : decode cX6_become 42 = .ok (.getfield 28, 3) := by decide +kernel
theorem dX6_become_45 : decode cX6_become 45 = .ok (.putfield 28, 3) := by decide +kernel
theorem dX6_become_48 : decode cX6_become 48 = .ok (.aload_n 0, 1) := by decide +kernel
theorem dX6_become_49 : decode cX6_become 49 = .ok (.aload_n 1, 1) := by decide +kernel
theorem dX6_become_50 : decode cX6_become 50 = .ok (.getfield 31, 3) := by decide +kernel
theorem dX6_become_53 : decode cX6_become 53 = .ok (.putfield 31, 3) := by decide +kernel
theorem dX6_become_56 : decode cX6_become 56 = .ok (.aload_n 0, 1) := by decide +kernel
theorem dX6_become_57 : decode cX6_become 57 = .ok (.aload_n 1, 1) := by decide +kernel
theorem dX6_become_58 : decode cX6_become 58 = .ok (.getfield 34, 3) := by decide +kernel
theorem dX6_become_61 : decode cX6_become 61 = .ok (.putfield 34, 3) := by decide +kernel
theorem dX6_become_64 : decode cX6_become 64 = .ok (.return_, 1) := by decide +kernel
theorem dX6_leastExponent_0 : decode cX6_leastExponent 0 = .ok (.bipush 13, 2) := by decide +kernel
theorem dX6_leastExponent_2 : decode cX6_leastExponent 2 = .ok (.iload_n 2, 1) := by decide +kernel
theorem dX6_leastExponent_3 : decode cX6_leastExponent 3 = .ok (.isub, 1) := by decide +kernel
theorem dX6_leastExponent_4 : decode cX6_leastExponent 4 = .ok (.istore_n 3, 1) := by decide +kernel
theorem dX6_leastExponent_5 : decode cX6_leastExponent 5 = .ok (.iconst 0, 1) := by decide +kernel
theorem dX6_leastExponent_6 : decode cX6_leastExponent 6 = .ok (.istore 4, 2) := by decide +kernel
theorem dX6_leastExponent_8 : decode cX6_leastExponent 8 = .ok (.iload 4, 2) := by decide +kernel
theorem dX6_leastExponent_10 : decode cX6_leastExponent 10 = .ok (.iload_n 3, 1) := by decide +kernel
theorem dX6_leastExponent_11 : decode cX6_leastExponent 11 = .ok (.if_icmp .ge 40, 3) := by decide +kernel
theorem dX6_leastExponent_14 : decode cX6_leastExponent 14 = .ok (.iload_n 1, 1) := by decide +kernel
theorem dX6_leastExponent_15 : decode cX6_leastExponent 15 = .ok (.iload 4, 2) := by decide +kernel
theorem dX6_leastExponent_17 : decode cX6_leastExponent 17 = .ok (.invokestatic 37, 3) := by decide +kernel
theorem dX6_leastExponent_20 : decode cX6_leastExponent 20 = .ok (.iload_n 0, 1) := by decide +kernel
theorem dX6_leastExponent_21 : decode cX6_leastExponent 21 = .ok (.iload 4, 2) := by decide +kernel
theorem dX6_leastExponent_23 : decode cX6_leastExponent 23 = .ok (.invokestatic 41, 3) := by decide +kernel
theorem dX6_leastExponent_26 : decode cX6_leastExponent 26 = .ok (.isub, 1) := by decide +kernel
theorem dX6_leastExponent_27 : decode cX6_leastExponent 27 = .ok (.istore 5, 2) := by decide +kernel
theorem dX6_leastExponent_29 : decode cX6_leastExponent 29 = .ok (.iload 5, 2) := by decide +kernel
theorem dX6_leastExponent_31 : decode cX6_leastExponent 31 = .ok (.iload 4, 2) := by decide +kernel
theorem dX6_leastExponent_33 : decode cX6_leastExponent 33 = .ok (.ishr, 1) := by decide +kernel
theorem dX6_leastExponent_34 : decode cX6_leastExponent 34 = .ok (.iconst 1, 1) := by decide +kernel
theorem dX6_leastExponent_35 : decode cX6_leastExponent 35 = .ok (.iload_n 2, 1) := by decide +kernel
theorem dX6_leastExponent_36 : decode cX6_leastExponent 36 = .ok (.iconst 1, 1) := by decide +kernel
theorem dX6_leastExponent_37 : decode cX6_leastExponent 37 = .ok (.isub, 1) := by decide +kernel
theorem dX6_leastExponent_38 : decode cX6_leastExponent 38 = .ok (.ishl, 1) := by decide +kernel
theorem dX6_leastExponent_39 : decode cX6_leastExponent 39 = .ok (.if_icmp .gt 6, 3) := by decide +kernel
theorem dX6_leastExponent_42 : decode cX6_leastExponent 42 = .ok (.iload 4, 2) := by decide +kernel
theorem dX6_leastExponent_44 : decode cX6_leastExponent 44 = .ok (.ireturn, 1) := by decide +kernel
theorem dX6_leastExponent_45 : decode cX6_leastExponent 45 = .ok (.iinc 4 1, 3) := by decide +kernel
theorem dX6_leastExponent_48 : decode cX6_leastExponent 48 = .ok (.goto (-40), 3) := by decide +kernel
theorem dX6_leastExponent_51 : decode cX6_leastExponent 51 = .ok (.iload_n 3, 1) := by decide +kernel
theorem dX6_leastExponent_52 : decode cX6_leastExponent 52 = .ok (.ireturn, 1) := by decide +kernel
theorem dX6_down_0 : decode cX6_down 0 = .ok (.iload_n 0, 1) := by decide +kernel
theorem dX6_down_1 : decode cX6_down 1 = .ok (.iload_n 1, 1) := by decide +kernel
theorem dX6_down_2 : decode cX6_down 2 = .ok (.ishr, 1) := by decide +kernel
theorem dX6_down_3 : decode cX6_down 3 = .ok (.iload_n 1, 1) := by decide +kernel
theorem dX6_down_4 : decode cX6_down 4 = .ok (.ishl, 1) := by decide +kernel
theorem dX6_down_5 : decode cX6_down 5 = .ok (.ireturn, 1) := by decide +kernel
theorem dX6_up_0 : decode cX6_up 0 = .ok (.iload_n 0, 1) := by decide +kernel
theorem dX6_up_1 : decode cX6_up 1 = .ok (.iconst 1, 1) := by decide +kernel
theorem dX6_up_2 : decode cX6_up 2 = .ok (.iload_n 1, 1) := by decide +kernel
theorem dX6_up_3 : decode cX6_up 3 = .ok (.ishl, 1) := by decide +kernel
theorem dX6_up_4 : decode cX6_up 4 = .ok (.iadd, 1) := by decide +kernel
theorem dX6_up_5 : decode cX6_up 5 = .ok (.iconst 1, 1) := by decide +kernel
