theorem dX11_share_55 : decode cX11_share 55 = .ok (.bipush 16, 2) := by decide +kernel
theorem dX11_share_57 : decode cX11_share 57 = .ok (.isub, 1) := by decide +kernel
theorem dX11_share_58 : decode cX11_share 58 = .ok (.goto 4, 3) := by decide +kernel
theorem dX11_share_61 : decode cX11_share 61 = .ok (.iload_n 2, 1) := by decide +kernel
theorem dX11_share_62 : decode cX11_share 62 = .ok (.istore 4, 2) := by decide +kernel
theorem dX11_share_64 : decode cX11_share 64 = .ok (.iload 4, 2) := by decide +kernel
theorem dX11_share_66 : decode cX11_share 66 = .ok (.ifCond .gt 7, 3) := by decide +kernel
theorem dX11_share_69 : decode cX11_share 69 = .ok (.iconst 0, 1) := by decide +kernel
theorem dX11_share_70 : decode cX11_share 70 = .ok (.goto 10, 3) := by decide +kernel
theorem dX11_share_73 : decode cX11_share 73 = .ok (.bipush 100, 2) := by decide +kernel
theorem dX11_share_75 : decode cX11_share 75 = .ok (.iload_n 3, 1) := by decide +kernel
theorem dX11_share_76 : decode cX11_share 76 = .ok (.imul, 1) := by decide +kernel
theorem dX11_share_77 : decode cX11_share 77 = .ok (.iload 4, 2) := by decide +kernel
theorem dX11_share_79 : decode cX11_share 79 = .ok (.idiv, 1) := by decide +kernel
theorem dX11_share_80 : decode cX11_share 80 = .ok (.ireturn, 1) := by decide +kernel
theorem dX11_see_0 : decode cX11_see 0 = .ok (.aload_n 0, 1) := by decide +kernel
theorem dX11_see_1 : decode cX11_see 1 = .ok (.invokevirtual 119, 3) := by decide +kernel
theorem dX11_see_4 : decode cX11_see 4 = .ok (.istore_n 1, 1) := by decide +kernel
theorem dX11_see_5 : decode cX11_see 5 = .ok (.aload_n 0, 1) := by decide +kernel
theorem dX11_see_6 : decode cX11_see 6 = .ok (.getfield 89, 3) := by decide +kernel
theorem dX11_see_9 : decode cX11_see 9 = .ok (.ifCond .eq 18, 3) := by decide +kernel
theorem dX11_see_12 : decode cX11_see 12 = .ok (.aload_n 0, 1) := by decide +kernel
theorem dX11_see_13 : decode cX11_see 13 = .ok (.getfield 59, 3) := by decide +kernel
theorem dX11_see_16 : decode cX11_see 16 = .ok (.aload_n 0, 1) := by decide +kernel
theorem dX11_see_17 : decode cX11_see 17 = .ok (.getfield 9, 3) := by decide +kernel
theorem dX11_see_20 : decode cX11_see 20 = .ok (.iload_n 1, 1) := by decide +kernel
theorem dX11_see_21 : decode cX11_see 21 = .ok (.invokevirtual 286, 3) := by decide +kernel
theorem dX11_see_24 : decode cX11_see 24 = .ok (.ifCond .ne 9, 3) := by decide +kernel
theorem dX11_see_27 : decode cX11_see 27 = .ok (.aload_n 0, 1) := by decide +kernel
theorem dX11_see_28 : decode cX11_see 28 = .ok (.iconst 1, 1) := by decide +kernel
theorem dX11_see_29 : decode cX11_see 29 = .ok (.invokevirtual 107, 3) := by decide +kernel
theorem dX11_see_32 : decode cX11_see 32 = .ok (.ireturn, 1) := by decide +kernel
theorem dX11_see_33 : decode cX11_see 33 = .ok (.aload_n 0, 1) := by decide +kernel
theorem dX11_see_34 : decode cX11_see 34 = .ok (.getfield 59, 3) := by decide +kernel
theorem dX11_see_37 : decode cX11_see 37 = .ok (.getfield 181, 3) := by decide +kernel
theorem dX11_see_40 : decode cX11_see 40 = .ok (.ireturn, 1) := by decide +kernel
theorem dX11_places_0 : decode cX11_places 0 = .ok (.aload_n 0, 1) := by decide +kernel
theorem dX11_places_1 : decode cX11_places 1 = .ok (.iload_n 1, 1) := by decide +kernel
theorem dX11_places_2 : decode cX11_places 2 = .ok (.invokevirtual 196, 3) := by decide +kernel
theorem dX11_places_5 : decode cX11_places 5 = .ok (.ifCond .ne 5, 3) := by decide +kernel
theorem dX11_places_8 : decode cX11_places 8 = .ok (.iconst (-1), 1) := by decide +kernel
theorem dX11_places_9 : decode cX11_places 9 = .ok (.ireturn, 1) := by decide +kernel
theorem dX11_places_10 : decode cX11_places 10 = .ok (.aload_n 0, 1) := by decide +kernel
theorem dX11_places_11 : decode cX11_places 11 = .ok (.getfield 59, 3) := by decide +kernel
theorem dX11_places_14 : decode cX11_places 14 = .ok (.aload_n 0, 1) := by decide +kernel
theorem dX11_places_15 : decode cX11_places 15 = .ok (.getfield 20, 3) := by decide +kernel
theorem dX11_places_18 : decode cX11_places 18 = .ok (.getfield 36, 3) := by decide +kernel
theorem dX11_places_21 : decode cX11_places 21 = .ok (.iload_n 1, 1) := by decide +kernel
theorem dX11_places_22 : decode cX11_places 22 = .ok (.aaload, 1) := by decide +kernel
theorem dX11_places_23 : decode cX11_places 23 = .ok (.aload_n 0, 1) := by decide +kernel
theorem dX11_places_24 : decode cX11_places 24 = .ok (.getfield 73, 3) := by decide +kernel
theorem dX11_places_27 : decode cX11_places 27 = .ok (.getfield 151, 3) := by decide +kernel
theorem dX11_places_30 : decode cX11_places 30 = .ok (.invokevirtual 290, 3) := by decide +kernel
theorem dX11_places_33 : decode cX11_places 33 = .ok (.iload_n 2, 1) := by decide +kernel
theorem dX11_places_34 : decode cX11_places 34 = .ok (.iconst (-1), 1) := by decide +kernel
theorem dX11_places_35 : decode cX11_places 35 = .ok (.if_icmp .ne 13, 3) := by decide +kernel
theorem dX11_places_38 : decode cX11_places 38 = .ok (.aload_n 0, 1) := by decide +kernel
theorem dX11_places_39 : decode cX11_places 39 = .ok (.getfield 59, 3) := by decide +kernel
theorem dX11_places_42 : decode cX11_places 42 = .ok (.invokevirtual 294, 3) := by decide +kernel
theorem dX11_places_45 : decode cX11_places 45 = .ok (.goto 11, 3) := by decide +kernel
theorem dX11_places_48 : decode cX11_places 48 = .ok (.aload_n 0, 1) := by decide +kernel
theorem dX11_places_49 : decode cX11_places 49 = .ok (.getfield 59, 3) := by decide +kernel
theorem dX11_places_52 : decode cX11_places 52 = .ok (.iload_n 2, 1) := by decide +kernel
theorem dX11_places_53 : decode cX11_places 53 = .ok (.invokevirtual 297, 3) := by decide +kernel
theorem dX11_places_56 : decode cX11_places 56 = .ok (.ireturn, 1) := by decide +kernel
theorem dX11_tells_0 : decode cX11_tells 0 = .ok (.aload_n 0, 1) := by decide +kernel
theorem dX11_tells_1 : decode cX11_tells 1 = .ok (.iload_n 1, 1) := by decide +kernel
theorem dX11_tells_2 : decode cX11_tells 2 = .ok (.invokevirtual 196, 3) := by decide +kernel
theorem dX11_tells_5 : decode cX11_tells 5 = .ok (.ifCond .eq 12, 3) := by decide +kernel
theorem dX11_tells_8 : decode cX11_tells 8 = .ok (.iload_n 2, 1) := by decide +kernel
theorem dX11_tells_9 : decode cX11_tells 9 = .ok (.ifCond .lt 8, 3) := by decide +kernel
theorem dX11_tells_12 : decode cX11_tells 12 = .ok (.iload_n 2, 1) := by decide +kernel
theorem dX11_tells_13 : decode cX11_tells 13 = .ok (.iconst 1, 1) := by decide +kernel
theorem dX11_tells_14 : decode cX11_tells 14 = .ok (.if_icmp .le 5, 3) := by decide +kernel
theorem dX11_tells_17 : decode cX11_tells 17 = .ok (.iconst (-1), 1) := by decide +kernel
theorem dX11_tells_18 : decode cX11_tells 18 = .ok (.ireturn, 1) := by decide +kernel
theorem dX11_tells_19 : decode cX11_tells 19 = .ok (.aload_n 0, 1) := by decide +kernel
theorem dX11_tells_20 : decode cX11_tells 20 = .ok (.getfield 59, 3) := by decide +kernel
theorem dX11_tells_23 : decode cX11_tells 23 = .ok (.aload_n 0, 1) := by decide +kernel
theorem dX11_tells_24 : decode cX11_tells 24 = .ok (.getfield 20, 3) := by decide +kernel
theorem dX11_tells_27 : decode cX11_tells 27 = .ok (.getfield 36, 3) := by decide +kernel
theorem dX11_tells_30 : decode cX11_tells 30 = .ok (.iload_n 1, 1) := by decide +kernel
theorem dX11_tells_31 : decode cX11_tells 31 = .ok (.aaload, 1) := by decide +kernel
theorem dX11_tells_32 : decode cX11_tells 32 = .ok (.aload_n 0, 1) := by decide +kernel
theorem dX11_tells_33 : decode cX11_tells 33 = .ok (.getfield 73, 3) := by decide +kernel
theorem dX11_tells_36 : decode cX11_tells 36 = .ok (.getfield 151, 3) := by decide +kernel
theorem dX11_tells_39 : decode cX11_tells 39 = .ok (.invokevirtual 290, 3) := by decide +kernel
theorem dX11_tells_42 : decode cX11_tells 42 = .ok (.aload_n 0, 1) := by decide +kernel
theorem dX11_tells_43 : decode cX11_tells 43 = .ok (.getfield 59, 3) := by decide +kernel
theorem dX11_tells_46 : decode cX11_tells 46 = .ok (.invokevirtual 300, 3) := by decide +kernel
theorem dX11_tells_49 : decode cX11_tells 49 = .ok (.ifCond .ne 5, 3) := by decide +kernel
theorem dX11_tells_52 : decode cX11_tells 52 = .ok (.iconst (-1), 1) := by decide +kernel
theorem dX11_tells_53 : decode cX11_tells 53 = .ok (.ireturn, 1) := by decide +kernel
theorem dX11_tells_54 : decode cX11_tells 54 = .ok (.iload_n 2, 1) := by decide +kernel
theorem dX11_tells_55 : decode cX11_tells 55 = .ok (.ifCond .ne 16, 3) := by decide +kernel
theorem dX11_tells_58 : decode cX11_tells 58 = .ok (.aload_n 0, 1) := by decide +kernel
theorem dX11_tells_59 : decode cX11_tells 59 = .ok (.getfield 59, 3) := by decide +kernel
theorem dX11_tells_62 : decode cX11_tells 62 = .ok (.getfield 303, 3) := by decide +kernel
theorem dX11_tells_65 : decode cX11_tells 65 = .ok (.bipush 64, 2) := by decide +kernel
theorem dX11_tells_67 : decode cX11_tells 67 = .ok (.iadd, 1) := by decide +kernel
theorem dX11_tells_68 : decode cX11_tells 68 = .ok (.goto 10, 3) := by decide +kernel
theorem dX11_tells_71 : decode cX11_tells 71 = .ok (.aload_n 0, 1) := by decide +kernel
theorem dX11_tells_72 : decode cX11_tells 72 = .ok (.getfield 59, 3) := by decide +kernel
theorem dX11_tells_75 : decode cX11_tells 75 = .ok (.getfield 306, 3) := by decide +kernel
theorem dX11_tells_78 : decode cX11_tells 78 = .ok (.ireturn, 1) := by decide +kernel
theorem dX11_alloc_0 : decode cX11_alloc 0 = .ok (.aload_n 0, 1) := by decide +kernel
theorem dX11_alloc_1 : decode cX11_alloc 1 = .ok (.iload_n 1, 1) := by decide +kernel
theorem dX11_alloc_2 : decode cX11_alloc 2 = .ok (.invokevirtual 196, 3) := by decide +kernel
theorem dX11_alloc_5 : decode cX11_alloc 5 = .ok (.ifCond .eq 18, 3) := by decide +kernel
theorem dX11_alloc_8 : decode cX11_alloc 8 = .ok (.aload_n 0, 1) := by decide +kernel
theorem dX11_alloc_9 : decode cX11_alloc 9 = .ok (.getfield 52, 3) := by decide +kernel
theorem dX11_alloc_12 : decode cX11_alloc 12 = .ok (.aload_n 0, 1) := by decide +kernel
theorem dX11_alloc_13 : decode cX11_alloc 13 = .ok (.getfield 73, 3) := by decide +kernel
theorem dX11_alloc_16 : decode cX11_alloc 16 = .ok (.iload_n 2, 1) := by decide +kernel
theorem dX11_alloc_17 : decode cX11_alloc 17 = .ok (.invokevirtual 276, 3) := by decide +kernel
theorem dX11_alloc_20 : decode cX11_alloc 20 = .ok (.ifCond .ne 9, 3) := by decide +kernel
theorem dX11_alloc_23 : decode cX11_alloc 23 = .ok (.aload_n 0, 1) := by decide +kernel
theorem dX11_alloc_24 : decode cX11_alloc 24 = .ok (.iconst 2, 1) := by decide +kernel
theorem dX11_alloc_25 : decode cX11_alloc 25 = .ok (.invokevirtual 107, 3) := by decide +kernel
theorem dX11_alloc_28 : decode cX11_alloc 28 = .ok (.ireturn, 1) := by decide +kernel
theorem dX11_alloc_29 : decode cX11_alloc 29 = .ok (.aload_n 0, 1) := by decide +kernel
theorem dX11_alloc_30 : decode cX11_alloc 30 = .ok (.getfield 30, 3) := by decide +kernel
theorem dX11_alloc_33 : decode cX11_alloc 33 = .ok (.aload_n 0, 1) := by decide +kernel
theorem dX11_alloc_34 : decode cX11_alloc 34 = .ok (.getfield 20, 3) := by decide +kernel
theorem dX11_alloc_37 : decode cX11_alloc 37 = .ok (.invokevirtual 309, 3) := by decide +kernel
theorem dX11_alloc_40 : decode cX11_alloc 40 = .ok (.aload_n 0, 1) := by decide +kernel
theorem dX11_alloc_41 : decode cX11_alloc 41 = .ok (.iload_n 1, 1) := by decide +kernel
theorem dX11_alloc_42 : decode cX11_alloc 42 = .ok (.iload_n 2, 1) := by decide +kernel
theorem dX11_alloc_43 : decode cX11_alloc 43 = .ok (.invokevirtual 313, 3) := by decide +kernel
theorem dX11_alloc_46 : decode cX11_alloc 46 = .ok (.aload_n 0, 1) := by decide +kernel
theorem dX11_alloc_47 : decode cX11_alloc 47 = .ok (.getfield 52, 3) := by decide +kernel
theorem dX11_alloc_50 : decode cX11_alloc 50 = .ok (.getfield 280, 3) := by decide +kernel
theorem dX11_alloc_53 : decode cX11_alloc 53 = .ok (.ireturn, 1) := by decide +kernel
theorem dX11_allocate_0 : decode cX11_allocate 0 = .ok (.aload_n 0, 1) := by decide +kernel
theorem dX11_allocate_1 : decode cX11_allocate 1 = .ok (.getfield 20, 3) := by decide +kernel
theorem dX11_allocate_4 : decode cX11_allocate 4 = .ok (.aload_n 0, 1) := by decide +kernel
theorem dX11_allocate_5 : decode cX11_allocate 5 = .ok (.getfield 52, 3) := by decide +kernel
theorem dX11_allocate_8 : decode cX11_allocate 8 = .ok (.getfield 317, 3) := by decide +kernel
theorem dX11_allocate_11 : decode cX11_allocate 11 = .ok (.aload_n 0, 1) := by decide +kernel
theorem dX11_allocate_12 : decode cX11_allocate 12 = .ok (.getfield 52, 3) := by decide +kernel
theorem dX11_allocate_15 : decode cX11_allocate 15 = .ok (.getfield 280, 3) := by decide +kernel
theorem dX11_allocate_18 : decode cX11_allocate 18 = .ok (.aload_n 0, 1) := by decide +kernel
theorem dX11_allocate_19 : decode cX11_allocate 19 = .ok (.getfield 52, 3) := by decide +kernel
theorem dX11_allocate_22 : decode cX11_allocate 22 = .ok (.getfield 320, 3) := by decide +kernel
theorem dX11_allocate_25 : decode cX11_allocate 25 = .ok (.iload_n 2, 1) := by decide +kernel
theorem dX11_allocate_26 : decode cX11_allocate 26 = .ok (.invokevirtual 323, 3) := by decide +kernel
theorem dX11_allocate_29 : decode cX11_allocate 29 = .ok (.aload_n 0, 1) := by decide +kernel
theorem dX11_allocate_30 : decode cX11_allocate 30 = .ok (.getfield 20, 3) := by decide +kernel
theorem dX11_allocate_33 : decode cX11_allocate 33 = .ok (.getfield 36, 3) := by decide +kernel
theorem dX11_allocate_36 : decode cX11_allocate 36 = .ok (.iload_n 1, 1) := by decide +kernel
theorem dX11_allocate_37 : decode cX11_allocate 37 = .ok (.aaload, 1) := by decide +kernel
theorem dX11_allocate_38 : decode cX11_allocate 38 = .ok (.astore_n 3, 1) := by decide +kernel
theorem dX11_allocate_39 : decode cX11_allocate 39 = .ok (.aload_n 3, 1) := by decide +kernel
theorem dX11_allocate_40 : decode cX11_allocate 40 = .ok (.iconst 1, 1) := by decide +kernel
theorem dX11_allocate_41 : decode cX11_allocate 41 = .ok (.invokevirtual 327, 3) := by decide +kernel
theorem dX11_allocate_44 : decode cX11_allocate 44 = .ok (.aload_n 3, 1) := by decide +kernel
theorem dX11_allocate_45 : decode cX11_allocate 45 = .ok (.iconst 1, 1) := by decide +kernel
theorem dX11_allocate_46 : decode cX11_allocate 46 = .ok (.putfield 143, 3) := by decide +kernel
theorem dX11_allocate_49 : decode cX11_allocate 49 = .ok (.aload_n 3, 1) := by decide +kernel
theorem dX11_allocate_50 : decode cX11_allocate 50 = .ok (.aload_n 0, 1) := by decide +kernel
theorem dX11_allocate_51 : decode cX11_allocate 51 = .ok (.getfield 52, 3) := by decide +kernel
theorem dX11_allocate_54 : decode cX11_allocate 54 = .ok (.getfield 280, 3) := by decide +kernel
theorem dX11_allocate_57 : decode cX11_allocate 57 = .ok (.putfield 330, 3) := by decide +kernel
theorem dX11_allocate_60 : decode cX11_allocate 60 = .ok (.aload_n 3, 1) := by decide +kernel
theorem dX11_allocate_61 : decode cX11_allocate 61 = .ok (.iconst 3, 1) := by decide +kernel
theorem dX11_allocate_62 : decode cX11_allocate 62 = .ok (.putfield 148, 3) := by decide +kernel
theorem dX11_allocate_65 : decode cX11_allocate 65 = .ok (.aload_n 3, 1) := by decide +kernel
theorem dX11_allocate_66 : decode cX11_allocate 66 = .ok (.aload_n 0, 1) := by decide +kernel
theorem dX11_allocate_67 : decode cX11_allocate 67 = .ok (.getfield 52, 3) := by decide +kernel
theorem dX11_allocate_70 : decode cX11_allocate 70 = .ok (.getfield 280, 3) := by decide +kernel
theorem dX11_allocate_73 : decode cX11_allocate 73 = .ok (.aload_n 0, 1) := by decide +kernel
theorem dX11_allocate_74 : decode cX11_allocate 74 = .ok (.getfield 52, 3) := by decide +kernel
theorem dX11_allocate_77 : decode cX11_allocate 77 = .ok (.getfield 320, 3) := by decide +kernel
theorem dX11_allocate_80 : decode cX11_allocate 80 = .ok (.aload_n 0, 1) := by decide +kernel
theorem dX11_allocate_81 : decode cX11_allocate 81 = .ok (.getfield 73, 3) := by decide +kernel
theorem dX11_allocate_84 : decode cX11_allocate 84 = .ok (.getfield 151, 3) := by decide +kernel
theorem dX11_allocate_87 : decode cX11_allocate 87 = .ok (.invokevirtual 154, 3) := by decide +kernel
theorem dX11_allocate_90 : decode cX11_allocate 90 = .ok (.return_, 1) := by decide +kernel
theorem dX11_free_0 : decode cX11_free 0 = .ok (.aload_n 0, 1) := by decide +kernel
theorem dX11_free_1 : decode cX11_free 1 = .ok (.iload_n 1, 1) := by decide +kernel
theorem dX11_free_2 : decode cX11_free 2 = .ok (.invokevirtual 196, 3) := by decide +kernel
theorem dX11_free_5 : decode cX11_free 5 = .ok (.ifCond .eq 11, 3) := by decide +kernel
theorem dX11_free_8 : decode cX11_free 8 = .ok (.aload_n 0, 1) := by decide +kernel
theorem dX11_free_9 : decode cX11_free 9 = .ok (.iload_n 1, 1) := by decide +kernel
theorem dX11_free_10 : decode cX11_free 10 = .ok (.invokevirtual 333, 3) := by decide +kernel
theorem dX11_free_13 : decode cX11_free 13 = .ok (.goto 4, 3) := by decide +kernel
theorem dX11_free_16 : decode cX11_free 16 = .ok (.iconst (-1), 1) := by decide +kernel
theorem dX11_free_17 : decode cX11_free 17 = .ok (.istore_n 2, 1) := by decide +kernel
theorem dX11_free_18 : decode cX11_free 18 = .ok (.iload_n 2, 1) := by decide +kernel
theorem dX11_free_19 : decode cX11_free 19 = .ok (.iconst (-1), 1) := by decide +kernel
theorem dX11_free_20 : decode cX11_free 20 = .ok (.if_icmp .ne 9, 3) := by decide +kernel
theorem dX11_free_23 : decode cX11_free 23 = .ok (.aload_n 0, 1) := by decide +kernel
theorem dX11_free_24 : decode cX11_free 24 = .ok (.iconst 2, 1) := by decide +kernel
theorem dX11_free_25 : decode cX11_free 25 = .ok (.invokevirtual 107, 3) := by decide +kernel
theorem dX11_free_28 : decode cX11_free 28 = .ok (.ireturn, 1) := by decide +kernel
theorem dX11_free_29 : decode cX11_free 29 = .ok (.aload_n 0, 1) := by decide +kernel
theorem dX11_free_30 : decode cX11_free 30 = .ok (.getfield 20, 3) := by decide +kernel
theorem dX11_free_33 : decode cX11_free 33 = .ok (.getfield 216, 3) := by decide +kernel
theorem dX11_free_36 : decode cX11_free 36 = .ok (.iload_n 2, 1) := by decide +kernel
theorem dX11_free_37 : decode cX11_free 37 = .ok (.iaload, 1) := by decide +kernel
theorem dX11_free_38 : decode cX11_free 38 = .ok (.istore_n 3, 1) := by decide +kernel
theorem dX11_free_39 : decode cX11_free 39 = .ok (.aload_n 0, 1) := by decide +kernel
theorem dX11_free_40 : decode cX11_free 40 = .ok (.getfield 30, 3) := by decide +kernel
theorem dX11_free_43 : decode cX11_free 43 = .ok (.aload_n 0, 1) := by decide +kernel
theorem dX11_free_44 : decode cX11_free 44 = .ok (.getfield 20, 3) := by decide +kernel
theorem dX11_free_47 : decode cX11_free 47 = .ok (.invokevirtual 309, 3) := by decide +kernel
theorem dX11_free_50 : decode cX11_free 50 = .ok (.aload_n 0, 1) := by decide +kernel
theorem dX11_free_51 : decode cX11_free 51 = .ok (.getfield 20, 3) := by decide +kernel
theorem dX11_free_54 : decode cX11_free 54 = .ok (.iload_n 2, 1) := by decide +kernel
theorem dX11_free_55 : decode cX11_free 55 = .ok (.aload_n 0, 1) := by decide +kernel
theorem dX11_free_56 : decode cX11_free 56 = .ok (.getfield 73, 3) := by decide +kernel
theorem dX11_free_59 : decode cX11_free 59 = .ok (.getfield 151, 3) := by decide +kernel
theorem dX11_free_62 : decode cX11_free 62 = .ok (.invokevirtual 336, 3) := by decide +kernel
theorem dX11_free_65 : decode cX11_free 65 = .ok (.iload_n 3, 1) := by decide +kernel
theorem dX11_free_66 : decode cX11_free 66 = .ok (.ireturn, 1) := by decide +kernel
theorem dX11_objectOf_0 : decode cX11_objectOf 0 = .ok (.aload_n 0, 1) := by decide +kernel
theorem dX11_objectOf_1 : decode cX11_objectOf 1 = .ok (.getfield 20, 3) := by decide +kernel
theorem dX11_objectOf_4 : decode cX11_objectOf 4 = .ok (.getfield 36, 3) := by decide +kernel
theorem dX11_objectOf_7 : decode cX11_objectOf 7 = .ok (.iload_n 1, 1) := by decide +kernel
theorem dX11_objectOf_8 : decode cX11_objectOf 8 = .ok (.aaload, 1) := by decide +kernel
theorem dX11_objectOf_9 : decode cX11_objectOf 9 = .ok (.astore_n 2, 1) := by decide +kernel
theorem dX11_objectOf_10 : decode cX11_objectOf 10 = .ok (.aload_n 2, 1) := by decide +kernel
theorem dX11_objectOf_11 : decode cX11_objectOf 11 = .ok (.invokevirtual 269, 3) := by decide +kernel
theorem dX11_objectOf_14 : decode cX11_objectOf 14 = .ok (.ifCond .ne 5, 3) := by decide +kernel
theorem dX11_objectOf_17 : decode cX11_objectOf 17 = .ok (.iconst (-1), 1) := by decide +kernel
theorem dX11_objectOf_18 : decode cX11_objectOf 18 = .ok (.ireturn, 1) := by decide +kernel
theorem dX11_objectOf_19 : decode cX11_objectOf 19 = .ok (.aload_n 0, 1) := by decide +kernel
theorem dX11_objectOf_20 : decode cX11_objectOf 20 = .ok (.getfield 20, 3) := by decide +kernel
theorem dX11_objectOf_23 : decode cX11_objectOf 23 = .ok (.aload_n 2, 1) := by decide +kernel
theorem dX11_objectOf_24 : decode cX11_objectOf 24 = .ok (.aload_n 0, 1) := by decide +kernel
theorem dX11_objectOf_25 : decode cX11_objectOf 25 = .ok (.getfield 73, 3) := by decide +kernel
theorem dX11_objectOf_28 : decode cX11_objectOf 28 = .ok (.getfield 151, 3) := by decide +kernel
theorem dX11_objectOf_31 : decode cX11_objectOf 31 = .ok (.invokevirtual 339, 3) := by decide +kernel
theorem dX11_objectOf_34 : decode cX11_objectOf 34 = .ok (.aload_n 2, 1) := by decide +kernel
theorem dX11_objectOf_35 : decode cX11_objectOf 35 = .ok (.aload_n 0, 1) := by decide +kernel
theorem dX11_objectOf_36 : decode cX11_objectOf 36 = .ok (.getfield 73, 3) := by decide +kernel
theorem dX11_objectOf_39 : decode cX11_objectOf 39 = .ok (.getfield 151, 3) := by decide +kernel
theorem dX11_objectOf_42 : decode cX11_objectOf 42 = .ok (.invokevirtual 341, 3) := by decide +kernel
theorem dX11_objectOf_45 : decode cX11_objectOf 45 = .ok (.invokevirtual 344, 3) := by decide +kernel
theorem dX11_objectOf_48 : decode cX11_objectOf 48 = .ok (.ireturn, 1) := by decide +kernel
theorem dX11_copy_0 : decode cX11_copy 0 = .ok (.aload_n 0, 1) := by decide +kernel
theorem dX11_copy_1 : decode cX11_copy 1 = .ok (.iload_n 1, 1) := by decide +kernel
theorem dX11_copy_2 : decode cX11_copy 2 = .ok (.invokevirtual 196, 3) := by decide +kernel
theorem dX11_copy_5 : decode cX11_copy 5 = .ok (.ifCond .eq 16, 3) := by decide +kernel
theorem dX11_copy_8 : decode cX11_copy 8 = .ok (.aload_n 0, 1) := by decide +kernel
theorem dX11_copy_9 : decode cX11_copy 9 = .ok (.iload_n 2, 1) := by decide +kernel
theorem dX11_copy_10 : decode cX11_copy 10 = .ok (.invokevirtual 196, 3) := by decide +kernel
theorem dX11_copy_13 : decode cX11_copy 13 = .ok (.ifCond .eq 8, 3) := by decide +kernel
theorem dX11_copy_16 : decode cX11_copy 16 = .ok (.iload_n 1, 1) := by decide +kernel
theorem dX11_copy_17 : decode cX11_copy 17 = .ok (.iload_n 2, 1) := by decide +kernel
theorem dX11_copy_18 : decode cX11_copy 18 = .ok (.if_icmp .ne 9, 3) := by decide +kernel
theorem dX11_copy_21 : decode cX11_copy 21 = .ok (.aload_n 0, 1) := by decide +kernel
theorem dX11_copy_22 : decode cX11_copy 22 = .ok (.iconst 3, 1) := by decide +kernel
theorem dX11_copy_23 : decode cX11_copy 23 = .ok (.invokevirtual 115, 3) := by decide +kernel
theorem dX11_copy_26 : decode cX11_copy 26 = .ok (.ireturn, 1) := by decide +kernel
theorem dX11_copy_27 : decode cX11_copy 27 = .ok (.aload_n 0, 1) := by decide +kernel
theorem dX11_copy_28 : decode cX11_copy 28 = .ok (.getfield 30, 3) := by decide +kernel
theorem dX11_copy_31 : decode cX11_copy 31 = .ok (.aload_n 0, 1) := by decide +kernel
theorem dX11_copy_32 : decode cX11_copy 32 = .ok (.getfield 20, 3) := by decide +kernel
theorem dX11_copy_35 : decode cX11_copy 35 = .ok (.invokevirtual 309, 3) := by decide +kernel
theorem dX11_copy_38 : decode cX11_copy 38 = .ok (.aload_n 0, 1) := by decide +kernel
theorem dX11_copy_39 : decode cX11_copy 39 = .ok (.getfield 20, 3) := by decide +kernel
theorem dX11_copy_42 : decode cX11_copy 42 = .ok (.getfield 36, 3) := by decide +kernel
theorem dX11_copy_45 : decode cX11_copy 45 = .ok (.iload_n 2, 1) := by decide +kernel
theorem dX11_copy_46 : decode cX11_copy 46 = .ok (.aaload, 1) := by decide +kernel
theorem dX11_copy_47 : decode cX11_copy 47 = .ok (.aload_n 0, 1) := by decide +kernel
theorem dX11_copy_48 : decode cX11_copy 48 = .ok (.getfield 20, 3) := by decide +kernel
theorem dX11_copy_51 : decode cX11_copy 51 = .ok (.getfield 36, 3) := by decide +kernel
theorem dX11_copy_54 : decode cX11_copy 54 = .ok (.iload_n 1, 1) := by decide +kernel
theorem dX11_copy_55 : decode cX11_copy 55 = .ok (.aaload, 1) := by decide +kernel
theorem dX11_copy_56 : decode cX11_copy 56 = .ok (.invokevirtual 347, 3) := by decide +kernel
theorem dX11_copy_59 : decode cX11_copy 59 = .ok (.iconst 1, 1) := by decide +kernel
theorem dX11_copy_60 : decode cX11_copy 60 = .ok (.ireturn, 1) := by decide +kernel
theorem dX11_move_0 : decode cX11_move 0 = .ok (.aload_n 0, 1) := by decide +kernel
theorem dX11_move_1 : decode cX11_move 1 = .ok (.iload_n 1, 1) := by decide +kernel
theorem dX11_move_2 : decode cX11_move 2 = .ok (.invokevirtual 196, 3) := by decide +kernel
theorem dX11_move_5 : decode cX11_move 5 = .ok (.ifCond .eq 25, 3) := by decide +kernel
theorem dX11_move_8 : decode cX11_move 8 = .ok (.iload_n 2, 1) := by decide +kernel
theorem dX11_move_9 : decode cX11_move 9 = .ok (.invokestatic 254, 3) := by decide +kernel
theorem dX11_move_12 : decode cX11_move 12 = .ok (.ifCond .eq 18, 3) := by decide +kernel
theorem dX11_move_15 : decode cX11_move 15 = .ok (.aload_n 0, 1) := by decide +kernel
theorem dX11_move_16 : decode cX11_move 16 = .ok (.getfield 20, 3) := by decide +kernel
theorem dX11_move_19 : decode cX11_move 19 = .ok (.getfield 36, 3) := by decide +kernel
theorem dX11_move_22 : decode cX11_move 22 = .ok (.iload_n 1, 1) := by decide +kernel
theorem dX11_move_23 : decode cX11_move 23 = .ok (.aaload, 1) := by decide +kernel
theorem dX11_move_24 : decode cX11_move 24 = .ok (.getfield 351, 3) := by decide +kernel
theorem dX11_move_27 : decode cX11_move 27 = .ok (.ifCond .eq 9, 3) := by decide +kernel
theorem dX11_move_30 : decode cX11_move 30 = .ok (.aload_n 0, 1) := by decide +kernel
theorem dX11_move_31 : decode cX11_move 31 = .ok (.iconst 3, 1) := by decide +kernel
theorem dX11_move_32 : decode cX11_move 32 = .ok (.invokevirtual 115, 3) := by decide +kernel
theorem dX11_move_35 : decode cX11_move 35 = .ok (.ireturn, 1) := by decide +kernel
theorem dX11_move_36 : decode cX11_move 36 = .ok (.aload_n 0, 1) := by decide +kernel
theorem dX11_move_37 : decode cX11_move 37 = .ok (.getfield 30, 3) := by decide +kernel
theorem dX11_move_40 : decode cX11_move 40 = .ok (.aload_n 0, 1) := by decide +kernel
theorem dX11_move_41 : decode cX11_move 41 = .ok (.getfield 20, 3) := by decide +kernel
theorem dX11_move_44 : decode cX11_move 44 = .ok (.invokevirtual 309, 3) := by decide +kernel
theorem dX11_move_47 : decode cX11_move 47 = .ok (.aload_n 0, 1) := by decide +kernel
theorem dX11_move_48 : decode cX11_move 48 = .ok (.getfield 20, 3) := by decide +kernel
theorem dX11_move_51 : decode cX11_move 51 = .ok (.getfield 36, 3) := by decide +kernel
theorem dX11_move_54 : decode cX11_move 54 = .ok (.iload_n 1, 1) := by decide +kernel
theorem dX11_move_55 : decode cX11_move 55 = .ok (.aaload, 1) := by decide +kernel
theorem dX11_move_56 : decode cX11_move 56 = .ok (.astore_n 3, 1) := by decide +kernel
theorem dX11_move_57 : decode cX11_move 57 = .ok (.aload_n 3, 1) := by decide +kernel
theorem dX11_move_58 : decode cX11_move 58 = .ok (.getfield 143, 3) := by decide +kernel
theorem dX11_move_61 : decode cX11_move 61 = .ok (.ifCond .eq 22, 3) := by decide +kernel
theorem dX11_move_64 : decode cX11_move 64 = .ok (.aload_n 3, 1) := by decide +kernel
theorem dX11_move_65 : decode cX11_move 65 = .ok (.iload_n 2, 1) := by decide +kernel
theorem dX11_move_66 : decode cX11_move 66 = .ok (.aload_n 0, 1) := by decide +kernel
theorem dX11_move_67 : decode cX11_move 67 = .ok (.getfield 73, 3) := by decide +kernel
theorem dX11_move_70 : decode cX11_move 70 = .ok (.getfield 151, 3) := by decide +kernel
theorem dX11_move_73 : decode cX11_move 73 = .ok (.invokevirtual 257, 3) := by decide +kernel
theorem dX11_move_76 : decode cX11_move 76 = .ok (.ifCond .ne 7, 3) := by decide +kernel
theorem dX11_move_79 : decode cX11_move 79 = .ok (.iconst 1, 1) := by decide +kernel
theorem dX11_move_80 : decode cX11_move 80 = .ok (.goto 4, 3) := by decide +kernel
theorem dX11_move_83 : decode cX11_move 83 = .ok (.iconst 0, 1) := by decide +kernel
theorem dX11_move_84 : decode cX11_move 84 = .ok (.istore 4, 2) := by decide +kernel
theorem dX11_move_86 : decode cX11_move 86 = .ok (.aload_n 3, 1) := by decide +kernel
theorem dX11_move_87 : decode cX11_move 87 = .ok (.aload_n 3, 1) := by decide +kernel
theorem dX11_move_88 : decode cX11_move 88 = .ok (.getfield 330, 3) := by decide +kernel
theorem dX11_move_91 : decode cX11_move 91 = .ok (.iload_n 2, 1) := by decide +kernel
theorem dX11_move_92 : decode cX11_move 92 = .ok (.iadd, 1) := by decide +kernel
theorem dX11_move_93 : decode cX11_move 93 = .ok (.sipush 4095, 3) := by decide +kernel
theorem dX11_move_96 : decode cX11_move 96 = .ok (.iand, 1) := by decide +kernel
theorem dX11_move_97 : decode cX11_move 97 = .ok (.putfield 330, 3) := by decide +kernel
theorem dX11_move_100 : decode cX11_move 100 = .ok (.iload 4, 2) := by decide +kernel
theorem dX11_move_102 : decode cX11_move 102 = .ok (.ifCond .eq 21, 3) := by decide +kernel
theorem dX11_move_105 : decode cX11_move 105 = .ok (.aload_n 3, 1) := by decide +kernel
theorem dX11_move_106 : decode cX11_move 106 = .ok (.iconst 0, 1) := by decide +kernel
theorem dX11_move_107 : decode cX11_move 107 = .ok (.putfield 143, 3) := by decide +kernel
theorem dX11_move_110 : decode cX11_move 110 = .ok (.aload_n 0, 1) := by decide +kernel
theorem dX11_move_111 : decode cX11_move 111 = .ok (.getfield 20, 3) := by decide +kernel
theorem dX11_move_114 : decode cX11_move 114 = .ok (.iconst 2, 1) := by decide +kernel
theorem dX11_move_115 : decode cX11_move 115 = .ok (.iload_n 1, 1) := by decide +kernel
theorem dX11_move_116 : decode cX11_move 116 = .ok (.aload_n 3, 1) := by decide +kernel
theorem dX11_move_117 : decode cX11_move 117 = .ok (.getfield 330, 3) := by decide +kernel
theorem dX11_move_120 : decode cX11_move 120 = .ok (.invokevirtual 354, 3) := by decide +kernel
theorem dX11_move_123 : decode cX11_move 123 = .ok (.aload_n 3, 1) := by decide +kernel
theorem dX11_move_124 : decode cX11_move 124 = .ok (.getfield 143, 3) := by decide +kernel
theorem dX11_move_127 : decode cX11_move 127 = .ok (.ireturn, 1) := by decide +kernel
theorem dX11_narrow_0 : decode cX11_narrow 0 = .ok (.aload_n 0, 1) := by decide +kernel
theorem dX11_narrow_1 : decode cX11_narrow 1 = .ok (.iload_n 1, 1) := by decide +kernel
theorem dX11_narrow_2 : decode cX11_narrow 2 = .ok (.invokevirtual 196, 3) := by decide +kernel
theorem dX11_narrow_5 : decode cX11_narrow 5 = .ok (.ifCond .eq 34, 3) := by decide +kernel
theorem dX11_narrow_8 : decode cX11_narrow 8 = .ok (.aload_n 0, 1) := by decide +kernel
theorem dX11_narrow_9 : decode cX11_narrow 9 = .ok (.iload_n 2, 1) := by decide +kernel
theorem dX11_narrow_10 : decode cX11_narrow 10 = .ok (.invokevirtual 196, 3) := by decide +kernel
theorem dX11_narrow_13 : decode cX11_narrow 13 = .ok (.ifCond .eq 26, 3) := by decide +kernel
theorem dX11_narrow_16 : decode cX11_narrow 16 = .ok (.aload_n 0, 1) := by decide +kernel
theorem dX11_narrow_17 : decode cX11_narrow 17 = .ok (.getfield 20, 3) := by decide +kernel
theorem dX11_narrow_20 : decode cX11_narrow 20 = .ok (.getfield 36, 3) := by decide +kernel
theorem dX11_narrow_23 : decode cX11_narrow 23 = .ok (.iload_n 1, 1) := by decide +kernel
theorem dX11_narrow_24 : decode cX11_narrow 24 = .ok (.aaload, 1) := by decide +kernel
theorem dX11_narrow_25 : decode cX11_narrow 25 = .ok (.iload_n 3, 1) := by decide +kernel
theorem dX11_narrow_26 : decode cX11_narrow 26 = .ok (.aload_n 0, 1) := by decide +kernel
theorem dX11_narrow_27 : decode cX11_narrow 27 = .ok (.getfield 73, 3) := by decide +kernel
theorem dX11_narrow_30 : decode cX11_narrow 30 = .ok (.getfield 151, 3) := by decide +kernel
theorem dX11_narrow_33 : decode cX11_narrow 33 = .ok (.invokevirtual 357, 3) := by decide +kernel
theorem dX11_narrow_36 : decode cX11_narrow 36 = .ok (.ifCond .ne 9, 3) := by decide +kernel
theorem dX11_narrow_39 : decode cX11_narrow 39 = .ok (.aload_n 0, 1) := by decide +kernel
theorem dX11_narrow_40 : decode cX11_narrow 40 = .ok (.iconst 3, 1) := by decide +kernel
theorem dX11_narrow_41 : decode cX11_narrow 41 = .ok (.invokevirtual 107, 3) := by decide +kernel
theorem dX11_narrow_44 : decode cX11_narrow 44 = .ok (.ireturn, 1) := by decide +kernel
theorem dX11_narrow_45 : decode cX11_narrow 45 = .ok (.aload_n 0, 1) := by decide +kernel
theorem dX11_narrow_46 : decode cX11_narrow 46 = .ok (.getfield 30, 3) := by decide +kernel
theorem dX11_narrow_49 : decode cX11_narrow 49 = .ok (.aload_n 0, 1) := by decide +kernel
theorem dX11_narrow_50 : decode cX11_narrow 50 = .ok (.getfield 20, 3) := by decide +kernel
theorem dX11_narrow_53 : decode cX11_narrow 53 = .ok (.invokevirtual 309, 3) := by decide +kernel
theorem dX11_narrow_56 : decode cX11_narrow 56 = .ok (.aload_n 0, 1) := by decide +kernel
theorem dX11_narrow_57 : decode cX11_narrow 57 = .ok (.getfield 20, 3) := by decide +kernel
theorem dX11_narrow_60 : decode cX11_narrow 60 = .ok (.getfield 36, 3) := by decide +kernel
theorem dX11_narrow_63 : decode cX11_narrow 63 = .ok (.iload_n 2, 1) := by decide +kernel
theorem dX11_narrow_64 : decode cX11_narrow 64 = .ok (.aaload, 1) := by decide +kernel
theorem dX11_narrow_65 : decode cX11_narrow 65 = .ok (.astore 4, 2) := by decide +kernel
theorem dX11_narrow_67 : decode cX11_narrow 67 = .ok (.aload 4, 2) := by decide +kernel
theorem dX11_narrow_69 : decode cX11_narrow 69 = .ok (.aload_n 0, 1) := by decide +kernel
theorem dX11_narrow_70 : decode cX11_narrow 70 = .ok (.getfield 20, 3) := by decide +kernel
theorem dX11_narrow_73 : decode cX11_narrow 73 = .ok (.getfield 36, 3) := by decide +kernel
theorem dX11_narrow_76 : decode cX11_narrow 76 = .ok (.iload_n 1, 1) := by decide +kernel
theorem dX11_narrow_77 : decode cX11_narrow 77 = .ok (.aaload, 1) := by decide +kernel
theorem dX11_narrow_78 : decode cX11_narrow 78 = .ok (.invokevirtual 347, 3) := by decide +kernel
theorem dX11_narrow_81 : decode cX11_narrow 81 = .ok (.aload 4, 2) := by decide +kernel
theorem dX11_narrow_83 : decode cX11_narrow 83 = .ok (.aload 4, 2) := by decide +kernel
theorem dX11_narrow_85 : decode cX11_narrow 85 = .ok (.getfield 330, 3) := by decide +kernel
theorem dX11_narrow_88 : decode cX11_narrow 88 = .ok (.iload_n 3, 1) := by decide +kernel
theorem dX11_narrow_89 : decode cX11_narrow 89 = .ok (.aload_n 0, 1) := by decide +kernel
theorem dX11_narrow_90 : decode cX11_narrow 90 = .ok (.getfield 73, 3) := by decide +kernel
theorem dX11_narrow_93 : decode cX11_narrow 93 = .ok (.getfield 151, 3) := by decide +kernel
theorem dX11_narrow_96 : decode cX11_narrow 96 = .ok (.invokevirtual 154, 3) := by decide +kernel
theorem dX11_narrow_99 : decode cX11_narrow 99 = .ok (.aload 4, 2) := by decide +kernel
theorem dX11_narrow_101 : decode cX11_narrow 101 = .ok (.aload_n 0, 1) := by decide +kernel
theorem dX11_narrow_102 : decode cX11_narrow 102 = .ok (.getfield 73, 3) := by decide +kernel
theorem dX11_narrow_105 : decode cX11_narrow 105 = .ok (.getfield 151, 3) := by decide +kernel
theorem dX11_narrow_108 : decode cX11_narrow 108 = .ok (.invokevirtual 341, 3) := by decide +kernel
theorem dX11_narrow_111 : decode cX11_narrow 111 = .ok (.ireturn, 1) := by decide +kernel
theorem dX11_limit_0 : decode cX11_limit 0 = .ok (.aload_n 0, 1) := by decide +kernel
theorem dX11_limit_1 : decode cX11_limit 1 = .ok (.iload_n 1, 1) := by decide +kernel
theorem dX11_limit_2 : decode cX11_limit 2 = .ok (.invokevirtual 196, 3) := by decide +kernel
theorem dX11_limit_5 : decode cX11_limit 5 = .ok (.ifCond .eq 28, 3) := by decide +kernel
theorem dX11_limit_8 : decode cX11_limit 8 = .ok (.iload_n 2, 1) := by decide +kernel
theorem dX11_limit_9 : decode cX11_limit 9 = .ok (.ifCond .lt 24, 3) := by decide +kernel
theorem dX11_limit_12 : decode cX11_limit 12 = .ok (.iload_n 2, 1) := by decide +kernel
theorem dX11_limit_13 : decode cX11_limit 13 = .ok (.bipush 7, 2) := by decide +kernel
theorem dX11_limit_15 : decode cX11_limit 15 = .ok (.if_icmp .gt 18, 3) := by decide +kernel
theorem dX11_limit_18 : decode cX11_limit 18 = .ok (.aload_n 0, 1) := by decide +kernel
theorem dX11_limit_19 : decode cX11_limit 19 = .ok (.getfield 20, 3) := by decide +kernel
theorem dX11_limit_22 : decode cX11_limit 22 = .ok (.getfield 36, 3) := by decide +kernel
theorem dX11_limit_25 : decode cX11_limit 25 = .ok (.iload_n 1, 1) := by decide +kernel
theorem dX11_limit_26 : decode cX11_limit 26 = .ok (.aaload, 1) := by decide +kernel
theorem dX11_limit_27 : decode cX11_limit 27 = .ok (.getfield 351, 3) := by decide +kernel
theorem dX11_limit_30 : decode cX11_limit 30 = .ok (.ifCond .eq 9, 3) := by decide +kernel
theorem dX11_limit_33 : decode cX11_limit 33 = .ok (.aload_n 0, 1) := by decide +kernel
theorem dX11_limit_34 : decode cX11_limit 34 = .ok (.iconst 3, 1) := by decide +kernel
theorem dX11_limit_35 : decode cX11_limit 35 = .ok (.invokevirtual 107, 3) := by decide +kernel
theorem dX11_limit_38 : decode cX11_limit 38 = .ok (.ireturn, 1) := by decide +kernel
theorem dX11_limit_39 : decode cX11_limit 39 = .ok (.aload_n 0, 1) := by decide +kernel
theorem dX11_limit_40 : decode cX11_limit 40 = .ok (.getfield 30, 3) := by decide +kernel
theorem dX11_limit_43 : decode cX11_limit 43 = .ok (.aload_n 0, 1) := by decide +kernel
theorem dX11_limit_44 : decode cX11_limit 44 = .ok (.getfield 20, 3) := by decide +kernel
theorem dX11_limit_47 : decode cX11_limit 47 = .ok (.invokevirtual 309, 3) := by decide +kernel
theorem dX11_limit_50 : decode cX11_limit 50 = .ok (.aload_n 0, 1) := by decide +kernel
theorem dX11_limit_51 : decode cX11_limit 51 = .ok (.getfield 20, 3) := by decide +kernel
theorem dX11_limit_54 : decode cX11_limit 54 = .ok (.getfield 36, 3) := by decide +kernel
theorem dX11_limit_57 : decode cX11_limit 57 = .ok (.iload_n 1, 1) := by decide +kernel
theorem dX11_limit_58 : decode cX11_limit 58 = .ok (.aaload, 1) := by decide +kernel
theorem dX11_limit_59 : decode cX11_limit 59 = .ok (.dup, 1) := by decide +kernel
theorem dX11_limit_60 : decode cX11_limit 60 = .ok (.getfield 148, 3) := by decide +kernel
theorem dX11_limit_63 : decode cX11_limit 63 = .ok (.iload_n 2, 1) := by decide +kernel
theorem dX11_limit_64 : decode cX11_limit 64 = .ok (.iand, 1) := by decide +kernel
theorem dX11_limit_65 : decode cX11_limit 65 = .ok (.putfield 148, 3) := by decide +kernel
theorem dX11_limit_68 : decode cX11_limit 68 = .ok (.aload_n 0, 1) := by decide +kernel
theorem dX11_limit_69 : decode cX11_limit 69 = .ok (.getfield 20, 3) := by decide +kernel
theorem dX11_limit_72 : decode cX11_limit 72 = .ok (.getfield 36, 3) := by decide +kernel
theorem dX11_limit_75 : decode cX11_limit 75 = .ok (.iload_n 1, 1) := by decide +kernel
theorem dX11_limit_76 : decode cX11_limit 76 = .ok (.aaload, 1) := by decide +kernel
theorem dX11_limit_77 : decode cX11_limit 77 = .ok (.getfield 148, 3) := by decide +kernel
theorem dX11_limit_80 : decode cX11_limit 80 = .ok (.ireturn, 1) := by decide +kernel
theorem dX11_seal_0 : decode cX11_seal 0 = .ok (.aload_n 0, 1) := by decide +kernel
theorem dX11_seal_1 : decode cX11_seal 1 = .ok (.iload_n 2, 1) := by decide +kernel
theorem dX11_seal_2 : decode cX11_seal 2 = .ok (.invokevirtual 360, 3) := by decide +kernel
theorem dX11_seal_5 : decode cX11_seal 5 = .ok (.istore_n 3, 1) := by decide +kernel
theorem dX11_seal_6 : decode cX11_seal 6 = .ok (.iload_n 3, 1) := by decide +kernel
theorem dX11_seal_7 : decode cX11_seal 7 = .ok (.iconst (-1), 1) := by decide +kernel
theorem dX11_seal_8 : decode cX11_seal 8 = .ok (.if_icmp .eq 26, 3) := by decide +kernel
theorem dX11_seal_11 : decode cX11_seal 11 = .ok (.aload_n 0, 1) := by decide +kernel
theorem dX11_seal_12 : decode cX11_seal 12 = .ok (.iload_n 1, 1) := by decide +kernel
theorem dX11_seal_13 : decode cX11_seal 13 = .ok (.invokevirtual 196, 3) := by decide +kernel
theorem dX11_seal_16 : decode cX11_seal 16 = .ok (.ifCond .eq 18, 3) := by decide +kernel
theorem dX11_seal_19 : decode cX11_seal 19 = .ok (.aload_n 0, 1) := by decide +kernel
theorem dX11_seal_20 : decode cX11_seal 20 = .ok (.getfield 20, 3) := by decide +kernel
theorem dX11_seal_23 : decode cX11_seal 23 = .ok (.getfield 36, 3) := by decide +kernel
theorem dX11_seal_26 : decode cX11_seal 26 = .ok (.iload_n 1, 1) := by decide +kernel
theorem dX11_seal_27 : decode cX11_seal 27 = .ok (.aaload, 1) := by decide +kernel
theorem dX11_seal_28 : decode cX11_seal 28 = .ok (.invokevirtual 269, 3) := by decide +kernel
theorem dX11_seal_31 : decode cX11_seal 31 = .ok (.ifCond .ne 9, 3) := by decide +kernel
theorem dX11_seal_34 : decode cX11_seal 34 = .ok (.aload_n 0, 1) := by decide +kernel
theorem dX11_seal_35 : decode cX11_seal 35 = .ok (.iconst 4, 1) := by decide +kernel
theorem dX11_seal_36 : decode cX11_seal 36 = .ok (.invokevirtual 107, 3) := by decide +kernel
theorem dX11_seal_39 : decode cX11_seal 39 = .ok (.ireturn, 1) := by decide +kernel
theorem dX11_seal_40 : decode cX11_seal 40 = .ok (.aload_n 0, 1) := by decide +kernel
theorem dX11_seal_41 : decode cX11_seal 41 = .ok (.getfield 30, 3) := by decide +kernel
theorem dX11_seal_44 : decode cX11_seal 44 = .ok (.aload_n 0, 1) := by decide +kernel
theorem dX11_seal_45 : decode cX11_seal 45 = .ok (.getfield 20, 3) := by decide +kernel
theorem dX11_seal_48 : decode cX11_seal 48 = .ok (.invokevirtual 309, 3) := by decide +kernel
theorem dX11_seal_51 : decode cX11_seal 51 = .ok (.aload_n 0, 1) := by decide +kernel
theorem dX11_seal_52 : decode cX11_seal 52 = .ok (.getfield 20, 3) := by decide +kernel
theorem dX11_seal_55 : decode cX11_seal 55 = .ok (.getfield 36, 3) := by decide +kernel
theorem dX11_seal_58 : decode cX11_seal 58 = .ok (.iload_n 1, 1) := by decide +kernel
theorem dX11_seal_59 : decode cX11_seal 59 = .ok (.aaload, 1) := by decide +kernel
theorem dX11_seal_60 : decode cX11_seal 60 = .ok (.iload_n 3, 1) := by decide +kernel
theorem dX11_seal_61 : decode cX11_seal 61 = .ok (.putfield 351, 3) := by decide +kernel
theorem dX11_seal_64 : decode cX11_seal 64 = .ok (.iload_n 3, 1) := by decide +kernel
theorem dX11_seal_65 : decode cX11_seal 65 = .ok (.ireturn, 1) := by decide +kernel
theorem dX11_unseal_0 : decode cX11_unseal 0 = .ok (.aload_n 0, 1) := by decide +kernel
theorem dX11_unseal_1 : decode cX11_unseal 1 = .ok (.iload_n 2, 1) := by decide +kernel
theorem dX11_unseal_2 : decode cX11_unseal 2 = .ok (.invokevirtual 360, 3) := by decide +kernel
theorem dX11_unseal_5 : decode cX11_unseal 5 = .ok (.istore_n 3, 1) := by decide +kernel
theorem dX11_unseal_6 : decode cX11_unseal 6 = .ok (.iload_n 3, 1) := by decide +kernel
theorem dX11_unseal_7 : decode cX11_unseal 7 = .ok (.iconst (-1), 1) := by decide +kernel
theorem dX11_unseal_8 : decode cX11_unseal 8 = .ok (.if_icmp .eq 11, 3) := by decide +kernel
theorem dX11_unseal_11 : decode cX11_unseal 11 = .ok (.aload_n 0, 1) := by decide +kernel
theorem dX11_unseal_12 : decode cX11_unseal 12 = .ok (.iload_n 1, 1) := by decide +kernel
theorem dX11_unseal_13 : decode cX11_unseal 13 = .ok (.invokevirtual 196, 3) := by decide +kernel
theorem dX11_unseal_16 : decode cX11_unseal 16 = .ok (.ifCond .ne 9, 3) := by decide +kernel
theorem dX11_unseal_19 : decode cX11_unseal 19 = .ok (.aload_n 0, 1) := by decide +kernel
theorem dX11_unseal_20 : decode cX11_unseal 20 = .ok (.iconst 4, 1) := by decide +kernel
theorem dX11_unseal_21 : decode cX11_unseal 21 = .ok (.invokevirtual 115, 3) := by decide +kernel
theorem dX11_unseal_24 : decode cX11_unseal 24 = .ok (.ireturn, 1) := by decide +kernel
theorem dX11_unseal_25 : decode cX11_unseal 25 = .ok (.aload_n 0, 1) := by decide +kernel
theorem dX11_unseal_26 : decode cX11_unseal 26 = .ok (.getfield 20, 3) := by decide +kernel
theorem dX11_unseal_29 : decode cX11_unseal 29 = .ok (.getfield 36, 3) := by decide +kernel
theorem dX11_unseal_32 : decode cX11_unseal 32 = .ok (.iload_n 1, 1) := by decide +kernel
theorem dX11_unseal_33 : decode cX11_unseal 33 = .ok (.aaload, 1) := by decide +kernel
theorem dX11_unseal_34 : decode cX11_unseal 34 = .ok (.astore 4, 2) := by decide +kernel
theorem dX11_unseal_36 : decode cX11_unseal 36 = .ok (.aload 4, 2) := by decide +kernel
theorem dX11_unseal_38 : decode cX11_unseal 38 = .ok (.getfield 143, 3) := by decide +kernel
theorem dX11_unseal_41 : decode cX11_unseal 41 = .ok (.ifCond .eq 12, 3) := by decide +kernel
theorem dX11_unseal_44 : decode cX11_unseal 44 = .ok (.aload 4, 2) := by decide +kernel
theorem dX11_unseal_46 : decode cX11_unseal 46 = .ok (.getfield 351, 3) := by decide +kernel
theorem dX11_unseal_49 : decode cX11_unseal 49 = .ok (.iload_n 3, 1) := by decide +kernel
theorem dX11_unseal_50 : decode cX11_unseal 50 = .ok (.if_icmp .eq 9, 3) := by decide +kernel
theorem dX11_unseal_53 : decode cX11_unseal 53 = .ok (.aload_n 0, 1) := by decide +kernel
theorem dX11_unseal_54 : decode cX11_unseal 54 = .ok (.iconst 4, 1) := by decide +kernel
theorem dX11_unseal_55 : decode cX11_unseal 55 = .ok (.invokevirtual 115, 3) := by decide +kernel
theorem dX11_unseal_58 : decode cX11_unseal 58 = .ok (.ireturn, 1) := by decide +kernel
theorem dX11_unseal_59 : decode cX11_unseal 59 = .ok (.aload_n 0, 1) := by decide +kernel
theorem dX11_unseal_60 : decode cX11_unseal 60 = .ok (.getfield 30, 3) := by decide +kernel
theorem dX11_unseal_63 : decode cX11_unseal 63 = .ok (.aload_n 0, 1) := by decide +kernel
theorem dX11_unseal_64 : decode cX11_unseal 64 = .ok (.getfield 20, 3) := by decide +kernel
theorem dX11_unseal_67 : decode cX11_unseal 67 = .ok (.invokevirtual 309, 3) := by decide +kernel
theorem dX11_unseal_70 : decode cX11_unseal 70 = .ok (.aload 4, 2) := by decide +kernel
theorem dX11_unseal_72 : decode cX11_unseal 72 = .ok (.iconst 0, 1) := by decide +kernel
theorem dX11_unseal_73 : decode cX11_unseal 73 = .ok (.putfield 351, 3) := by decide +kernel
theorem dX11_unseal_76 : decode cX11_unseal 76 = .ok (.iconst 1, 1) := by decide +kernel
theorem dX11_unseal_77 : decode cX11_unseal 77 = .ok (.ireturn, 1) := by decide +kernel
theorem dX11_kindOfKey_0 : decode cX11_kindOfKey 0 = .ok (.aload_n 0, 1) := by decide +kernel
theorem dX11_kindOfKey_1 : decode cX11_kindOfKey 1 = .ok (.iload_n 1, 1) := by decide +kernel
theorem dX11_kindOfKey_2 : decode cX11_kindOfKey 2 = .ok (.invokevirtual 196, 3) := by decide +kernel
theorem dX11_kindOfKey_5 : decode cX11_kindOfKey 5 = .ok (.ifCond .ne 5, 3) := by decide +kernel
theorem dX11_kindOfKey_8 : decode cX11_kindOfKey 8 = .ok (.iconst (-1), 1) := by decide +kernel
theorem dX11_kindOfKey_9 : decode cX11_kindOfKey 9 = .ok (.ireturn, 1) := by decide +kernel
theorem dX11_kindOfKey_10 : decode cX11_kindOfKey 10 = .ok (.aload_n 0, 1) := by decide +kernel
theorem dX11_kindOfKey_11 : decode cX11_kindOfKey 11 = .ok (.getfield 20, 3) := by decide +kernel
theorem dX11_kindOfKey_14 : decode cX11_kindOfKey 14 = .ok (.getfield 36, 3) := by decide +kernel
theorem dX11_kindOfKey_17 : decode cX11_kindOfKey 17 = .ok (.iload_n 1, 1) := by decide +kernel
theorem dX11_kindOfKey_18 : decode cX11_kindOfKey 18 = .ok (.aaload, 1) := by decide +kernel
theorem dX11_kindOfKey_19 : decode cX11_kindOfKey 19 = .ok (.astore_n 2, 1) := by decide +kernel
theorem dX11_kindOfKey_20 : decode cX11_kindOfKey 20 = .ok (.aload_n 2, 1) := by decide +kernel
theorem dX11_kindOfKey_21 : decode cX11_kindOfKey 21 = .ok (.invokevirtual 269, 3) := by decide +kernel
theorem dX11_kindOfKey_24 : decode cX11_kindOfKey 24 = .ok (.ifCond .eq 51, 3) := by decide +kernel
theorem dX11_kindOfKey_27 : decode cX11_kindOfKey 27 = .ok (.aload_n 2, 1) := by decide +kernel
theorem dX11_kindOfKey_28 : decode cX11_kindOfKey 28 = .ok (.getfield 148, 3) := by decide +kernel
theorem dX11_kindOfKey_31 : decode cX11_kindOfKey 31 = .ok (.iconst 4, 1) := by decide +kernel
theorem dX11_kindOfKey_32 : decode cX11_kindOfKey 32 = .ok (.iand, 1) := by decide +kernel
theorem dX11_kindOfKey_33 : decode cX11_kindOfKey 33 = .ok (.ifCond .eq 42, 3) := by decide +kernel
theorem dX11_kindOfKey_36 : decode cX11_kindOfKey 36 = .ok (.aload_n 2, 1) := by decide +kernel
theorem dX11_kindOfKey_37 : decode cX11_kindOfKey 37 = .ok (.getfield 330, 3) := by decide +kernel
theorem dX11_kindOfKey_40 : decode cX11_kindOfKey 40 = .ok (.iconst 1, 1) := by decide +kernel
theorem dX11_kindOfKey_41 : decode cX11_kindOfKey 41 = .ok (.if_icmp .lt 34, 3) := by decide +kernel
theorem dX11_kindOfKey_44 : decode cX11_kindOfKey 44 = .ok (.aload_n 2, 1) := by decide +kernel
theorem dX11_kindOfKey_45 : decode cX11_kindOfKey 45 = .ok (.getfield 330, 3) := by decide +kernel
theorem dX11_kindOfKey_48 : decode cX11_kindOfKey 48 = .ok (.bipush 7, 2) := by decide +kernel
theorem dX11_kindOfKey_50 : decode cX11_kindOfKey 50 = .ok (.if_icmp .gt 25, 3) := by decide +kernel
theorem dX11_kindOfKey_53 : decode cX11_kindOfKey 53 = .ok (.aload_n 2, 1) := by decide +kernel
theorem dX11_kindOfKey_54 : decode cX11_kindOfKey 54 = .ok (.aload_n 2, 1) := by decide +kernel
theorem dX11_kindOfKey_55 : decode cX11_kindOfKey 55 = .ok (.getfield 330, 3) := by decide +kernel
theorem dX11_kindOfKey_58 : decode cX11_kindOfKey 58 = .ok (.aload_n 0, 1) := by decide +kernel
theorem dX11_kindOfKey_59 : decode cX11_kindOfKey 59 = .ok (.getfield 73, 3) := by decide +kernel
theorem dX11_kindOfKey_62 : decode cX11_kindOfKey 62 = .ok (.getfield 151, 3) := by decide +kernel
theorem dX11_kindOfKey_65 : decode cX11_kindOfKey 65 = .ok (.invokevirtual 273, 3) := by decide +kernel
theorem dX11_kindOfKey_68 : decode cX11_kindOfKey 68 = .ok (.ifCond .eq 7, 3) := by decide +kernel
theorem dX11_kindOfKey_71 : decode cX11_kindOfKey 71 = .ok (.iconst 1, 1) := by decide +kernel
theorem dX11_kindOfKey_72 : decode cX11_kindOfKey 72 = .ok (.goto 4, 3) := by decide +kernel
theorem dX11_kindOfKey_75 : decode cX11_kindOfKey 75 = .ok (.iconst 0, 1) := by decide +kernel
theorem dX11_kindOfKey_76 : decode cX11_kindOfKey 76 = .ok (.istore_n 3, 1) := by decide +kernel
theorem dX11_kindOfKey_77 : decode cX11_kindOfKey 77 = .ok (.iload_n 3, 1) := by decide +kernel
theorem dX11_kindOfKey_78 : decode cX11_kindOfKey 78 = .ok (.ifCond .eq 10, 3) := by decide +kernel
theorem dX11_kindOfKey_81 : decode cX11_kindOfKey 81 = .ok (.aload_n 2, 1) := by decide +kernel
theorem dX11_kindOfKey_82 : decode cX11_kindOfKey 82 = .ok (.getfield 330, 3) := by decide +kernel
theorem dX11_kindOfKey_85 : decode cX11_kindOfKey 85 = .ok (.goto 4, 3) := by decide +kernel
theorem dX11_kindOfKey_88 : decode cX11_kindOfKey 88 = .ok (.iconst (-1), 1) := by decide +kernel
theorem dX11_kindOfKey_89 : decode cX11_kindOfKey 89 = .ok (.ireturn, 1) := by decide +kernel
theorem dX11_load_0 : decode cX11_load 0 = .ok (.aload_n 0, 1) := by decide +kernel
theorem dX11_load_1 : decode cX11_load 1 = .ok (.iload_n 1, 1) := by decide +kernel
theorem dX11_load_2 : decode cX11_load 2 = .ok (.iconst 1, 1) := by decide +kernel
theorem dX11_load_3 : decode cX11_load 3 = .ok (.invokevirtual 363, 3) := by decide +kernel
theorem dX11_load_6 : decode cX11_load 6 = .ok (.ifCond .ne 9, 3) := by decide +kernel
theorem dX11_load_9 : decode cX11_load 9 = .ok (.aload_n 0, 1) := by decide +kernel
theorem dX11_load_10 : decode cX11_load 10 = .ok (.iconst 5, 1) := by decide +kernel
theorem dX11_load_11 : decode cX11_load 11 = .ok (.invokevirtual 107, 3) := by decide +kernel
theorem dX11_load_14 : decode cX11_load 14 = .ok (.ireturn, 1) := by decide +kernel
theorem dX11_load_15 : decode cX11_load 15 = .ok (.aload_n 0, 1) := by decide +kernel
theorem dX11_load_16 : decode cX11_load 16 = .ok (.getfield 20, 3) := by decide +kernel
theorem dX11_load_19 : decode cX11_load 19 = .ok (.aload_n 0, 1) := by decide +kernel
theorem dX11_load_20 : decode cX11_load 20 = .ok (.getfield 20, 3) := by decide +kernel
theorem dX11_load_23 : decode cX11_load 23 = .ok (.getfield 36, 3) := by decide +kernel
theorem dX11_load_26 : decode cX11_load 26 = .ok (.iload_n 1, 1) := by decide +kernel
theorem dX11_load_27 : decode cX11_load 27 = .ok (.aaload, 1) := by decide +kernel
theorem dX11_load_28 : decode cX11_load 28 = .ok (.getfield 330, 3) := by decide +kernel
theorem dX11_load_31 : decode cX11_load 31 = .ok (.invokevirtual 231, 3) := by decide +kernel
theorem dX11_load_34 : decode cX11_load 34 = .ok (.ireturn, 1) := by decide +kernel
theorem dX11_store_0 : decode cX11_store 0 = .ok (.iload_n 2, 1) := by decide +kernel
theorem dX11_store_1 : decode cX11_store 1 = .ok (.ifCond .lt 19, 3) := by decide +kernel
theorem dX11_store_4 : decode cX11_store 4 = .ok (.iload_n 2, 1) := by decide +kernel
theorem dX11_store_5 : decode cX11_store 5 = .ok (.sipush 255, 3) := by decide +kernel
theorem dX11_store_8 : decode cX11_store 8 = .ok (.if_icmp .gt 12, 3) := by decide +kernel
theorem dX11_store_11 : decode cX11_store 11 = .ok (.aload_n 0, 1) := by decide +kernel
theorem dX11_store_12 : decode cX11_store 12 = .ok (.iload_n 1, 1) := by decide +kernel
theorem dX11_store_13 : decode cX11_store 13 = .ok (.iconst 2, 1) := by decide +kernel
theorem dX11_store_14 : decode cX11_store 14 = .ok (.invokevirtual 363, 3) := by decide +kernel
theorem dX11_store_17 : decode cX11_store 17 = .ok (.ifCond .ne 9, 3) := by decide +kernel
theorem dX11_store_20 : decode cX11_store 20 = .ok (.aload_n 0, 1) := by decide +kernel
theorem dX11_store_21 : decode cX11_store 21 = .ok (.iconst 5, 1) := by decide +kernel
theorem dX11_store_22 : decode cX11_store 22 = .ok (.invokevirtual 115, 3) := by decide +kernel
theorem dX11_store_25 : decode cX11_store 25 = .ok (.ireturn, 1) := by decide +kernel
theorem dX11_store_26 : decode cX11_store 26 = .ok (.aload_n 0, 1) := by decide +kernel
theorem dX11_store_27 : decode cX11_store 27 = .ok (.getfield 30, 3) := by decide +kernel
theorem dX11_store_30 : decode cX11_store 30 = .ok (.aload_n 0, 1) := by decide +kernel
theorem dX11_store_31 : decode cX11_store 31 = .ok (.getfield 20, 3) := by decide +kernel
theorem dX11_store_34 : decode cX11_store 34 = .ok (.invokevirtual 309, 3) := by decide +kernel
theorem dX11_store_37 : decode cX11_store 37 = .ok (.aload_n 0, 1) := by decide +kernel
theorem dX11_store_38 : decode cX11_store 38 = .ok (.getfield 20, 3) := by decide +kernel
theorem dX11_store_41 : decode cX11_store 41 = .ok (.aload_n 0, 1) := by decide +kernel
theorem dX11_store_42 : decode cX11_store 42 = .ok (.getfield 20, 3) := by decide +kernel
theorem dX11_store_45 : decode cX11_store 45 = .ok (.getfield 36, 3) := by decide +kernel
theorem dX11_store_48 : decode cX11_store 48 = .ok (.iload_n 1, 1) := by decide +kernel
theorem dX11_store_49 : decode cX11_store 49 = .ok (.aaload, 1) := by decide +kernel
theorem dX11_store_50 : decode cX11_store 50 = .ok (.getfield 330, 3) := by decide +kernel
theorem dX11_store_53 : decode cX11_store 53 = .ok (.iload_n 2, 1) := by decide +kernel
theorem dX11_store_54 : decode cX11_store 54 = .ok (.invokevirtual 366, 3) := by decide +kernel
theorem dX11_store_57 : decode cX11_store 57 = .ok (.iconst 1, 1) := by decide +kernel
theorem dX11_store_58 : decode cX11_store 58 = .ok (.ireturn, 1) := by decide +kernel
theorem dX11_canFollow_0 : decode cX11_canFollow 0 = .ok (.aload_n 0, 1) := by decide +kernel
theorem dX11_canFollow_1 : decode cX11_canFollow 1 = .ok (.iload_n 1, 1) := by decide +kernel
theorem dX11_canFollow_2 : decode cX11_canFollow 2 = .ok (.invokevirtual 196, 3) := by decide +kernel
theorem dX11_canFollow_5 : decode cX11_canFollow 5 = .ok (.ifCond .ne 5, 3) := by decide +kernel
theorem dX11_canFollow_8 : decode cX11_canFollow 8 = .ok (.iconst 0, 1) := by decide +kernel
theorem dX11_canFollow_9 : decode cX11_canFollow 9 = .ok (.ireturn, 1) := by decide +kernel
theorem dX11_canFollow_10 : decode cX11_canFollow 10 = .ok (.aload_n 0, 1) := by decide +kernel
theorem dX11_canFollow_11 : decode cX11_canFollow 11 = .ok (.getfield 20, 3) := by decide +kernel
theorem dX11_canFollow_14 : decode cX11_canFollow 14 = .ok (.getfield 36, 3) := by decide +kernel
theorem dX11_canFollow_17 : decode cX11_canFollow 17 = .ok (.iload_n 1, 1) := by decide +kernel
theorem dX11_canFollow_18 : decode cX11_canFollow 18 = .ok (.aaload, 1) := by decide +kernel
theorem dX11_canFollow_19 : decode cX11_canFollow 19 = .ok (.astore_n 3, 1) := by decide +kernel
theorem dX11_canFollow_20 : decode cX11_canFollow 20 = .ok (.aload_n 3, 1) := by decide +kernel
theorem dX11_canFollow_21 : decode cX11_canFollow 21 = .ok (.invokevirtual 269, 3) := by decide +kernel
theorem dX11_canFollow_24 : decode cX11_canFollow 24 = .ok (.ifCond .eq 63, 3) := by decide +kernel
theorem dX11_canFollow_27 : decode cX11_canFollow 27 = .ok (.aload_n 3, 1) := by decide +kernel
theorem dX11_canFollow_28 : decode cX11_canFollow 28 = .ok (.getfield 148, 3) := by decide +kernel
theorem dX11_canFollow_31 : decode cX11_canFollow 31 = .ok (.iload_n 2, 1) := by decide +kernel
theorem dX11_canFollow_32 : decode cX11_canFollow 32 = .ok (.iand, 1) := by decide +kernel
theorem dX11_canFollow_33 : decode cX11_canFollow 33 = .ok (.ifCond .eq 54, 3) := by decide +kernel
theorem dX11_canFollow_36 : decode cX11_canFollow 36 = .ok (.aload_n 3, 1) := by decide +kernel
theorem dX11_canFollow_37 : decode cX11_canFollow 37 = .ok (.getfield 330, 3) := by decide +kernel
theorem dX11_canFollow_40 : decode cX11_canFollow 40 = .ok (.aload_n 0, 1) := by decide +kernel
theorem dX11_canFollow_41 : decode cX11_canFollow 41 = .ok (.getfield 73, 3) := by decide +kernel
theorem dX11_canFollow_44 : decode cX11_canFollow 44 = .ok (.getfield 160, 3) := by decide +kernel
theorem dX11_canFollow_47 : decode cX11_canFollow 47 = .ok (.if_icmp .ge 40, 3) := by decide +kernel
theorem dX11_canFollow_50 : decode cX11_canFollow 50 = .ok (.aload_n 3, 1) := by decide +kernel
theorem dX11_canFollow_51 : decode cX11_canFollow 51 = .ok (.aload_n 3, 1) := by decide +kernel
theorem dX11_canFollow_52 : decode cX11_canFollow 52 = .ok (.getfield 330, 3) := by decide +kernel
theorem dX11_canFollow_55 : decode cX11_canFollow 55 = .ok (.aload_n 0, 1) := by decide +kernel
theorem dX11_canFollow_56 : decode cX11_canFollow 56 = .ok (.getfield 73, 3) := by decide +kernel
theorem dX11_canFollow_59 : decode cX11_canFollow 59 = .ok (.getfield 151, 3) := by decide +kernel
theorem dX11_canFollow_62 : decode cX11_canFollow 62 = .ok (.invokevirtual 273, 3) := by decide +kernel
theorem dX11_canFollow_65 : decode cX11_canFollow 65 = .ok (.ifCond .eq 22, 3) := by decide +kernel
theorem dX11_canFollow_68 : decode cX11_canFollow 68 = .ok (.aload_n 0, 1) := by decide +kernel
theorem dX11_canFollow_69 : decode cX11_canFollow 69 = .ok (.getfield 43, 3) := by decide +kernel
theorem dX11_canFollow_72 : decode cX11_canFollow 72 = .ok (.aload_n 0, 1) := by decide +kernel
theorem dX11_canFollow_73 : decode cX11_canFollow 73 = .ok (.getfield 73, 3) := by decide +kernel
theorem dX11_canFollow_76 : decode cX11_canFollow 76 = .ok (.aload_n 3, 1) := by decide +kernel
theorem dX11_canFollow_77 : decode cX11_canFollow 77 = .ok (.invokevirtual 369, 3) := by decide +kernel
theorem dX11_canFollow_80 : decode cX11_canFollow 80 = .ok (.ifCond .ne 7, 3) := by decide +kernel
theorem dX11_canFollow_83 : decode cX11_canFollow 83 = .ok (.iconst 1, 1) := by decide +kernel
theorem dX11_canFollow_84 : decode cX11_canFollow 84 = .ok (.goto 4, 3) := by decide +kernel
theorem dX11_canFollow_87 : decode cX11_canFollow 87 = .ok (.iconst 0, 1) := by decide +kernel
theorem dX11_canFollow_88 : decode cX11_canFollow 88 = .ok (.ireturn, 1) := by decide +kernel
theorem dX11_shelve_0 : decode cX11_shelve 0 = .ok (.aload_n 0, 1) := by decide +kernel
theorem dX11_shelve_1 : decode cX11_shelve 1 = .ok (.iload_n 1, 1) := by decide +kernel
theorem dX11_shelve_2 : decode cX11_shelve 2 = .ok (.invokevirtual 196, 3) := by decide +kernel
theorem dX11_shelve_5 : decode cX11_shelve 5 = .ok (.ifCond .eq 19, 3) := by decide +kernel
theorem dX11_shelve_8 : decode cX11_shelve 8 = .ok (.aload_n 0, 1) := by decide +kernel
theorem dX11_shelve_9 : decode cX11_shelve 9 = .ok (.iload_n 2, 1) := by decide +kernel
theorem dX11_shelve_10 : decode cX11_shelve 10 = .ok (.invokevirtual 190, 3) := by decide +kernel
theorem dX11_shelve_13 : decode cX11_shelve 13 = .ok (.ifCond .eq 11, 3) := by decide +kernel
theorem dX11_shelve_16 : decode cX11_shelve 16 = .ok (.aload_n 0, 1) := by decide +kernel
theorem dX11_shelve_17 : decode cX11_shelve 17 = .ok (.iload_n 2, 1) := by decide +kernel
theorem dX11_shelve_18 : decode cX11_shelve 18 = .ok (.invokevirtual 373, 3) := by decide +kernel
theorem dX11_shelve_21 : decode cX11_shelve 21 = .ok (.goto 4, 3) := by decide +kernel
theorem dX11_shelve_24 : decode cX11_shelve 24 = .ok (.iconst (-1), 1) := by decide +kernel
theorem dX11_shelve_25 : decode cX11_shelve 25 = .ok (.istore_n 3, 1) := by decide +kernel
theorem dX11_shelve_26 : decode cX11_shelve 26 = .ok (.iload_n 3, 1) := by decide +kernel
theorem dX11_shelve_27 : decode cX11_shelve 27 = .ok (.iconst (-1), 1) := by decide +kernel
theorem dX11_shelve_28 : decode cX11_shelve 28 = .ok (.if_icmp .ne 9, 3) := by decide +kernel
theorem dX11_shelve_31 : decode cX11_shelve 31 = .ok (.aload_n 0, 1) := by decide +kernel
theorem dX11_shelve_32 : decode cX11_shelve 32 = .ok (.iconst 4, 1) := by decide +kernel
theorem dX11_shelve_33 : decode cX11_shelve 33 = .ok (.invokevirtual 107, 3) := by decide +kernel
theorem dX11_shelve_36 : decode cX11_shelve 36 = .ok (.ireturn, 1) := by decide +kernel
theorem dX11_shelve_37 : decode cX11_shelve 37 = .ok (.aload_n 0, 1) := by decide +kernel
theorem dX11_shelve_38 : decode cX11_shelve 38 = .ok (.getfield 20, 3) := by decide +kernel
theorem dX11_shelve_41 : decode cX11_shelve 41 = .ok (.getfield 36, 3) := by decide +kernel
theorem dX11_shelve_44 : decode cX11_shelve 44 = .ok (.iload_n 1, 1) := by decide +kernel
theorem dX11_shelve_45 : decode cX11_shelve 45 = .ok (.aaload, 1) := by decide +kernel
theorem dX11_shelve_46 : decode cX11_shelve 46 = .ok (.astore 4, 2) := by decide +kernel
theorem dX11_shelve_48 : decode cX11_shelve 48 = .ok (.aload 4, 2) := by decide +kernel
theorem dX11_shelve_50 : decode cX11_shelve 50 = .ok (.getfield 143, 3) := by decide +kernel
theorem dX11_shelve_53 : decode cX11_shelve 53 = .ok (.ifCond .eq 20, 3) := by decide +kernel
theorem dX11_shelve_56 : decode cX11_shelve 56 = .ok (.aload 4, 2) := by decide +kernel
theorem dX11_shelve_58 : decode cX11_shelve 58 = .ok (.getfield 351, 3) := by decide +kernel
theorem dX11_shelve_61 : decode cX11_shelve 61 = .ok (.aload_n 0, 1) := by decide +kernel
theorem dX11_shelve_62 : decode cX11_shelve 62 = .ok (.getfield 73, 3) := by decide +kernel
theorem dX11_shelve_65 : decode cX11_shelve 65 = .ok (.getfield 376, 3) := by decide +kernel
theorem dX11_shelve_68 : decode cX11_shelve 68 = .ok (.iload_n 2, 1) := by decide +kernel
theorem dX11_shelve_69 : decode cX11_shelve 69 = .ok (.iaload, 1) := by decide +kernel
theorem dX11_shelve_70 : decode cX11_shelve 70 = .ok (.if_icmp .eq 9, 3) := by decide +kernel
theorem dX11_shelve_73 : decode cX11_shelve 73 = .ok (.aload_n 0, 1) := by decide +kernel
theorem dX11_shelve_74 : decode cX11_shelve 74 = .ok (.iconst 4, 1) := by decide +kernel
theorem dX11_shelve_75 : decode cX11_shelve 75 = .ok (.invokevirtual 107, 3) := by decide +kernel
theorem dX11_shelve_78 : decode cX11_shelve 78 = .ok (.ireturn, 1) := by decide +kernel
theorem dX11_shelve_79 : decode cX11_shelve 79 = .ok (.aload_n 0, 1) := by decide +kernel
theorem dX11_shelve_80 : decode cX11_shelve 80 = .ok (.getfield 30, 3) := by decide +kernel
theorem dX11_shelve_83 : decode cX11_shelve 83 = .ok (.aload_n 0, 1) := by decide +kernel
theorem dX11_shelve_84 : decode cX11_shelve 84 = .ok (.getfield 20, 3) := by decide +kernel
theorem dX11_shelve_87 : decode cX11_shelve 87 = .ok (.invokevirtual 309, 3) := by decide +kernel
theorem dX11_shelve_90 : decode cX11_shelve 90 = .ok (.aload_n 0, 1) := by decide +kernel
theorem dX11_shelve_91 : decode cX11_shelve 91 = .ok (.getfield 20, 3) := by decide +kernel
theorem dX11_shelve_94 : decode cX11_shelve 94 = .ok (.getfield 36, 3) := by decide +kernel
theorem dX11_shelve_97 : decode cX11_shelve 97 = .ok (.iload_n 2, 1) := by decide +kernel
theorem dX11_shelve_98 : decode cX11_shelve 98 = .ok (.iload_n 3, 1) := by decide +kernel
theorem dX11_shelve_99 : decode cX11_shelve 99 = .ok (.invokestatic 207, 3) := by decide +kernel
theorem dX11_shelve_102 : decode cX11_shelve 102 = .ok (.aaload, 1) := by decide +kernel
theorem dX11_shelve_103 : decode cX11_shelve 103 = .ok (.aload 4, 2) := by decide +kernel
theorem dX11_shelve_105 : decode cX11_shelve 105 = .ok (.invokevirtual 347, 3) := by decide +kernel
theorem dX11_shelve_108 : decode cX11_shelve 108 = .ok (.iload_n 3, 1) := by decide +kernel
theorem dX11_shelve_109 : decode cX11_shelve 109 = .ok (.ireturn, 1) := by decide +kernel
theorem dX11_emptyPlace_0 : decode cX11_emptyPlace 0 = .ok (.iconst 0, 1) := by decide +kernel
theorem dX11_emptyPlace_1 : decode cX11_emptyPlace 1 = .ok (.istore_n 2, 1) := by decide +kernel
theorem dX11_emptyPlace_2 : decode cX11_emptyPlace 2 = .ok (.iload_n 2, 1) := by decide +kernel
theorem dX11_emptyPlace_3 : decode cX11_emptyPlace 3 = .ok (.iconst 4, 1) := by decide +kernel
theorem dX11_emptyPlace_4 : decode cX11_emptyPlace 4 = .ok (.if_icmp .ge 30, 3) := by decide +kernel
theorem dX11_emptyPlace_7 : decode cX11_emptyPlace 7 = .ok (.aload_n 0, 1) := by decide +kernel
theorem dX11_emptyPlace_8 : decode cX11_emptyPlace 8 = .ok (.getfield 20, 3) := by decide +kernel
theorem dX11_emptyPlace_11 : decode cX11_emptyPlace 11 = .ok (.getfield 36, 3) := by decide +kernel
theorem dX11_emptyPlace_14 : decode cX11_emptyPlace 14 = .ok (.iload_n 1, 1) := by decide +kernel
theorem dX11_emptyPlace_15 : decode cX11_emptyPlace 15 = .ok (.iload_n 2, 1) := by decide +kernel
theorem dX11_emptyPlace_16 : decode cX11_emptyPlace 16 = .ok (.invokestatic 207, 3) := by decide +kernel
theorem dX11_emptyPlace_19 : decode cX11_emptyPlace 19 = .ok (.aaload, 1) := by decide +kernel
theorem dX11_emptyPlace_20 : decode cX11_emptyPlace 20 = .ok (.getfield 210, 3) := by decide +kernel
theorem dX11_emptyPlace_23 : decode cX11_emptyPlace 23 = .ok (.ifCond .ne 5, 3) := by decide +kernel
theorem dX11_emptyPlace_26 : decode cX11_emptyPlace 26 = .ok (.iload_n 2, 1) := by decide +kernel
theorem dX11_emptyPlace_27 : decode cX11_emptyPlace 27 = .ok (.ireturn, 1) := by decide +kernel
theorem dX11_emptyPlace_28 : decode cX11_emptyPlace 28 = .ok (.iinc 2 1, 3) := by decide +kernel
theorem dX11_emptyPlace_31 : decode cX11_emptyPlace 31 = .ok (.goto (-29), 3) := by decide +kernel
theorem dX11_emptyPlace_34 : decode cX11_emptyPlace 34 = .ok (.iconst (-1), 1) := by decide +kernel
theorem dX11_emptyPlace_35 : decode cX11_emptyPlace 35 = .ok (.ireturn, 1) := by decide +kernel
theorem dX11_take_0 : decode cX11_take 0 = .ok (.aload_n 0, 1) := by decide +kernel
theorem dX11_take_1 : decode cX11_take 1 = .ok (.iload_n 1, 1) := by decide +kernel
theorem dX11_take_2 : decode cX11_take 2 = .ok (.iload_n 2, 1) := by decide +kernel
theorem dX11_take_3 : decode cX11_take 3 = .ok (.invokevirtual 203, 3) := by decide +kernel
theorem dX11_take_6 : decode cX11_take 6 = .ok (.ifCond .eq 30, 3) := by decide +kernel
theorem dX11_take_9 : decode cX11_take 9 = .ok (.aload_n 0, 1) := by decide +kernel
theorem dX11_take_10 : decode cX11_take 10 = .ok (.iload_n 3, 1) := by decide +kernel
theorem dX11_take_11 : decode cX11_take 11 = .ok (.invokevirtual 196, 3) := by decide +kernel
theorem dX11_take_14 : decode cX11_take 14 = .ok (.ifCond .eq 22, 3) := by decide +kernel
theorem dX11_take_17 : decode cX11_take 17 = .ok (.aload_n 0, 1) := by decide +kernel
theorem dX11_take_18 : decode cX11_take 18 = .ok (.getfield 20, 3) := by decide +kernel
theorem dX11_take_21 : decode cX11_take 21 = .ok (.getfield 36, 3) := by decide +kernel
theorem dX11_take_24 : decode cX11_take 24 = .ok (.iload_n 1, 1) := by decide +kernel
theorem dX11_take_25 : decode cX11_take 25 = .ok (.iload_n 2, 1) := by decide +kernel
theorem dX11_take_26 : decode cX11_take 26 = .ok (.invokestatic 207, 3) := by decide +kernel
theorem dX11_take_29 : decode cX11_take 29 = .ok (.aaload, 1) := by decide +kernel
theorem dX11_take_30 : decode cX11_take 30 = .ok (.getfield 210, 3) := by decide +kernel
theorem dX11_take_33 : decode cX11_take 33 = .ok (.ifCond .ne 9, 3) := by decide +kernel
theorem dX11_take_36 : decode cX11_take 36 = .ok (.aload_n 0, 1) := by decide +kernel
theorem dX11_take_37 : decode cX11_take 37 = .ok (.iconst 4, 1) := by decide +kernel
theorem dX11_take_38 : decode cX11_take 38 = .ok (.invokevirtual 115, 3) := by decide +kernel
theorem dX11_take_41 : decode cX11_take 41 = .ok (.ireturn, 1) := by decide +kernel
theorem dX11_take_42 : decode cX11_take 42 = .ok (.aload_n 0, 1) := by decide +kernel
theorem dX11_take_43 : decode cX11_take 43 = .ok (.getfield 30, 3) := by decide +kernel
theorem dX11_take_46 : decode cX11_take 46 = .ok (.aload_n 0, 1) := by decide +kernel
theorem dX11_take_47 : decode cX11_take 47 = .ok (.getfield 20, 3) := by decide +kernel
theorem dX11_take_50 : decode cX11_take 50 = .ok (.invokevirtual 309, 3) := by decide +kernel
theorem dX11_take_53 : decode cX11_take 53 = .ok (.aload_n 0, 1) := by decide +kernel
theorem dX11_take_54 : decode cX11_take 54 = .ok (.getfield 20, 3) := by decide +kernel
theorem dX11_take_57 : decode cX11_take 57 = .ok (.getfield 36, 3) := by decide +kernel
theorem dX11_take_60 : decode cX11_take 60 = .ok (.iload_n 1, 1) := by decide +kernel
theorem dX11_take_61 : decode cX11_take 61 = .ok (.iload_n 2, 1) := by decide +kernel
theorem dX11_take_62 : decode cX11_take 62 = .ok (.invokestatic 207, 3) := by decide +kernel
theorem dX11_take_65 : decode cX11_take 65 = .ok (.aaload, 1) := by decide +kernel
theorem dX11_take_66 : decode cX11_take 66 = .ok (.astore 4, 2) := by decide +kernel
theorem dX11_take_68 : decode cX11_take 68 = .ok (.aload_n 0, 1) := by decide +kernel
theorem dX11_take_69 : decode cX11_take 69 = .ok (.getfield 20, 3) := by decide +kernel
theorem dX11_take_72 : decode cX11_take 72 = .ok (.getfield 36, 3) := by decide +kernel
theorem dX11_take_75 : decode cX11_take 75 = .ok (.iload_n 3, 1) := by decide +kernel
theorem dX11_take_76 : decode cX11_take 76 = .ok (.aaload, 1) := by decide +kernel
theorem dX11_take_77 : decode cX11_take 77 = .ok (.aload 4, 2) := by decide +kernel
theorem dX11_take_79 : decode cX11_take 79 = .ok (.invokevirtual 347, 3) := by decide +kernel
theorem dX11_take_82 : decode cX11_take 82 = .ok (.aload 4, 2) := by decide +kernel
theorem dX11_take_84 : decode cX11_take 84 = .ok (.iconst 0, 1) := by decide +kernel
theorem dX11_take_85 : decode cX11_take 85 = .ok (.invokevirtual 327, 3) := by decide +kernel
theorem dX11_take_88 : decode cX11_take 88 = .ok (.iconst 1, 1) := by decide +kernel
theorem dX11_take_89 : decode cX11_take 89 = .ok (.ireturn, 1) := by decide +kernel
theorem dX11_chance_0 : decode cX11_chance 0 = .ok (.aload_n 0, 1) := by decide +kernel
theorem dX11_chance_1 : decode cX11_chance 1 = .ok (.getfield 89, 3) := by decide +kernel
theorem dX11_chance_4 : decode cX11_chance 4 = .ok (.ifCond .eq 14, 3) := by decide +kernel
theorem dX11_chance_7 : decode cX11_chance 7 = .ok (.iload_n 1, 1) := by decide +kernel
theorem dX11_chance_8 : decode cX11_chance 8 = .ok (.iconst 1, 1) := by decide +kernel
theorem dX11_chance_9 : decode cX11_chance 9 = .ok (.if_icmp .lt 9, 3) := by decide +kernel
theorem dX11_chance_12 : decode cX11_chance 12 = .ok (.iload_n 1, 1) := by decide +kernel
theorem dX11_chance_13 : decode cX11_chance 13 = .ok (.bipush 40, 2) := by decide +kernel
theorem dX11_chance_15 : decode cX11_chance 15 = .ok (.if_icmp .le 9, 3) := by decide +kernel
theorem dX11_chance_18 : decode cX11_chance 18 = .ok (.aload_n 0, 1) := by decide +kernel
theorem dX11_chance_19 : decode cX11_chance 19 = .ok (.iconst 2, 1) := by decide +kernel
theorem dX11_chance_20 : decode cX11_chance 20 = .ok (.invokevirtual 107, 3) := by decide +kernel
theorem dX11_chance_23 : decode cX11_chance 23 = .ok (.ireturn, 1) := by decide +kernel
theorem dX11_chance_24 : decode cX11_chance 24 = .ok (.aload_n 0, 1) := by decide +kernel
theorem dX11_chance_25 : decode cX11_chance 25 = .ok (.getfield 30, 3) := by decide +kernel
theorem dX11_chance_28 : decode cX11_chance 28 = .ok (.aload_n 0, 1) := by decide +kernel
theorem dX11_chance_29 : decode cX11_chance 29 = .ok (.getfield 20, 3) := by decide +kernel
theorem dX11_chance_32 : decode cX11_chance 32 = .ok (.invokevirtual 309, 3) := by decide +kernel
theorem dX11_chance_35 : decode cX11_chance 35 = .ok (.iconst 0, 1) := by decide +kernel
theorem dX11_chance_36 : decode cX11_chance 36 = .ok (.istore_n 2, 1) := by decide +kernel
theorem dX11_chance_37 : decode cX11_chance 37 = .ok (.iconst 0, 1) := by decide +kernel
theorem dX11_chance_38 : decode cX11_chance 38 = .ok (.istore_n 3, 1) := by decide +kernel
theorem dX11_chance_39 : decode cX11_chance 39 = .ok (.iload_n 3, 1) := by decide +kernel
theorem dX11_chance_40 : decode cX11_chance 40 = .ok (.iload_n 1, 1) := by decide +kernel
theorem dX11_chance_41 : decode cX11_chance 41 = .ok (.if_icmp .ge 19, 3) := by decide +kernel
theorem dX11_chance_44 : decode cX11_chance 44 = .ok (.aload_n 0, 1) := by decide +kernel
theorem dX11_chance_45 : decode cX11_chance 45 = .ok (.invokevirtual 379, 3) := by decide +kernel
theorem dX11_chance_48 : decode cX11_chance 48 = .ok (.ifCond .eq 6, 3) := by decide +kernel
theorem dX11_chance_51 : decode cX11_chance 51 = .ok (.iinc 2 1, 3) := by decide +kernel
theorem dX11_chance_54 : decode cX11_chance 54 = .ok (.iinc 3 1, 3) := by decide +kernel
theorem dX11_chance_57 : decode cX11_chance 57 = .ok (.goto (-18), 3) := by decide +kernel
theorem dX11_chance_60 : decode cX11_chance 60 = .ok (.iload_n 2, 1) := by decide +kernel
theorem dX11_chance_61 : decode cX11_chance 61 = .ok (.ireturn, 1) := by decide +kernel
theorem dX11_actBySeed_0 : decode cX11_actBySeed 0 = .ok (.aload_n 0, 1) := by decide +kernel
theorem dX11_actBySeed_1 : decode cX11_actBySeed 1 = .ok (.iconst 3, 1) := by decide +kernel
theorem dX11_actBySeed_2 : decode cX11_actBySeed 2 = .ok (.invokevirtual 382, 3) := by decide +kernel
theorem dX11_actBySeed_5 : decode cX11_actBySeed 5 = .ok (.iconst 2, 1) := by decide +kernel
theorem dX11_actBySeed_6 : decode cX11_actBySeed 6 = .ok (.if_icmp .ne 7, 3) := by decide +kernel
theorem dX11_actBySeed_9 : decode cX11_actBySeed 9 = .ok (.iconst 1, 1) := by decide +kernel
theorem dX11_actBySeed_10 : decode cX11_actBySeed 10 = .ok (.goto 4, 3) := by decide +kernel
theorem dX11_actBySeed_13 : decode cX11_actBySeed 13 = .ok (.iconst 0, 1) := by decide +kernel
theorem dX11_actBySeed_14 : decode cX11_actBySeed 14 = .ok (.istore_n 1, 1) := by decide +kernel
theorem dX11_actBySeed_15 : decode cX11_actBySeed 15 = .ok (.aload_n 0, 1) := by decide +kernel
theorem dX11_actBySeed_16 : decode cX11_actBySeed 16 = .ok (.bipush 15, 2) := by decide +kernel
theorem dX11_actBySeed_18 : decode cX11_actBySeed 18 = .ok (.invokevirtual 382, 3) := by decide +kernel
theorem dX11_actBySeed_21 : decode cX11_actBySeed 21 = .ok (.istore_n 2, 1) := by decide +kernel
theorem dX11_actBySeed_22 : decode cX11_actBySeed 22 = .ok (.iload_n 1, 1) := by decide +kernel
theorem dX11_actBySeed_23 : decode cX11_actBySeed 23 = .ok (.ifCond .eq 40, 3) := by decide +kernel
theorem dX11_actBySeed_26 : decode cX11_actBySeed 26 = .ok (.aload_n 0, 1) := by decide +kernel
theorem dX11_actBySeed_27 : decode cX11_actBySeed 27 = .ok (.iload_n 2, 1) := by decide +kernel
theorem dX11_actBySeed_28 : decode cX11_actBySeed 28 = .ok (.invokevirtual 333, 3) := by decide +kernel
theorem dX11_actBySeed_31 : decode cX11_actBySeed 31 = .ok (.istore_n 3, 1) := by decide +kernel
theorem dX11_actBySeed_32 : decode cX11_actBySeed 32 = .ok (.iload_n 3, 1) := by decide +kernel
theorem dX11_actBySeed_33 : decode cX11_actBySeed 33 = .ok (.iconst (-1), 1) := by decide +kernel
theorem dX11_actBySeed_34 : decode cX11_actBySeed 34 = .ok (.if_icmp .eq 18, 3) := by decide +kernel
theorem dX11_actBySeed_37 : decode cX11_actBySeed 37 = .ok (.aload_n 0, 1) := by decide +kernel
theorem dX11_actBySeed_38 : decode cX11_actBySeed 38 = .ok (.getfield 20, 3) := by decide +kernel
theorem dX11_actBySeed_41 : decode cX11_actBySeed 41 = .ok (.iload_n 3, 1) := by decide +kernel
theorem dX11_actBySeed_42 : decode cX11_actBySeed 42 = .ok (.aload_n 0, 1) := by decide +kernel
theorem dX11_actBySeed_43 : decode cX11_actBySeed 43 = .ok (.getfield 73, 3) := by decide +kernel
theorem dX11_actBySeed_46 : decode cX11_actBySeed 46 = .ok (.getfield 151, 3) := by decide +kernel
theorem dX11_actBySeed_49 : decode cX11_actBySeed 49 = .ok (.invokevirtual 336, 3) := by decide +kernel
theorem dX11_actBySeed_52 : decode cX11_actBySeed 52 = .ok (.iload_n 3, 1) := by decide +kernel
theorem dX11_actBySeed_53 : decode cX11_actBySeed 53 = .ok (.iconst (-1), 1) := by decide +kernel
theorem dX11_actBySeed_54 : decode cX11_actBySeed 54 = .ok (.if_icmp .eq 7, 3) := by decide +kernel
theorem dX11_actBySeed_57 : decode cX11_actBySeed 57 = .ok (.iconst 1, 1) := by decide +kernel
theorem dX11_actBySeed_58 : decode cX11_actBySeed 58 = .ok (.goto 4, 3) := by decide +kernel
theorem dX11_actBySeed_61 : decode cX11_actBySeed 61 = .ok (.iconst 0, 1) := by decide +kernel
theorem dX11_actBySeed_62 : decode cX11_actBySeed 62 = .ok (.ireturn, 1) := by decide +kernel
theorem dX11_actBySeed_63 : decode cX11_actBySeed 63 = .ok (.aload_n 0, 1) := by decide +kernel
theorem dX11_actBySeed_64 : decode cX11_actBySeed 64 = .ok (.bipush 16, 2) := by decide +kernel
theorem dX11_actBySeed_66 : decode cX11_actBySeed 66 = .ok (.invokevirtual 382, 3) := by decide +kernel
theorem dX11_actBySeed_69 : decode cX11_actBySeed 69 = .ok (.iconst 1, 1) := by decide +kernel
theorem dX11_actBySeed_70 : decode cX11_actBySeed 70 = .ok (.iadd, 1) := by decide +kernel
theorem dX11_actBySeed_71 : decode cX11_actBySeed 71 = .ok (.istore_n 3, 1) := by decide +kernel
theorem dX11_actBySeed_72 : decode cX11_actBySeed 72 = .ok (.aload_n 0, 1) := by decide +kernel
theorem dX11_actBySeed_73 : decode cX11_actBySeed 73 = .ok (.getfield 52, 3) := by decide +kernel
theorem dX11_actBySeed_76 : decode cX11_actBySeed 76 = .ok (.aload_n 0, 1) := by decide +kernel
theorem dX11_actBySeed_77 : decode cX11_actBySeed 77 = .ok (.getfield 73, 3) := by decide +kernel
theorem dX11_actBySeed_80 : decode cX11_actBySeed 80 = .ok (.iload_n 3, 1) := by decide +kernel
theorem dX11_actBySeed_81 : decode cX11_actBySeed 81 = .ok (.invokevirtual 276, 3) := by decide +kernel
theorem dX11_actBySeed_84 : decode cX11_actBySeed 84 = .ok (.istore 4, 2) := by decide +kernel
theorem dX11_actBySeed_86 : decode cX11_actBySeed 86 = .ok (.iload 4, 2) := by decide +kernel
theorem dX11_actBySeed_88 : decode cX11_actBySeed 88 = .ok (.ifCond .eq 9, 3) := by decide +kernel
theorem dX11_actBySeed_91 : decode cX11_actBySeed 91 = .ok (.aload_n 0, 1) := by decide +kernel
theorem dX11_actBySeed_92 : decode cX11_actBySeed 92 = .ok (.iload_n 2, 1) := by decide +kernel
theorem dX11_actBySeed_93 : decode cX11_actBySeed 93 = .ok (.iload_n 3, 1) := by decide +kernel
theorem dX11_actBySeed_94 : decode cX11_actBySeed 94 = .ok (.invokevirtual 313, 3) := by decide +kernel
theorem dX11_actBySeed_97 : decode cX11_actBySeed 97 = .ok (.iload 4, 2) := by decide +kernel
theorem dX11_actBySeed_99 : decode cX11_actBySeed 99 = .ok (.ireturn, 1) := by decide +kernel
theorem dX11_draw_0 : decode cX11_draw 0 = .ok (.aload_n 0, 1) := by decide +kernel
theorem dX11_draw_1 : decode cX11_draw 1 = .ok (.ldc2_w 385, 3) := by decide +kernel
theorem dX11_draw_4 : decode cX11_draw 4 = .ok (.aload_n 0, 1) := by decide +kernel
theorem dX11_draw_5 : decode cX11_draw 5 = .ok (.getfield 103, 3) := by decide +kernel
theorem dX11_draw_8 : decode cX11_draw 8 = .ok (.lmul, 1) := by decide +kernel
theorem dX11_draw_9 : decode cX11_draw 9 = .ok (.ldc2_w 387, 3) := by decide +kernel
theorem dX11_draw_12 : decode cX11_draw 12 = .ok (.ladd, 1) := by decide +kernel
theorem dX11_draw_13 : decode cX11_draw 13 = .ok (.ldc2_w 389, 3) := by decide +kernel
theorem dX11_draw_16 : decode cX11_draw 16 = .ok (.land, 1) := by decide +kernel
theorem dX11_draw_17 : decode cX11_draw 17 = .ok (.putfield 103, 3) := by decide +kernel
theorem dX11_draw_20 : decode cX11_draw 20 = .ok (.iload_n 1, 1) := by decide +kernel
theorem dX11_draw_21 : decode cX11_draw 21 = .ok (.ifCond .le 17, 3) := by decide +kernel
theorem dX11_draw_24 : decode cX11_draw 24 = .ok (.aload_n 0, 1) := by decide +kernel
theorem dX11_draw_25 : decode cX11_draw 25 = .ok (.getfield 103, 3) := by decide +kernel
theorem dX11_draw_28 : decode cX11_draw 28 = .ok (.bipush 6, 2) := by decide +kernel
theorem dX11_draw_30 : decode cX11_draw 30 = .ok (.lshr, 1) := by decide +kernel
theorem dX11_draw_31 : decode cX11_draw 31 = .ok (.iload_n 1, 1) := by decide +kernel
theorem dX11_draw_32 : decode cX11_draw 32 = .ok (.i2l, 1) := by decide +kernel
theorem dX11_draw_33 : decode cX11_draw 33 = .ok (.lrem, 1) := by decide +kernel
theorem dX11_draw_34 : decode cX11_draw 34 = .ok (.l2i, 1) := by decide +kernel
theorem dX11_draw_35 : decode cX11_draw 35 = .ok (.goto 4, 3) := by decide +kernel
theorem dX11_draw_38 : decode cX11_draw 38 = .ok (.iconst 0, 1) := by decide +kernel
theorem dX11_draw_39 : decode cX11_draw 39 = .ok (.ireturn, 1) := by decide +kernel
theorem dX11_undo_0 : decode cX11_undo 0 = .ok (.aload_n 0, 1) := by decide +kernel
theorem dX11_undo_1 : decode cX11_undo 1 = .ok (.getfield 30, 3) := by decide +kernel
theorem dX11_undo_4 : decode cX11_undo 4 = .ok (.aload_n 0, 1) := by decide +kernel
theorem dX11_undo_5 : decode cX11_undo 5 = .ok (.getfield 20, 3) := by decide +kernel
theorem dX11_undo_8 : decode cX11_undo 8 = .ok (.invokevirtual 391, 3) := by decide +kernel
theorem dX11_undo_11 : decode cX11_undo 11 = .ok (.ifCond .ne 12, 3) := by decide +kernel
theorem dX11_undo_14 : decode cX11_undo 14 = .ok (.aload_n 0, 1) := by decide +kernel
theorem dX11_undo_15 : decode cX11_undo 15 = .ok (.bipush 6, 2) := by decide +kernel
theorem dX11_undo_17 : decode cX11_undo 17 = .ok (.invokevirtual 115, 3) := by decide +kernel
theorem dX11_undo_20 : decode cX11_undo 20 = .ok (.ifCond .eq 7, 3) := by decide +kernel
theorem dX11_undo_23 : decode cX11_undo 23 = .ok (.iconst 1, 1) := by decide +kernel
theorem dX11_undo_24 : decode cX11_undo 24 = .ok (.goto 4, 3) := by decide +kernel
theorem dX11_undo_27 : decode cX11_undo 27 = .ok (.iconst 0, 1) := by decide +kernel
theorem dX11_undo_28 : decode cX11_undo 28 = .ok (.ireturn, 1) := by decide +kernel
theorem dX11_seed_0 : decode cX11_seed 0 = .ok (.iload_n 1, 1) := by decide +kernel
theorem dX11_seed_1 : decode cX11_seed 1 = .ok (.ifCond .ge 10, 3) := by decide +kernel
theorem dX11_seed_4 : decode cX11_seed 4 = .ok (.aload_n 0, 1) := by decide +kernel
theorem dX11_seed_5 : decode cX11_seed 5 = .ok (.bipush 7, 2) := by decide +kernel
theorem dX11_seed_7 : decode cX11_seed 7 = .ok (.invokevirtual 115, 3) := by decide +kernel
theorem dX11_seed_10 : decode cX11_seed 10 = .ok (.ireturn, 1) := by decide +kernel
theorem dX11_seed_11 : decode cX11_seed 11 = .ok (.aload_n 0, 1) := by decide +kernel
theorem dX11_seed_12 : decode cX11_seed 12 = .ok (.iload_n 1, 1) := by decide +kernel
theorem dX11_seed_13 : decode cX11_seed 13 = .ok (.i2l, 1) := by decide +kernel
theorem dX11_seed_14 : decode cX11_seed 14 = .ok (.putfield 103, 3) := by decide +kernel
theorem dX11_seed_17 : decode cX11_seed 17 = .ok (.iconst 1, 1) := by decide +kernel
theorem dX11_seed_18 : decode cX11_seed 18 = .ok (.ireturn, 1) := by decide +kernel
theorem dX11_ask_0 : decode cX11_ask 0 = .ok (.aload_n 0, 1) := by decide +kernel
theorem dX11_ask_1 : decode cX11_ask 1 = .ok (.invokevirtual 119, 3) := by decide +kernel
theorem dX11_ask_4 : decode cX11_ask 4 = .ok (.istore_n 1, 1) := by decide +kernel
theorem dX11_ask_5 : decode cX11_ask 5 = .ok (.aload_n 0, 1) := by decide +kernel
theorem dX11_ask_6 : decode cX11_ask 6 = .ok (.getfield 89, 3) := by decide +kernel
theorem dX11_ask_9 : decode cX11_ask 9 = .ok (.ifCond .ne 7, 3) := by decide +kernel
theorem dX11_ask_12 : decode cX11_ask 12 = .ok (.ldc2_w 395, 3) := by decide +kernel
theorem dX11_ask_15 : decode cX11_ask 15 = .ok (.lreturn, 1) := by decide +kernel
theorem dX11_ask_16 : decode cX11_ask 16 = .ok (.aload_n 0, 1) := by decide +kernel
theorem dX11_ask_17 : decode cX11_ask 17 = .ok (.getfield 85, 3) := by decide +kernel
theorem dX11_ask_20 : decode cX11_ask 20 = .ok (.aload_n 0, 1) := by decide +kernel
theorem dX11_ask_21 : decode cX11_ask 21 = .ok (.getfield 9, 3) := by decide +kernel
theorem dX11_ask_24 : decode cX11_ask 24 = .ok (.iload_n 1, 1) := by decide +kernel
theorem dX11_ask_25 : decode cX11_ask 25 = .ok (.aload_n 0, 1) := by decide +kernel
theorem dX11_ask_26 : decode cX11_ask 26 = .ok (.getfield 77, 3) := by decide +kernel
theorem dX11_ask_29 : decode cX11_ask 29 = .ok (.invokevirtual 397, 3) := by decide +kernel
theorem dX11_ask_32 : decode cX11_ask 32 = .ok (.istore_n 2, 1) := by decide +kernel
theorem dX11_ask_33 : decode cX11_ask 33 = .ok (.aload_n 0, 1) := by decide +kernel
theorem dX11_ask_34 : decode cX11_ask 34 = .ok (.invokevirtual 127, 3) := by decide +kernel
theorem dX11_ask_37 : decode cX11_ask 37 = .ok (.iload_n 2, 1) := by decide +kernel
theorem dX11_ask_38 : decode cX11_ask 38 = .ok (.iconst (-1), 1) := by decide +kernel
theorem dX11_ask_39 : decode cX11_ask 39 = .ok (.if_icmp .ne 9, 3) := by decide +kernel
theorem dX11_ask_42 : decode cX11_ask 42 = .ok (.ldc2_w 395, 3) := by decide +kernel
theorem dX11_ask_45 : decode cX11_ask 45 = .ok (.goto 8, 3) := by decide +kernel
theorem dX11_ask_48 : decode cX11_ask 48 = .ok (.aload_n 0, 1) := by decide +kernel
theorem dX11_ask_49 : decode cX11_ask 49 = .ok (.iload_n 2, 1) := by decide +kernel
theorem dX11_ask_50 : decode cX11_ask 50 = .ok (.invokevirtual 401, 3) := by decide +kernel
theorem dX11_ask_53 : decode cX11_ask 53 = .ok (.lreturn, 1) := by decide +kernel
theorem dX11_answer_0 : decode cX11_answer 0 = .ok (.lconst 0, 1) := by decide +kernel
theorem dX11_answer_1 : decode cX11_answer 1 = .ok (.lstore_n 2, 1) := by decide +kernel
theorem dX11_answer_2 : decode cX11_answer 2 = .ok (.iconst 0, 1) := by decide +kernel
theorem dX11_answer_3 : decode cX11_answer 3 = .ok (.istore 4, 2) := by decide +kernel
theorem dX11_answer_5 : decode cX11_answer 5 = .ok (.iconst 0, 1) := by decide +kernel
theorem dX11_answer_6 : decode cX11_answer 6 = .ok (.istore 5, 2) := by decide +kernel
theorem dX11_answer_8 : decode cX11_answer 8 = .ok (.iconst 0, 1) := by decide +kernel
theorem dX11_answer_9 : decode cX11_answer 9 = .ok (.istore 6, 2) := by decide +kernel
theorem dX11_answer_11 : decode cX11_answer 11 = .ok (.iconst (-1), 1) := by decide +kernel
theorem dX11_answer_12 : decode cX11_answer 12 = .ok (.istore 7, 2) := by decide +kernel
theorem dX11_answer_14 : decode cX11_answer 14 = .ok (.iconst (-1), 1) := by decide +kernel
theorem dX11_answer_15 : decode cX11_answer 15 = .ok (.istore 8, 2) := by decide +kernel
theorem dX11_answer_17 : decode cX11_answer 17 = .ok (.iconst 0, 1) := by decide +kernel
theorem dX11_answer_18 : decode cX11_answer 18 = .ok (.istore 9, 2) := by decide +kernel
theorem dX11_answer_20 : decode cX11_answer 20 = .ok (.iload 9, 2) := by decide +kernel
theorem dX11_answer_22 : decode cX11_answer 22 = .ok (.bipush 16, 2) := by decide +kernel
theorem dX11_answer_24 : decode cX11_answer 24 = .ok (.if_icmp .ge 102, 3) := by decide +kernel
theorem dX11_answer_27 : decode cX11_answer 27 = .ok (.aload_n 0, 1) := by decide +kernel
theorem dX11_answer_28 : decode cX11_answer 28 = .ok (.getfield 43, 3) := by decide +kernel
theorem dX11_answer_31 : decode cX11_answer 31 = .ok (.aload_n 0, 1) := by decide +kernel
theorem dX11_answer_32 : decode cX11_answer 32 = .ok (.getfield 77, 3) := by decide +kernel
theorem dX11_answer_35 : decode cX11_answer 35 = .ok (.iload 9, 2) := by decide +kernel
theorem dX11_answer_37 : decode cX11_answer 37 = .ok (.aload_n 0, 1) := by decide +kernel
theorem dX11_answer_38 : decode cX11_answer 38 = .ok (.getfield 73, 3) := by decide +kernel
theorem dX11_answer_41 : decode cX11_answer 41 = .ok (.getfield 151, 3) := by decide +kernel
theorem dX11_answer_44 : decode cX11_answer 44 = .ok (.invokevirtual 405, 3) := by decide +kernel
theorem dX11_answer_47 : decode cX11_answer 47 = .ok (.istore 10, 2) := by decide +kernel
theorem dX11_answer_49 : decode cX11_answer 49 = .ok (.lload_n 2, 1) := by decide +kernel
theorem dX11_answer_50 : decode cX11_answer 50 = .ok (.iload 10, 2) := by decide +kernel
theorem dX11_answer_52 : decode cX11_answer 52 = .ok (.i2l, 1) := by decide +kernel
theorem dX11_answer_53 : decode cX11_answer 53 = .ok (.ladd, 1) := by decide +kernel
theorem dX11_answer_54 : decode cX11_answer 54 = .ok (.lstore_n 2, 1) := by decide +kernel
theorem dX11_answer_55 : decode cX11_answer 55 = .ok (.iload 9, 2) := by decide +kernel
theorem dX11_answer_57 : decode cX11_answer 57 = .ok (.ifCond .ne 8, 3) := by decide +kernel
theorem dX11_answer_60 : decode cX11_answer 60 = .ok (.iload 10, 2) := by decide +kernel
theorem dX11_answer_62 : decode cX11_answer 62 = .ok (.goto 10, 3) := by decide +kernel
theorem dX11_answer_65 : decode cX11_answer 65 = .ok (.iload 4, 2) := by decide +kernel
theorem dX11_answer_67 : decode cX11_answer 67 = .ok (.iload 10, 2) := by decide +kernel
theorem dX11_answer_69 : decode cX11_answer 69 = .ok (.invokestatic 409, 3) := by decide +kernel
theorem dX11_answer_72 : decode cX11_answer 72 = .ok (.istore 4, 2) := by decide +kernel
theorem dX11_answer_74 : decode cX11_answer 74 = .ok (.iload 9, 2) := by decide +kernel
theorem dX11_answer_76 : decode cX11_answer 76 = .ok (.ifCond .ne 8, 3) := by decide +kernel
theorem dX11_answer_79 : decode cX11_answer 79 = .ok (.iload 10, 2) := by decide +kernel
theorem dX11_answer_81 : decode cX11_answer 81 = .ok (.goto 10, 3) := by decide +kernel
theorem dX11_answer_84 : decode cX11_answer 84 = .ok (.iload 5, 2) := by decide +kernel
theorem dX11_answer_86 : decode cX11_answer 86 = .ok (.iload 10, 2) := by decide +kernel
theorem dX11_answer_88 : decode cX11_answer 88 = .ok (.invokestatic 414, 3) := by decide +kernel
theorem dX11_answer_91 : decode cX11_answer 91 = .ok (.istore 5, 2) := by decide +kernel
theorem dX11_answer_93 : decode cX11_answer 93 = .ok (.iload 10, 2) := by decide +kernel
theorem dX11_answer_95 : decode cX11_answer 95 = .ok (.ifCond .eq 25, 3) := by decide +kernel
theorem dX11_answer_98 : decode cX11_answer 98 = .ok (.iinc 6 1, 3) := by decide +kernel
theorem dX11_answer_101 : decode cX11_answer 101 = .ok (.iload 9, 2) := by decide +kernel
theorem dX11_answer_103 : decode cX11_answer 103 = .ok (.istore 8, 2) := by decide +kernel
theorem dX11_answer_105 : decode cX11_answer 105 = .ok (.iload 7, 2) := by decide +kernel
theorem dX11_answer_107 : decode cX11_answer 107 = .ok (.iconst (-1), 1) := by decide +kernel
theorem dX11_answer_108 : decode cX11_answer 108 = .ok (.if_icmp .ne 8, 3) := by decide +kernel
theorem dX11_answer_111 : decode cX11_answer 111 = .ok (.iload 9, 2) := by decide +kernel
theorem dX11_answer_113 : decode cX11_answer 113 = .ok (.goto 5, 3) := by decide +kernel
theorem dX11_answer_116 : decode cX11_answer 116 = .ok (.iload 7, 2) := by decide +kernel
theorem dX11_answer_118 : decode cX11_answer 118 = .ok (.istore 7, 2) := by decide +kernel
theorem dX11_answer_120 : decode cX11_answer 120 = .ok (.iinc 9 1, 3) := by decide +kernel
theorem dX11_answer_123 : decode cX11_answer 123 = .ok (.goto (-103), 3) := by decide +kernel
theorem dX11_answer_126 : decode cX11_answer 126 = .ok (.iload_n 1, 1) := by decide +kernel
theorem dX11_answer_127 : decode cX11_answer 127 = .ok (.tableswitch 51 25 29 #[33, 37, 41, 45, 47], 33) := by decide +kernel
theorem dX11_answer_160 : decode cX11_answer 160 = .ok (.iload 7, 2) := by decide +kernel
theorem dX11_answer_162 : decode cX11_answer 162 = .ok (.i2l, 1) := by decide +kernel
theorem dX11_answer_163 : decode cX11_answer 163 = .ok (.lreturn, 1) := by decide +kernel
theorem dX11_answer_164 : decode cX11_answer 164 = .ok (.iload 8, 2) := by decide +kernel
theorem dX11_answer_166 : decode cX11_answer 166 = .ok (.i2l, 1) := by decide +kernel
theorem dX11_answer_167 : decode cX11_answer 167 = .ok (.lreturn, 1) := by decide +kernel
theorem dX11_answer_168 : decode cX11_answer 168 = .ok (.iload 6, 2) := by decide +kernel
theorem dX11_answer_170 : decode cX11_answer 170 = .ok (.i2l, 1) := by decide +kernel
theorem dX11_answer_171 : decode cX11_answer 171 = .ok (.lreturn, 1) := by decide +kernel
theorem dX11_answer_172 : decode cX11_answer 172 = .ok (.lload_n 2, 1) := by decide +kernel
theorem dX11_answer_173 : decode cX11_answer 173 = .ok (.lreturn, 1) := by decide +kernel
theorem dX11_answer_174 : decode cX11_answer 174 = .ok (.iload 4, 2) := by decide +kernel
theorem dX11_answer_176 : decode cX11_answer 176 = .ok (.i2l, 1) := by decide +kernel
theorem dX11_answer_177 : decode cX11_answer 177 = .ok (.lreturn, 1) := by decide +kernel
theorem dX11_answer_178 : decode cX11_answer 178 = .ok (.iload 5, 2) := by decide +kernel
theorem dX11_answer_180 : decode cX11_answer 180 = .ok (.i2l, 1) := by decide +kernel
theorem dX11_answer_181 : decode cX11_answer 181 = .ok (.lreturn, 1) := by decide +kernel
theorem dX11_image_0 : decode cX11_image 0 = .ok (.aload_n 0, 1) := by decide +kernel
theorem dX11_image_1 : decode cX11_image 1 = .ok (.getfield 89, 3) := by decide +kernel
theorem dX11_image_4 : decode cX11_image 4 = .ok (.ifCond .ne 5, 3) := by decide +kernel
theorem dX11_image_7 : decode cX11_image 7 = .ok (.iconst (-1), 1) := by decide +kernel
theorem dX11_image_8 : decode cX11_image 8 = .ok (.ireturn, 1) := by decide +kernel
theorem dX11_image_9 : decode cX11_image 9 = .ok (.aload_n 0, 1) := by decide +kernel
theorem dX11_image_10 : decode cX11_image 10 = .ok (.getfield 66, 3) := by decide +kernel
theorem dX11_image_13 : decode cX11_image 13 = .ok (.aload_n 0, 1) := by decide +kernel
theorem dX11_image_14 : decode cX11_image 14 = .ok (.getfield 20, 3) := by decide +kernel
theorem dX11_image_17 : decode cX11_image 17 = .ok (.aload_n 0, 1) := by decide +kernel
theorem dX11_image_18 : decode cX11_image 18 = .ok (.getfield 73, 3) := by decide +kernel
theorem dX11_image_21 : decode cX11_image 21 = .ok (.invokevirtual 417, 3) := by decide +kernel
theorem dX11_image_24 : decode cX11_image 24 = .ok (.aload_n 0, 1) := by decide +kernel
theorem dX11_image_25 : decode cX11_image 25 = .ok (.getfield 66, 3) := by decide +kernel
theorem dX11_image_28 : decode cX11_image 28 = .ok (.getfield 421, 3) := by decide +kernel
theorem dX11_image_31 : decode cX11_image 31 = .ok (.ireturn, 1) := by decide +kernel
theorem dX11_octet_0 : decode cX11_octet 0 = .ok (.iload_n 1, 1) := by decide +kernel
theorem dX11_octet_1 : decode cX11_octet 1 = .ok (.ifCond .lt 30, 3) := by decide +kernel
theorem dX11_octet_4 : decode cX11_octet 4 = .ok (.iload_n 1, 1) := by decide +kernel
theorem dX11_octet_5 : decode cX11_octet 5 = .ok (.aload_n 0, 1) := by decide +kernel
theorem dX11_octet_6 : decode cX11_octet 6 = .ok (.getfield 66, 3) := by decide +kernel
theorem dX11_octet_9 : decode cX11_octet 9 = .ok (.getfield 421, 3) := by decide +kernel
theorem dX11_octet_12 : decode cX11_octet 12 = .ok (.if_icmp .ge 19, 3) := by decide +kernel
theorem dX11_octet_15 : decode cX11_octet 15 = .ok (.aload_n 0, 1) := by decide +kernel
theorem dX11_octet_16 : decode cX11_octet 16 = .ok (.getfield 66, 3) := by decide +kernel
theorem dX11_octet_19 : decode cX11_octet 19 = .ok (.getfield 422, 3) := by decide +kernel
theorem dX11_octet_22 : decode cX11_octet 22 = .ok (.iload_n 1, 1) := by decide +kernel
theorem dX11_octet_23 : decode cX11_octet 23 = .ok (.baload, 1) := by decide +kernel
theorem dX11_octet_24 : decode cX11_octet 24 = .ok (.sipush 255, 3) := by decide +kernel
theorem dX11_octet_27 : decode cX11_octet 27 = .ok (.iand, 1) := by decide +kernel
theorem dX11_octet_28 : decode cX11_octet 28 = .ok (.goto 4, 3) := by decide +kernel
theorem dX11_octet_31 : decode cX11_octet 31 = .ok (.iconst (-1), 1) := by decide +kernel
theorem dX11_octet_32 : decode cX11_octet 32 = .ok (.ireturn, 1) := by decide +kernel
theorem dX11_on_0 : decode cX11_on 0 = .ok (.aload_n 0, 1) := by decide +kernel
theorem dX11_on_1 : decode cX11_on 1 = .ok (.invokevirtual 119, 3) := by decide +kernel
theorem dX11_on_4 : decode cX11_on 4 = .ok (.istore_n 1, 1) := by decide +kernel
theorem dX11_on_5 : decode cX11_on 5 = .ok (.aload_n 0, 1) := by decide +kernel
theorem dX11_on_6 : decode cX11_on 6 = .ok (.getfield 89, 3) := by decide +kernel
theorem dX11_on_9 : decode cX11_on 9 = .ok (.ifCond .eq 22, 3) := by decide +kernel
theorem dX11_on_12 : decode cX11_on 12 = .ok (.aload_n 0, 1) := by decide +kernel
theorem dX11_on_13 : decode cX11_on 13 = .ok (.getfield 9, 3) := by decide +kernel
theorem dX11_on_16 : decode cX11_on 16 = .ok (.iload_n 1, 1) := by decide +kernel
theorem dX11_on_17 : decode cX11_on 17 = .ok (.aload_n 0, 1) := by decide +kernel
theorem dX11_on_18 : decode cX11_on 18 = .ok (.getfield 24, 3) := by decide +kernel
theorem dX11_on_21 : decode cX11_on 21 = .ok (.aload_n 0, 1) := by decide +kernel
theorem dX11_on_22 : decode cX11_on 22 = .ok (.getfield 73, 3) := by decide +kernel
theorem dX11_on_25 : decode cX11_on 25 = .ok (.invokestatic 425, 3) := by decide +kernel
theorem dX11_on_28 : decode cX11_on 28 = .ok (.ifCond .ne 10, 3) := by decide +kernel
theorem dX11_on_31 : decode cX11_on 31 = .ok (.aload_n 0, 1) := by decide +kernel
theorem dX11_on_32 : decode cX11_on 32 = .ok (.bipush 7, 2) := by decide +kernel
theorem dX11_on_34 : decode cX11_on 34 = .ok (.invokevirtual 115, 3) := by decide +kernel
theorem dX11_on_37 : decode cX11_on 37 = .ok (.ireturn, 1) := by decide +kernel
theorem dX11_on_38 : decode cX11_on 38 = .ok (.aload_n 0, 1) := by decide +kernel
theorem dX11_on_39 : decode cX11_on 39 = .ok (.getfield 20, 3) := by decide +kernel
theorem dX11_on_42 : decode cX11_on 42 = .ok (.aload_n 0, 1) := by decide +kernel
theorem dX11_on_43 : decode cX11_on 43 = .ok (.getfield 24, 3) := by decide +kernel
theorem dX11_on_46 : decode cX11_on 46 = .ok (.invokevirtual 429, 3) := by decide +kernel
theorem dX11_on_49 : decode cX11_on 49 = .ok (.aload_n 0, 1) := by decide +kernel
theorem dX11_on_50 : decode cX11_on 50 = .ok (.getfield 30, 3) := by decide +kernel
theorem dX11_on_53 : decode cX11_on 53 = .ok (.invokevirtual 158, 3) := by decide +kernel
theorem dX11_on_56 : decode cX11_on 56 = .ok (.iconst 1, 1) := by decide +kernel
theorem dX11_on_57 : decode cX11_on 57 = .ok (.ireturn, 1) := by decide +kernel
theorem dX11_status_0 : decode cX11_status 0 = .ok (.iload_n 1, 1) := by decide +kernel
theorem dX11_status_1 : decode cX11_status 1 = .ok (.ifCond .lt 21, 3) := by decide +kernel
theorem dX11_status_4 : decode cX11_status 4 = .ok (.iload_n 1, 1) := by decide +kernel
theorem dX11_status_5 : decode cX11_status 5 = .ok (.aload_n 0, 1) := by decide +kernel
theorem dX11_status_6 : decode cX11_status 6 = .ok (.getfield 13, 3) := by decide +kernel
theorem dX11_status_9 : decode cX11_status 9 = .ok (.arraylength, 1) := by decide +kernel
theorem dX11_status_10 : decode cX11_status 10 = .ok (.if_icmp .ge 12, 3) := by decide +kernel
theorem dX11_status_13 : decode cX11_status 13 = .ok (.aload_n 0, 1) := by decide +kernel
theorem dX11_status_14 : decode cX11_status 14 = .ok (.getfield 13, 3) := by decide +kernel
theorem dX11_status_17 : decode cX11_status 17 = .ok (.iload_n 1, 1) := by decide +kernel
theorem dX11_status_18 : decode cX11_status 18 = .ok (.iaload, 1) := by decide +kernel
theorem dX11_status_19 : decode cX11_status 19 = .ok (.goto 4, 3) := by decide +kernel
theorem dX11_status_22 : decode cX11_status 22 = .ok (.iconst (-1), 1) := by decide +kernel
theorem dX11_status_23 : decode cX11_status 23 = .ok (.ireturn, 1) := by decide +kernel
theorem dX11_refuse_0 : decode cX11_refuse 0 = .ok (.iload_n 1, 1) := by decide +kernel
theorem dX11_refuse_1 : decode cX11_refuse 1 = .ok (.ifCond .lt 22, 3) := by decide +kernel
theorem dX11_refuse_4 : decode cX11_refuse 4 = .ok (.iload_n 1, 1) := by decide +kernel
theorem dX11_refuse_5 : decode cX11_refuse 5 = .ok (.aload_n 0, 1) := by decide +kernel
theorem dX11_refuse_6 : decode cX11_refuse 6 = .ok (.getfield 13, 3) := by decide +kernel
theorem dX11_refuse_9 : decode cX11_refuse 9 = .ok (.arraylength, 1) := by decide +kernel
theorem dX11_refuse_10 : decode cX11_refuse 10 = .ok (.if_icmp .ge 13, 3) := by decide +kernel
theorem dX11_refuse_13 : decode cX11_refuse 13 = .ok (.aload_n 0, 1) := by decide +kernel
theorem dX11_refuse_14 : decode cX11_refuse 14 = .ok (.getfield 13, 3) := by decide +kernel
theorem dX11_refuse_17 : decode cX11_refuse 17 = .ok (.iload_n 1, 1) := by decide +kernel
theorem dX11_refuse_18 : decode cX11_refuse 18 = .ok (.dup2, 1) := by decide +kernel
theorem dX11_refuse_19 : decode cX11_refuse 19 = .ok (.iaload, 1) := by decide +kernel
theorem dX11_refuse_20 : decode cX11_refuse 20 = .ok (.iconst 1, 1) := by decide +kernel
theorem dX11_refuse_21 : decode cX11_refuse 21 = .ok (.iadd, 1) := by decide +kernel
theorem dX11_refuse_22 : decode cX11_refuse 22 = .ok (.iastore, 1) := by decide +kernel
theorem dX11_refuse_23 : decode cX11_refuse 23 = .ok (.iconst (-1), 1) := by decide +kernel
theorem dX11_refuse_24 : decode cX11_refuse 24 = .ok (.ireturn, 1) := by decide +kernel
theorem dX11_deny_0 : decode cX11_deny 0 = .ok (.aload_n 0, 1) := by decide +kernel
theorem dX11_deny_1 : decode cX11_deny 1 = .ok (.iload_n 1, 1) := by decide +kernel
theorem dX11_deny_2 : decode cX11_deny 2 = .ok (.invokevirtual 107, 3) := by decide +kernel
theorem dX11_deny_5 : decode cX11_deny 5 = .ok (.iconst (-1), 1) := by decide +kernel
theorem dX11_deny_6 : decode cX11_deny 6 = .ok (.if_icmp .eq 7, 3) := by decide +kernel
theorem dX11_deny_9 : decode cX11_deny 9 = .ok (.iconst 1, 1) := by decide +kernel
theorem dX11_deny_10 : decode cX11_deny 10 = .ok (.goto 4, 3) := by decide +kernel
theorem dX11_deny_13 : decode cX11_deny 13 = .ok (.iconst 0, 1) := by decide +kernel
theorem dX11_deny_14 : decode cX11_deny 14 = .ok (.ireturn, 1) := by decide +kernel
theorem dX12_init_0 : decode cX12_init 0 = .ok (.aload_n 0, 1) := by decide +kernel
theorem dX12_init_1 : decode cX12_init 1 = .ok (.invokespecial 1, 3) := by decide +kernel
theorem dX12_init_4 : decode cX12_init 4 = .ok (.aload_n 0, 1) := by decide +kernel
theorem dX12_init_5 : decode cX12_init 5 = .ok (.sipush 1600, 3) := by decide +kernel
theorem dX12_init_8 : decode cX12_init 8 = .ok (.newarray .int, 2) := by decide +kernel
theorem dX12_init_10 : decode cX12_init 10 = .ok (.putfield 7, 3) := by decide +kernel
theorem dX12_init_13 : decode cX12_init 13 = .ok (.aload_n 0, 1) := by decide +kernel
theorem dX12_init_14 : decode cX12_init 14 = .ok (.iconst (-1), 1) := by decide +kernel
theorem dX12_init_15 : decode cX12_init 15 = .ok (.putfield 13, 3) := by decide +kernel
theorem dX12_init_18 : decode cX12_init 18 = .ok (.aload_n 0, 1) := by decide +kernel
theorem dX12_init_19 : decode cX12_init 19 = .ok (.bipush 8, 2) := by decide +kernel
theorem dX12_init_21 : decode cX12_init 21 = .ok (.newarray .int, 2) := by decide +kernel
theorem dX12_init_23 : decode cX12_init 23 = .ok (.putfield 17, 3) := by decide +kernel
theorem dX12_init_26 : decode cX12_init 26 = .ok (.aload_n 0, 1) := by decide +kernel
theorem dX12_init_27 : decode cX12_init 27 = .ok (.bipush 6, 2) := by decide +kernel
theorem dX12_init_29 : decode cX12_init 29 = .ok (.newarray .char, 2) := by decide +kernel
theorem dX12_init_31 : decode cX12_init 31 = .ok (.dup, 1) := by decide +kernel
theorem dX12_init_32 : decode cX12_init 32 = .ok (.iconst 0, 1) := by decide +kernel
theorem dX12_init_33 : decode cX12_init 33 = .ok (.bipush 109, 2) := by decide +kernel
theorem dX12_init_35 : decode cX12_init 35 = .ok (.castore, 1) := by decide +kernel
theorem dX12_init_36 : decode cX12_init 36 = .ok (.dup, 1) := by decide +kernel
theorem dX12_init_37 : decode cX12_init 37 = .ok (.iconst 1, 1) := by decide +kernel
theorem dX12_init_38 : decode cX12_init 38 = .ok (.bipush 101, 2) := by decide +kernel
theorem dX12_init_40 : decode cX12_init 40 = .ok (.castore, 1) := by decide +kernel
theorem dX12_init_41 : decode cX12_init 41 = .ok (.dup, 1) := by decide +kernel
theorem dX12_init_42 : decode cX12_init 42 = .ok (.iconst 2, 1) := by decide +kernel
theorem dX12_init_43 : decode cX12_init 43 = .ok (.bipush 109, 2) := by decide +kernel
theorem dX12_init_45 : decode cX12_init 45 = .ok (.castore, 1) := by decide +kernel
theorem dX12_init_46 : decode cX12_init 46 = .ok (.dup, 1) := by decide +kernel
theorem dX12_init_47 : decode cX12_init 47 = .ok (.iconst 3, 1) := by decide +kernel
theorem dX12_init_48 : decode cX12_init 48 = .ok (.bipush 111, 2) := by decide +kernel
theorem dX12_init_50 : decode cX12_init 50 = .ok (.castore, 1) := by decide +kernel
theorem dX12_init_51 : decode cX12_init 51 = .ok (.dup, 1) := by decide +kernel
theorem dX12_init_52 : decode cX12_init 52 = .ok (.iconst 4, 1) := by decide +kernel
theorem dX12_init_53 : decode cX12_init 53 = .ok (.bipush 114, 2) := by decide +kernel
theorem dX12_init_55 : decode cX12_init 55 = .ok (.castore, 1) := by decide +kernel
theorem dX12_init_56 : decode cX12_init 56 = .ok (.dup, 1) := by decide +kernel
theorem dX12_init_57 : decode cX12_init 57 = .ok (.iconst 5, 1) := by decide +kernel
theorem dX12_init_58 : decode cX12_init 58 = .ok (.bipush 121, 2) := by decide +kernel
theorem dX12_init_60 : decode cX12_init 60 = .ok (.castore, 1) := by decide +kernel
theorem dX12_init_61 : decode cX12_init 61 = .ok (.putfield 20, 3) := by decide +kernel
theorem dX12_init_64 : decode cX12_init 64 = .ok (.aload_n 0, 1) := by decide +kernel
theorem dX12_init_65 : decode cX12_init 65 = .ok (.bipush 8, 2) := by decide +kernel
theorem dX12_init_67 : decode cX12_init 67 = .ok (.newarray .char, 2) := by decide +kernel
theorem dX12_init_69 : decode cX12_init 69 = .ok (.dup, 1) := by decide +kernel
theorem dX12_init_70 : decode cX12_init 70 = .ok (.iconst 0, 1) := by decide +kernel
theorem dX12_init_71 : decode cX12_init 71 = .ok (.bipush 109, 2) := by decide +kernel
theorem dX12_init_73 : decode cX12_init 73 = .ok (.castore, 1) := by decide +kernel
theorem dX12_init_74 : decode cX12_init 74 = .ok (.dup, 1) := by decide +kernel
theorem dX12_init_75 : decode cX12_init 75 = .ok (.iconst 1, 1) := by decide +kernel
theorem dX12_init_76 : decode cX12_init 76 = .ok (.bipush 97, 2) := by decide +kernel
theorem dX12_init_78 : decode cX12_init 78 = .ok (.castore, 1) := by decide +kernel
theorem dX12_init_79 : decode cX12_init 79 = .ok (.dup, 1) := by decide +kernel
theorem dX12_init_80 : decode cX12_init 80 = .ok (.iconst 2, 1) := by decide +kernel
theorem dX12_init_81 : decode cX12_init 81 = .ok (.bipush 110, 2) := by decide +kernel
theorem dX12_init_83 : decode cX12_init 83 = .ok (.castore, 1) := by decide +kernel
theorem dX12_init_84 : decode cX12_init 84 = .ok (.dup, 1) := by decide +kernel
theorem dX12_init_85 : decode cX12_init 85 = .ok (.iconst 3, 1) := by decide +kernel
theorem dX12_init_86 : decode cX12_init 86 = .ok (.bipush 116, 2) := by decide +kernel
theorem dX12_init_88 : decode cX12_init 88 = .ok (.castore, 1) := by decide +kernel
theorem dX12_init_89 : decode cX12_init 89 = .ok (.dup, 1) := by decide +kernel
theorem dX12_init_90 : decode cX12_init 90 = .ok (.iconst 4, 1) := by decide +kernel
theorem dX12_init_91 : decode cX12_init 91 = .ok (.bipush 105, 2) := by decide +kernel
theorem dX12_init_93 : decode cX12_init 93 = .ok (.castore, 1) := by decide +kernel
theorem dX12_init_94 : decode cX12_init 94 = .ok (.dup, 1) := by decide +kernel
theorem dX12_init_95 : decode cX12_init 95 = .ok (.iconst 5, 1) := by decide +kernel
theorem dX12_init_96 : decode cX12_init 96 = .ok (.bipush 115, 2) := by decide +kernel
theorem dX12_init_98 : decode cX12_init 98 = .ok (.castore, 1) := by decide +kernel
theorem dX12_init_99 : decode cX12_init 99 = .ok (.dup, 1) := by decide +kernel
theorem dX12_init_100 : decode cX12_init 100 = .ok (.bipush 6, 2) := by decide +kernel
theorem dX12_init_102 : decode cX12_init 102 = .ok (.bipush 115, 2) := by decide +kernel
theorem dX12_init_104 : decode cX12_init 104 = .ok (.castore, 1) := by decide +kernel
theorem dX12_init_105 : decode cX12_init 105 = .ok (.dup, 1) := by decide +kernel
theorem dX12_init_106 : decode cX12_init 106 = .ok (.bipush 7, 2) := by decide +kernel
theorem dX12_init_108 : decode cX12_init 108 = .ok (.bipush 97, 2) := by decide +kernel
theorem dX12_init_110 : decode cX12_init 110 = .ok (.castore, 1) := by decide +kernel
theorem dX12_init_111 : decode cX12_init 111 = .ok (.putfield 24, 3) := by decide +kernel
theorem dX12_init_114 : decode cX12_init 114 = .ok (.aload_n 0, 1) := by decide +kernel
theorem dX12_init_115 : decode cX12_init 115 = .ok (.iconst 5, 1) := by decide +kernel
theorem dX12_init_116 : decode cX12_init 116 = .ok (.newarray .char, 2) := by decide +kernel
theorem dX12_init_118 : decode cX12_init 118 = .ok (.dup, 1) := by decide +kernel
theorem dX12_init_119 : decode cX12_init 119 = .ok (.iconst 0, 1) := by decide +kernel
theorem dX12_init_120 : decode cX12_init 120 = .ok (.bipush 115, 2) := by decide +kernel
theorem dX12_init_122 : decode cX12_init 122 = .ok (.castore, 1) := by decide +kernel
theorem dX12_init_123 : decode cX12_init 123 = .ok (.dup, 1) := by decide +kernel
theorem dX12_init_124 : decode cX12_init 124 = .ok (.iconst 1, 1) := by decide +kernel
theorem dX12_init_125 : decode cX12_init 125 = .ok (.bipush 104, 2) := by decide +kernel
theorem dX12_init_127 : decode cX12_init 127 = .ok (.castore, 1) := by decide +kernel
theorem dX12_init_128 : decode cX12_init 128 = .ok (.dup, 1) := by decide +kernel
theorem dX12_init_129 : decode cX12_init 129 = .ok (.iconst 2, 1) := by decide +kernel
theorem dX12_init_130 : decode cX12_init 130 = .ok (.bipush 101, 2) := by decide +kernel
theorem dX12_init_132 : decode cX12_init 132 = .ok (.castore, 1) := by decide +kernel
theorem dX12_init_133 : decode cX12_init 133 = .ok (.dup, 1) := by decide +kernel
theorem dX12_init_134 : decode cX12_init 134 = .ok (.iconst 3, 1) := by decide +kernel
theorem dX12_init_135 : decode cX12_init 135 = .ok (.bipush 108, 2) := by decide +kernel
theorem dX12_init_137 : decode cX12_init 137 = .ok (.castore, 1) := by decide +kernel
theorem dX12_init_138 : decode cX12_init 138 = .ok (.dup, 1) := by decide +kernel
theorem dX12_init_139 : decode cX12_init 139 = .ok (.iconst 4, 1) := by decide +kernel
theorem dX12_init_140 : decode cX12_init 140 = .ok (.bipush 102, 2) := by decide +kernel
theorem dX12_init_142 : decode cX12_init 142 = .ok (.castore, 1) := by decide +kernel
theorem dX12_init_143 : decode cX12_init 143 = .ok (.putfield 27, 3) := by decide +kernel
theorem dX12_init_146 : decode cX12_init 146 = .ok (.aload_n 0, 1) := by decide +kernel
theorem dX12_init_147 : decode cX12_init 147 = .ok (.iconst 4, 1) := by decide +kernel
theorem dX12_init_148 : decode cX12_init 148 = .ok (.newarray .char, 2) := by decide +kernel
theorem dX12_init_150 : decode cX12_init 150 = .ok (.dup, 1) := by decide +kernel
theorem dX12_init_151 : decode cX12_init 151 = .ok (.iconst 0, 1) := by decide +kernel
theorem dX12_init_152 : decode cX12_init 152 = .ok (.bipush 107, 2) := by decide +kernel
theorem dX12_init_154 : decode cX12_init 154 = .ok (.castore, 1) := by decide +kernel
theorem dX12_init_155 : decode cX12_init 155 = .ok (.dup, 1) := by decide +kernel
theorem dX12_init_156 : decode cX12_init 156 = .ok (.iconst 1, 1) := by decide +kernel
theorem dX12_init_157 : decode cX12_init 157 = .ok (.bipush 105, 2) := by decide +kernel
theorem dX12_init_159 : decode cX12_init 159 = .ok (.castore, 1) := by decide +kernel
theorem dX12_init_160 : decode cX12_init 160 = .ok (.dup, 1) := by decide +kernel
theorem dX12_init_161 : decode cX12_init 161 = .ok (.iconst 2, 1) := by decide +kernel
theorem dX12_init_162 : decode cX12_init 162 = .ok (.bipush 110, 2) := by decide +kernel
theorem dX12_init_164 : decode cX12_init 164 = .ok (.castore, 1) := by decide +kernel
theorem dX12_init_165 : decode cX12_init 165 = .ok (.dup, 1) := by decide +kernel
theorem dX12_init_166 : decode cX12_init 166 = .ok (.iconst 3, 1) := by decide +kernel
theorem dX12_init_167 : decode cX12_init 167 = .ok (.bipush 100, 2) := by decide +kernel
theorem dX12_init_169 : decode cX12_init 169 = .ok (.castore, 1) := by decide +kernel
theorem dX12_init_170 : decode cX12_init 170 = .ok (.putfield 30, 3) := by decide +kernel
theorem dX12_init_173 : decode cX12_init 173 = .ok (.aload_n 0, 1) := by decide +kernel
theorem dX12_init_174 : decode cX12_init 174 = .ok (.iconst 5, 1) := by decide +kernel
theorem dX12_init_175 : decode cX12_init 175 = .ok (.newarray .char, 2) := by decide +kernel
theorem dX12_init_177 : decode cX12_init 177 = .ok (.dup, 1) := by decide +kernel
theorem dX12_init_178 : decode cX12_init 178 = .ok (.iconst 0, 1) := by decide +kernel
theorem dX12_init_179 : decode cX12_init 179 = .ok (.bipush 112, 2) := by decide +kernel
theorem dX12_init_181 : decode cX12_init 181 = .ok (.castore, 1) := by decide +kernel
theorem dX12_init_182 : decode cX12_init 182 = .ok (.dup, 1) := by decide +kernel
theorem dX12_init_183 : decode cX12_init 183 = .ok (.iconst 1, 1) := by decide +kernel
theorem dX12_init_184 : decode cX12_init 184 = .ok (.bipush 105, 2) := by decide +kernel
theorem dX12_init_186 : decode cX12_init 186 = .ok (.castore, 1) := by decide +kernel
theorem dX12_init_187 : decode cX12_init 187 = .ok (.dup, 1) := by decide +kernel
theorem dX12_init_188 : decode cX12_init 188 = .ok (.iconst 2, 1) := by decide +kernel
theorem dX12_init_189 : decode cX12_init 189 = .ok (.bipush 99, 2) := by decide +kernel
theorem dX12_init_191 : decode cX12_init 191 = .ok (.castore, 1) := by decide +kernel
theorem dX12_init_192 : decode cX12_init 192 = .ok (.dup, 1) := by decide +kernel
theorem dX12_init_193 : decode cX12_init 193 = .ok (.iconst 3, 1) := by decide +kernel
theorem dX12_init_194 : decode cX12_init 194 = .ok (.bipush 107, 2) := by decide +kernel
theorem dX12_init_196 : decode cX12_init 196 = .ok (.castore, 1) := by decide +kernel
theorem dX12_init_197 : decode cX12_init 197 = .ok (.dup, 1) := by decide +kernel
theorem dX12_init_198 : decode cX12_init 198 = .ok (.iconst 4, 1) := by decide +kernel
theorem dX12_init_199 : decode cX12_init 199 = .ok (.bipush 115, 2) := by decide +kernel
theorem dX12_init_201 : decode cX12_init 201 = .ok (.castore, 1) := by decide +kernel
theorem dX12_init_202 : decode cX12_init 202 = .ok (.putfield 33, 3) := by decide +kernel
theorem dX12_init_205 : decode cX12_init 205 = .ok (.aload_n 0, 1) := by decide +kernel
theorem dX12_init_206 : decode cX12_init 206 = .ok (.iconst 4, 1) := by decide +kernel
theorem dX12_init_207 : decode cX12_init 207 = .ok (.newarray .char, 2) := by decide +kernel
theorem dX12_init_209 : decode cX12_init 209 = .ok (.dup, 1) := by decide +kernel
theorem dX12_init_210 : decode cX12_init 210 = .ok (.iconst 0, 1) := by decide +kernel
theorem dX12_init_211 : decode cX12_init 211 = .ok (.bipush 112, 2) := by decide +kernel
theorem dX12_init_213 : decode cX12_init 213 = .ok (.castore, 1) := by decide +kernel
theorem dX12_init_214 : decode cX12_init 214 = .ok (.dup, 1) := by decide +kernel
theorem dX12_init_215 : decode cX12_init 215 = .ok (.iconst 1, 1) := by decide +kernel
theorem dX12_init_216 : decode cX12_init 216 = .ok (.bipush 97, 2) := by decide +kernel
theorem dX12_init_218 : decode cX12_init 218 = .ok (.castore, 1) := by decide +kernel
theorem dX12_init_219 : decode cX12_init 219 = .ok (.dup, 1) := by decide +kernel
theorem dX12_init_220 : decode cX12_init 220 = .ok (.iconst 2, 1) := by decide +kernel
theorem dX12_init_221 : decode cX12_init 221 = .ok (.bipush 100, 2) := by decide +kernel
theorem dX12_init_223 : decode cX12_init 223 = .ok (.castore, 1) := by decide +kernel
theorem dX12_init_224 : decode cX12_init 224 = .ok (.dup, 1) := by decide +kernel
theorem dX12_init_225 : decode cX12_init 225 = .ok (.iconst 3, 1) := by decide +kernel
theorem dX12_init_226 : decode cX12_init 226 = .ok (.bipush 115, 2) := by decide +kernel
theorem dX12_init_228 : decode cX12_init 228 = .ok (.castore, 1) := by decide +kernel
theorem dX12_init_229 : decode cX12_init 229 = .ok (.putfield 36, 3) := by decide +kernel
theorem dX12_init_232 : decode cX12_init 232 = .ok (.aload_n 0, 1) := by decide +kernel
theorem dX12_init_233 : decode cX12_init 233 = .ok (.iconst 5, 1) := by decide +kernel
theorem dX12_init_234 : decode cX12_init 234 = .ok (.newarray .char, 2) := by decide +kernel
theorem dX12_init_236 : decode cX12_init 236 = .ok (.dup, 1) := by decide +kernel
theorem dX12_init_237 : decode cX12_init 237 = .ok (.iconst 0, 1) := by decide +kernel
theorem dX12_init_238 : decode cX12_init 238 = .ok (.bipush 116, 2) := by decide +kernel
theorem dX12_init_240 : decode cX12_init 240 = .ok (.castore, 1) := by decide +kernel
theorem dX12_init_241 : decode cX12_init 241 = .ok (.dup, 1) := by decide +kernel
theorem dX12_init_242 : decode cX12_init 242 = .ok (.iconst 1, 1) := by decide +kernel
theorem dX12_init_243 : decode cX12_init 243 = .ok (.bipush 114, 2) := by decide +kernel
theorem dX12_init_245 : decode cX12_init 245 = .ok (.castore, 1) := by decide +kernel
theorem dX12_init_246 : decode cX12_init 246 = .ok (.dup, 1) := by decide +kernel
theorem dX12_init_247 : decode cX12_init 247 = .ok (.iconst 2, 1) := by decide +kernel
theorem dX12_init_248 : decode cX12_init 248 = .ok (.bipush 97, 2) := by decide +kernel
theorem dX12_init_250 : decode cX12_init 250 = .ok (.castore, 1) := by decide +kernel
theorem dX12_init_251 : decode cX12_init 251 = .ok (.dup, 1) := by decide +kernel
theorem dX12_init_252 : decode cX12_init 252 = .ok (.iconst 3, 1) := by decide +kernel
theorem dX12_init_253 : decode cX12_init 253 = .ok (.bipush 112, 2) := by decide +kernel
theorem dX12_init_255 : decode cX12_init 255 = .ok (.castore, 1) := by decide +kernel
theorem dX12_init_256 : decode cX12_init 256 = .ok (.dup, 1) := by decide +kernel
theorem dX12_init_257 : decode cX12_init 257 = .ok (.iconst 4, 1) := by decide +kernel
theorem dX12_init_258 : decode cX12_init 258 = .ok (.bipush 115, 2) := by decide +kernel
theorem dX12_init_260 : decode cX12_init 260 = .ok (.castore, 1) := by decide +kernel
theorem dX12_init_261 : decode cX12_init 261 = .ok (.putfield 39, 3) := by decide +kernel
theorem dX12_init_264 : decode cX12_init 264 = .ok (.aload_n 0, 1) := by decide +kernel
theorem dX12_init_265 : decode cX12_init 265 = .ok (.iconst 4, 1) := by decide +kernel
theorem dX12_init_266 : decode cX12_init 266 = .ok (.newarray .char, 2) := by decide +kernel
theorem dX12_init_268 : decode cX12_init 268 = .ok (.dup, 1) := by decide +kernel
theorem dX12_init_269 : decode cX12_init 269 = .ok (.iconst 0, 1) := by decide +kernel
theorem dX12_init_270 : decode cX12_init 270 = .ok (.bipush 110, 2) := by decide +kernel
theorem dX12_init_272 : decode cX12_init 272 = .ok (.castore, 1) := by decide +kernel
theorem dX12_init_273 : decode cX12_init 273 = .ok (.dup, 1) := by decide +kernel
theorem dX12_init_274 : decode cX12_init 274 = .ok (.iconst 1, 1) := by decide +kernel
theorem dX12_init_275 : decode cX12_init 275 = .ok (.bipush 101, 2) := by decide +kernel
theorem dX12_init_277 : decode cX12_init 277 = .ok (.castore, 1) := by decide +kernel
theorem dX12_init_278 : decode cX12_init 278 = .ok (.dup, 1) := by decide +kernel
theorem dX12_init_279 : decode cX12_init 279 = .ok (.iconst 2, 1) := by decide +kernel
theorem dX12_init_280 : decode cX12_init 280 = .ok (.bipush 101, 2) := by decide +kernel
theorem dX12_init_282 : decode cX12_init 282 = .ok (.castore, 1) := by decide +kernel
theorem dX12_init_283 : decode cX12_init 283 = .ok (.dup, 1) := by decide +kernel
theorem dX12_init_284 : decode cX12_init 284 = .ok (.iconst 3, 1) := by decide +kernel
theorem dX12_init_285 : decode cX12_init 285 = .ok (.bipush 100, 2) := by decide +kernel
theorem dX12_init_287 : decode cX12_init 287 = .ok (.castore, 1) := by decide +kernel
theorem dX12_init_288 : decode cX12_init 288 = .ok (.putfield 42, 3) := by decide +kernel
theorem dX12_init_291 : decode cX12_init 291 = .ok (.aload_n 0, 1) := by decide +kernel
theorem dX12_init_292 : decode cX12_init 292 = .ok (.iconst 5, 1) := by decide +kernel
theorem dX12_init_293 : decode cX12_init 293 = .ok (.newarray .char, 2) := by decide +kernel
theorem dX12_init_295 : decode cX12_init 295 = .ok (.dup, 1) := by decide +kernel
theorem dX12_init_296 : decode cX12_init 296 = .ok (.iconst 0, 1) := by decide +kernel
theorem dX12_init_297 : decode cX12_init 297 = .ok (.bipush 115, 2) := by decide +kernel
theorem dX12_init_299 : decode cX12_init 299 = .ok (.castore, 1) := by decide +kernel
theorem dX12_init_300 : decode cX12_init 300 = .ok (.dup, 1) := by decide +kernel
theorem dX12_init_301 : decode cX12_init 301 = .ok (.iconst 1, 1) := by decide +kernel
theorem dX12_init_302 : decode cX12_init 302 = .ok (.bipush 116, 2) := by decide +kernel
theorem dX12_init_304 : decode cX12_init 304 = .ok (.castore, 1) := by decide +kernel
theorem dX12_init_305 : decode cX12_init 305 = .ok (.dup, 1) := by decide +kernel
theorem dX12_init_306 : decode cX12_init 306 = .ok (.iconst 2, 1) := by decide +kernel
theorem dX12_init_307 : decode cX12_init 307 = .ok (.bipush 97, 2) := by decide +kernel
theorem dX12_init_309 : decode cX12_init 309 = .ok (.castore, 1) := by decide +kernel
theorem dX12_init_310 : decode cX12_init 310 = .ok (.dup, 1) := by decide +kernel
theorem dX12_init_311 : decode cX12_init 311 = .ok (.iconst 3, 1) := by decide +kernel
theorem dX12_init_312 : decode cX12_init 312 = .ok (.bipush 114, 2) := by decide +kernel
theorem dX12_init_314 : decode cX12_init 314 = .ok (.castore, 1) := by decide +kernel
theorem dX12_init_315 : decode cX12_init 315 = .ok (.dup, 1) := by decide +kernel
theorem dX12_init_316 : decode cX12_init 316 = .ok (.iconst 4, 1) := by decide +kernel
theorem dX12_init_317 : decode cX12_init 317 = .ok (.bipush 116, 2) := by decide +kernel
theorem dX12_init_319 : decode cX12_init 319 = .ok (.castore, 1) := by decide +kernel
theorem dX12_init_320 : decode cX12_init 320 = .ok (.putfield 45, 3) := by decide +kernel
theorem dX12_init_323 : decode cX12_init 323 = .ok (.aload_n 0, 1) := by decide +kernel
theorem dX12_init_324 : decode cX12_init 324 = .ok (.iconst 4, 1) := by decide +kernel
theorem dX12_init_325 : decode cX12_init 325 = .ok (.newarray .char, 2) := by decide +kernel
theorem dX12_init_327 : decode cX12_init 327 = .ok (.dup, 1) := by decide +kernel
theorem dX12_init_328 : decode cX12_init 328 = .ok (.iconst 0, 1) := by decide +kernel
theorem dX12_init_329 : decode cX12_init 329 = .ok (.bipush 114, 2) := by decide +kernel
theorem dX12_init_331 : decode cX12_init 331 = .ok (.castore, 1) := by decide +kernel
theorem dX12_init_332 : decode cX12_init 332 = .ok (.dup, 1) := by decide +kernel
theorem dX12_init_333 : decode cX12_init 333 = .ok (.iconst 1, 1) := by decide +kernel
theorem dX12_init_334 : decode cX12_init 334 = .ok (.bipush 111, 2) := by decide +kernel
theorem dX12_init_336 : decode cX12_init 336 = .ok (.castore, 1) := by decide +kernel
theorem dX12_init_337 : decode cX12_init 337 = .ok (.dup, 1) := by decide +kernel
theorem dX12_init_338 : decode cX12_init 338 = .ok (.iconst 2, 1) := by decide +kernel
theorem dX12_init_339 : decode cX12_init 339 = .ok (.bipush 111, 2) := by decide +kernel
theorem dX12_init_341 : decode cX12_init 341 = .ok (.castore, 1) := by decide +kernel
theorem dX12_init_342 : decode cX12_init 342 = .ok (.dup, 1) := by decide +kernel
theorem dX12_init_343 : decode cX12_init 343 = .ok (.iconst 3, 1) := by decide +kernel
theorem dX12_init_344 : decode cX12_init 344 = .ok (.bipush 109, 2) := by decide +kernel
theorem dX12_init_346 : decode cX12_init 346 = .ok (.castore, 1) := by decide +kernel
theorem dX12_init_347 : decode cX12_init 347 = .ok (.putfield 48, 3) := by decide +kernel
theorem dX12_init_350 : decode cX12_init 350 = .ok (.aload_n 0, 1) := by decide +kernel
theorem dX12_init_351 : decode cX12_init 351 = .ok (.iconst 2, 1) := by decide +kernel
theorem dX12_init_352 : decode cX12_init 352 = .ok (.newarray .char, 2) := by decide +kernel
theorem dX12_init_354 : decode cX12_init 354 = .ok (.dup, 1) := by decide +kernel
theorem dX12_init_355 : decode cX12_init 355 = .ok (.iconst 0, 1) := by decide +kernel
theorem dX12_init_356 : decode cX12_init 356 = .ok (.bipush 97, 2) := by decide +kernel
theorem dX12_init_358 : decode cX12_init 358 = .ok (.castore, 1) := by decide +kernel
theorem dX12_init_359 : decode cX12_init 359 = .ok (.dup, 1) := by decide +kernel
theorem dX12_init_360 : decode cX12_init 360 = .ok (.iconst 1, 1) := by decide +kernel
theorem dX12_init_361 : decode cX12_init 361 = .ok (.bipush 116, 2) := by decide +kernel
theorem dX12_init_363 : decode cX12_init 363 = .ok (.castore, 1) := by decide +kernel
theorem dX12_init_364 : decode cX12_init 364 = .ok (.putfield 51, 3) := by decide +kernel
theorem dX12_init_367 : decode cX12_init 367 = .ok (.aload_n 0, 1) := by decide +kernel
theorem dX12_init_368 : decode cX12_init 368 = .ok (.iconst 4, 1) := by decide +kernel
theorem dX12_init_369 : decode cX12_init 369 = .ok (.newarray .char, 2) := by decide +kernel
theorem dX12_init_371 : decode cX12_init 371 = .ok (.dup, 1) := by decide +kernel
theorem dX12_init_372 : decode cX12_init 372 = .ok (.iconst 0, 1) := by decide +kernel
theorem dX12_init_373 : decode cX12_init 373 = .ok (.bipush 98, 2) := by decide +kernel
theorem dX12_init_375 : decode cX12_init 375 = .ok (.castore, 1) := by decide +kernel
theorem dX12_init_376 : decode cX12_init 376 = .ok (.dup, 1) := by decide +kernel
theorem dX12_init_377 : decode cX12_init 377 = .ok (.iconst 1, 1) := by decide +kernel
theorem dX12_init_378 : decode cX12_init 378 = .ok (.bipush 97, 2) := by decide +kernel
theorem dX12_init_380 : decode cX12_init 380 = .ok (.castore, 1) := by decide +kernel
theorem dX12_init_381 : decode cX12_init 381 = .ok (.dup, 1) := by decide +kernel
theorem dX12_init_382 : decode cX12_init 382 = .ok (.iconst 2, 1) := by decide +kernel
theorem dX12_init_383 : decode cX12_init 383 = .ok (.bipush 115, 2) := by decide +kernel
theorem dX12_init_385 : decode cX12_init 385 = .ok (.castore, 1) := by decide +kernel
theorem dX12_init_386 : decode cX12_init 386 = .ok (.dup, 1) := by decide +kernel
theorem dX12_init_387 : decode cX12_init 387 = .ok (.iconst 3, 1) := by decide +kernel
theorem dX12_init_388 : decode cX12_init 388 = .ok (.bipush 101, 2) := by decide +kernel
theorem dX12_init_390 : decode cX12_init 390 = .ok (.castore, 1) := by decide +kernel
theorem dX12_init_391 : decode cX12_init 391 = .ok (.putfield 54, 3) := by decide +kernel
theorem dX12_init_394 : decode cX12_init 394 = .ok (.aload_n 0, 1) := by decide +kernel
theorem dX12_init_395 : decode cX12_init 395 = .ok (.bipush 6, 2) := by decide +kernel
theorem dX12_init_397 : decode cX12_init 397 = .ok (.newarray .char, 2) := by decide +kernel
theorem dX12_init_399 : decode cX12_init 399 = .ok (.dup, 1) := by decide +kernel
theorem dX12_init_400 : decode cX12_init 400 = .ok (.iconst 0, 1) := by decide +kernel
theorem dX12_init_401 : decode cX12_init 401 = .ok (.bipush 108, 2) := by decide +kernel
theorem dX12_init_403 : decode cX12_init 403 = .ok (.castore, 1) := by decide +kernel
theorem dX12_init_404 : decode cX12_init 404 = .ok (.dup, 1) := by decide +kernel
theorem dX12_init_405 : decode cX12_init 405 = .ok (.iconst 1, 1) := by decide +kernel
theorem dX12_init_406 : decode cX12_init 406 = .ok (.bipush 101, 2) := by decide +kernel
theorem dX12_init_408 : decode cX12_init 408 = .ok (.castore, 1) := by decide +kernel
theorem dX12_init_409 : decode cX12_init 409 = .ok (.dup, 1) := by decide +kernel
theorem dX12_init_410 : decode cX12_init 410 = .ok (.iconst 2, 1) := by decide +kernel
theorem dX12_init_411 : decode cX12_init 411 = .ok (.bipush 110, 2) := by decide +kernel
theorem dX12_init_413 : decode cX12_init 413 = .ok (.castore, 1) := by decide +kernel
theorem dX12_init_414 : decode cX12_init 414 = .ok (.dup, 1) := by decide +kernel
theorem dX12_init_415 : decode cX12_init 415 = .ok (.iconst 3, 1) := by decide +kernel
theorem dX12_init_416 : decode cX12_init 416 = .ok (.bipush 103, 2) := by decide +kernel
theorem dX12_init_418 : decode cX12_init 418 = .ok (.castore, 1) := by decide +kernel
theorem dX12_init_419 : decode cX12_init 419 = .ok (.dup, 1) := by decide +kernel
theorem dX12_init_420 : decode cX12_init 420 = .ok (.iconst 4, 1) := by decide +kernel
theorem dX12_init_421 : decode cX12_init 421 = .ok (.bipush 116, 2) := by decide +kernel
theorem dX12_init_423 : decode cX12_init 423 = .ok (.castore, 1) := by decide +kernel
theorem dX12_init_424 : decode cX12_init 424 = .ok (.dup, 1) := by decide +kernel
theorem dX12_init_425 : decode cX12_init 425 = .ok (.iconst 5, 1) := by decide +kernel
theorem dX12_init_426 : decode cX12_init 426 = .ok (.bipush 104, 2) := by decide +kernel
theorem dX12_init_428 : decode cX12_init 428 = .ok (.castore, 1) := by decide +kernel
theorem dX12_init_429 : decode cX12_init 429 = .ok (.putfield 57, 3) := by decide +kernel
theorem dX12_init_432 : decode cX12_init 432 = .ok (.aload_n 0, 1) := by decide +kernel
theorem dX12_init_433 : decode cX12_init 433 = .ok (.iconst 5, 1) := by decide +kernel
theorem dX12_init_434 : decode cX12_init 434 = .ok (.newarray .char, 2) := by decide +kernel
theorem dX12_init_436 : decode cX12_init 436 = .ok (.dup, 1) := by decide +kernel
theorem dX12_init_437 : decode cX12_init 437 = .ok (.iconst 0, 1) := by decide +kernel
theorem dX12_init_438 : decode cX12_init 438 = .ok (.bipush 112, 2) := by decide +kernel
theorem dX12_init_440 : decode cX12_init 440 = .ok (.castore, 1) := by decide +kernel
theorem dX12_init_441 : decode cX12_init 441 = .ok (.dup, 1) := by decide +kernel
theorem dX12_init_442 : decode cX12_init 442 = .ok (.iconst 1, 1) := by decide +kernel
theorem dX12_init_443 : decode cX12_init 443 = .ok (.bipush 101, 2) := by decide +kernel
theorem dX12_init_445 : decode cX12_init 445 = .ok (.castore, 1) := by decide +kernel
theorem dX12_init_446 : decode cX12_init 446 = .ok (.dup, 1) := by decide +kernel
theorem dX12_init_447 : decode cX12_init 447 = .ok (.iconst 2, 1) := by decide +kernel
theorem dX12_init_448 : decode cX12_init 448 = .ok (.bipush 114, 2) := by decide +kernel
theorem dX12_init_450 : decode cX12_init 450 = .ok (.castore, 1) := by decide +kernel
theorem dX12_init_451 : decode cX12_init 451 = .ok (.dup, 1) := by decide +kernel
theorem dX12_init_452 : decode cX12_init 452 = .ok (.iconst 3, 1) := by decide +kernel
theorem dX12_init_453 : decode cX12_init 453 = .ok (.bipush 109, 2) := by decide +kernel
theorem dX12_init_455 : decode cX12_init 455 = .ok (.castore, 1) := by decide +kernel
theorem dX12_init_456 : decode cX12_init 456 = .ok (.dup, 1) := by decide +kernel
theorem dX12_init_457 : decode cX12_init 457 = .ok (.iconst 4, 1) := by decide +kernel
theorem dX12_init_458 : decode cX12_init 458 = .ok (.bipush 115, 2) := by decide +kernel
theorem dX12_init_460 : decode cX12_init 460 = .ok (.castore, 1) := by decide +kernel
theorem dX12_init_461 : decode cX12_init 461 = .ok (.putfield 60, 3) := by decide +kernel
theorem dX12_init_464 : decode cX12_init 464 = .ok (.aload_n 0, 1) := by decide +kernel
theorem dX12_init_465 : decode cX12_init 465 = .ok (.bipush 6, 2) := by decide +kernel
theorem dX12_init_467 : decode cX12_init 467 = .ok (.newarray .char, 2) := by decide +kernel
theorem dX12_init_469 : decode cX12_init 469 = .ok (.dup, 1) := by decide +kernel
theorem dX12_init_470 : decode cX12_init 470 = .ok (.iconst 0, 1) := by decide +kernel
theorem dX12_init_471 : decode cX12_init 471 = .ok (.bipush 110, 2) := by decide +kernel
theorem dX12_init_473 : decode cX12_init 473 = .ok (.castore, 1) := by decide +kernel
theorem dX12_init_474 : decode cX12_init 474 = .ok (.dup, 1) := by decide +kernel
theorem dX12_init_475 : decode cX12_init 475 = .ok (.iconst 1, 1) := by decide +kernel
theorem dX12_init_476 : decode cX12_init 476 = .ok (.bipush 117, 2) := by decide +kernel
theorem dX12_init_478 : decode cX12_init 478 = .ok (.castore, 1) := by decide +kernel
theorem dX12_init_479 : decode cX12_init 479 = .ok (.dup, 1) := by decide +kernel
theorem dX12_init_480 : decode cX12_init 480 = .ok (.iconst 2, 1) := by decide +kernel
theorem dX12_init_481 : decode cX12_init 481 = .ok (.bipush 109, 2) := by decide +kernel
theorem dX12_init_483 : decode cX12_init 483 = .ok (.castore, 1) := by decide +kernel
theorem dX12_init_484 : decode cX12_init 484 = .ok (.dup, 1) := by decide +kernel
theorem dX12_init_485 : decode cX12_init 485 = .ok (.iconst 3, 1) := by decide +kernel
theorem dX12_init_486 : decode cX12_init 486 = .ok (.bipush 98, 2) := by decide +kernel
theorem dX12_init_488 : decode cX12_init 488 = .ok (.castore, 1) := by decide +kernel
theorem dX12_init_489 : decode cX12_init 489 = .ok (.dup, 1) := by decide +kernel
theorem dX12_init_490 : decode cX12_init 490 = .ok (.iconst 4, 1) := by decide +kernel
theorem dX12_init_491 : decode cX12_init 491 = .ok (.bipush 101, 2) := by decide +kernel
theorem dX12_init_493 : decode cX12_init 493 = .ok (.castore, 1) := by decide +kernel
theorem dX12_init_494 : decode cX12_init 494 = .ok (.dup, 1) := by decide +kernel
theorem dX12_init_495 : decode cX12_init 495 = .ok (.iconst 5, 1) := by decide +kernel
theorem dX12_init_496 : decode cX12_init 496 = .ok (.bipush 114, 2) := by decide +kernel
theorem dX12_init_498 : decode cX12_init 498 = .ok (.castore, 1) := by decide +kernel
theorem dX12_init_499 : decode cX12_init 499 = .ok (.putfield 63, 3) := by decide +kernel
theorem dX12_init_502 : decode cX12_init 502 = .ok (.aload_n 0, 1) := by decide +kernel
theorem dX12_init_503 : decode cX12_init 503 = .ok (.iconst 3, 1) := by decide +kernel
theorem dX12_init_504 : decode cX12_init 504 = .ok (.newarray .char, 2) := by decide +kernel
theorem dX12_init_506 : decode cX12_init 506 = .ok (.dup, 1) := by decide +kernel
theorem dX12_init_507 : decode cX12_init 507 = .ok (.iconst 0, 1) := by decide +kernel
theorem dX12_init_508 : decode cX12_init 508 = .ok (.bipush 101, 2) := by decide +kernel
theorem dX12_init_510 : decode cX12_init 510 = .ok (.castore, 1) := by decide +kernel
theorem dX12_init_511 : decode cX12_init 511 = .ok (.dup, 1) := by decide +kernel
theorem dX12_init_512 : decode cX12_init 512 = .ok (.iconst 1, 1) := by decide +kernel
theorem dX12_init_513 : decode cX12_init 513 = .ok (.bipush 120, 2) := by decide +kernel
theorem dX12_init_515 : decode cX12_init 515 = .ok (.castore, 1) := by decide +kernel
theorem dX12_init_516 : decode cX12_init 516 = .ok (.dup, 1) := by decide +kernel
theorem dX12_init_517 : decode cX12_init 517 = .ok (.iconst 2, 1) := by decide +kernel
theorem dX12_init_518 : decode cX12_init 518 = .ok (.bipush 112, 2) := by decide +kernel
theorem dX12_init_520 : decode cX12_init 520 = .ok (.castore, 1) := by decide +kernel
theorem dX12_init_521 : decode cX12_init 521 = .ok (.putfield 66, 3) := by decide +kernel
theorem dX12_init_524 : decode cX12_init 524 = .ok (.aload_n 0, 1) := by decide +kernel
theorem dX12_init_525 : decode cX12_init 525 = .ok (.iconst 5, 1) := by decide +kernel
theorem dX12_init_526 : decode cX12_init 526 = .ok (.newarray .char, 2) := by decide +kernel
theorem dX12_init_528 : decode cX12_init 528 = .ok (.dup, 1) := by decide +kernel
theorem dX12_init_529 : decode cX12_init 529 = .ok (.iconst 0, 1) := by decide +kernel
theorem dX12_init_530 : decode cX12_init 530 = .ok (.bipush 118, 2) := by decide +kernel
theorem dX12_init_532 : decode cX12_init 532 = .ok (.castore, 1) := by decide +kernel
theorem dX12_init_533 : decode cX12_init 533 = .ok (.dup, 1) := by decide +kernel
theorem dX12_init_534 : decode cX12_init 534 = .ok (.iconst 1, 1) := by decide +kernel
theorem dX12_init_535 : decode cX12_init 535 = .ok (.bipush 97, 2) := by decide +kernel
theorem dX12_init_537 : decode cX12_init 537 = .ok (.castore, 1) := by decide +kernel
theorem dX12_init_538 : decode cX12_init 538 = .ok (.dup, 1) := by decide +kernel
theorem dX12_init_539 : decode cX12_init 539 = .ok (.iconst 2, 1) := by decide +kernel
theorem dX12_init_540 : decode cX12_init 540 = .ok (.bipush 108, 2) := by decide +kernel
theorem dX12_init_542 : decode cX12_init 542 = .ok (.castore, 1) := by decide +kernel
theorem dX12_init_543 : decode cX12_init 543 = .ok (.dup, 1) := by decide +kernel
theorem dX12_init_544 : decode cX12_init 544 = .ok (.iconst 3, 1) := by decide +kernel
theorem dX12_init_545 : decode cX12_init 545 = .ok (.bipush 105, 2) := by decide +kernel
theorem dX12_init_547 : decode cX12_init 547 = .ok (.castore, 1) := by decide +kernel
theorem dX12_init_548 : decode cX12_init 548 = .ok (.dup, 1) := by decide +kernel
theorem dX12_init_549 : decode cX12_init 549 = .ok (.iconst 4, 1) := by decide +kernel
theorem dX12_init_550 : decode cX12_init 550 = .ok (.bipush 100, 2) := by decide +kernel
theorem dX12_init_552 : decode cX12_init 552 = .ok (.castore, 1) := by decide +kernel
theorem dX12_init_553 : decode cX12_init 553 = .ok (.putfield 69, 3) := by decide +kernel
theorem dX12_init_556 : decode cX12_init 556 = .ok (.aload_n 0, 1) := by decide +kernel
theorem dX12_init_557 : decode cX12_init 557 = .ok (.iconst 4, 1) := by decide +kernel
theorem dX12_init_558 : decode cX12_init 558 = .ok (.newarray .char, 2) := by decide +kernel
theorem dX12_init_560 : decode cX12_init 560 = .ok (.dup, 1) := by decide +kernel
theorem dX12_init_561 : decode cX12_init 561 = .ok (.iconst 0, 1) := by decide +kernel
theorem dX12_init_562 : decode cX12_init 562 = .ok (.bipush 102, 2) := by decide +kernel
theorem dX12_init_564 : decode cX12_init 564 = .ok (.castore, 1) := by decide +kernel
theorem dX12_init_565 : decode cX12_init 565 = .ok (.dup, 1) := by decide +kernel
theorem dX12_init_566 : decode cX12_init 566 = .ok (.iconst 1, 1) := by decide +kernel
theorem dX12_init_567 : decode cX12_init 567 = .ok (.bipush 114, 2) := by decide +kernel
theorem dX12_init_569 : decode cX12_init 569 = .ok (.castore, 1) := by decide +kernel
theorem dX12_init_570 : decode cX12_init 570 = .ok (.dup, 1) := by decide +kernel
theorem dX12_init_571 : decode cX12_init 571 = .ok (.iconst 2, 1) := by decide +kernel
theorem dX12_init_572 : decode cX12_init 572 = .ok (.bipush 111, 2) := by decide +kernel
theorem dX12_init_574 : decode cX12_init 574 = .ok (.castore, 1) := by decide +kernel
theorem dX12_init_575 : decode cX12_init 575 = .ok (.dup, 1) := by decide +kernel
theorem dX12_init_576 : decode cX12_init 576 = .ok (.iconst 3, 1) := by decide +kernel
theorem dX12_init_577 : decode cX12_init 577 = .ok (.bipush 109, 2) := by decide +kernel
theorem dX12_init_579 : decode cX12_init 579 = .ok (.castore, 1) := by decide +kernel
theorem dX12_init_580 : decode cX12_init 580 = .ok (.putfield 72, 3) := by decide +kernel
theorem dX12_init_583 : decode cX12_init 583 = .ok (.aload_n 0, 1) := by decide +kernel
theorem dX12_init_584 : decode cX12_init 584 = .ok (.iconst 4, 1) := by decide +kernel
theorem dX12_init_585 : decode cX12_init 585 = .ok (.newarray .char, 2) := by decide +kernel
theorem dX12_init_587 : decode cX12_init 587 = .ok (.dup, 1) := by decide +kernel
theorem dX12_init_588 : decode cX12_init 588 = .ok (.iconst 0, 1) := by decide +kernel
theorem dX12_init_589 : decode cX12_init 589 = .ok (.bipush 102, 2) := by decide +kernel
theorem dX12_init_591 : decode cX12_init 591 = .ok (.castore, 1) := by decide +kernel
theorem dX12_init_592 : decode cX12_init 592 = .ok (.dup, 1) := by decide +kernel
theorem dX12_init_593 : decode cX12_init 593 = .ok (.iconst 1, 1) := by decide +kernel
theorem dX12_init_594 : decode cX12_init 594 = .ok (.bipush 105, 2) := by decide +kernel
theorem dX12_init_596 : decode cX12_init 596 = .ok (.castore, 1) := by decide +kernel
theorem dX12_init_597 : decode cX12_init 597 = .ok (.dup, 1) := by decide +kernel
theorem dX12_init_598 : decode cX12_init 598 = .ok (.iconst 2, 1) := by decide +kernel
theorem dX12_init_599 : decode cX12_init 599 = .ok (.bipush 116, 2) := by decide +kernel
theorem dX12_init_601 : decode cX12_init 601 = .ok (.castore, 1) := by decide +kernel
theorem dX12_init_602 : decode cX12_init 602 = .ok (.dup, 1) := by decide +kernel
theorem dX12_init_603 : decode cX12_init 603 = .ok (.iconst 3, 1) := by decide +kernel
theorem dX12_init_604 : decode cX12_init 604 = .ok (.bipush 115, 2) := by decide +kernel
theorem dX12_init_606 : decode cX12_init 606 = .ok (.castore, 1) := by decide +kernel
theorem dX12_init_607 : decode cX12_init 607 = .ok (.putfield 75, 3) := by decide +kernel
theorem dX12_init_610 : decode cX12_init 610 = .ok (.aload_n 0, 1) := by decide +kernel
theorem dX12_init_611 : decode cX12_init 611 = .ok (.iconst 2, 1) := by decide +kernel
theorem dX12_init_612 : decode cX12_init 612 = .ok (.newarray .char, 2) := by decide +kernel
theorem dX12_init_614 : decode cX12_init 614 = .ok (.dup, 1) := by decide +kernel
theorem dX12_init_615 : decode cX12_init 615 = .ok (.iconst 0, 1) := by decide +kernel
theorem dX12_init_616 : decode cX12_init 616 = .ok (.bipush 111, 2) := by decide +kernel
theorem dX12_init_618 : decode cX12_init 618 = .ok (.castore, 1) := by decide +kernel
theorem dX12_init_619 : decode cX12_init 619 = .ok (.dup, 1) := by decide +kernel
theorem dX12_init_620 : decode cX12_init 620 = .ok (.iconst 1, 1) := by decide +kernel
theorem dX12_init_621 : decode cX12_init 621 = .ok (.bipush 114, 2) := by decide +kernel
theorem dX12_init_623 : decode cX12_init 623 = .ok (.castore, 1) := by decide +kernel
theorem dX12_init_624 : decode cX12_init 624 = .ok (.putfield 78, 3) := by decide +kernel
theorem dX12_init_627 : decode cX12_init 627 = .ok (.aload_n 0, 1) := by decide +kernel
theorem dX12_init_628 : decode cX12_init 628 = .ok (.iconst 3, 1) := by decide +kernel
theorem dX12_init_629 : decode cX12_init 629 = .ok (.newarray .char, 2) := by decide +kernel
theorem dX12_init_631 : decode cX12_init 631 = .ok (.dup, 1) := by decide +kernel
theorem dX12_init_632 : decode cX12_init 632 = .ok (.iconst 0, 1) := by decide +kernel
theorem dX12_init_633 : decode cX12_init 633 = .ok (.bipush 97, 2) := by decide +kernel
theorem dX12_init_635 : decode cX12_init 635 = .ok (.castore, 1) := by decide +kernel
theorem dX12_init_636 : decode cX12_init 636 = .ok (.dup, 1) := by decide +kernel
theorem dX12_init_637 : decode cX12_init 637 = .ok (.iconst 1, 1) := by decide +kernel
theorem dX12_init_638 : decode cX12_init 638 = .ok (.bipush 110, 2) := by decide +kernel
theorem dX12_init_640 : decode cX12_init 640 = .ok (.castore, 1) := by decide +kernel
theorem dX12_init_641 : decode cX12_init 641 = .ok (.dup, 1) := by decide +kernel
theorem dX12_init_642 : decode cX12_init 642 = .ok (.iconst 2, 1) := by decide +kernel
theorem dX12_init_643 : decode cX12_init 643 = .ok (.bipush 100, 2) := by decide +kernel
theorem dX12_init_645 : decode cX12_init 645 = .ok (.castore, 1) := by decide +kernel
theorem dX12_init_646 : decode cX12_init 646 = .ok (.putfield 81, 3) := by decide +kernel
theorem dX12_init_649 : decode cX12_init 649 = .ok (.aload_n 0, 1) := by decide +kernel
theorem dX12_init_650 : decode cX12_init 650 = .ok (.iconst 3, 1) := by decide +kernel
theorem dX12_init_651 : decode cX12_init 651 = .ok (.newarray .char, 2) := by decide +kernel
theorem dX12_init_653 : decode cX12_init 653 = .ok (.dup, 1) := by decide +kernel
theorem dX12_init_654 : decode cX12_init 654 = .ok (.iconst 0, 1) := by decide +kernel
theorem dX12_init_655 : decode cX12_init 655 = .ok (.bipush 110, 2) := by decide +kernel
theorem dX12_init_657 : decode cX12_init 657 = .ok (.castore, 1) := by decide +kernel
theorem dX12_init_658 : decode cX12_init 658 = .ok (.dup, 1) := by decide +kernel
theorem dX12_init_659 : decode cX12_init 659 = .ok (.iconst 1, 1) := by decide +kernel
theorem dX12_init_660 : decode cX12_init 660 = .ok (.bipush 111, 2) := by decide +kernel
theorem dX12_init_662 : decode cX12_init 662 = .ok (.castore, 1) := by decide +kernel
theorem dX12_init_663 : decode cX12_init 663 = .ok (.dup, 1) := by decide +kernel
theorem dX12_init_664 : decode cX12_init 664 = .ok (.iconst 2, 1) := by decide +kernel
theorem dX12_init_665 : decode cX12_init 665 = .ok (.bipush 116, 2) := by decide +kernel
theorem dX12_init_667 : decode cX12_init 667 = .ok (.castore, 1) := by decide +kernel
theorem dX12_init_668 : decode cX12_init 668 = .ok (.putfield 84, 3) := by decide +kernel
theorem dX12_init_671 : decode cX12_init 671 = .ok (.aload_n 0, 1) := by decide +kernel
theorem dX12_init_672 : decode cX12_init 672 = .ok (.iconst 3, 1) := by decide +kernel
theorem dX12_init_673 : decode cX12_init 673 = .ok (.newarray .char, 2) := by decide +kernel
theorem dX12_init_675 : decode cX12_init 675 = .ok (.dup, 1) := by decide +kernel
theorem dX12_init_676 : decode cX12_init 676 = .ok (.iconst 0, 1) := by decide +kernel
theorem dX12_init_677 : decode cX12_init 677 = .ok (.bipush 97, 2) := by decide +kernel
theorem dX12_init_679 : decode cX12_init 679 = .ok (.castore, 1) := by decide +kernel
theorem dX12_init_680 : decode cX12_init 680 = .ok (.dup, 1) := by decide +kernel
theorem dX12_init_681 : decode cX12_init 681 = .ok (.iconst 1, 1) := by decide +kernel
theorem dX12_init_682 : decode cX12_init 682 = .ok (.bipush 108, 2) := by decide +kernel
theorem dX12_init_684 : decode cX12_init 684 = .ok (.castore, 1) := by decide +kernel
theorem dX12_init_685 : decode cX12_init 685 = .ok (.dup, 1) := by decide +kernel
theorem dX12_init_686 : decode cX12_init 686 = .ok (.iconst 2, 1) := by decide +kernel
theorem dX12_init_687 : decode cX12_init 687 = .ok (.bipush 108, 2) := by decide +kernel
theorem dX12_init_689 : decode cX12_init 689 = .ok (.castore, 1) := by decide +kernel
theorem dX12_init_690 : decode cX12_init 690 = .ok (.putfield 87, 3) := by decide +kernel
theorem dX12_init_693 : decode cX12_init 693 = .ok (.aload_n 0, 1) := by decide +kernel
theorem dX12_init_694 : decode cX12_init 694 = .ok (.iconst 3, 1) := by decide +kernel
theorem dX12_init_695 : decode cX12_init 695 = .ok (.newarray .char, 2) := by decide +kernel
theorem dX12_init_697 : decode cX12_init 697 = .ok (.dup, 1) := by decide +kernel
theorem dX12_init_698 : decode cX12_init 698 = .ok (.iconst 0, 1) := by decide +kernel
theorem dX12_init_699 : decode cX12_init 699 = .ok (.bipush 109, 2) := by decide +kernel
theorem dX12_init_701 : decode cX12_init 701 = .ok (.castore, 1) := by decide +kernel
theorem dX12_init_702 : decode cX12_init 702 = .ok (.dup, 1) := by decide +kernel
theorem dX12_init_703 : decode cX12_init 703 = .ok (.iconst 1, 1) := by decide +kernel
theorem dX12_init_704 : decode cX12_init 704 = .ok (.bipush 105, 2) := by decide +kernel
theorem dX12_init_706 : decode cX12_init 706 = .ok (.castore, 1) := by decide +kernel
theorem dX12_init_707 : decode cX12_init 707 = .ok (.dup, 1) := by decide +kernel
theorem dX12_init_708 : decode cX12_init 708 = .ok (.iconst 2, 1) := by decide +kernel
theorem dX12_init_709 : decode cX12_init 709 = .ok (.bipush 110, 2) := by decide +kernel
theorem dX12_init_711 : decode cX12_init 711 = .ok (.castore, 1) := by decide +kernel
theorem dX12_init_712 : decode cX12_init 712 = .ok (.putfield 90, 3) := by decide +kernel
theorem dX12_init_715 : decode cX12_init 715 = .ok (.aload_n 0, 1) := by decide +kernel
theorem dX12_init_716 : decode cX12_init 716 = .ok (.iconst 3, 1) := by decide +kernel
theorem dX12_init_717 : decode cX12_init 717 = .ok (.newarray .char, 2) := by decide +kernel
theorem dX12_init_719 : decode cX12_init 719 = .ok (.dup, 1) := by decide +kernel
theorem dX12_init_720 : decode cX12_init 720 = .ok (.iconst 0, 1) := by decide +kernel
theorem dX12_init_721 : decode cX12_init 721 = .ok (.bipush 109, 2) := by decide +kernel
theorem dX12_init_723 : decode cX12_init 723 = .ok (.castore, 1) := by decide +kernel
theorem dX12_init_724 : decode cX12_init 724 = .ok (.dup, 1) := by decide +kernel
theorem dX12_init_725 : decode cX12_init 725 = .ok (.iconst 1, 1) := by decide +kernel
theorem dX12_init_726 : decode cX12_init 726 = .ok (.bipush 97, 2) := by decide +kernel
theorem dX12_init_728 : decode cX12_init 728 = .ok (.castore, 1) := by decide +kernel
theorem dX12_init_729 : decode cX12_init 729 = .ok (.dup, 1) := by decide +kernel
theorem dX12_init_730 : decode cX12_init 730 = .ok (.iconst 2, 1) := by decide +kernel
theorem dX12_init_731 : decode cX12_init 731 = .ok (.bipush 120, 2) := by decide +kernel
theorem dX12_init_733 : decode cX12_init 733 = .ok (.castore, 1) := by decide +kernel
theorem dX12_init_734 : decode cX12_init 734 = .ok (.putfield 93, 3) := by decide +kernel
theorem dX12_init_737 : decode cX12_init 737 = .ok (.aload_n 0, 1) := by decide +kernel
theorem dX12_init_738 : decode cX12_init 738 = .ok (.bipush 6, 2) := by decide +kernel
theorem dX12_init_740 : decode cX12_init 740 = .ok (.newarray .int, 2) := by decide +kernel
theorem dX12_init_742 : decode cX12_init 742 = .ok (.putfield 96, 3) := by decide +kernel
theorem dX12_init_745 : decode cX12_init 745 = .ok (.aload_n 0, 1) := by decide +kernel
theorem dX12_init_746 : decode cX12_init 746 = .ok (.bipush 8, 2) := by decide +kernel
theorem dX12_init_748 : decode cX12_init 748 = .ok (.newarray .long, 2) := by decide +kernel
theorem dX12_init_750 : decode cX12_init 750 = .ok (.putfield 99, 3) := by decide +kernel
theorem dX12_init_753 : decode cX12_init 753 = .ok (.aload_n 0, 1) := by decide +kernel
theorem dX12_init_754 : decode cX12_init 754 = .ok (.bipush 8, 2) := by decide +kernel
theorem dX12_init_756 : decode cX12_init 756 = .ok (.newarray .int, 2) := by decide +kernel
theorem dX12_init_758 : decode cX12_init 758 = .ok (.putfield 103, 3) := by decide +kernel
theorem dX12_init_761 : decode cX12_init 761 = .ok (.aload_n 0, 1) := by decide +kernel
theorem dX12_init_762 : decode cX12_init 762 = .ok (.bipush 6, 2) := by decide +kernel
theorem dX12_init_764 : decode cX12_init 764 = .ok (.newarray .int, 2) := by decide +kernel
theorem dX12_init_766 : decode cX12_init 766 = .ok (.dup, 1) := by decide +kernel
theorem dX12_init_767 : decode cX12_init 767 = .ok (.iconst 0, 1) := by decide +kernel
theorem dX12_init_768 : decode cX12_init 768 = .ok (.iconst (-1), 1) := by decide +kernel
theorem dX12_init_769 : decode cX12_init 769 = .ok (.iastore, 1) := by decide +kernel
theorem dX12_init_770 : decode cX12_init 770 = .ok (.dup, 1) := by decide +kernel
theorem dX12_init_771 : decode cX12_init 771 = .ok (.iconst 1, 1) := by decide +kernel
theorem dX12_init_772 : decode cX12_init 772 = .ok (.iconst (-1), 1) := by decide +kernel
theorem dX12_init_773 : decode cX12_init 773 = .ok (.iastore, 1) := by decide +kernel
theorem dX12_init_774 : decode cX12_init 774 = .ok (.dup, 1) := by decide +kernel
theorem dX12_init_775 : decode cX12_init 775 = .ok (.iconst 2, 1) := by decide +kernel
theorem dX12_init_776 : decode cX12_init 776 = .ok (.iconst (-1), 1) := by decide +kernel
theorem dX12_init_777 : decode cX12_init 777 = .ok (.iastore, 1) := by decide +kernel
theorem dX12_init_778 : decode cX12_init 778 = .ok (.dup, 1) := by decide +kernel
theorem dX12_init_779 : decode cX12_init 779 = .ok (.iconst 3, 1) := by decide +kernel
theorem dX12_init_780 : decode cX12_init 780 = .ok (.iconst (-1), 1) := by decide +kernel
theorem dX12_init_781 : decode cX12_init 781 = .ok (.iastore, 1) := by decide +kernel
theorem dX12_init_782 : decode cX12_init 782 = .ok (.dup, 1) := by decide +kernel
theorem dX12_init_783 : decode cX12_init 783 = .ok (.iconst 4, 1) := by decide +kernel
theorem dX12_init_784 : decode cX12_init 784 = .ok (.iconst (-1), 1) := by decide +kernel
theorem dX12_init_785 : decode cX12_init 785 = .ok (.iastore, 1) := by decide +kernel
theorem dX12_init_786 : decode cX12_init 786 = .ok (.dup, 1) := by decide +kernel
theorem dX12_init_787 : decode cX12_init 787 = .ok (.iconst 5, 1) := by decide +kernel
theorem dX12_init_788 : decode cX12_init 788 = .ok (.iconst (-1), 1) := by decide +kernel
theorem dX12_init_789 : decode cX12_init 789 = .ok (.iastore, 1) := by decide +kernel
theorem dX12_init_790 : decode cX12_init 790 = .ok (.putfield 106, 3) := by decide +kernel
theorem dX12_init_793 : decode cX12_init 793 = .ok (.aload_n 0, 1) := by decide +kernel
theorem dX12_init_794 : decode cX12_init 794 = .ok (.bipush 6, 2) := by decide +kernel
theorem dX12_init_796 : decode cX12_init 796 = .ok (.newarray .int, 2) := by decide +kernel
theorem dX12_init_798 : decode cX12_init 798 = .ok (.putfield 109, 3) := by decide +kernel
theorem dX12_init_801 : decode cX12_init 801 = .ok (.aload_n 0, 1) := by decide +kernel
theorem dX12_init_802 : decode cX12_init 802 = .ok (.sipush 3200, 3) := by decide +kernel
theorem dX12_init_805 : decode cX12_init 805 = .ok (.newarray .int, 2) := by decide +kernel
theorem dX12_init_807 : decode cX12_init 807 = .ok (.putfield 112, 3) := by decide +kernel
theorem dX12_init_810 : decode cX12_init 810 = .ok (.aload_n 0, 1) := by decide +kernel
theorem dX12_init_811 : decode cX12_init 811 = .ok (.sipush 1498, 3) := by decide +kernel
theorem dX12_init_814 : decode cX12_init 814 = .ok (.newarray .int, 2) := by decide +kernel
theorem dX12_init_816 : decode cX12_init 816 = .ok (.putfield 115, 3) := by decide +kernel
theorem dX12_init_819 : decode cX12_init 819 = .ok (.aload_n 0, 1) := by decide +kernel
theorem dX12_init_820 : decode cX12_init 820 = .ok (.bipush 66, 2) := by decide +kernel
theorem dX12_init_822 : decode cX12_init 822 = .ok (.newarray .int, 2) := by decide +kernel
theorem dX12_init_824 : decode cX12_init 824 = .ok (.putfield 118, 3) := by decide +kernel
theorem dX12_init_827 : decode cX12_init 827 = .ok (.aload_n 0, 1) := by decide +kernel
theorem dX12_init_828 : decode cX12_init 828 = .ok (.bipush 32, 2) := by decide +kernel
theorem dX12_init_830 : decode cX12_init 830 = .ok (.newarray .int, 2) := by decide +kernel
theorem dX12_init_832 : decode cX12_init 832 = .ok (.putfield 121, 3) := by decide +kernel
theorem dX12_init_835 : decode cX12_init 835 = .ok (.aload_n 0, 1) := by decide +kernel
theorem dX12_init_836 : decode cX12_init 836 = .ok (.sipush 4096, 3) := by decide +kernel
theorem dX12_init_839 : decode cX12_init 839 = .ok (.newarray .boolean, 2) := by decide +kernel
theorem dX12_init_841 : decode cX12_init 841 = .ok (.putfield 124, 3) := by decide +kernel
theorem dX12_init_844 : decode cX12_init 844 = .ok (.aload_n 0, 1) := by decide +kernel
theorem dX12_init_845 : decode cX12_init 845 = .ok (.sipush 29960, 3) := by decide +kernel
theorem dX12_init_848 : decode cX12_init 848 = .ok (.newarray .int, 2) := by decide +kernel
theorem dX12_init_850 : decode cX12_init 850 = .ok (.putfield 128, 3) := by decide +kernel
theorem dX12_init_853 : decode cX12_init 853 = .ok (.aload_n 0, 1) := by decide +kernel
theorem dX12_init_854 : decode cX12_init 854 = .ok (.lconst 1, 1) := by decide +kernel
theorem dX12_init_855 : decode cX12_init 855 = .ok (.putfield 131, 3) := by decide +kernel
theorem dX12_init_858 : decode cX12_init 858 = .ok (.aload_n 0, 1) := by decide +kernel
theorem dX12_init_859 : decode cX12_init 859 = .ok (.iconst 5, 1) := by decide +kernel
theorem dX12_init_860 : decode cX12_init 860 = .ok (.newarray .char, 2) := by decide +kernel
theorem dX12_init_862 : decode cX12_init 862 = .ok (.dup, 1) := by decide +kernel
theorem dX12_init_863 : decode cX12_init 863 = .ok (.iconst 0, 1) := by decide +kernel
theorem dX12_init_864 : decode cX12_init 864 = .ok (.bipush 102, 2) := by decide +kernel
theorem dX12_init_866 : decode cX12_init 866 = .ok (.castore, 1) := by decide +kernel
theorem dX12_init_867 : decode cX12_init 867 = .ok (.dup, 1) := by decide +kernel
theorem dX12_init_868 : decode cX12_init 868 = .ok (.iconst 1, 1) := by decide +kernel
theorem dX12_init_869 : decode cX12_init 869 = .ok (.bipush 105, 2) := by decide +kernel
theorem dX12_init_871 : decode cX12_init 871 = .ok (.castore, 1) := by decide +kernel
theorem dX12_init_872 : decode cX12_init 872 = .ok (.dup, 1) := by decide +kernel
theorem dX12_init_873 : decode cX12_init 873 = .ok (.iconst 2, 1) := by decide +kernel
theorem dX12_init_874 : decode cX12_init 874 = .ok (.bipush 114, 2) := by decide +kernel
theorem dX12_init_876 : decode cX12_init 876 = .ok (.castore, 1) := by decide +kernel
theorem dX12_init_877 : decode cX12_init 877 = .ok (.dup, 1) := by decide +kernel
theorem dX12_init_878 : decode cX12_init 878 = .ok (.iconst 3, 1) := by decide +kernel
theorem dX12_init_879 : decode cX12_init 879 = .ok (.bipush 115, 2) := by decide +kernel
theorem dX12_init_881 : decode cX12_init 881 = .ok (.castore, 1) := by decide +kernel
theorem dX12_init_882 : decode cX12_init 882 = .ok (.dup, 1) := by decide +kernel
theorem dX12_init_883 : decode cX12_init 883 = .ok (.iconst 4, 1) := by decide +kernel
theorem dX12_init_884 : decode cX12_init 884 = .ok (.bipush 116, 2) := by decide +kernel
theorem dX12_init_886 : decode cX12_init 886 = .ok (.castore, 1) := by decide +kernel
theorem dX12_init_887 : decode cX12_init 887 = .ok (.putfield 135, 3) := by decide +kernel
theorem dX12_init_890 : decode cX12_init 890 = .ok (.aload_n 0, 1) := by decide +kernel
theorem dX12_init_891 : decode cX12_init 891 = .ok (.iconst 4, 1) := by decide +kernel
theorem dX12_init_892 : decode cX12_init 892 = .ok (.newarray .char, 2) := by decide +kernel
theorem dX12_init_894 : decode cX12_init 894 = .ok (.dup, 1) := by decide +kernel
theorem dX12_init_895 : decode cX12_init 895 = .ok (.iconst 0, 1) := by decide +kernel
theorem dX12_init_896 : decode cX12_init 896 = .ok (.bipush 108, 2) := by decide +kernel
theorem dX12_init_898 : decode cX12_init 898 = .ok (.castore, 1) := by decide +kernel
theorem dX12_init_899 : decode cX12_init 899 = .ok (.dup, 1) := by decide +kernel
theorem dX12_init_900 : decode cX12_init 900 = .ok (.iconst 1, 1) := by decide +kernel
theorem dX12_init_901 : decode cX12_init 901 = .ok (.bipush 97, 2) := by decide +kernel
theorem dX12_init_903 : decode cX12_init 903 = .ok (.castore, 1) := by decide +kernel
theorem dX12_init_904 : decode cX12_init 904 = .ok (.dup, 1) := by decide +kernel
theorem dX12_init_905 : decode cX12_init 905 = .ok (.iconst 2, 1) := by decide +kernel
theorem dX12_init_906 : decode cX12_init 906 = .ok (.bipush 115, 2) := by decide +kernel
theorem dX12_init_908 : decode cX12_init 908 = .ok (.castore, 1) := by decide +kernel
theorem dX12_init_909 : decode cX12_init 909 = .ok (.dup, 1) := by decide +kernel
theorem dX12_init_910 : decode cX12_init 910 = .ok (.iconst 3, 1) := by decide +kernel
theorem dX12_init_911 : decode cX12_init 911 = .ok (.bipush 116, 2) := by decide +kernel
theorem dX12_init_913 : decode cX12_init 913 = .ok (.castore, 1) := by decide +kernel
theorem dX12_init_914 : decode cX12_init 914 = .ok (.putfield 138, 3) := by decide +kernel
theorem dX12_init_917 : decode cX12_init 917 = .ok (.aload_n 0, 1) := by decide +kernel
theorem dX12_init_918 : decode cX12_init 918 = .ok (.iconst 5, 1) := by decide +kernel
theorem dX12_init_919 : decode cX12_init 919 = .ok (.newarray .char, 2) := by decide +kernel
theorem dX12_init_921 : decode cX12_init 921 = .ok (.dup, 1) := by decide +kernel
theorem dX12_init_922 : decode cX12_init 922 = .ok (.iconst 0, 1) := by decide +kernel
theorem dX12_init_923 : decode cX12_init 923 = .ok (.bipush 111, 2) := by decide +kernel
theorem dX12_init_925 : decode cX12_init 925 = .ok (.castore, 1) := by decide +kernel
theorem dX12_init_926 : decode cX12_init 926 = .ok (.dup, 1) := by decide +kernel
theorem dX12_init_927 : decode cX12_init 927 = .ok (.iconst 1, 1) := by decide +kernel
theorem dX12_init_928 : decode cX12_init 928 = .ok (.bipush 102, 2) := by decide +kernel
theorem dX12_init_930 : decode cX12_init 930 = .ok (.castore, 1) := by decide +kernel
theorem dX12_init_931 : decode cX12_init 931 = .ok (.dup, 1) := by decide +kernel
theorem dX12_init_932 : decode cX12_init 932 = .ok (.iconst 2, 1) := by decide +kernel
theorem dX12_init_933 : decode cX12_init 933 = .ok (.bipush 116, 2) := by decide +kernel
theorem dX12_init_935 : decode cX12_init 935 = .ok (.castore, 1) := by decide +kernel
theorem dX12_init_936 : decode cX12_init 936 = .ok (.dup, 1) := by decide +kernel
theorem dX12_init_937 : decode cX12_init 937 = .ok (.iconst 3, 1) := by decide +kernel
theorem dX12_init_938 : decode cX12_init 938 = .ok (.bipush 101, 2) := by decide +kernel
theorem dX12_init_940 : decode cX12_init 940 = .ok (.castore, 1) := by decide +kernel
theorem dX12_init_941 : decode cX12_init 941 = .ok (.dup, 1) := by decide +kernel
theorem dX12_init_942 : decode cX12_init 942 = .ok (.iconst 4, 1) := by decide +kernel
theorem dX12_init_943 : decode cX12_init 943 = .ok (.bipush 110, 2) := by decide +kernel
theorem dX12_init_945 : decode cX12_init 945 = .ok (.castore, 1) := by decide +kernel
theorem dX12_init_946 : decode cX12_init 946 = .ok (.putfield 141, 3) := by decide +kernel
theorem dX12_init_949 : decode cX12_init 949 = .ok (.aload_n 0, 1) := by decide +kernel
theorem dX12_init_950 : decode cX12_init 950 = .ok (.iconst 5, 1) := by decide +kernel
theorem dX12_init_951 : decode cX12_init 951 = .ok (.newarray .char, 2) := by decide +kernel
theorem dX12_init_953 : decode cX12_init 953 = .ok (.dup, 1) := by decide +kernel
theorem dX12_init_954 : decode cX12_init 954 = .ok (.iconst 0, 1) := by decide +kernel
theorem dX12_init_955 : decode cX12_init 955 = .ok (.bipush 116, 2) := by decide +kernel
theorem dX12_init_957 : decode cX12_init 957 = .ok (.castore, 1) := by decide +kernel
theorem dX12_init_958 : decode cX12_init 958 = .ok (.dup, 1) := by decide +kernel
theorem dX12_init_959 : decode cX12_init 959 = .ok (.iconst 1, 1) := by decide +kernel
theorem dX12_init_960 : decode cX12_init 960 = .ok (.bipush 111, 2) := by decide +kernel
theorem dX12_init_962 : decode cX12_init 962 = .ok (.castore, 1) := by decide +kernel
theorem dX12_init_963 : decode cX12_init 963 = .ok (.dup, 1) := by decide +kernel
theorem dX12_init_964 : decode cX12_init 964 = .ok (.iconst 2, 1) := by decide +kernel
theorem dX12_init_965 : decode cX12_init 965 = .ok (.bipush 116, 2) := by decide +kernel
theorem dX12_init_967 : decode cX12_init 967 = .ok (.castore, 1) := by decide +kernel
theorem dX12_init_968 : decode cX12_init 968 = .ok (.dup, 1) := by decide +kernel
theorem dX12_init_969 : decode cX12_init 969 = .ok (.iconst 3, 1) := by decide +kernel
theorem dX12_init_970 : decode cX12_init 970 = .ok (.bipush 97, 2) := by decide +kernel
theorem dX12_init_972 : decode cX12_init 972 = .ok (.castore, 1) := by decide +kernel
theorem dX12_init_973 : decode cX12_init 973 = .ok (.dup, 1) := by decide +kernel
theorem dX12_init_974 : decode cX12_init 974 = .ok (.iconst 4, 1) := by decide +kernel
theorem dX12_init_975 : decode cX12_init 975 = .ok (.bipush 108, 2) := by decide +kernel
theorem dX12_init_977 : decode cX12_init 977 = .ok (.castore, 1) := by decide +kernel
theorem dX12_init_978 : decode cX12_init 978 = .ok (.putfield 144, 3) := by decide +kernel
theorem dX12_init_981 : decode cX12_init 981 = .ok (.aload_n 0, 1) := by decide +kernel
theorem dX12_init_982 : decode cX12_init 982 = .ok (.iconst 4, 1) := by decide +kernel
theorem dX12_init_983 : decode cX12_init 983 = .ok (.newarray .char, 2) := by decide +kernel
theorem dX12_init_985 : decode cX12_init 985 = .ok (.dup, 1) := by decide +kernel
theorem dX12_init_986 : decode cX12_init 986 = .ok (.iconst 0, 1) := by decide +kernel
theorem dX12_init_987 : decode cX12_init 987 = .ok (.bipush 109, 2) := by decide +kernel
theorem dX12_init_989 : decode cX12_init 989 = .ok (.castore, 1) := by decide +kernel
theorem dX12_init_990 : decode cX12_init 990 = .ok (.dup, 1) := by decide +kernel
theorem dX12_init_991 : decode cX12_init 991 = .ok (.iconst 1, 1) := by decide +kernel
theorem dX12_init_992 : decode cX12_init 992 = .ok (.bipush 111, 2) := by decide +kernel
theorem dX12_init_994 : decode cX12_init 994 = .ok (.castore, 1) := by decide +kernel
theorem dX12_init_995 : decode cX12_init 995 = .ok (.dup, 1) := by decide +kernel
theorem dX12_init_996 : decode cX12_init 996 = .ok (.iconst 2, 1) := by decide +kernel
theorem dX12_init_997 : decode cX12_init 997 = .ok (.bipush 115, 2) := by decide +kernel
theorem dX12_init_999 : decode cX12_init 999 = .ok (.castore, 1) := by decide +kernel
theorem dX12_init_1000 : decode cX12_init 1000 = .ok (.dup, 1) := by decide +kernel
theorem dX12_init_1001 : decode cX12_init 1001 = .ok (.iconst 3, 1) := by decide +kernel
theorem dX12_init_1002 : decode cX12_init 1002 = .ok (.bipush 116, 2) := by decide +kernel
theorem dX12_init_1004 : decode cX12_init 1004 = .ok (.castore, 1) := by decide +kernel
theorem dX12_init_1005 : decode cX12_init 1005 = .ok (.putfield 147, 3) := by decide +kernel
theorem dX12_init_1008 : decode cX12_init 1008 = .ok (.aload_n 0, 1) := by decide +kernel
theorem dX12_init_1009 : decode cX12_init 1009 = .ok (.iconst 5, 1) := by decide +kernel
theorem dX12_init_1010 : decode cX12_init 1010 = .ok (.newarray .char, 2) := by decide +kernel
theorem dX12_init_1012 : decode cX12_init 1012 = .ok (.dup, 1) := by decide +kernel
theorem dX12_init_1013 : decode cX12_init 1013 = .ok (.iconst 0, 1) := by decide +kernel
theorem dX12_init_1014 : decode cX12_init 1014 = .ok (.bipush 108, 2) := by decide +kernel
theorem dX12_init_1016 : decode cX12_init 1016 = .ok (.castore, 1) := by decide +kernel
theorem dX12_init_1017 : decode cX12_init 1017 = .ok (.dup, 1) := by decide +kernel
theorem dX12_init_1018 : decode cX12_init 1018 = .ok (.iconst 1, 1) := by decide +kernel
theorem dX12_init_1019 : decode cX12_init 1019 = .ok (.bipush 101, 2) := by decide +kernel
theorem dX12_init_1021 : decode cX12_init 1021 = .ok (.castore, 1) := by decide +kernel
theorem dX12_init_1022 : decode cX12_init 1022 = .ok (.dup, 1) := by decide +kernel
theorem dX12_init_1023 : decode cX12_init 1023 = .ok (.iconst 2, 1) := by decide +kernel
theorem dX12_init_1024 : decode cX12_init 1024 = .ok (.bipush 97, 2) := by decide +kernel
theorem dX12_init_1026 : decode cX12_init 1026 = .ok (.castore, 1) := by decide +kernel
theorem dX12_init_1027 : decode cX12_init 1027 = .ok (.dup, 1) := by decide +kernel
theorem dX12_init_1028 : decode cX12_init 1028 = .ok (.iconst 3, 1) := by decide +kernel
theorem dX12_init_1029 : decode cX12_init 1029 = .ok (.bipush 115, 2) := by decide +kernel
theorem dX12_init_1031 : decode cX12_init 1031 = .ok (.castore, 1) := by decide +kernel
theorem dX12_init_1032 : decode cX12_init 1032 = .ok (.dup, 1) := by decide +kernel
theorem dX12_init_1033 : decode cX12_init 1033 = .ok (.iconst 4, 1) := by decide +kernel
theorem dX12_init_1034 : decode cX12_init 1034 = .ok (.bipush 116, 2) := by decide +kernel
theorem dX12_init_1036 : decode cX12_init 1036 = .ok (.castore, 1) := by decide +kernel
theorem dX12_init_1037 : decode cX12_init 1037 = .ok (.putfield 150, 3) := by decide +kernel
theorem dX12_init_1040 : decode cX12_init 1040 = .ok (.aload_n 0, 1) := by decide +kernel
theorem dX12_init_1041 : decode cX12_init 1041 = .ok (.iconst 3, 1) := by decide +kernel
theorem dX12_init_1042 : decode cX12_init 1042 = .ok (.newarray .char, 2) := by decide +kernel
theorem dX12_init_1044 : decode cX12_init 1044 = .ok (.dup, 1) := by decide +kernel
theorem dX12_init_1045 : decode cX12_init 1045 = .ok (.iconst 0, 1) := by decide +kernel
theorem dX12_init_1046 : decode cX12_init 1046 = .ok (.bipush 110, 2) := by decide +kernel
theorem dX12_init_1048 : decode cX12_init 1048 = .ok (.castore, 1) := by decide +kernel
theorem dX12_init_1049 : decode cX12_init 1049 = .ok (.dup, 1) := by decide +kernel
theorem dX12_init_1050 : decode cX12_init 1050 = .ok (.iconst 1, 1) := by decide +kernel
theorem dX12_init_1051 : decode cX12_init 1051 = .ok (.bipush 111, 2) := by decide +kernel
theorem dX12_init_1053 : decode cX12_init 1053 = .ok (.castore, 1) := by decide +kernel
theorem dX12_init_1054 : decode cX12_init 1054 = .ok (.dup, 1) := by decide +kernel
theorem dX12_init_1055 : decode cX12_init 1055 = .ok (.iconst 2, 1) := by decide +kernel
theorem dX12_init_1056 : decode cX12_init 1056 = .ok (.bipush 116, 2) := by decide +kernel
theorem dX12_init_1058 : decode cX12_init 1058 = .ok (.castore, 1) := by decide +kernel
theorem dX12_init_1059 : decode cX12_init 1059 = .ok (.putfield 153, 3) := by decide +kernel
theorem dX12_init_1062 : decode cX12_init 1062 = .ok (.aload_n 0, 1) := by decide +kernel
theorem dX12_init_1063 : decode cX12_init 1063 = .ok (.iconst 3, 1) := by decide +kernel
theorem dX12_init_1064 : decode cX12_init 1064 = .ok (.newarray .char, 2) := by decide +kernel
theorem dX12_init_1066 : decode cX12_init 1066 = .ok (.dup, 1) := by decide +kernel
theorem dX12_init_1067 : decode cX12_init 1067 = .ok (.iconst 0, 1) := by decide +kernel
theorem dX12_init_1068 : decode cX12_init 1068 = .ok (.bipush 97, 2) := by decide +kernel
theorem dX12_init_1070 : decode cX12_init 1070 = .ok (.castore, 1) := by decide +kernel
theorem dX12_init_1071 : decode cX12_init 1071 = .ok (.dup, 1) := by decide +kernel
theorem dX12_init_1072 : decode cX12_init 1072 = .ok (.iconst 1, 1) := by decide +kernel
theorem dX12_init_1073 : decode cX12_init 1073 = .ok (.bipush 110, 2) := by decide +kernel
theorem dX12_init_1075 : decode cX12_init 1075 = .ok (.castore, 1) := by decide +kernel
theorem dX12_init_1076 : decode cX12_init 1076 = .ok (.dup, 1) := by decide +kernel
theorem dX12_init_1077 : decode cX12_init 1077 = .ok (.iconst 2, 1) := by decide +kernel
theorem dX12_init_1078 : decode cX12_init 1078 = .ok (.bipush 100, 2) := by decide +kernel
theorem dX12_init_1080 : decode cX12_init 1080 = .ok (.castore, 1) := by decide +kernel
theorem dX12_init_1081 : decode cX12_init 1081 = .ok (.putfield 156, 3) := by decide +kernel
theorem dX12_init_1084 : decode cX12_init 1084 = .ok (.aload_n 0, 1) := by decide +kernel
theorem dX12_init_1085 : decode cX12_init 1085 = .ok (.iconst 2, 1) := by decide +kernel
theorem dX12_init_1086 : decode cX12_init 1086 = .ok (.newarray .char, 2) := by decide +kernel
theorem dX12_init_1088 : decode cX12_init 1088 = .ok (.dup, 1) := by decide +kernel
theorem dX12_init_1089 : decode cX12_init 1089 = .ok (.iconst 0, 1) := by decide +kernel
theorem dX12_init_1090 : decode cX12_init 1090 = .ok (.bipush 111, 2) := by decide +kernel
theorem dX12_init_1092 : decode cX12_init 1092 = .ok (.castore, 1) := by decide +kernel
theorem dX12_init_1093 : decode cX12_init 1093 = .ok (.dup, 1) := by decide +kernel
theorem dX12_init_1094 : decode cX12_init 1094 = .ok (.iconst 1, 1) := by decide +kernel
theorem dX12_init_1095 : decode cX12_init 1095 = .ok (.bipush 114, 2) := by decide +kernel
theorem dX12_init_1097 : decode cX12_init 1097 = .ok (.castore, 1) := by decide +kernel
theorem dX12_init_1098 : decode cX12_init 1098 = .ok (.putfield 159, 3) := by decide +kernel
theorem dX12_init_1101 : decode cX12_init 1101 = .ok (.aload_n 0, 1) := by decide +kernel
theorem dX12_init_1102 : decode cX12_init 1102 = .ok (.iconst 3, 1) := by decide +kernel
theorem dX12_init_1103 : decode cX12_init 1103 = .ok (.newarray .char, 2) := by decide +kernel
theorem dX12_init_1105 : decode cX12_init 1105 = .ok (.dup, 1) := by decide +kernel
theorem dX12_init_1106 : decode cX12_init 1106 = .ok (.iconst 0, 1) := by decide +kernel
theorem dX12_init_1107 : decode cX12_init 1107 = .ok (.bipush 97, 2) := by decide +kernel
theorem dX12_init_1109 : decode cX12_init 1109 = .ok (.castore, 1) := by decide +kernel
theorem dX12_init_1110 : decode cX12_init 1110 = .ok (.dup, 1) := by decide +kernel
theorem dX12_init_1111 : decode cX12_init 1111 = .ok (.iconst 1, 1) := by decide +kernel
theorem dX12_init_1112 : decode cX12_init 1112 = .ok (.bipush 108, 2) := by decide +kernel
theorem dX12_init_1114 : decode cX12_init 1114 = .ok (.castore, 1) := by decide +kernel
theorem dX12_init_1115 : decode cX12_init 1115 = .ok (.dup, 1) := by decide +kernel
theorem dX12_init_1116 : decode cX12_init 1116 = .ok (.iconst 2, 1) := by decide +kernel
theorem dX12_init_1117 : decode cX12_init 1117 = .ok (.bipush 108, 2) := by decide +kernel
theorem dX12_init_1119 : decode cX12_init 1119 = .ok (.castore, 1) := by decide +kernel
theorem dX12_init_1120 : decode cX12_init 1120 = .ok (.putfield 162, 3) := by decide +kernel
theorem dX12_init_1123 : decode cX12_init 1123 = .ok (.aload_n 0, 1) := by decide +kernel
theorem dX12_init_1124 : decode cX12_init 1124 = .ok (.iconst 3, 1) := by decide +kernel
theorem dX12_init_1125 : decode cX12_init 1125 = .ok (.newarray .char, 2) := by decide +kernel
theorem dX12_init_1127 : decode cX12_init 1127 = .ok (.dup, 1) := by decide +kernel
theorem dX12_init_1128 : decode cX12_init 1128 = .ok (.iconst 0, 1) := by decide +kernel
theorem dX12_init_1129 : decode cX12_init 1129 = .ok (.bipush 109, 2) := by decide +kernel
theorem dX12_init_1131 : decode cX12_init 1131 = .ok (.castore, 1) := by decide +kernel
theorem dX12_init_1132 : decode cX12_init 1132 = .ok (.dup, 1) := by decide +kernel
theorem dX12_init_1133 : decode cX12_init 1133 = .ok (.iconst 1, 1) := by decide +kernel
theorem dX12_init_1134 : decode cX12_init 1134 = .ok (.bipush 105, 2) := by decide +kernel
theorem dX12_init_1136 : decode cX12_init 1136 = .ok (.castore, 1) := by decide +kernel
theorem dX12_init_1137 : decode cX12_init 1137 = .ok (.dup, 1) := by decide +kernel
theorem dX12_init_1138 : decode cX12_init 1138 = .ok (.iconst 2, 1) := by decide +kernel
theorem dX12_init_1139 : decode cX12_init 1139 = .ok (.bipush 110, 2) := by decide +kernel
theorem dX12_init_1141 : decode cX12_init 1141 = .ok (.castore, 1) := by decide +kernel
theorem dX12_init_1142 : decode cX12_init 1142 = .ok (.putfield 165, 3) := by decide +kernel
theorem dX12_init_1145 : decode cX12_init 1145 = .ok (.aload_n 0, 1) := by decide +kernel
theorem dX12_init_1146 : decode cX12_init 1146 = .ok (.iconst 3, 1) := by decide +kernel
theorem dX12_init_1147 : decode cX12_init 1147 = .ok (.newarray .char, 2) := by decide +kernel
theorem dX12_init_1149 : decode cX12_init 1149 = .ok (.dup, 1) := by decide +kernel
theorem dX12_init_1150 : decode cX12_init 1150 = .ok (.iconst 0, 1) := by decide +kernel
theorem dX12_init_1151 : decode cX12_init 1151 = .ok (.bipush 109, 2) := by decide +kernel
theorem dX12_init_1153 : decode cX12_init 1153 = .ok (.castore, 1) := by decide +kernel
theorem dX12_init_1154 : decode cX12_init 1154 = .ok (.dup, 1) := by decide +kernel
theorem dX12_init_1155 : decode cX12_init 1155 = .ok (.iconst 1, 1) := by decide +kernel
theorem dX12_init_1156 : decode cX12_init 1156 = .ok (.bipush 97, 2) := by decide +kernel
theorem dX12_init_1158 : decode cX12_init 1158 = .ok (.castore, 1) := by decide +kernel
theorem dX12_init_1159 : decode cX12_init 1159 = .ok (.dup, 1) := by decide +kernel
theorem dX12_init_1160 : decode cX12_init 1160 = .ok (.iconst 2, 1) := by decide +kernel
theorem dX12_init_1161 : decode cX12_init 1161 = .ok (.bipush 120, 2) := by decide +kernel
theorem dX12_init_1163 : decode cX12_init 1163 = .ok (.castore, 1) := by decide +kernel
theorem dX12_init_1164 : decode cX12_init 1164 = .ok (.putfield 168, 3) := by decide +kernel
theorem dX12_init_1167 : decode cX12_init 1167 = .ok (.aload_n 0, 1) := by decide +kernel
theorem dX12_init_1168 : decode cX12_init 1168 = .ok (.iconst 4, 1) := by decide +kernel
theorem dX12_init_1169 : decode cX12_init 1169 = .ok (.newarray .char, 2) := by decide +kernel
theorem dX12_init_1171 : decode cX12_init 1171 = .ok (.dup, 1) := by decide +kernel
theorem dX12_init_1172 : decode cX12_init 1172 = .ok (.iconst 0, 1) := by decide +kernel
theorem dX12_init_1173 : decode cX12_init 1173 = .ok (.bipush 110, 2) := by decide +kernel
theorem dX12_init_1175 : decode cX12_init 1175 = .ok (.castore, 1) := by decide +kernel
theorem dX12_init_1176 : decode cX12_init 1176 = .ok (.dup, 1) := by decide +kernel
theorem dX12_init_1177 : decode cX12_init 1177 = .ok (.iconst 1, 1) := by decide +kernel
theorem dX12_init_1178 : decode cX12_init 1178 = .ok (.bipush 101, 2) := by decide +kernel
theorem dX12_init_1180 : decode cX12_init 1180 = .ok (.castore, 1) := by decide +kernel
theorem dX12_init_1181 : decode cX12_init 1181 = .ok (.dup, 1) := by decide +kernel
theorem dX12_init_1182 : decode cX12_init 1182 = .ok (.iconst 2, 1) := by decide +kernel
theorem dX12_init_1183 : decode cX12_init 1183 = .ok (.bipush 101, 2) := by decide +kernel
theorem dX12_init_1185 : decode cX12_init 1185 = .ok (.castore, 1) := by decide +kernel
theorem dX12_init_1186 : decode cX12_init 1186 = .ok (.dup, 1) := by decide +kernel
theorem dX12_init_1187 : decode cX12_init 1187 = .ok (.iconst 3, 1) := by decide +kernel
theorem dX12_init_1188 : decode cX12_init 1188 = .ok (.bipush 100, 2) := by decide +kernel
theorem dX12_init_1190 : decode cX12_init 1190 = .ok (.castore, 1) := by decide +kernel
theorem dX12_init_1191 : decode cX12_init 1191 = .ok (.putfield 171, 3) := by decide +kernel
theorem dX12_init_1194 : decode cX12_init 1194 = .ok (.aload_n 0, 1) := by decide +kernel
theorem dX12_init_1195 : decode cX12_init 1195 = .ok (.iconst 5, 1) := by decide +kernel
theorem dX12_init_1196 : decode cX12_init 1196 = .ok (.newarray .char, 2) := by decide +kernel
theorem dX12_init_1198 : decode cX12_init 1198 = .ok (.dup, 1) := by decide +kernel
theorem dX12_init_1199 : decode cX12_init 1199 = .ok (.iconst 0, 1) := by decide +kernel
theorem dX12_init_1200 : decode cX12_init 1200 = .ok (.bipush 115, 2) := by decide +kernel
theorem dX12_init_1202 : decode cX12_init 1202 = .ok (.castore, 1) := by decide +kernel
theorem dX12_init_1203 : decode cX12_init 1203 = .ok (.dup, 1) := by decide +kernel
theorem dX12_init_1204 : decode cX12_init 1204 = .ok (.iconst 1, 1) := by decide +kernel
theorem dX12_init_1205 : decode cX12_init 1205 = .ok (.bipush 116, 2) := by decide +kernel
theorem dX12_init_1207 : decode cX12_init 1207 = .ok (.castore, 1) := by decide +kernel
theorem dX12_init_1208 : decode cX12_init 1208 = .ok (.dup, 1) := by decide +kernel
theorem dX12_init_1209 : decode cX12_init 1209 = .ok (.iconst 2, 1) := by decide +kernel
theorem dX12_init_1210 : decode cX12_init 1210 = .ok (.bipush 97, 2) := by decide +kernel
theorem dX12_init_1212 : decode cX12_init 1212 = .ok (.castore, 1) := by decide +kernel
theorem dX12_init_1213 : decode cX12_init 1213 = .ok (.dup, 1) := by decide +kernel
theorem dX12_init_1214 : decode cX12_init 1214 = .ok (.iconst 3, 1) := by decide +kernel
theorem dX12_init_1215 : decode cX12_init 1215 = .ok (.bipush 114, 2) := by decide +kernel
theorem dX12_init_1217 : decode cX12_init 1217 = .ok (.castore, 1) := by decide +kernel
theorem dX12_init_1218 : decode cX12_init 1218 = .ok (.dup, 1) := by decide +kernel
theorem dX12_init_1219 : decode cX12_init 1219 = .ok (.iconst 4, 1) := by decide +kernel
theorem dX12_init_1220 : decode cX12_init 1220 = .ok (.bipush 116, 2) := by decide +kernel
theorem dX12_init_1222 : decode cX12_init 1222 = .ok (.castore, 1) := by decide +kernel
theorem dX12_init_1223 : decode cX12_init 1223 = .ok (.putfield 174, 3) := by decide +kernel
theorem dX12_init_1226 : decode cX12_init 1226 = .ok (.aload_n 0, 1) := by decide +kernel
theorem dX12_init_1227 : decode cX12_init 1227 = .ok (.iconst 4, 1) := by decide +kernel
theorem dX12_init_1228 : decode cX12_init 1228 = .ok (.newarray .char, 2) := by decide +kernel
theorem dX12_init_1230 : decode cX12_init 1230 = .ok (.dup, 1) := by decide +kernel
theorem dX12_init_1231 : decode cX12_init 1231 = .ok (.iconst 0, 1) := by decide +kernel
theorem dX12_init_1232 : decode cX12_init 1232 = .ok (.bipush 114, 2) := by decide +kernel
theorem dX12_init_1234 : decode cX12_init 1234 = .ok (.castore, 1) := by decide +kernel
theorem dX12_init_1235 : decode cX12_init 1235 = .ok (.dup, 1) := by decide +kernel
theorem dX12_init_1236 : decode cX12_init 1236 = .ok (.iconst 1, 1) := by decide +kernel
theorem dX12_init_1237 : decode cX12_init 1237 = .ok (.bipush 111, 2) := by decide +kernel
theorem dX12_init_1239 : decode cX12_init 1239 = .ok (.castore, 1) := by decide +kernel
theorem dX12_init_1240 : decode cX12_init 1240 = .ok (.dup, 1) := by decide +kernel
theorem dX12_init_1241 : decode cX12_init 1241 = .ok (.iconst 2, 1) := by decide +kernel
theorem dX12_init_1242 : decode cX12_init 1242 = .ok (.bipush 111, 2) := by decide +kernel
theorem dX12_init_1244 : decode cX12_init 1244 = .ok (.castore, 1) := by decide +kernel
theorem dX12_init_1245 : decode cX12_init 1245 = .ok (.dup, 1) := by decide +kernel
theorem dX12_init_1246 : decode cX12_init 1246 = .ok (.iconst 3, 1) := by decide +kernel
theorem dX12_init_1247 : decode cX12_init 1247 = .ok (.bipush 109, 2) := by decide +kernel
theorem dX12_init_1249 : decode cX12_init 1249 = .ok (.castore, 1) := by decide +kernel
theorem dX12_init_1250 : decode cX12_init 1250 = .ok (.putfield 177, 3) := by decide +kernel
theorem dX12_init_1253 : decode cX12_init 1253 = .ok (.aload_n 0, 1) := by decide +kernel
theorem dX12_init_1254 : decode cX12_init 1254 = .ok (.iconst 2, 1) := by decide +kernel
theorem dX12_init_1255 : decode cX12_init 1255 = .ok (.newarray .char, 2) := by decide +kernel
theorem dX12_init_1257 : decode cX12_init 1257 = .ok (.dup, 1) := by decide +kernel
theorem dX12_init_1258 : decode cX12_init 1258 = .ok (.iconst 0, 1) := by decide +kernel
theorem dX12_init_1259 : decode cX12_init 1259 = .ok (.bipush 97, 2) := by decide +kernel
theorem dX12_init_1261 : decode cX12_init 1261 = .ok (.castore, 1) := by decide +kernel
theorem dX12_init_1262 : decode cX12_init 1262 = .ok (.dup, 1) := by decide +kernel
theorem dX12_init_1263 : decode cX12_init 1263 = .ok (.iconst 1, 1) := by decide +kernel
theorem dX12_init_1264 : decode cX12_init 1264 = .ok (.bipush 116, 2) := by decide +kernel
theorem dX12_init_1266 : decode cX12_init 1266 = .ok (.castore, 1) := by decide +kernel
theorem dX12_init_1267 : decode cX12_init 1267 = .ok (.putfield 180, 3) := by decide +kernel
theorem dX12_init_1270 : decode cX12_init 1270 = .ok (.aload_n 0, 1) := by decide +kernel
theorem dX12_init_1271 : decode cX12_init 1271 = .ok (.iconst 4, 1) := by decide +kernel
theorem dX12_init_1272 : decode cX12_init 1272 = .ok (.newarray .char, 2) := by decide +kernel
theorem dX12_init_1274 : decode cX12_init 1274 = .ok (.dup, 1) := by decide +kernel
theorem dX12_init_1275 : decode cX12_init 1275 = .ok (.iconst 0, 1) := by decide +kernel
theorem dX12_init_1276 : decode cX12_init 1276 = .ok (.bipush 98, 2) := by decide +kernel
theorem dX12_init_1278 : decode cX12_init 1278 = .ok (.castore, 1) := by decide +kernel
theorem dX12_init_1279 : decode cX12_init 1279 = .ok (.dup, 1) := by decide +kernel
theorem dX12_init_1280 : decode cX12_init 1280 = .ok (.iconst 1, 1) := by decide +kernel
theorem dX12_init_1281 : decode cX12_init 1281 = .ok (.bipush 97, 2) := by decide +kernel
theorem dX12_init_1283 : decode cX12_init 1283 = .ok (.castore, 1) := by decide +kernel
theorem dX12_init_1284 : decode cX12_init 1284 = .ok (.dup, 1) := by decide +kernel
theorem dX12_init_1285 : decode cX12_init 1285 = .ok (.iconst 2, 1) := by decide +kernel
theorem dX12_init_1286 : decode cX12_init 1286 = .ok (.bipush 115, 2) := by decide +kernel
theorem dX12_init_1288 : decode cX12_init 1288 = .ok (.castore, 1) := by decide +kernel
theorem dX12_init_1289 : decode cX12_init 1289 = .ok (.dup, 1) := by decide +kernel
theorem dX12_init_1290 : decode cX12_init 1290 = .ok (.iconst 3, 1) := by decide +kernel
theorem dX12_init_1291 : decode cX12_init 1291 = .ok (.bipush 101, 2) := by decide +kernel
theorem dX12_init_1293 : decode cX12_init 1293 = .ok (.castore, 1) := by decide +kernel
theorem dX12_init_1294 : decode cX12_init 1294 = .ok (.putfield 183, 3) := by decide +kernel
theorem dX12_init_1297 : decode cX12_init 1297 = .ok (.aload_n 0, 1) := by decide +kernel
theorem dX12_init_1298 : decode cX12_init 1298 = .ok (.bipush 6, 2) := by decide +kernel
theorem dX12_init_1300 : decode cX12_init 1300 = .ok (.newarray .char, 2) := by decide +kernel
theorem dX12_init_1302 : decode cX12_init 1302 = .ok (.dup, 1) := by decide +kernel
theorem dX12_init_1303 : decode cX12_init 1303 = .ok (.iconst 0, 1) := by decide +kernel
theorem dX12_init_1304 : decode cX12_init 1304 = .ok (.bipush 108, 2) := by decide +kernel
theorem dX12_init_1306 : decode cX12_init 1306 = .ok (.castore, 1) := by decide +kernel
theorem dX12_init_1307 : decode cX12_init 1307 = .ok (.dup, 1) := by decide +kernel
theorem dX12_init_1308 : decode cX12_init 1308 = .ok (.iconst 1, 1) := by decide +kernel
theorem dX12_init_1309 : decode cX12_init 1309 = .ok (.bipush 101, 2) := by decide +kernel
theorem dX12_init_1311 : decode cX12_init 1311 = .ok (.castore, 1) := by decide +kernel
theorem dX12_init_1312 : decode cX12_init 1312 = .ok (.dup, 1) := by decide +kernel
theorem dX12_init_1313 : decode cX12_init 1313 = .ok (.iconst 2, 1) := by decide +kernel
theorem dX12_init_1314 : decode cX12_init 1314 = .ok (.bipush 110, 2) := by decide +kernel
theorem dX12_init_1316 : decode cX12_init 1316 = .ok (.castore, 1) := by decide +kernel
theorem dX12_init_1317 : decode cX12_init 1317 = .ok (.dup, 1) := by decide +kernel
theorem dX12_init_1318 : decode cX12_init 1318 = .ok (.iconst 3, 1) := by decide +kernel
theorem dX12_init_1319 : decode cX12_init 1319 = .ok (.bipush 103, 2) := by decide +kernel
theorem dX12_init_1321 : decode cX12_init 1321 = .ok (.castore, 1) := by decide +kernel
theorem dX12_init_1322 : decode cX12_init 1322 = .ok (.dup, 1) := by decide +kernel
theorem dX12_init_1323 : decode cX12_init 1323 = .ok (.iconst 4, 1) := by decide +kernel
theorem dX12_init_1324 : decode cX12_init 1324 = .ok (.bipush 116, 2) := by decide +kernel
theorem dX12_init_1326 : decode cX12_init 1326 = .ok (.castore, 1) := by decide +kernel
theorem dX12_init_1327 : decode cX12_init 1327 = .ok (.dup, 1) := by decide +kernel
theorem dX12_init_1328 : decode cX12_init 1328 = .ok (.iconst 5, 1) := by decide +kernel
theorem dX12_init_1329 : decode cX12_init 1329 = .ok (.bipush 104, 2) := by decide +kernel
theorem dX12_init_1331 : decode cX12_init 1331 = .ok (.castore, 1) := by decide +kernel
theorem dX12_init_1332 : decode cX12_init 1332 = .ok (.putfield 186, 3) := by decide +kernel
theorem dX12_init_1335 : decode cX12_init 1335 = .ok (.aload_n 0, 1) := by decide +kernel
theorem dX12_init_1336 : decode cX12_init 1336 = .ok (.iconst 5, 1) := by decide +kernel
theorem dX12_init_1337 : decode cX12_init 1337 = .ok (.newarray .char, 2) := by decide +kernel
theorem dX12_init_1339 : decode cX12_init 1339 = .ok (.dup, 1) := by decide +kernel
theorem dX12_init_1340 : decode cX12_init 1340 = .ok (.iconst 0, 1) := by decide +kernel
theorem dX12_init_1341 : decode cX12_init 1341 = .ok (.bipush 112, 2) := by decide +kernel
theorem dX12_init_1343 : decode cX12_init 1343 = .ok (.castore, 1) := by decide +kernel
theorem dX12_init_1344 : decode cX12_init 1344 = .ok (.dup, 1) := by decide +kernel
theorem dX12_init_1345 : decode cX12_init 1345 = .ok (.iconst 1, 1) := by decide +kernel
theorem dX12_init_1346 : decode cX12_init 1346 = .ok (.bipush 101, 2) := by decide +kernel
theorem dX12_init_1348 : decode cX12_init 1348 = .ok (.castore, 1) := by decide +kernel
theorem dX12_init_1349 : decode cX12_init 1349 = .ok (.dup, 1) := by decide +kernel
theorem dX12_init_1350 : decode cX12_init 1350 = .ok (.iconst 2, 1) := by decide +kernel
theorem dX12_init_1351 : decode cX12_init 1351 = .ok (.bipush 114, 2) := by decide +kernel
theorem dX12_init_1353 : decode cX12_init 1353 = .ok (.castore, 1) := by decide +kernel
theorem dX12_init_1354 : decode cX12_init 1354 = .ok (.dup, 1) := by decide +kernel
theorem dX12_init_1355 : decode cX12_init 1355 = .ok (.iconst 3, 1) := by decide +kernel
theorem dX12_init_1356 : decode cX12_init 1356 = .ok (.bipush 109, 2) := by decide +kernel
theorem dX12_init_1358 : decode cX12_init 1358 = .ok (.castore, 1) := by decide +kernel
theorem dX12_init_1359 : decode cX12_init 1359 = .ok (.dup, 1) := by decide +kernel
theorem dX12_init_1360 : decode cX12_init 1360 = .ok (.iconst 4, 1) := by decide +kernel
theorem dX12_init_1361 : decode cX12_init 1361 = .ok (.bipush 115, 2) := by decide +kernel
theorem dX12_init_1363 : decode cX12_init 1363 = .ok (.castore, 1) := by decide +kernel
theorem dX12_init_1364 : decode cX12_init 1364 = .ok (.putfield 189, 3) := by decide +kernel
theorem dX12_init_1367 : decode cX12_init 1367 = .ok (.aload_n 0, 1) := by decide +kernel
theorem dX12_init_1368 : decode cX12_init 1368 = .ok (.bipush 6, 2) := by decide +kernel
theorem dX12_init_1370 : decode cX12_init 1370 = .ok (.newarray .char, 2) := by decide +kernel
theorem dX12_init_1372 : decode cX12_init 1372 = .ok (.dup, 1) := by decide +kernel
theorem dX12_init_1373 : decode cX12_init 1373 = .ok (.iconst 0, 1) := by decide +kernel
theorem dX12_init_1374 : decode cX12_init 1374 = .ok (.bipush 110, 2) := by decide +kernel
theorem dX12_init_1376 : decode cX12_init 1376 = .ok (.castore, 1) := by decide +kernel
theorem dX12_init_1377 : decode cX12_init 1377 = .ok (.dup, 1) := by decide +kernel
theorem dX12_init_1378 : decode cX12_init 1378 = .ok (.iconst 1, 1) := by decide +kernel
theorem dX12_init_1379 : decode cX12_init 1379 = .ok (.bipush 117, 2) := by decide +kernel
theorem dX12_init_1381 : decode cX12_init 1381 = .ok (.castore, 1) := by decide +kernel
theorem dX12_init_1382 : decode cX12_init 1382 = .ok (.dup, 1) := by decide +kernel
theorem dX12_init_1383 : decode cX12_init 1383 = .ok (.iconst 2, 1) := by decide +kernel
theorem dX12_init_1384 : decode cX12_init 1384 = .ok (.bipush 109, 2) := by decide +kernel
theorem dX12_init_1386 : decode cX12_init 1386 = .ok (.castore, 1) := by decide +kernel
theorem dX12_init_1387 : decode cX12_init 1387 = .ok (.dup, 1) := by decide +kernel
theorem dX12_init_1388 : decode cX12_init 1388 = .ok (.iconst 3, 1) := by decide +kernel
theorem dX12_init_1389 : decode cX12_init 1389 = .ok (.bipush 98, 2) := by decide +kernel
theorem dX12_init_1391 : decode cX12_init 1391 = .ok (.castore, 1) := by decide +kernel
theorem dX12_init_1392 : decode cX12_init 1392 = .ok (.dup, 1) := by decide +kernel
theorem dX12_init_1393 : decode cX12_init 1393 = .ok (.iconst 4, 1) := by decide +kernel
theorem dX12_init_1394 : decode cX12_init 1394 = .ok (.bipush 101, 2) := by decide +kernel
theorem dX12_init_1396 : decode cX12_init 1396 = .ok (.castore, 1) := by decide +kernel
theorem dX12_init_1397 : decode cX12_init 1397 = .ok (.dup, 1) := by decide +kernel
theorem dX12_init_1398 : decode cX12_init 1398 = .ok (.iconst 5, 1) := by decide +kernel
theorem dX12_init_1399 : decode cX12_init 1399 = .ok (.bipush 114, 2) := by decide +kernel
theorem dX12_init_1401 : decode cX12_init 1401 = .ok (.castore, 1) := by decide +kernel
theorem dX12_init_1402 : decode cX12_init 1402 = .ok (.putfield 192, 3) := by decide +kernel
theorem dX12_init_1405 : decode cX12_init 1405 = .ok (.aload_n 0, 1) := by decide +kernel
theorem dX12_init_1406 : decode cX12_init 1406 = .ok (.iconst 3, 1) := by decide +kernel
theorem dX12_init_1407 : decode cX12_init 1407 = .ok (.newarray .char, 2) := by decide +kernel
theorem dX12_init_1409 : decode cX12_init 1409 = .ok (.dup, 1) := by decide +kernel
theorem dX12_init_1410 : decode cX12_init 1410 = .ok (.iconst 0, 1) := by decide +kernel
theorem dX12_init_1411 : decode cX12_init 1411 = .ok (.bipush 101, 2) := by decide +kernel
theorem dX12_init_1413 : decode cX12_init 1413 = .ok (.castore, 1) := by decide +kernel
theorem dX12_init_1414 : decode cX12_init 1414 = .ok (.dup, 1) := by decide +kernel
theorem dX12_init_1415 : decode cX12_init 1415 = .ok (.iconst 1, 1) := by decide +kernel
theorem dX12_init_1416 : decode cX12_init 1416 = .ok (.bipush 120, 2) := by decide +kernel
theorem dX12_init_1418 : decode cX12_init 1418 = .ok (.castore, 1) := by decide +kernel
theorem dX12_init_1419 : decode cX12_init 1419 = .ok (.dup, 1) := by decide +kernel
theorem dX12_init_1420 : decode cX12_init 1420 = .ok (.iconst 2, 1) := by decide +kernel
theorem dX12_init_1421 : decode cX12_init 1421 = .ok (.bipush 112, 2) := by decide +kernel
theorem dX12_init_1423 : decode cX12_init 1423 = .ok (.castore, 1) := by decide +kernel
theorem dX12_init_1424 : decode cX12_init 1424 = .ok (.putfield 195, 3) := by decide +kernel
theorem dX12_init_1427 : decode cX12_init 1427 = .ok (.aload_n 0, 1) := by decide +kernel
theorem dX12_init_1428 : decode cX12_init 1428 = .ok (.iconst 4, 1) := by decide +kernel
theorem dX12_init_1429 : decode cX12_init 1429 = .ok (.newarray .char, 2) := by decide +kernel
theorem dX12_init_1431 : decode cX12_init 1431 = .ok (.dup, 1) := by decide +kernel
theorem dX12_init_1432 : decode cX12_init 1432 = .ok (.iconst 0, 1) := by decide +kernel
theorem dX12_init_1433 : decode cX12_init 1433 = .ok (.bipush 107, 2) := by decide +kernel
theorem dX12_init_1435 : decode cX12_init 1435 = .ok (.castore, 1) := by decide +kernel
theorem dX12_init_1436 : decode cX12_init 1436 = .ok (.dup, 1) := by decide +kernel
theorem dX12_init_1437 : decode cX12_init 1437 = .ok (.iconst 1, 1) := by decide +kernel
theorem dX12_init_1438 : decode cX12_init 1438 = .ok (.bipush 105, 2) := by decide +kernel
theorem dX12_init_1440 : decode cX12_init 1440 = .ok (.castore, 1) := by decide +kernel
theorem dX12_init_1441 : decode cX12_init 1441 = .ok (.dup, 1) := by decide +kernel
theorem dX12_init_1442 : decode cX12_init 1442 = .ok (.iconst 2, 1) := by decide +kernel
theorem dX12_init_1443 : decode cX12_init 1443 = .ok (.bipush 110, 2) := by decide +kernel
theorem dX12_init_1445 : decode cX12_init 1445 = .ok (.castore, 1) := by decide +kernel
theorem dX12_init_1446 : decode cX12_init 1446 = .ok (.dup, 1) := by decide +kernel
theorem dX12_init_1447 : decode cX12_init 1447 = .ok (.iconst 3, 1) := by decide +kernel
theorem dX12_init_1448 : decode cX12_init 1448 = .ok (.bipush 100, 2) := by decide +kernel
theorem dX12_init_1450 : decode cX12_init 1450 = .ok (.castore, 1) := by decide +kernel
theorem dX12_init_1451 : decode cX12_init 1451 = .ok (.putfield 198, 3) := by decide +kernel
theorem dX12_init_1454 : decode cX12_init 1454 = .ok (.aload_n 0, 1) := by decide +kernel
theorem dX12_init_1455 : decode cX12_init 1455 = .ok (.iconst 5, 1) := by decide +kernel
theorem dX12_init_1456 : decode cX12_init 1456 = .ok (.newarray .char, 2) := by decide +kernel
theorem dX12_init_1458 : decode cX12_init 1458 = .ok (.dup, 1) := by decide +kernel
theorem dX12_init_1459 : decode cX12_init 1459 = .ok (.iconst 0, 1) := by decide +kernel
theorem dX12_init_1460 : decode cX12_init 1460 = .ok (.bipush 118, 2) := by decide +kernel
theorem dX12_init_1462 : decode cX12_init 1462 = .ok (.castore, 1) := by decide +kernel
theorem dX12_init_1463 : decode cX12_init 1463 = .ok (.dup, 1) := by decide +kernel
theorem dX12_init_1464 : decode cX12_init 1464 = .ok (.iconst 1, 1) := by decide +kernel
theorem dX12_init_1465 : decode cX12_init 1465 = .ok (.bipush 97, 2) := by decide +kernel
theorem dX12_init_1467 : decode cX12_init 1467 = .ok (.castore, 1) := by decide +kernel
theorem dX12_init_1468 : decode cX12_init 1468 = .ok (.dup, 1) := by decide +kernel
theorem dX12_init_1469 : decode cX12_init 1469 = .ok (.iconst 2, 1) := by decide +kernel
theorem dX12_init_1470 : decode cX12_init 1470 = .ok (.bipush 108, 2) := by decide +kernel
theorem dX12_init_1472 : decode cX12_init 1472 = .ok (.castore, 1) := by decide +kernel
theorem dX12_init_1473 : decode cX12_init 1473 = .ok (.dup, 1) := by decide +kernel
theorem dX12_init_1474 : decode cX12_init 1474 = .ok (.iconst 3, 1) := by decide +kernel
theorem dX12_init_1475 : decode cX12_init 1475 = .ok (.bipush 105, 2) := by decide +kernel
theorem dX12_init_1477 : decode cX12_init 1477 = .ok (.castore, 1) := by decide +kernel
theorem dX12_init_1478 : decode cX12_init 1478 = .ok (.dup, 1) := by decide +kernel
theorem dX12_init_1479 : decode cX12_init 1479 = .ok (.iconst 4, 1) := by decide +kernel
theorem dX12_init_1480 : decode cX12_init 1480 = .ok (.bipush 100, 2) := by decide +kernel
theorem dX12_init_1482 : decode cX12_init 1482 = .ok (.castore, 1) := by decide +kernel
theorem dX12_init_1483 : decode cX12_init 1483 = .ok (.putfield 201, 3) := by decide +kernel
theorem dX12_init_1486 : decode cX12_init 1486 = .ok (.aload_n 0, 1) := by decide +kernel
theorem dX12_init_1487 : decode cX12_init 1487 = .ok (.iconst 4, 1) := by decide +kernel
theorem dX12_init_1488 : decode cX12_init 1488 = .ok (.newarray .char, 2) := by decide +kernel
theorem dX12_init_1490 : decode cX12_init 1490 = .ok (.dup, 1) := by decide +kernel
theorem dX12_init_1491 : decode cX12_init 1491 = .ok (.iconst 0, 1) := by decide +kernel
theorem dX12_init_1492 : decode cX12_init 1492 = .ok (.bipush 102, 2) := by decide +kernel
theorem dX12_init_1494 : decode cX12_init 1494 = .ok (.castore, 1) := by decide +kernel
theorem dX12_init_1495 : decode cX12_init 1495 = .ok (.dup, 1) := by decide +kernel
theorem dX12_init_1496 : decode cX12_init 1496 = .ok (.iconst 1, 1) := by decide +kernel
theorem dX12_init_1497 : decode cX12_init 1497 = .ok (.bipush 114, 2) := by decide +kernel
theorem dX12_init_1499 : decode cX12_init 1499 = .ok (.castore, 1) := by decide +kernel
theorem dX12_init_1500 : decode cX12_init 1500 = .ok (.dup, 1) := by decide +kernel
theorem dX12_init_1501 : decode cX12_init 1501 = .ok (.iconst 2, 1) := by decide +kernel
theorem dX12_init_1502 : decode cX12_init 1502 = .ok (.bipush 111, 2) := by decide +kernel
theorem dX12_init_1504 : decode cX12_init 1504 = .ok (.castore, 1) := by decide +kernel
theorem dX12_init_1505 : decode cX12_init 1505 = .ok (.dup, 1) := by decide +kernel
theorem dX12_init_1506 : decode cX12_init 1506 = .ok (.iconst 3, 1) := by decide +kernel
theorem dX12_init_1507 : decode cX12_init 1507 = .ok (.bipush 109, 2) := by decide +kernel
theorem dX12_init_1509 : decode cX12_init 1509 = .ok (.castore, 1) := by decide +kernel
theorem dX12_init_1510 : decode cX12_init 1510 = .ok (.putfield 204, 3) := by decide +kernel
theorem dX12_init_1513 : decode cX12_init 1513 = .ok (.aload_n 0, 1) := by decide +kernel
theorem dX12_init_1514 : decode cX12_init 1514 = .ok (.iconst 4, 1) := by decide +kernel
theorem dX12_init_1515 : decode cX12_init 1515 = .ok (.newarray .char, 2) := by decide +kernel
theorem dX12_init_1517 : decode cX12_init 1517 = .ok (.dup, 1) := by decide +kernel
theorem dX12_init_1518 : decode cX12_init 1518 = .ok (.iconst 0, 1) := by decide +kernel
theorem dX12_init_1519 : decode cX12_init 1519 = .ok (.bipush 102, 2) := by decide +kernel
theorem dX12_init_1521 : decode cX12_init 1521 = .ok (.castore, 1) := by decide +kernel
theorem dX12_init_1522 : decode cX12_init 1522 = .ok (.dup, 1) := by decide +kernel
theorem dX12_init_1523 : decode cX12_init 1523 = .ok (.iconst 1, 1) := by decide +kernel
theorem dX12_init_1524 : decode cX12_init 1524 = .ok (.bipush 105, 2) := by decide +kernel
theorem dX12_init_1526 : decode cX12_init 1526 = .ok (.castore, 1) := by decide +kernel
theorem dX12_init_1527 : decode cX12_init 1527 = .ok (.dup, 1) := by decide +kernel
theorem dX12_init_1528 : decode cX12_init 1528 = .ok (.iconst 2, 1) := by decide +kernel
theorem dX12_init_1529 : decode cX12_init 1529 = .ok (.bipush 116, 2) := by decide +kernel
theorem dX12_init_1531 : decode cX12_init 1531 = .ok (.castore, 1) := by decide +kernel
theorem dX12_init_1532 : decode cX12_init 1532 = .ok (.dup, 1) := by decide +kernel
theorem dX12_init_1533 : decode cX12_init 1533 = .ok (.iconst 3, 1) := by decide +kernel
theorem dX12_init_1534 : decode cX12_init 1534 = .ok (.bipush 115, 2) := by decide +kernel
theorem dX12_init_1536 : decode cX12_init 1536 = .ok (.castore, 1) := by decide +kernel
theorem dX12_init_1537 : decode cX12_init 1537 = .ok (.putfield 207, 3) := by decide +kernel
theorem dX12_init_1540 : decode cX12_init 1540 = .ok (.aload_n 0, 1) := by decide +kernel
theorem dX12_init_1541 : decode cX12_init 1541 = .ok (.sipush 1700, 3) := by decide +kernel
theorem dX12_init_1544 : decode cX12_init 1544 = .ok (.newarray .int, 2) := by decide +kernel
theorem dX12_init_1546 : decode cX12_init 1546 = .ok (.putfield 210, 3) := by decide +kernel
theorem dX12_init_1549 : decode cX12_init 1549 = .ok (.aload_n 0, 1) := by decide +kernel
theorem dX12_init_1550 : decode cX12_init 1550 = .ok (.sipush 1700, 3) := by decide +kernel
theorem dX12_init_1553 : decode cX12_init 1553 = .ok (.newarray .int, 2) := by decide +kernel
theorem dX12_init_1555 : decode cX12_init 1555 = .ok (.putfield 213, 3) := by decide +kernel
theorem dX12_init_1558 : decode cX12_init 1558 = .ok (.aload_n 0, 1) := by decide +kernel
theorem dX12_init_1559 : decode cX12_init 1559 = .ok (.sipush 1700, 3) := by decide +kernel
theorem dX12_init_1562 : decode cX12_init 1562 = .ok (.newarray .long, 2) := by decide +kernel
theorem dX12_init_1564 : decode cX12_init 1564 = .ok (.putfield 216, 3) := by decide +kernel
theorem dX12_init_1567 : decode cX12_init 1567 = .ok (.aload_n 0, 1) := by decide +kernel
theorem dX12_init_1568 : decode cX12_init 1568 = .ok (.sipush 450, 3) := by decide +kernel
theorem dX12_init_1571 : decode cX12_init 1571 = .ok (.newarray .int, 2) := by decide +kernel
theorem dX12_init_1573 : decode cX12_init 1573 = .ok (.putfield 219, 3) := by decide +kernel
theorem dX12_init_1576 : decode cX12_init 1576 = .ok (.return_, 1) := by decide +kernel
theorem dX12_isIn_0 : decode cX12_isIn 0 = .ok (.lload_n 0, 1) := by decide +kernel
theorem dX12_isIn_1 : decode cX12_isIn 1 = .ok (.lload_n 2, 1) := by decide +kernel
theorem dX12_isIn_2 : decode cX12_isIn 2 = .ok (.lcmp, 1) := by decide +kernel
theorem dX12_isIn_3 : decode cX12_isIn 3 = .ok (.ifCond .lt 14, 3) := by decide +kernel
theorem dX12_isIn_6 : decode cX12_isIn 6 = .ok (.lload_n 0, 1) := by decide +kernel
theorem dX12_isIn_7 : decode cX12_isIn 7 = .ok (.lload 4, 2) := by decide +kernel
theorem dX12_isIn_9 : decode cX12_isIn 9 = .ok (.lcmp, 1) := by decide +kernel
theorem dX12_isIn_10 : decode cX12_isIn 10 = .ok (.ifCond .gt 7, 3) := by decide +kernel
theorem dX12_isIn_13 : decode cX12_isIn 13 = .ok (.iconst 1, 1) := by decide +kernel
theorem dX12_isIn_14 : decode cX12_isIn 14 = .ok (.goto 4, 3) := by decide +kernel
theorem dX12_isIn_17 : decode cX12_isIn 17 = .ok (.iconst 0, 1) := by decide +kernel
theorem dX12_isIn_18 : decode cX12_isIn 18 = .ok (.ireturn, 1) := by decide +kernel
theorem dX12_clamp_0 : decode cX12_clamp 0 = .ok (.lload_n 0, 1) := by decide +kernel
theorem dX12_clamp_1 : decode cX12_clamp 1 = .ok (.lconst 0, 1) := by decide +kernel
theorem dX12_clamp_2 : decode cX12_clamp 2 = .ok (.lcmp, 1) := by decide +kernel
theorem dX12_clamp_3 : decode cX12_clamp 3 = .ok (.ifCond .ge 7, 3) := by decide +kernel
theorem dX12_clamp_6 : decode cX12_clamp 6 = .ok (.iconst 0, 1) := by decide +kernel
theorem dX12_clamp_7 : decode cX12_clamp 7 = .ok (.goto 16, 3) := by decide +kernel
theorem dX12_clamp_10 : decode cX12_clamp 10 = .ok (.lload_n 0, 1) := by decide +kernel
theorem dX12_clamp_11 : decode cX12_clamp 11 = .ok (.iload_n 2, 1) := by decide +kernel
theorem dX12_clamp_12 : decode cX12_clamp 12 = .ok (.i2l, 1) := by decide +kernel
theorem dX12_clamp_13 : decode cX12_clamp 13 = .ok (.lcmp, 1) := by decide +kernel
theorem dX12_clamp_14 : decode cX12_clamp 14 = .ok (.ifCond .le 7, 3) := by decide +kernel
theorem dX12_clamp_17 : decode cX12_clamp 17 = .ok (.iload_n 2, 1) := by decide +kernel
theorem dX12_clamp_18 : decode cX12_clamp 18 = .ok (.goto 5, 3) := by decide +kernel
theorem dX12_clamp_21 : decode cX12_clamp 21 = .ok (.lload_n 0, 1) := by decide +kernel
theorem dX12_clamp_22 : decode cX12_clamp 22 = .ok (.l2i, 1) := by decide +kernel
theorem dX12_clamp_23 : decode cX12_clamp 23 = .ok (.ireturn, 1) := by decide +kernel
theorem dX12_feed_0 : decode cX12_feed 0 = .ok (.aload_n 0, 1) := by decide +kernel
theorem dX12_feed_1 : decode cX12_feed 1 = .ok (.getfield 222, 3) := by decide +kernel
theorem dX12_feed_4 : decode cX12_feed 4 = .ok (.bipush 20, 2) := by decide +kernel
theorem dX12_feed_6 : decode cX12_feed 6 = .ok (.iadd, 1) := by decide +kernel
theorem dX12_feed_7 : decode cX12_feed 7 = .ok (.sipush 1600, 3) := by decide +kernel
theorem dX12_feed_10 : decode cX12_feed 10 = .ok (.if_icmp .le 15, 3) := by decide +kernel
theorem dX12_feed_13 : decode cX12_feed 13 = .ok (.aload_n 0, 1) := by decide +kernel
theorem dX12_feed_14 : decode cX12_feed 14 = .ok (.getfield 17, 3) := by decide +kernel
theorem dX12_feed_17 : decode cX12_feed 17 = .ok (.iconst 0, 1) := by decide +kernel
theorem dX12_feed_18 : decode cX12_feed 18 = .ok (.dup2, 1) := by decide +kernel
theorem dX12_feed_19 : decode cX12_feed 19 = .ok (.iaload, 1) := by decide +kernel
theorem dX12_feed_20 : decode cX12_feed 20 = .ok (.iconst 1, 1) := by decide +kernel
theorem dX12_feed_21 : decode cX12_feed 21 = .ok (.iadd, 1) := by decide +kernel
theorem dX12_feed_22 : decode cX12_feed 22 = .ok (.iastore, 1) := by decide +kernel
theorem dX12_feed_23 : decode cX12_feed 23 = .ok (.iconst (-1), 1) := by decide +kernel
theorem dX12_feed_24 : decode cX12_feed 24 = .ok (.ireturn, 1) := by decide +kernel
theorem dX12_feed_25 : decode cX12_feed 25 = .ok (.iconst 0, 1) := by decide +kernel
theorem dX12_feed_26 : decode cX12_feed 26 = .ok (.istore 6, 2) := by decide +kernel
theorem dX12_feed_28 : decode cX12_feed 28 = .ok (.iload 6, 2) := by decide +kernel
theorem dX12_feed_30 : decode cX12_feed 30 = .ok (.bipush 20, 2) := by decide +kernel
theorem dX12_feed_32 : decode cX12_feed 32 = .ok (.if_icmp .ge 92, 3) := by decide +kernel
theorem dX12_feed_35 : decode cX12_feed 35 = .ok (.iload 6, 2) := by decide +kernel
theorem dX12_feed_37 : decode cX12_feed 37 = .ok (.iconst 4, 1) := by decide +kernel
theorem dX12_feed_38 : decode cX12_feed 38 = .ok (.if_icmp .ge 7, 3) := by decide +kernel
theorem dX12_feed_41 : decode cX12_feed 41 = .ok (.iload_n 1, 1) := by decide +kernel
theorem dX12_feed_42 : decode cX12_feed 42 = .ok (.goto 39, 3) := by decide +kernel
theorem dX12_feed_45 : decode cX12_feed 45 = .ok (.iload 6, 2) := by decide +kernel
theorem dX12_feed_47 : decode cX12_feed 47 = .ok (.bipush 8, 2) := by decide +kernel
theorem dX12_feed_49 : decode cX12_feed 49 = .ok (.if_icmp .ge 7, 3) := by decide +kernel
theorem dX12_feed_52 : decode cX12_feed 52 = .ok (.iload_n 2, 1) := by decide +kernel
theorem dX12_feed_53 : decode cX12_feed 53 = .ok (.goto 28, 3) := by decide +kernel
theorem dX12_feed_56 : decode cX12_feed 56 = .ok (.iload 6, 2) := by decide +kernel
theorem dX12_feed_58 : decode cX12_feed 58 = .ok (.bipush 12, 2) := by decide +kernel
theorem dX12_feed_60 : decode cX12_feed 60 = .ok (.if_icmp .ge 7, 3) := by decide +kernel
theorem dX12_feed_63 : decode cX12_feed 63 = .ok (.iload_n 3, 1) := by decide +kernel
theorem dX12_feed_64 : decode cX12_feed 64 = .ok (.goto 17, 3) := by decide +kernel
theorem dX12_feed_67 : decode cX12_feed 67 = .ok (.iload 6, 2) := by decide +kernel
theorem dX12_feed_69 : decode cX12_feed 69 = .ok (.bipush 16, 2) := by decide +kernel
theorem dX12_feed_71 : decode cX12_feed 71 = .ok (.if_icmp .ge 8, 3) := by decide +kernel
theorem dX12_feed_74 : decode cX12_feed 74 = .ok (.iload 4, 2) := by decide +kernel
theorem dX12_feed_76 : decode cX12_feed 76 = .ok (.goto 5, 3) := by decide +kernel
theorem dX12_feed_79 : decode cX12_feed 79 = .ok (.iload 5, 2) := by decide +kernel
theorem dX12_feed_81 : decode cX12_feed 81 = .ok (.istore 7, 2) := by decide +kernel
theorem dX12_feed_83 : decode cX12_feed 83 = .ok (.aload_n 0, 1) := by decide +kernel
theorem dX12_feed_84 : decode cX12_feed 84 = .ok (.getfield 7, 3) := by decide +kernel
theorem dX12_feed_87 : decode cX12_feed 87 = .ok (.aload_n 0, 1) := by decide +kernel
theorem dX12_feed_88 : decode cX12_feed 88 = .ok (.getfield 222, 3) := by decide +kernel
theorem dX12_feed_91 : decode cX12_feed 91 = .ok (.iload 7, 2) := by decide +kernel
theorem dX12_feed_93 : decode cX12_feed 93 = .ok (.bipush 8, 2) := by decide +kernel
theorem dX12_feed_95 : decode cX12_feed 95 = .ok (.iconst 3, 1) := by decide +kernel
theorem dX12_feed_96 : decode cX12_feed 96 = .ok (.iload 6, 2) := by decide +kernel
theorem dX12_feed_98 : decode cX12_feed 98 = .ok (.iconst 4, 1) := by decide +kernel
theorem dX12_feed_99 : decode cX12_feed 99 = .ok (.irem, 1) := by decide +kernel
theorem dX12_feed_100 : decode cX12_feed 100 = .ok (.isub, 1) := by decide +kernel
theorem dX12_feed_101 : decode cX12_feed 101 = .ok (.imul, 1) := by decide +kernel
theorem dX12_feed_102 : decode cX12_feed 102 = .ok (.ishr, 1) := by decide +kernel
theorem dX12_feed_103 : decode cX12_feed 103 = .ok (.sipush 255, 3) := by decide +kernel
theorem dX12_feed_106 : decode cX12_feed 106 = .ok (.iand, 1) := by decide +kernel
theorem dX12_feed_107 : decode cX12_feed 107 = .ok (.iastore, 1) := by decide +kernel
theorem dX12_feed_108 : decode cX12_feed 108 = .ok (.aload_n 0, 1) := by decide +kernel
theorem dX12_feed_109 : decode cX12_feed 109 = .ok (.dup, 1) := by decide +kernel
theorem dX12_feed_110 : decode cX12_feed 110 = .ok (.getfield 222, 3) := by decide +kernel
theorem dX12_feed_113 : decode cX12_feed 113 = .ok (.iconst 1, 1) := by decide +kernel
theorem dX12_feed_114 : decode cX12_feed 114 = .ok (.iadd, 1) := by decide +kernel
theorem dX12_feed_115 : decode cX12_feed 115 = .ok (.putfield 222, 3) := by decide +kernel
theorem dX12_feed_118 : decode cX12_feed 118 = .ok (.iinc 6 1, 3) := by decide +kernel
theorem dX12_feed_121 : decode cX12_feed 121 = .ok (.goto (-93), 3) := by decide +kernel
theorem dX12_feed_124 : decode cX12_feed 124 = .ok (.aload_n 0, 1) := by decide +kernel
theorem dX12_feed_125 : decode cX12_feed 125 = .ok (.getfield 222, 3) := by decide +kernel
theorem dX12_feed_128 : decode cX12_feed 128 = .ok (.ireturn, 1) := by decide +kernel
theorem dX12_end_0 : decode cX12_end 0 = .ok (.iload_n 1, 1) := by decide +kernel
theorem dX12_end_1 : decode cX12_end 1 = .ok (.ifCond .lt 11, 3) := by decide +kernel
theorem dX12_end_4 : decode cX12_end 4 = .ok (.iload_n 1, 1) := by decide +kernel
theorem dX12_end_5 : decode cX12_end 5 = .ok (.aload_n 0, 1) := by decide +kernel
theorem dX12_end_6 : decode cX12_end 6 = .ok (.getfield 222, 3) := by decide +kernel
theorem dX12_end_9 : decode cX12_end 9 = .ok (.if_icmp .le 15, 3) := by decide +kernel
theorem dX12_end_12 : decode cX12_end 12 = .ok (.aload_n 0, 1) := by decide +kernel
theorem dX12_end_13 : decode cX12_end 13 = .ok (.getfield 17, 3) := by decide +kernel
theorem dX12_end_16 : decode cX12_end 16 = .ok (.iconst 0, 1) := by decide +kernel
theorem dX12_end_17 : decode cX12_end 17 = .ok (.dup2, 1) := by decide +kernel
theorem dX12_end_18 : decode cX12_end 18 = .ok (.iaload, 1) := by decide +kernel
theorem dX12_end_19 : decode cX12_end 19 = .ok (.iconst 1, 1) := by decide +kernel
theorem dX12_end_20 : decode cX12_end 20 = .ok (.iadd, 1) := by decide +kernel
theorem dX12_end_21 : decode cX12_end 21 = .ok (.iastore, 1) := by decide +kernel
theorem dX12_end_22 : decode cX12_end 22 = .ok (.iconst 0, 1) := by decide +kernel
theorem dX12_end_23 : decode cX12_end 23 = .ok (.ireturn, 1) := by decide +kernel
theorem dX12_end_24 : decode cX12_end 24 = .ok (.aload_n 0, 1) := by decide +kernel
theorem dX12_end_25 : decode cX12_end 25 = .ok (.iload_n 1, 1) := by decide +kernel
theorem dX12_end_26 : decode cX12_end 26 = .ok (.putfield 222, 3) := by decide +kernel
theorem dX12_end_29 : decode cX12_end 29 = .ok (.iconst 1, 1) := by decide +kernel
theorem dX12_end_30 : decode cX12_end 30 = .ok (.ireturn, 1) := by decide +kernel
theorem dX12_fail_0 : decode cX12_fail 0 = .ok (.aload_n 0, 1) := by decide +kernel
theorem dX12_fail_1 : decode cX12_fail 1 = .ok (.getfield 225, 3) := by decide +kernel
theorem dX12_fail_4 : decode cX12_fail 4 = .ok (.ifCond .eq 4, 3) := by decide +kernel
theorem dX12_fail_7 : decode cX12_fail 7 = .ok (.return_, 1) := by decide +kernel
theorem dX12_fail_8 : decode cX12_fail 8 = .ok (.aload_n 0, 1) := by decide +kernel
theorem dX12_fail_9 : decode cX12_fail 9 = .ok (.iload_n 1, 1) := by decide +kernel
theorem dX12_fail_10 : decode cX12_fail 10 = .ok (.putfield 225, 3) := by decide +kernel
theorem dX12_fail_13 : decode cX12_fail 13 = .ok (.aload_n 0, 1) := by decide +kernel
theorem dX12_fail_14 : decode cX12_fail 14 = .ok (.iload_n 2, 1) := by decide +kernel
theorem dX12_fail_15 : decode cX12_fail 15 = .ok (.putfield 228, 3) := by decide +kernel
theorem dX12_fail_18 : decode cX12_fail 18 = .ok (.return_, 1) := by decide +kernel
theorem dX12_isLetter_0 : decode cX12_isLetter 0 = .ok (.iload_n 0, 1) := by decide +kernel
theorem dX12_isLetter_1 : decode cX12_isLetter 1 = .ok (.bipush 97, 2) := by decide +kernel
theorem dX12_isLetter_3 : decode cX12_isLetter 3 = .ok (.if_icmp .lt 13, 3) := by decide +kernel
theorem dX12_isLetter_6 : decode cX12_isLetter 6 = .ok (.iload_n 0, 1) := by decide +kernel
theorem dX12_isLetter_7 : decode cX12_isLetter 7 = .ok (.bipush 122, 2) := by decide +kernel
theorem dX12_isLetter_9 : decode cX12_isLetter 9 = .ok (.if_icmp .gt 7, 3) := by decide +kernel
theorem dX12_isLetter_12 : decode cX12_isLetter 12 = .ok (.iconst 1, 1) := by decide +kernel
theorem dX12_isLetter_13 : decode cX12_isLetter 13 = .ok (.goto 4, 3) := by decide +kernel
theorem dX12_isLetter_16 : decode cX12_isLetter 16 = .ok (.iconst 0, 1) := by decide +kernel
theorem dX12_isLetter_17 : decode cX12_isLetter 17 = .ok (.ireturn, 1) := by decide +kernel
theorem dX12_isDigit_0 : decode cX12_isDigit 0 = .ok (.iload_n 0, 1) := by decide +kernel
theorem dX12_isDigit_1 : decode cX12_isDigit 1 = .ok (.bipush 48, 2) := by decide +kernel
theorem dX12_isDigit_3 : decode cX12_isDigit 3 = .ok (.if_icmp .lt 13, 3) := by decide +kernel
theorem dX12_isDigit_6 : decode cX12_isDigit 6 = .ok (.iload_n 0, 1) := by decide +kernel
theorem dX12_isDigit_7 : decode cX12_isDigit 7 = .ok (.bipush 57, 2) := by decide +kernel
theorem dX12_isDigit_9 : decode cX12_isDigit 9 = .ok (.if_icmp .gt 7, 3) := by decide +kernel
theorem dX12_isDigit_12 : decode cX12_isDigit 12 = .ok (.iconst 1, 1) := by decide +kernel
theorem dX12_isDigit_13 : decode cX12_isDigit 13 = .ok (.goto 4, 3) := by decide +kernel
theorem dX12_isDigit_16 : decode cX12_isDigit 16 = .ok (.iconst 0, 1) := by decide +kernel
theorem dX12_isDigit_17 : decode cX12_isDigit 17 = .ok (.ireturn, 1) := by decide +kernel
theorem dX12_look_0 : decode cX12_look 0 = .ok (.aload_n 0, 1) := by decide +kernel
theorem dX12_look_1 : decode cX12_look 1 = .ok (.getfield 231, 3) := by decide +kernel
theorem dX12_look_4 : decode cX12_look 4 = .ok (.aload_n 0, 1) := by decide +kernel
theorem dX12_look_5 : decode cX12_look 5 = .ok (.getfield 234, 3) := by decide +kernel
theorem dX12_look_8 : decode cX12_look 8 = .ok (.if_icmp .ge 44, 3) := by decide +kernel
theorem dX12_look_11 : decode cX12_look 11 = .ok (.aload_n 0, 1) := by decide +kernel
theorem dX12_look_12 : decode cX12_look 12 = .ok (.getfield 7, 3) := by decide +kernel
theorem dX12_look_15 : decode cX12_look 15 = .ok (.aload_n 0, 1) := by decide +kernel
theorem dX12_look_16 : decode cX12_look 16 = .ok (.getfield 231, 3) := by decide +kernel
theorem dX12_look_19 : decode cX12_look 19 = .ok (.iaload, 1) := by decide +kernel
theorem dX12_look_20 : decode cX12_look 20 = .ok (.bipush 10, 2) := by decide +kernel
theorem dX12_look_22 : decode cX12_look 22 = .ok (.if_icmp .eq 17, 3) := by decide +kernel
theorem dX12_look_25 : decode cX12_look 25 = .ok (.aload_n 0, 1) := by decide +kernel
theorem dX12_look_26 : decode cX12_look 26 = .ok (.getfield 7, 3) := by decide +kernel
theorem dX12_look_29 : decode cX12_look 29 = .ok (.aload_n 0, 1) := by decide +kernel
theorem dX12_look_30 : decode cX12_look 30 = .ok (.getfield 231, 3) := by decide +kernel
theorem dX12_look_33 : decode cX12_look 33 = .ok (.iaload, 1) := by decide +kernel
theorem dX12_look_34 : decode cX12_look 34 = .ok (.bipush 32, 2) := by decide +kernel
theorem dX12_look_36 : decode cX12_look 36 = .ok (.if_icmp .ne 16, 3) := by decide +kernel
theorem dX12_look_39 : decode cX12_look 39 = .ok (.aload_n 0, 1) := by decide +kernel
theorem dX12_look_40 : decode cX12_look 40 = .ok (.dup, 1) := by decide +kernel
theorem dX12_look_41 : decode cX12_look 41 = .ok (.getfield 231, 3) := by decide +kernel
theorem dX12_look_44 : decode cX12_look 44 = .ok (.iconst 1, 1) := by decide +kernel
theorem dX12_look_45 : decode cX12_look 45 = .ok (.iadd, 1) := by decide +kernel
theorem dX12_look_46 : decode cX12_look 46 = .ok (.putfield 231, 3) := by decide +kernel
theorem dX12_look_49 : decode cX12_look 49 = .ok (.goto (-49), 3) := by decide +kernel
theorem dX12_look_52 : decode cX12_look 52 = .ok (.aload_n 0, 1) := by decide +kernel
theorem dX12_look_53 : decode cX12_look 53 = .ok (.getfield 231, 3) := by decide +kernel
theorem dX12_look_56 : decode cX12_look 56 = .ok (.aload_n 0, 1) := by decide +kernel
theorem dX12_look_57 : decode cX12_look 57 = .ok (.getfield 234, 3) := by decide +kernel
theorem dX12_look_60 : decode cX12_look 60 = .ok (.if_icmp .ge 15, 3) := by decide +kernel
theorem dX12_look_63 : decode cX12_look 63 = .ok (.aload_n 0, 1) := by decide +kernel
theorem dX12_look_64 : decode cX12_look 64 = .ok (.getfield 7, 3) := by decide +kernel
theorem dX12_look_67 : decode cX12_look 67 = .ok (.aload_n 0, 1) := by decide +kernel
theorem dX12_look_68 : decode cX12_look 68 = .ok (.getfield 231, 3) := by decide +kernel
theorem dX12_look_71 : decode cX12_look 71 = .ok (.iaload, 1) := by decide +kernel
theorem dX12_look_72 : decode cX12_look 72 = .ok (.goto 4, 3) := by decide +kernel
theorem dX12_look_75 : decode cX12_look 75 = .ok (.iconst (-1), 1) := by decide +kernel
theorem dX12_look_76 : decode cX12_look 76 = .ok (.ireturn, 1) := by decide +kernel
theorem dX12_isHere_0 : decode cX12_isHere 0 = .ok (.aload_n 0, 1) := by decide +kernel
theorem dX12_isHere_1 : decode cX12_isHere 1 = .ok (.getfield 225, 3) := by decide +kernel
theorem dX12_isHere_4 : decode cX12_isHere 4 = .ok (.ifCond .ne 24, 3) := by decide +kernel
theorem dX12_isHere_7 : decode cX12_isHere 7 = .ok (.aload_n 0, 1) := by decide +kernel
theorem dX12_isHere_8 : decode cX12_isHere 8 = .ok (.invokevirtual 237, 3) := by decide +kernel
theorem dX12_isHere_11 : decode cX12_isHere 11 = .ok (.invokestatic 241, 3) := by decide +kernel
theorem dX12_isHere_14 : decode cX12_isHere 14 = .ok (.ifCond .eq 14, 3) := by decide +kernel
theorem dX12_isHere_17 : decode cX12_isHere 17 = .ok (.aload_n 0, 1) := by decide +kernel
theorem dX12_isHere_18 : decode cX12_isHere 18 = .ok (.getfield 231, 3) := by decide +kernel
theorem dX12_isHere_21 : decode cX12_isHere 21 = .ok (.aload_n 0, 1) := by decide +kernel
theorem dX12_isHere_22 : decode cX12_isHere 22 = .ok (.getfield 245, 3) := by decide +kernel
theorem dX12_isHere_25 : decode cX12_isHere 25 = .ok (.if_icmp .ne 5, 3) := by decide +kernel
theorem dX12_isHere_28 : decode cX12_isHere 28 = .ok (.iconst 0, 1) := by decide +kernel
theorem dX12_isHere_29 : decode cX12_isHere 29 = .ok (.ireturn, 1) := by decide +kernel
theorem dX12_isHere_30 : decode cX12_isHere 30 = .ok (.aload_n 0, 1) := by decide +kernel
theorem dX12_isHere_31 : decode cX12_isHere 31 = .ok (.getfield 231, 3) := by decide +kernel
theorem dX12_isHere_34 : decode cX12_isHere 34 = .ok (.istore_n 2, 1) := by decide +kernel
theorem dX12_isHere_35 : decode cX12_isHere 35 = .ok (.iload_n 2, 1) := by decide +kernel
theorem dX12_isHere_36 : decode cX12_isHere 36 = .ok (.aload_n 0, 1) := by decide +kernel
theorem dX12_isHere_37 : decode cX12_isHere 37 = .ok (.getfield 234, 3) := by decide +kernel
theorem dX12_isHere_40 : decode cX12_isHere 40 = .ok (.if_icmp .ge 21, 3) := by decide +kernel
theorem dX12_isHere_43 : decode cX12_isHere 43 = .ok (.aload_n 0, 1) := by decide +kernel
theorem dX12_isHere_44 : decode cX12_isHere 44 = .ok (.getfield 7, 3) := by decide +kernel
theorem dX12_isHere_47 : decode cX12_isHere 47 = .ok (.iload_n 2, 1) := by decide +kernel
theorem dX12_isHere_48 : decode cX12_isHere 48 = .ok (.iaload, 1) := by decide +kernel
theorem dX12_isHere_49 : decode cX12_isHere 49 = .ok (.invokestatic 241, 3) := by decide +kernel
theorem dX12_isHere_52 : decode cX12_isHere 52 = .ok (.ifCond .eq 9, 3) := by decide +kernel
theorem dX12_isHere_55 : decode cX12_isHere 55 = .ok (.iinc 2 1, 3) := by decide +kernel
theorem dX12_isHere_58 : decode cX12_isHere 58 = .ok (.goto (-23), 3) := by decide +kernel
theorem dX12_isHere_61 : decode cX12_isHere 61 = .ok (.iload_n 2, 1) := by decide +kernel
theorem dX12_isHere_62 : decode cX12_isHere 62 = .ok (.aload_n 0, 1) := by decide +kernel
theorem dX12_isHere_63 : decode cX12_isHere 63 = .ok (.getfield 231, 3) := by decide +kernel
theorem dX12_isHere_66 : decode cX12_isHere 66 = .ok (.isub, 1) := by decide +kernel
theorem dX12_isHere_67 : decode cX12_isHere 67 = .ok (.aload_n 1, 1) := by decide +kernel
theorem dX12_isHere_68 : decode cX12_isHere 68 = .ok (.arraylength, 1) := by decide +kernel
theorem dX12_isHere_69 : decode cX12_isHere 69 = .ok (.if_icmp .eq 5, 3) := by decide +kernel
theorem dX12_isHere_72 : decode cX12_isHere 72 = .ok (.iconst 0, 1) := by decide +kernel
theorem dX12_isHere_73 : decode cX12_isHere 73 = .ok (.ireturn, 1) := by decide +kernel
theorem dX12_isHere_74 : decode cX12_isHere 74 = .ok (.iconst 0, 1) := by decide +kernel
theorem dX12_isHere_75 : decode cX12_isHere 75 = .ok (.istore_n 3, 1) := by decide +kernel
theorem dX12_isHere_76 : decode cX12_isHere 76 = .ok (.iload_n 3, 1) := by decide +kernel
theorem dX12_isHere_77 : decode cX12_isHere 77 = .ok (.aload_n 1, 1) := by decide +kernel
theorem dX12_isHere_78 : decode cX12_isHere 78 = .ok (.arraylength, 1) := by decide +kernel
theorem dX12_isHere_79 : decode cX12_isHere 79 = .ok (.if_icmp .ge 28, 3) := by decide +kernel
theorem dX12_isHere_82 : decode cX12_isHere 82 = .ok (.aload_n 0, 1) := by decide +kernel
theorem dX12_isHere_83 : decode cX12_isHere 83 = .ok (.getfield 7, 3) := by decide +kernel
theorem dX12_isHere_86 : decode cX12_isHere 86 = .ok (.aload_n 0, 1) := by decide +kernel
theorem dX12_isHere_87 : decode cX12_isHere 87 = .ok (.getfield 231, 3) := by decide +kernel
theorem dX12_isHere_90 : decode cX12_isHere 90 = .ok (.iload_n 3, 1) := by decide +kernel
theorem dX12_isHere_91 : decode cX12_isHere 91 = .ok (.iadd, 1) := by decide +kernel
theorem dX12_isHere_92 : decode cX12_isHere 92 = .ok (.iaload, 1) := by decide +kernel
