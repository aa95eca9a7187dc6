theorem dX0_init_0 : decode cX0_init 0 = .ok (.aload_n 0, 1) := by decide +kernel
theorem dX0_init_1 : decode cX0_init 1 = .ok (.invokespecial 3, 3) := by decide +kernel
theorem dX0_init_4 : decode cX0_init 4 = .ok (.aload_n 0, 1) := by decide +kernel
theorem dX0_init_5 : decode cX0_init 5 = .ok (.bipush 30, 2) := by decide +kernel
theorem dX0_init_7 : decode cX0_init 7 = .ok (.newarray .int, 2) := by decide +kernel
theorem dX0_init_9 : decode cX0_init 9 = .ok (.putfield 9, 3) := by decide +kernel
theorem dX0_init_12 : decode cX0_init 12 = .ok (.aload_n 0, 1) := by decide +kernel
theorem dX0_init_13 : decode cX0_init 13 = .ok (.bipush 30, 2) := by decide +kernel
theorem dX0_init_15 : decode cX0_init 15 = .ok (.newarray .int, 2) := by decide +kernel
theorem dX0_init_17 : decode cX0_init 17 = .ok (.putfield 15, 3) := by decide +kernel
theorem dX0_init_20 : decode cX0_init 20 = .ok (.aload_n 0, 1) := by decide +kernel
theorem dX0_init_21 : decode cX0_init 21 = .ok (.bipush 30, 2) := by decide +kernel
theorem dX0_init_23 : decode cX0_init 23 = .ok (.newarray .int, 2) := by decide +kernel
theorem dX0_init_25 : decode cX0_init 25 = .ok (.putfield 18, 3) := by decide +kernel
theorem dX0_init_28 : decode cX0_init 28 = .ok (.aload_n 0, 1) := by decide +kernel
theorem dX0_init_29 : decode cX0_init 29 = .ok (.bipush 30, 2) := by decide +kernel
theorem dX0_init_31 : decode cX0_init 31 = .ok (.newarray .int, 2) := by decide +kernel
theorem dX0_init_33 : decode cX0_init 33 = .ok (.putfield 21, 3) := by decide +kernel
theorem dX0_init_36 : decode cX0_init 36 = .ok (.aload_n 0, 1) := by decide +kernel
theorem dX0_init_37 : decode cX0_init 37 = .ok (.bipush 30, 2) := by decide +kernel
theorem dX0_init_39 : decode cX0_init 39 = .ok (.newarray .int, 2) := by decide +kernel
theorem dX0_init_41 : decode cX0_init 41 = .ok (.putfield 24, 3) := by decide +kernel
theorem dX0_init_44 : decode cX0_init 44 = .ok (.aload_n 0, 1) := by decide +kernel
theorem dX0_init_45 : decode cX0_init 45 = .ok (.iconst 0, 1) := by decide +kernel
theorem dX0_init_46 : decode cX0_init 46 = .ok (.putfield 27, 3) := by decide +kernel
theorem dX0_init_49 : decode cX0_init 49 = .ok (.return_, 1) := by decide +kernel
theorem dX0_placeOf_0 : decode cX0_placeOf 0 = .ok (.iconst 0, 1) := by decide +kernel
theorem dX0_placeOf_1 : decode cX0_placeOf 1 = .ok (.istore_n 3, 1) := by decide +kernel
theorem dX0_placeOf_2 : decode cX0_placeOf 2 = .ok (.iload_n 3, 1) := by decide +kernel
theorem dX0_placeOf_3 : decode cX0_placeOf 3 = .ok (.aload_n 0, 1) := by decide +kernel
theorem dX0_placeOf_4 : decode cX0_placeOf 4 = .ok (.getfield 27, 3) := by decide +kernel
theorem dX0_placeOf_7 : decode cX0_placeOf 7 = .ok (.if_icmp .ge 31, 3) := by decide +kernel
theorem dX0_placeOf_10 : decode cX0_placeOf 10 = .ok (.aload_n 0, 1) := by decide +kernel
theorem dX0_placeOf_11 : decode cX0_placeOf 11 = .ok (.getfield 9, 3) := by decide +kernel
theorem dX0_placeOf_14 : decode cX0_placeOf 14 = .ok (.iload_n 3, 1) := by decide +kernel
theorem dX0_placeOf_15 : decode cX0_placeOf 15 = .ok (.iaload, 1) := by decide +kernel
theorem dX0_placeOf_16 : decode cX0_placeOf 16 = .ok (.iload_n 1, 1) := by decide +kernel
theorem dX0_placeOf_17 : decode cX0_placeOf 17 = .ok (.if_icmp .ne 15, 3) := by decide +kernel
theorem dX0_placeOf_20 : decode cX0_placeOf 20 = .ok (.aload_n 0, 1) := by decide +kernel
theorem dX0_placeOf_21 : decode cX0_placeOf 21 = .ok (.getfield 15, 3) := by decide +kernel
theorem dX0_placeOf_24 : decode cX0_placeOf 24 = .ok (.iload_n 3, 1) := by decide +kernel
theorem dX0_placeOf_25 : decode cX0_placeOf 25 = .ok (.iaload, 1) := by decide +kernel
theorem dX0_placeOf_26 : decode cX0_placeOf 26 = .ok (.iload_n 2, 1) := by decide +kernel
theorem dX0_placeOf_27 : decode cX0_placeOf 27 = .ok (.if_icmp .ne 5, 3) := by decide +kernel
theorem dX0_placeOf_30 : decode cX0_placeOf 30 = .ok (.iload_n 3, 1) := by decide +kernel
theorem dX0_placeOf_31 : decode cX0_placeOf 31 = .ok (.ireturn, 1) := by decide +kernel
theorem dX0_placeOf_32 : decode cX0_placeOf 32 = .ok (.iinc 3 1, 3) := by decide +kernel
theorem dX0_placeOf_35 : decode cX0_placeOf 35 = .ok (.goto (-33), 3) := by decide +kernel
theorem dX0_placeOf_38 : decode cX0_placeOf 38 = .ok (.iconst (-1), 1) := by decide +kernel
theorem dX0_placeOf_39 : decode cX0_placeOf 39 = .ok (.ireturn, 1) := by decide +kernel
theorem dX0_labelAt_0 : decode cX0_labelAt 0 = .ok (.aload_n 0, 1) := by decide +kernel
theorem dX0_labelAt_1 : decode cX0_labelAt 1 = .ok (.getfield 9, 3) := by decide +kernel
theorem dX0_labelAt_4 : decode cX0_labelAt 4 = .ok (.iload_n 1, 1) := by decide +kernel
theorem dX0_labelAt_5 : decode cX0_labelAt 5 = .ok (.iaload, 1) := by decide +kernel
theorem dX0_labelAt_6 : decode cX0_labelAt 6 = .ok (.aload_n 0, 1) := by decide +kernel
theorem dX0_labelAt_7 : decode cX0_labelAt 7 = .ok (.getfield 15, 3) := by decide +kernel
theorem dX0_labelAt_10 : decode cX0_labelAt 10 = .ok (.iload_n 1, 1) := by decide +kernel
theorem dX0_labelAt_11 : decode cX0_labelAt 11 = .ok (.iaload, 1) := by decide +kernel
theorem dX0_labelAt_12 : decode cX0_labelAt 12 = .ok (.invokestatic 31, 3) := by decide +kernel
theorem dX0_labelAt_15 : decode cX0_labelAt 15 = .ok (.ireturn, 1) := by decide +kernel
theorem dX0_add_0 : decode cX0_add 0 = .ok (.aload_n 0, 1) := by decide +kernel
theorem dX0_add_1 : decode cX0_add 1 = .ok (.getfield 27, 3) := by decide +kernel
theorem dX0_add_4 : decode cX0_add 4 = .ok (.bipush 30, 2) := by decide +kernel
theorem dX0_add_6 : decode cX0_add 6 = .ok (.if_icmp .lt 4, 3) := by decide +kernel
theorem dX0_add_9 : decode cX0_add 9 = .ok (.return_, 1) := by decide +kernel
theorem dX0_add_10 : decode cX0_add 10 = .ok (.aload_n 0, 1) := by decide +kernel
theorem dX0_add_11 : decode cX0_add 11 = .ok (.getfield 9, 3) := by decide +kernel
theorem dX0_add_14 : decode cX0_add 14 = .ok (.aload_n 0, 1) := by decide +kernel
theorem dX0_add_15 : decode cX0_add 15 = .ok (.getfield 27, 3) := by decide +kernel
theorem dX0_add_18 : decode cX0_add 18 = .ok (.iload_n 1, 1) := by decide +kernel
theorem dX0_add_19 : decode cX0_add 19 = .ok (.iastore, 1) := by decide +kernel
theorem dX0_add_20 : decode cX0_add 20 = .ok (.aload_n 0, 1) := by decide +kernel
theorem dX0_add_21 : decode cX0_add 21 = .ok (.getfield 15, 3) := by decide +kernel
theorem dX0_add_24 : decode cX0_add 24 = .ok (.aload_n 0, 1) := by decide +kernel
theorem dX0_add_25 : decode cX0_add 25 = .ok (.getfield 27, 3) := by decide +kernel
theorem dX0_add_28 : decode cX0_add 28 = .ok (.iload_n 2, 1) := by decide +kernel
theorem dX0_add_29 : decode cX0_add 29 = .ok (.iastore, 1) := by decide +kernel
theorem dX0_add_30 : decode cX0_add 30 = .ok (.aload_n 0, 1) := by decide +kernel
theorem dX0_add_31 : decode cX0_add 31 = .ok (.getfield 18, 3) := by decide +kernel
theorem dX0_add_34 : decode cX0_add 34 = .ok (.aload_n 0, 1) := by decide +kernel
theorem dX0_add_35 : decode cX0_add 35 = .ok (.getfield 27, 3) := by decide +kernel
theorem dX0_add_38 : decode cX0_add 38 = .ok (.iload_n 3, 1) := by decide +kernel
theorem dX0_add_39 : decode cX0_add 39 = .ok (.iastore, 1) := by decide +kernel
theorem dX0_add_40 : decode cX0_add 40 = .ok (.aload_n 0, 1) := by decide +kernel
theorem dX0_add_41 : decode cX0_add 41 = .ok (.getfield 21, 3) := by decide +kernel
theorem dX0_add_44 : decode cX0_add 44 = .ok (.aload_n 0, 1) := by decide +kernel
theorem dX0_add_45 : decode cX0_add 45 = .ok (.getfield 27, 3) := by decide +kernel
theorem dX0_add_48 : decode cX0_add 48 = .ok (.iconst 0, 1) := by decide +kernel
theorem dX0_add_49 : decode cX0_add 49 = .ok (.iastore, 1) := by decide +kernel
theorem dX0_add_50 : decode cX0_add 50 = .ok (.aload_n 0, 1) := by decide +kernel
theorem dX0_add_51 : decode cX0_add 51 = .ok (.getfield 24, 3) := by decide +kernel
theorem dX0_add_54 : decode cX0_add 54 = .ok (.aload_n 0, 1) := by decide +kernel
theorem dX0_add_55 : decode cX0_add 55 = .ok (.getfield 27, 3) := by decide +kernel
theorem dX0_add_58 : decode cX0_add 58 = .ok (.iconst 0, 1) := by decide +kernel
theorem dX0_add_59 : decode cX0_add 59 = .ok (.iastore, 1) := by decide +kernel
theorem dX0_add_60 : decode cX0_add 60 = .ok (.aload_n 0, 1) := by decide +kernel
theorem dX0_add_61 : decode cX0_add 61 = .ok (.dup, 1) := by decide +kernel
theorem dX0_add_62 : decode cX0_add 62 = .ok (.getfield 27, 3) := by decide +kernel
theorem dX0_add_65 : decode cX0_add 65 = .ok (.iconst 1, 1) := by decide +kernel
theorem dX0_add_66 : decode cX0_add 66 = .ok (.iadd, 1) := by decide +kernel
theorem dX0_add_67 : decode cX0_add 67 = .ok (.putfield 27, 3) := by decide +kernel
theorem dX0_add_70 : decode cX0_add 70 = .ok (.return_, 1) := by decide +kernel
theorem dX0_remove_0 : decode cX0_remove 0 = .ok (.iload_n 1, 1) := by decide +kernel
theorem dX0_remove_1 : decode cX0_remove 1 = .ok (.ifCond .lt 16, 3) := by decide +kernel
theorem dX0_remove_4 : decode cX0_remove 4 = .ok (.iload_n 1, 1) := by decide +kernel
theorem dX0_remove_5 : decode cX0_remove 5 = .ok (.iload_n 2, 1) := by decide +kernel
theorem dX0_remove_6 : decode cX0_remove 6 = .ok (.if_icmp .gt 11, 3) := by decide +kernel
theorem dX0_remove_9 : decode cX0_remove 9 = .ok (.iload_n 2, 1) := by decide +kernel
theorem dX0_remove_10 : decode cX0_remove 10 = .ok (.aload_n 0, 1) := by decide +kernel
theorem dX0_remove_11 : decode cX0_remove 11 = .ok (.getfield 27, 3) := by decide +kernel
theorem dX0_remove_14 : decode cX0_remove 14 = .ok (.if_icmp .le 4, 3) := by decide +kernel
theorem dX0_remove_17 : decode cX0_remove 17 = .ok (.return_, 1) := by decide +kernel
theorem dX0_remove_18 : decode cX0_remove 18 = .ok (.aload_n 0, 1) := by decide +kernel
theorem dX0_remove_19 : decode cX0_remove 19 = .ok (.getfield 27, 3) := by decide +kernel
theorem dX0_remove_22 : decode cX0_remove 22 = .ok (.iload_n 2, 1) := by decide +kernel
theorem dX0_remove_23 : decode cX0_remove 23 = .ok (.isub, 1) := by decide +kernel
theorem dX0_remove_24 : decode cX0_remove 24 = .ok (.istore_n 3, 1) := by decide +kernel
theorem dX0_remove_25 : decode cX0_remove 25 = .ok (.aload_n 0, 1) := by decide +kernel
theorem dX0_remove_26 : decode cX0_remove 26 = .ok (.getfield 9, 3) := by decide +kernel
theorem dX0_remove_29 : decode cX0_remove 29 = .ok (.iload_n 2, 1) := by decide +kernel
theorem dX0_remove_30 : decode cX0_remove 30 = .ok (.aload_n 0, 1) := by decide +kernel
theorem dX0_remove_31 : decode cX0_remove 31 = .ok (.getfield 9, 3) := by decide +kernel
theorem dX0_remove_34 : decode cX0_remove 34 = .ok (.iload_n 1, 1) := by decide +kernel
theorem dX0_remove_35 : decode cX0_remove 35 = .ok (.iload_n 3, 1) := by decide +kernel
theorem dX0_remove_36 : decode cX0_remove 36 = .ok (.invokestatic 35, 3) := by decide +kernel
theorem dX0_remove_39 : decode cX0_remove 39 = .ok (.aload_n 0, 1) := by decide +kernel
theorem dX0_remove_40 : decode cX0_remove 40 = .ok (.getfield 15, 3) := by decide +kernel
theorem dX0_remove_43 : decode cX0_remove 43 = .ok (.iload_n 2, 1) := by decide +kernel
theorem dX0_remove_44 : decode cX0_remove 44 = .ok (.aload_n 0, 1) := by decide +kernel
theorem dX0_remove_45 : decode cX0_remove 45 = .ok (.getfield 15, 3) := by decide +kernel
theorem dX0_remove_48 : decode cX0_remove 48 = .ok (.iload_n 1, 1) := by decide +kernel
theorem dX0_remove_49 : decode cX0_remove 49 = .ok (.iload_n 3, 1) := by decide +kernel
theorem dX0_remove_50 : decode cX0_remove 50 = .ok (.invokestatic 35, 3) := by decide +kernel
theorem dX0_remove_53 : decode cX0_remove 53 = .ok (.aload_n 0, 1) := by decide +kernel
theorem dX0_remove_54 : decode cX0_remove 54 = .ok (.getfield 18, 3) := by decide +kernel
theorem dX0_remove_57 : decode cX0_remove 57 = .ok (.iload_n 2, 1) := by decide +kernel
theorem dX0_remove_58 : decode cX0_remove 58 = .ok (.aload_n 0, 1) := by decide +kernel
theorem dX0_remove_59 : decode cX0_remove 59 = .ok (.getfield 18, 3) := by decide +kernel
theorem dX0_remove_62 : decode cX0_remove 62 = .ok (.iload_n 1, 1) := by decide +kernel
theorem dX0_remove_63 : decode cX0_remove 63 = .ok (.iload_n 3, 1) := by decide +kernel
theorem dX0_remove_64 : decode cX0_remove 64 = .ok (.invokestatic 35, 3) := by decide +kernel
theorem dX0_remove_67 : decode cX0_remove 67 = .ok (.aload_n 0, 1) := by decide +kernel
theorem dX0_remove_68 : decode cX0_remove 68 = .ok (.getfield 21, 3) := by decide +kernel
theorem dX0_remove_71 : decode cX0_remove 71 = .ok (.iload_n 2, 1) := by decide +kernel
theorem dX0_remove_72 : decode cX0_remove 72 = .ok (.aload_n 0, 1) := by decide +kernel
theorem dX0_remove_73 : decode cX0_remove 73 = .ok (.getfield 21, 3) := by decide +kernel
theorem dX0_remove_76 : decode cX0_remove 76 = .ok (.iload_n 1, 1) := by decide +kernel
theorem dX0_remove_77 : decode cX0_remove 77 = .ok (.iload_n 3, 1) := by decide +kernel
theorem dX0_remove_78 : decode cX0_remove 78 = .ok (.invokestatic 35, 3) := by decide +kernel
theorem dX0_remove_81 : decode cX0_remove 81 = .ok (.aload_n 0, 1) := by decide +kernel
theorem dX0_remove_82 : decode cX0_remove 82 = .ok (.getfield 24, 3) := by decide +kernel
theorem dX0_remove_85 : decode cX0_remove 85 = .ok (.iload_n 2, 1) := by decide +kernel
theorem dX0_remove_86 : decode cX0_remove 86 = .ok (.aload_n 0, 1) := by decide +kernel
theorem dX0_remove_87 : decode cX0_remove 87 = .ok (.getfield 24, 3) := by decide +kernel
theorem dX0_remove_90 : decode cX0_remove 90 = .ok (.iload_n 1, 1) := by decide +kernel
theorem dX0_remove_91 : decode cX0_remove 91 = .ok (.iload_n 3, 1) := by decide +kernel
theorem dX0_remove_92 : decode cX0_remove 92 = .ok (.invokestatic 35, 3) := by decide +kernel
theorem dX0_remove_95 : decode cX0_remove 95 = .ok (.aload_n 0, 1) := by decide +kernel
theorem dX0_remove_96 : decode cX0_remove 96 = .ok (.iload_n 1, 1) := by decide +kernel
theorem dX0_remove_97 : decode cX0_remove 97 = .ok (.iload_n 3, 1) := by decide +kernel
theorem dX0_remove_98 : decode cX0_remove 98 = .ok (.iadd, 1) := by decide +kernel
theorem dX0_remove_99 : decode cX0_remove 99 = .ok (.putfield 27, 3) := by decide +kernel
theorem dX0_remove_102 : decode cX0_remove 102 = .ok (.return_, 1) := by decide +kernel
theorem dX0_pages_0 : decode cX0_pages 0 = .ok (.aload_n 0, 1) := by decide +kernel
theorem dX0_pages_1 : decode cX0_pages 1 = .ok (.getfield 27, 3) := by decide +kernel
theorem dX0_pages_4 : decode cX0_pages 4 = .ok (.iconst 4, 1) := by decide +kernel
theorem dX0_pages_5 : decode cX0_pages 5 = .ok (.iadd, 1) := by decide +kernel
theorem dX0_pages_6 : decode cX0_pages 6 = .ok (.iconst 1, 1) := by decide +kernel
theorem dX0_pages_7 : decode cX0_pages 7 = .ok (.isub, 1) := by decide +kernel
theorem dX0_pages_8 : decode cX0_pages 8 = .ok (.iconst 4, 1) := by decide +kernel
theorem dX0_pages_9 : decode cX0_pages 9 = .ok (.idiv, 1) := by decide +kernel
theorem dX0_pages_10 : decode cX0_pages 10 = .ok (.ireturn, 1) := by decide +kernel
theorem dX0_hasPage_0 : decode cX0_hasPage 0 = .ok (.iload_n 1, 1) := by decide +kernel
theorem dX0_hasPage_1 : decode cX0_hasPage 1 = .ok (.ifCond .lt 15, 3) := by decide +kernel
theorem dX0_hasPage_4 : decode cX0_hasPage 4 = .ok (.iload_n 1, 1) := by decide +kernel
theorem dX0_hasPage_5 : decode cX0_hasPage 5 = .ok (.aload_n 0, 1) := by decide +kernel
theorem dX0_hasPage_6 : decode cX0_hasPage 6 = .ok (.invokevirtual 41, 3) := by decide +kernel
theorem dX0_hasPage_9 : decode cX0_hasPage 9 = .ok (.if_icmp .ge 7, 3) := by decide +kernel
theorem dX0_hasPage_12 : decode cX0_hasPage 12 = .ok (.iconst 1, 1) := by decide +kernel
theorem dX0_hasPage_13 : decode cX0_hasPage 13 = .ok (.goto 4, 3) := by decide +kernel
theorem dX0_hasPage_16 : decode cX0_hasPage 16 = .ok (.iconst 0, 1) := by decide +kernel
theorem dX0_hasPage_17 : decode cX0_hasPage 17 = .ok (.ireturn, 1) := by decide +kernel
theorem dX0_startOf_0 : decode cX0_startOf 0 = .ok (.iconst 4, 1) := by decide +kernel
theorem dX0_startOf_1 : decode cX0_startOf 1 = .ok (.iload_n 1, 1) := by decide +kernel
theorem dX0_startOf_2 : decode cX0_startOf 2 = .ok (.imul, 1) := by decide +kernel
theorem dX0_startOf_3 : decode cX0_startOf 3 = .ok (.ireturn, 1) := by decide +kernel
theorem dX0_endOf_0 : decode cX0_endOf 0 = .ok (.aload_n 0, 1) := by decide +kernel
theorem dX0_endOf_1 : decode cX0_endOf 1 = .ok (.getfield 27, 3) := by decide +kernel
theorem dX0_endOf_4 : decode cX0_endOf 4 = .ok (.iconst 4, 1) := by decide +kernel
theorem dX0_endOf_5 : decode cX0_endOf 5 = .ok (.iload_n 1, 1) := by decide +kernel
theorem dX0_endOf_6 : decode cX0_endOf 6 = .ok (.imul, 1) := by decide +kernel
theorem dX0_endOf_7 : decode cX0_endOf 7 = .ok (.iconst 4, 1) := by decide +kernel
theorem dX0_endOf_8 : decode cX0_endOf 8 = .ok (.iadd, 1) := by decide +kernel
theorem dX0_endOf_9 : decode cX0_endOf 9 = .ok (.invokestatic 45, 3) := by decide +kernel
theorem dX0_endOf_12 : decode cX0_endOf 12 = .ok (.ireturn, 1) := by decide +kernel
theorem dX0_paidForPage_0 : decode cX0_paidForPage 0 = .ok (.iconst 0, 1) := by decide +kernel
theorem dX0_paidForPage_1 : decode cX0_paidForPage 1 = .ok (.istore_n 2, 1) := by decide +kernel
theorem dX0_paidForPage_2 : decode cX0_paidForPage 2 = .ok (.aload_n 0, 1) := by decide +kernel
theorem dX0_paidForPage_3 : decode cX0_paidForPage 3 = .ok (.iload_n 1, 1) := by decide +kernel
theorem dX0_paidForPage_4 : decode cX0_paidForPage 4 = .ok (.invokevirtual 50, 3) := by decide +kernel
theorem dX0_paidForPage_7 : decode cX0_paidForPage 7 = .ok (.istore_n 3, 1) := by decide +kernel
theorem dX0_paidForPage_8 : decode cX0_paidForPage 8 = .ok (.iload_n 3, 1) := by decide +kernel
theorem dX0_paidForPage_9 : decode cX0_paidForPage 9 = .ok (.aload_n 0, 1) := by decide +kernel
theorem dX0_paidForPage_10 : decode cX0_paidForPage 10 = .ok (.iload_n 1, 1) := by decide +kernel
theorem dX0_paidForPage_11 : decode cX0_paidForPage 11 = .ok (.invokevirtual 54, 3) := by decide +kernel
theorem dX0_paidForPage_14 : decode cX0_paidForPage 14 = .ok (.if_icmp .ge 18, 3) := by decide +kernel
theorem dX0_paidForPage_17 : decode cX0_paidForPage 17 = .ok (.iload_n 2, 1) := by decide +kernel
theorem dX0_paidForPage_18 : decode cX0_paidForPage 18 = .ok (.aload_n 0, 1) := by decide +kernel
theorem dX0_paidForPage_19 : decode cX0_paidForPage 19 = .ok (.getfield 24, 3) := by decide +kernel
theorem dX0_paidForPage_22 : decode cX0_paidForPage 22 = .ok (.iload_n 3, 1) := by decide +kernel
theorem dX0_paidForPage_23 : decode cX0_paidForPage 23 = .ok (.iaload, 1) := by decide +kernel
theorem dX0_paidForPage_24 : decode cX0_paidForPage 24 = .ok (.iadd, 1) := by decide +kernel
theorem dX0_paidForPage_25 : decode cX0_paidForPage 25 = .ok (.istore_n 2, 1) := by decide +kernel
theorem dX0_paidForPage_26 : decode cX0_paidForPage 26 = .ok (.iinc 3 1, 3) := by decide +kernel
theorem dX0_paidForPage_29 : decode cX0_paidForPage 29 = .ok (.goto (-21), 3) := by decide +kernel
theorem dX0_paidForPage_32 : decode cX0_paidForPage 32 = .ok (.iload_n 2, 1) := by decide +kernel
theorem dX0_paidForPage_33 : decode cX0_paidForPage 33 = .ok (.ireturn, 1) := by decide +kernel
theorem dX0_copies_0 : decode cX0_copies 0 = .ok (.iconst 0, 1) := by decide +kernel
theorem dX0_copies_1 : decode cX0_copies 1 = .ok (.istore_n 1, 1) := by decide +kernel
theorem dX0_copies_2 : decode cX0_copies 2 = .ok (.iconst 0, 1) := by decide +kernel
theorem dX0_copies_3 : decode cX0_copies 3 = .ok (.istore_n 2, 1) := by decide +kernel
theorem dX0_copies_4 : decode cX0_copies 4 = .ok (.iload_n 2, 1) := by decide +kernel
theorem dX0_copies_5 : decode cX0_copies 5 = .ok (.aload_n 0, 1) := by decide +kernel
theorem dX0_copies_6 : decode cX0_copies 6 = .ok (.getfield 27, 3) := by decide +kernel
theorem dX0_copies_9 : decode cX0_copies 9 = .ok (.if_icmp .ge 18, 3) := by decide +kernel
theorem dX0_copies_12 : decode cX0_copies 12 = .ok (.iload_n 1, 1) := by decide +kernel
theorem dX0_copies_13 : decode cX0_copies 13 = .ok (.aload_n 0, 1) := by decide +kernel
theorem dX0_copies_14 : decode cX0_copies 14 = .ok (.getfield 21, 3) := by decide +kernel
theorem dX0_copies_17 : decode cX0_copies 17 = .ok (.iload_n 2, 1) := by decide +kernel
theorem dX0_copies_18 : decode cX0_copies 18 = .ok (.iaload, 1) := by decide +kernel
theorem dX0_copies_19 : decode cX0_copies 19 = .ok (.iadd, 1) := by decide +kernel
theorem dX0_copies_20 : decode cX0_copies 20 = .ok (.istore_n 1, 1) := by decide +kernel
theorem dX0_copies_21 : decode cX0_copies 21 = .ok (.iinc 2 1, 3) := by decide +kernel
theorem dX0_copies_24 : decode cX0_copies 24 = .ok (.goto (-20), 3) := by decide +kernel
theorem dX0_copies_27 : decode cX0_copies 27 = .ok (.iload_n 1, 1) := by decide +kernel
theorem dX0_copies_28 : decode cX0_copies 28 = .ok (.ireturn, 1) := by decide +kernel
theorem dX0_errors_0 : decode cX0_errors 0 = .ok (.iconst 0, 1) := by decide +kernel
theorem dX0_errors_1 : decode cX0_errors 1 = .ok (.istore_n 1, 1) := by decide +kernel
theorem dX0_errors_2 : decode cX0_errors 2 = .ok (.iconst 0, 1) := by decide +kernel
theorem dX0_errors_3 : decode cX0_errors 3 = .ok (.istore_n 2, 1) := by decide +kernel
theorem dX0_errors_4 : decode cX0_errors 4 = .ok (.iload_n 2, 1) := by decide +kernel
theorem dX0_errors_5 : decode cX0_errors 5 = .ok (.aload_n 0, 1) := by decide +kernel
theorem dX0_errors_6 : decode cX0_errors 6 = .ok (.getfield 27, 3) := by decide +kernel
theorem dX0_errors_9 : decode cX0_errors 9 = .ok (.if_icmp .ge 32, 3) := by decide +kernel
theorem dX0_errors_12 : decode cX0_errors 12 = .ok (.aload_n 0, 1) := by decide +kernel
theorem dX0_errors_13 : decode cX0_errors 13 = .ok (.aload_n 0, 1) := by decide +kernel
theorem dX0_errors_14 : decode cX0_errors 14 = .ok (.getfield 9, 3) := by decide +kernel
theorem dX0_errors_17 : decode cX0_errors 17 = .ok (.iload_n 2, 1) := by decide +kernel
theorem dX0_errors_18 : decode cX0_errors 18 = .ok (.iaload, 1) := by decide +kernel
theorem dX0_errors_19 : decode cX0_errors 19 = .ok (.aload_n 0, 1) := by decide +kernel
theorem dX0_errors_20 : decode cX0_errors 20 = .ok (.getfield 15, 3) := by decide +kernel
theorem dX0_errors_23 : decode cX0_errors 23 = .ok (.iload_n 2, 1) := by decide +kernel
theorem dX0_errors_24 : decode cX0_errors 24 = .ok (.iaload, 1) := by decide +kernel
theorem dX0_errors_25 : decode cX0_errors 25 = .ok (.invokevirtual 60, 3) := by decide +kernel
theorem dX0_errors_28 : decode cX0_errors 28 = .ok (.iload_n 2, 1) := by decide +kernel
theorem dX0_errors_29 : decode cX0_errors 29 = .ok (.if_icmp .eq 6, 3) := by decide +kernel
theorem dX0_errors_32 : decode cX0_errors 32 = .ok (.iinc 1 1, 3) := by decide +kernel
theorem dX0_errors_35 : decode cX0_errors 35 = .ok (.iinc 2 1, 3) := by decide +kernel
theorem dX0_errors_38 : decode cX0_errors 38 = .ok (.goto (-34), 3) := by decide +kernel
theorem dX0_errors_41 : decode cX0_errors 41 = .ok (.iload_n 1, 1) := by decide +kernel
theorem dX0_errors_42 : decode cX0_errors 42 = .ok (.ireturn, 1) := by decide +kernel
theorem dX0_takeFrom_0 : decode cX0_takeFrom 0 = .ok (.aload_n 1, 1) := by decide +kernel
theorem dX0_takeFrom_1 : decode cX0_takeFrom 1 = .ok (.getfield 9, 3) := by decide +kernel
theorem dX0_takeFrom_4 : decode cX0_takeFrom 4 = .ok (.iconst 0, 1) := by decide +kernel
theorem dX0_takeFrom_5 : decode cX0_takeFrom 5 = .ok (.aload_n 0, 1) := by decide +kernel
theorem dX0_takeFrom_6 : decode cX0_takeFrom 6 = .ok (.getfield 9, 3) := by decide +kernel
theorem dX0_takeFrom_9 : decode cX0_takeFrom 9 = .ok (.iconst 0, 1) := by decide +kernel
theorem dX0_takeFrom_10 : decode cX0_takeFrom 10 = .ok (.bipush 30, 2) := by decide +kernel
theorem dX0_takeFrom_12 : decode cX0_takeFrom 12 = .ok (.invokestatic 35, 3) := by decide +kernel
theorem dX0_takeFrom_15 : decode cX0_takeFrom 15 = .ok (.aload_n 1, 1) := by decide +kernel
theorem dX0_takeFrom_16 : decode cX0_takeFrom 16 = .ok (.getfield 15, 3) := by decide +kernel
theorem dX0_takeFrom_19 : decode cX0_takeFrom 19 = .ok (.iconst 0, 1) := by decide +kernel
theorem dX0_takeFrom_20 : decode cX0_takeFrom 20 = .ok (.aload_n 0, 1) := by decide +kernel
theorem dX0_takeFrom_21 : decode cX0_takeFrom 21 = .ok (.getfield 15, 3) := by decide +kernel
theorem dX0_takeFrom_24 : decode cX0_takeFrom 24 = .ok (.iconst 0, 1) := by decide +kernel
theorem dX0_takeFrom_25 : decode cX0_takeFrom 25 = .ok (.bipush 30, 2) := by decide +kernel
theorem dX0_takeFrom_27 : decode cX0_takeFrom 27 = .ok (.invokestatic 35, 3) := by decide +kernel
theorem dX0_takeFrom_30 : decode cX0_takeFrom 30 = .ok (.aload_n 1, 1) := by decide +kernel
theorem dX0_takeFrom_31 : decode cX0_takeFrom 31 = .ok (.getfield 18, 3) := by decide +kernel
theorem dX0_takeFrom_34 : decode cX0_takeFrom 34 = .ok (.iconst 0, 1) := by decide +kernel
theorem dX0_takeFrom_35 : decode cX0_takeFrom 35 = .ok (.aload_n 0, 1) := by decide +kernel
theorem dX0_takeFrom_36 : decode cX0_takeFrom 36 = .ok (.getfield 18, 3) := by decide +kernel
theorem dX0_takeFrom_39 : decode cX0_takeFrom 39 = .ok (.iconst 0, 1) := by decide +kernel
theorem dX0_takeFrom_40 : decode cX0_takeFrom 40 = .ok (.bipush 30, 2) := by decide +kernel
theorem dX0_takeFrom_42 : decode cX0_takeFrom 42 = .ok (.invokestatic 35, 3) := by decide +kernel
theorem dX0_takeFrom_45 : decode cX0_takeFrom 45 = .ok (.aload_n 1, 1) := by decide +kernel
theorem dX0_takeFrom_46 : decode cX0_takeFrom 46 = .ok (.getfield 21, 3) := by decide +kernel
theorem dX0_takeFrom_49 : decode cX0_takeFrom 49 = .ok (.iconst 0, 1) := by decide +kernel
theorem dX0_takeFrom_50 : decode cX0_takeFrom 50 = .ok (.aload_n 0, 1) := by decide +kernel
theorem dX0_takeFrom_51 : decode cX0_takeFrom 51 = .ok (.getfield 21, 3) := by decide +kernel
theorem dX0_takeFrom_54 : decode cX0_takeFrom 54 = .ok (.iconst 0, 1) := by decide +kernel
theorem dX0_takeFrom_55 : decode cX0_takeFrom 55 = .ok (.bipush 30, 2) := by decide +kernel
theorem dX0_takeFrom_57 : decode cX0_takeFrom 57 = .ok (.invokestatic 35, 3) := by decide +kernel
theorem dX0_takeFrom_60 : decode cX0_takeFrom 60 = .ok (.aload_n 1, 1) := by decide +kernel
theorem dX0_takeFrom_61 : decode cX0_takeFrom 61 = .ok (.getfield 24, 3) := by decide +kernel
theorem dX0_takeFrom_64 : decode cX0_takeFrom 64 = .ok (.iconst 0, 1) := by decide +kernel
theorem dX0_takeFrom_65 : decode cX0_takeFrom 65 = .ok (.aload_n 0, 1) := by decide +kernel
theorem dX0_takeFrom_66 : decode cX0_takeFrom 66 = .ok (.getfield 24, 3) := by decide +kernel
theorem dX0_takeFrom_69 : decode cX0_takeFrom 69 = .ok (.iconst 0, 1) := by decide +kernel
theorem dX0_takeFrom_70 : decode cX0_takeFrom 70 = .ok (.bipush 30, 2) := by decide +kernel
theorem dX0_takeFrom_72 : decode cX0_takeFrom 72 = .ok (.invokestatic 35, 3) := by decide +kernel
theorem dX0_takeFrom_75 : decode cX0_takeFrom 75 = .ok (.aload_n 0, 1) := by decide +kernel
theorem dX0_takeFrom_76 : decode cX0_takeFrom 76 = .ok (.aload_n 1, 1) := by decide +kernel
theorem dX0_takeFrom_77 : decode cX0_takeFrom 77 = .ok (.getfield 27, 3) := by decide +kernel
theorem dX0_takeFrom_80 : decode cX0_takeFrom 80 = .ok (.putfield 27, 3) := by decide +kernel
theorem dX0_takeFrom_83 : decode cX0_takeFrom 83 = .ok (.return_, 1) := by decide +kernel
theorem dX1_init_0 : decode cX1_init 0 = .ok (.aload_n 0, 1) := by decide +kernel
theorem dX1_init_1 : decode cX1_init 1 = .ok (.invokespecial 3, 3) := by decide +kernel
theorem dX1_init_4 : decode cX1_init 4 = .ok (.aload_n 0, 1) := by decide +kernel
theorem dX1_init_5 : decode cX1_init 5 = .ok (.sipush 600, 3) := by decide +kernel
theorem dX1_init_8 : decode cX1_init 8 = .ok (.newarray .byte, 2) := by decide +kernel
theorem dX1_init_10 : decode cX1_init 10 = .ok (.putfield 11, 3) := by decide +kernel
theorem dX1_init_13 : decode cX1_init 13 = .ok (.aload_n 0, 1) := by decide +kernel
theorem dX1_init_14 : decode cX1_init 14 = .ok (.iconst 0, 1) := by decide +kernel
theorem dX1_init_15 : decode cX1_init 15 = .ok (.putfield 15, 3) := by decide +kernel
theorem dX1_init_18 : decode cX1_init 18 = .ok (.return_, 1) := by decide +kernel
theorem dX1_hasRoomFor_0 : decode cX1_hasRoomFor 0 = .ok (.aload_n 0, 1) := by decide +kernel
theorem dX1_hasRoomFor_1 : decode cX1_hasRoomFor 1 = .ok (.getfield 15, 3) := by decide +kernel
theorem dX1_hasRoomFor_4 : decode cX1_hasRoomFor 4 = .ok (.iload_n 1, 1) := by decide +kernel
theorem dX1_hasRoomFor_5 : decode cX1_hasRoomFor 5 = .ok (.iadd, 1) := by decide +kernel
theorem dX1_hasRoomFor_6 : decode cX1_hasRoomFor 6 = .ok (.sipush 600, 3) := by decide +kernel
theorem dX1_hasRoomFor_9 : decode cX1_hasRoomFor 9 = .ok (.if_icmp .gt 7, 3) := by decide +kernel
theorem dX1_hasRoomFor_12 : decode cX1_hasRoomFor 12 = .ok (.iconst 1, 1) := by decide +kernel
theorem dX1_hasRoomFor_13 : decode cX1_hasRoomFor 13 = .ok (.goto 4, 3) := by decide +kernel
theorem dX1_hasRoomFor_16 : decode cX1_hasRoomFor 16 = .ok (.iconst 0, 1) := by decide +kernel
theorem dX1_hasRoomFor_17 : decode cX1_hasRoomFor 17 = .ok (.ireturn, 1) := by decide +kernel
theorem dX1_put_0 : decode cX1_put 0 = .ok (.aload_n 0, 1) := by decide +kernel
theorem dX1_put_1 : decode cX1_put 1 = .ok (.getfield 15, 3) := by decide +kernel
theorem dX1_put_4 : decode cX1_put 4 = .ok (.sipush 600, 3) := by decide +kernel
theorem dX1_put_7 : decode cX1_put 7 = .ok (.if_icmp .lt 4, 3) := by decide +kernel
theorem dX1_put_10 : decode cX1_put 10 = .ok (.return_, 1) := by decide +kernel
theorem dX1_put_11 : decode cX1_put 11 = .ok (.aload_n 0, 1) := by decide +kernel
theorem dX1_put_12 : decode cX1_put 12 = .ok (.getfield 11, 3) := by decide +kernel
theorem dX1_put_15 : decode cX1_put 15 = .ok (.aload_n 0, 1) := by decide +kernel
theorem dX1_put_16 : decode cX1_put 16 = .ok (.getfield 15, 3) := by decide +kernel
theorem dX1_put_19 : decode cX1_put 19 = .ok (.iload_n 1, 1) := by decide +kernel
theorem dX1_put_20 : decode cX1_put 20 = .ok (.i2b, 1) := by decide +kernel
theorem dX1_put_21 : decode cX1_put 21 = .ok (.bastore, 1) := by decide +kernel
theorem dX1_put_22 : decode cX1_put 22 = .ok (.aload_n 0, 1) := by decide +kernel
theorem dX1_put_23 : decode cX1_put 23 = .ok (.dup, 1) := by decide +kernel
theorem dX1_put_24 : decode cX1_put 24 = .ok (.getfield 15, 3) := by decide +kernel
theorem dX1_put_27 : decode cX1_put 27 = .ok (.iconst 1, 1) := by decide +kernel
theorem dX1_put_28 : decode cX1_put 28 = .ok (.iadd, 1) := by decide +kernel
theorem dX1_put_29 : decode cX1_put 29 = .ok (.putfield 15, 3) := by decide +kernel
theorem dX1_put_32 : decode cX1_put 32 = .ok (.return_, 1) := by decide +kernel
theorem dX1_putFour_0 : decode cX1_putFour 0 = .ok (.bipush 24, 2) := by decide +kernel
theorem dX1_putFour_2 : decode cX1_putFour 2 = .ok (.istore_n 2, 1) := by decide +kernel
theorem dX1_putFour_3 : decode cX1_putFour 3 = .ok (.iload_n 2, 1) := by decide +kernel
theorem dX1_putFour_4 : decode cX1_putFour 4 = .ok (.ifCond .lt 16, 3) := by decide +kernel
theorem dX1_putFour_7 : decode cX1_putFour 7 = .ok (.aload_n 0, 1) := by decide +kernel
theorem dX1_putFour_8 : decode cX1_putFour 8 = .ok (.iload_n 1, 1) := by decide +kernel
theorem dX1_putFour_9 : decode cX1_putFour 9 = .ok (.iload_n 2, 1) := by decide +kernel
theorem dX1_putFour_10 : decode cX1_putFour 10 = .ok (.iushr, 1) := by decide +kernel
theorem dX1_putFour_11 : decode cX1_putFour 11 = .ok (.invokevirtual 19, 3) := by decide +kernel
theorem dX1_putFour_14 : decode cX1_putFour 14 = .ok (.iinc 2 (-8), 3) := by decide +kernel
theorem dX1_putFour_17 : decode cX1_putFour 17 = .ok (.goto (-14), 3) := by decide +kernel
theorem dX1_putFour_20 : decode cX1_putFour 20 = .ok (.return_, 1) := by decide +kernel
theorem dX1_putText_0 : decode cX1_putText 0 = .ok (.iconst 0, 1) := by decide +kernel
theorem dX1_putText_1 : decode cX1_putText 1 = .ok (.istore_n 2, 1) := by decide +kernel
theorem dX1_putText_2 : decode cX1_putText 2 = .ok (.iload_n 2, 1) := by decide +kernel
theorem dX1_putText_3 : decode cX1_putText 3 = .ok (.aload_n 1, 1) := by decide +kernel
theorem dX1_putText_4 : decode cX1_putText 4 = .ok (.invokevirtual 23, 3) := by decide +kernel
theorem dX1_putText_7 : decode cX1_putText 7 = .ok (.if_icmp .ge 18, 3) := by decide +kernel
theorem dX1_putText_10 : decode cX1_putText 10 = .ok (.aload_n 0, 1) := by decide +kernel
theorem dX1_putText_11 : decode cX1_putText 11 = .ok (.aload_n 1, 1) := by decide +kernel
theorem dX1_putText_12 : decode cX1_putText 12 = .ok (.iload_n 2, 1) := by decide +kernel
theorem dX1_putText_13 : decode cX1_putText 13 = .ok (.invokevirtual 28, 3) := by decide +kernel
theorem dX1_putText_16 : decode cX1_putText 16 = .ok (.invokevirtual 19, 3) := by decide +kernel
theorem dX1_putText_19 : decode cX1_putText 19 = .ok (.iinc 2 1, 3) := by decide +kernel
theorem dX1_putText_22 : decode cX1_putText 22 = .ok (.goto (-20), 3) := by decide +kernel
theorem dX1_putText_25 : decode cX1_putText 25 = .ok (.return_, 1) := by decide +kernel
theorem dX1_at_0 : decode cX1_at 0 = .ok (.iload_n 1, 1) := by decide +kernel
theorem dX1_at_1 : decode cX1_at 1 = .ok (.ifCond .lt 24, 3) := by decide +kernel
theorem dX1_at_4 : decode cX1_at 4 = .ok (.iload_n 1, 1) := by decide +kernel
theorem dX1_at_5 : decode cX1_at 5 = .ok (.aload_n 0, 1) := by decide +kernel
theorem dX1_at_6 : decode cX1_at 6 = .ok (.getfield 15, 3) := by decide +kernel
theorem dX1_at_9 : decode cX1_at 9 = .ok (.if_icmp .ge 16, 3) := by decide +kernel
theorem dX1_at_12 : decode cX1_at 12 = .ok (.aload_n 0, 1) := by decide +kernel
theorem dX1_at_13 : decode cX1_at 13 = .ok (.getfield 11, 3) := by decide +kernel
theorem dX1_at_16 : decode cX1_at 16 = .ok (.iload_n 1, 1) := by decide +kernel
theorem dX1_at_17 : decode cX1_at 17 = .ok (.baload, 1) := by decide +kernel
theorem dX1_at_18 : decode cX1_at 18 = .ok (.sipush 255, 3) := by decide +kernel
theorem dX1_at_21 : decode cX1_at 21 = .ok (.iand, 1) := by decide +kernel
theorem dX1_at_22 : decode cX1_at 22 = .ok (.goto 4, 3) := by decide +kernel
theorem dX1_at_25 : decode cX1_at 25 = .ok (.iconst (-1), 1) := by decide +kernel
theorem dX1_at_26 : decode cX1_at 26 = .ok (.ireturn, 1) := by decide +kernel
theorem dX1_nameBetween_0 : decode cX1_nameBetween 0 = .ok (.iload_n 2, 1) := by decide +kernel
theorem dX1_nameBetween_1 : decode cX1_nameBetween 1 = .ok (.iload_n 1, 1) := by decide +kernel
theorem dX1_nameBetween_2 : decode cX1_nameBetween 2 = .ok (.isub, 1) := by decide +kernel
theorem dX1_nameBetween_3 : decode cX1_nameBetween 3 = .ok (.iconst 4, 1) := by decide +kernel
theorem dX1_nameBetween_4 : decode cX1_nameBetween 4 = .ok (.if_icmp .le 5, 3) := by decide +kernel
theorem dX1_nameBetween_7 : decode cX1_nameBetween 7 = .ok (.iconst 0, 1) := by decide +kernel
theorem dX1_nameBetween_8 : decode cX1_nameBetween 8 = .ok (.ireturn, 1) := by decide +kernel
theorem dX1_nameBetween_9 : decode cX1_nameBetween 9 = .ok (.iconst 0, 1) := by decide +kernel
theorem dX1_nameBetween_10 : decode cX1_nameBetween 10 = .ok (.istore_n 3, 1) := by decide +kernel
theorem dX1_nameBetween_11 : decode cX1_nameBetween 11 = .ok (.iload_n 1, 1) := by decide +kernel
theorem dX1_nameBetween_12 : decode cX1_nameBetween 12 = .ok (.istore 4, 2) := by decide +kernel
theorem dX1_nameBetween_14 : decode cX1_nameBetween 14 = .ok (.iload 4, 2) := by decide +kernel
theorem dX1_nameBetween_16 : decode cX1_nameBetween 16 = .ok (.iload_n 2, 1) := by decide +kernel
theorem dX1_nameBetween_17 : decode cX1_nameBetween 17 = .ok (.if_icmp .ge 35, 3) := by decide +kernel
theorem dX1_nameBetween_20 : decode cX1_nameBetween 20 = .ok (.aload_n 0, 1) := by decide +kernel
theorem dX1_nameBetween_21 : decode cX1_nameBetween 21 = .ok (.iload 4, 2) := by decide +kernel
theorem dX1_nameBetween_23 : decode cX1_nameBetween 23 = .ok (.invokevirtual 33, 3) := by decide +kernel
theorem dX1_nameBetween_26 : decode cX1_nameBetween 26 = .ok (.istore 5, 2) := by decide +kernel
theorem dX1_nameBetween_28 : decode cX1_nameBetween 28 = .ok (.iload 5, 2) := by decide +kernel
theorem dX1_nameBetween_30 : decode cX1_nameBetween 30 = .ok (.invokestatic 37, 3) := by decide +kernel
theorem dX1_nameBetween_33 : decode cX1_nameBetween 33 = .ok (.ifCond .ne 5, 3) := by decide +kernel
theorem dX1_nameBetween_36 : decode cX1_nameBetween 36 = .ok (.iconst 0, 1) := by decide +kernel
theorem dX1_nameBetween_37 : decode cX1_nameBetween 37 = .ok (.ireturn, 1) := by decide +kernel
theorem dX1_nameBetween_38 : decode cX1_nameBetween 38 = .ok (.iload_n 3, 1) := by decide +kernel
theorem dX1_nameBetween_39 : decode cX1_nameBetween 39 = .ok (.bipush 8, 2) := by decide +kernel
theorem dX1_nameBetween_41 : decode cX1_nameBetween 41 = .ok (.ishl, 1) := by decide +kernel
theorem dX1_nameBetween_42 : decode cX1_nameBetween 42 = .ok (.iload 5, 2) := by decide +kernel
theorem dX1_nameBetween_44 : decode cX1_nameBetween 44 = .ok (.ior, 1) := by decide +kernel
theorem dX1_nameBetween_45 : decode cX1_nameBetween 45 = .ok (.istore_n 3, 1) := by decide +kernel
theorem dX1_nameBetween_46 : decode cX1_nameBetween 46 = .ok (.iinc 4 1, 3) := by decide +kernel
theorem dX1_nameBetween_49 : decode cX1_nameBetween 49 = .ok (.goto (-35), 3) := by decide +kernel
theorem dX1_nameBetween_52 : decode cX1_nameBetween 52 = .ok (.iload_n 3, 1) := by decide +kernel
theorem dX1_nameBetween_53 : decode cX1_nameBetween 53 = .ok (.ireturn, 1) := by decide +kernel
theorem dX2_init_0 : decode cX2_init 0 = .ok (.aload_n 0, 1) := by decide +kernel
theorem dX2_init_1 : decode cX2_init 1 = .ok (.invokespecial 3, 3) := by decide +kernel
theorem dX2_init_4 : decode cX2_init 4 = .ok (.aload_n 0, 1) := by decide +kernel
theorem dX2_init_5 : decode cX2_init 5 = .ok (.bipush 6, 2) := by decide +kernel
theorem dX2_init_7 : decode cX2_init 7 = .ok (.newarray .int, 2) := by decide +kernel
theorem dX2_init_9 : decode cX2_init 9 = .ok (.putfield 9, 3) := by decide +kernel
theorem dX2_init_12 : decode cX2_init 12 = .ok (.aload_n 0, 1) := by decide +kernel
theorem dX2_init_13 : decode cX2_init 13 = .ok (.bipush 6, 2) := by decide +kernel
theorem dX2_init_15 : decode cX2_init 15 = .ok (.newarray .int, 2) := by decide +kernel
theorem dX2_init_17 : decode cX2_init 17 = .ok (.putfield 15, 3) := by decide +kernel
theorem dX2_init_20 : decode cX2_init 20 = .ok (.aload_n 0, 1) := by decide +kernel
theorem dX2_init_21 : decode cX2_init 21 = .ok (.bipush 6, 2) := by decide +kernel
theorem dX2_init_23 : decode cX2_init 23 = .ok (.newarray .int, 2) := by decide +kernel
theorem dX2_init_25 : decode cX2_init 25 = .ok (.putfield 18, 3) := by decide +kernel
theorem dX2_init_28 : decode cX2_init 28 = .ok (.aload_n 0, 1) := by decide +kernel
theorem dX2_init_29 : decode cX2_init 29 = .ok (.bipush 6, 2) := by decide +kernel
theorem dX2_init_31 : decode cX2_init 31 = .ok (.newarray .int, 2) := by decide +kernel
theorem dX2_init_33 : decode cX2_init 33 = .ok (.putfield 21, 3) := by decide +kernel
theorem dX2_init_36 : decode cX2_init 36 = .ok (.aload_n 0, 1) := by decide +kernel
theorem dX2_init_37 : decode cX2_init 37 = .ok (.bipush 6, 2) := by decide +kernel
theorem dX2_init_39 : decode cX2_init 39 = .ok (.newarray .int, 2) := by decide +kernel
theorem dX2_init_41 : decode cX2_init 41 = .ok (.putfield 24, 3) := by decide +kernel
theorem dX2_init_44 : decode cX2_init 44 = .ok (.aload_n 0, 1) := by decide +kernel
theorem dX2_init_45 : decode cX2_init 45 = .ok (.iconst 0, 1) := by decide +kernel
theorem dX2_init_46 : decode cX2_init 46 = .ok (.putfield 27, 3) := by decide +kernel
theorem dX2_init_49 : decode cX2_init 49 = .ok (.return_, 1) := by decide +kernel
theorem dX2_numberOf_0 : decode cX2_numberOf 0 = .ok (.aload_n 0, 1) := by decide +kernel
theorem dX2_numberOf_1 : decode cX2_numberOf 1 = .ok (.getfield 9, 3) := by decide +kernel
theorem dX2_numberOf_4 : decode cX2_numberOf 4 = .ok (.aload_n 0, 1) := by decide +kernel
theorem dX2_numberOf_5 : decode cX2_numberOf 5 = .ok (.getfield 27, 3) := by decide +kernel
theorem dX2_numberOf_8 : decode cX2_numberOf 8 = .ok (.iload_n 1, 1) := by decide +kernel
theorem dX2_numberOf_9 : decode cX2_numberOf 9 = .ok (.invokestatic 31, 3) := by decide +kernel
theorem dX2_numberOf_12 : decode cX2_numberOf 12 = .ok (.ireturn, 1) := by decide +kernel
theorem dX2_add_0 : decode cX2_add 0 = .ok (.aload_n 0, 1) := by decide +kernel
theorem dX2_add_1 : decode cX2_add 1 = .ok (.getfield 27, 3) := by decide +kernel
theorem dX2_add_4 : decode cX2_add 4 = .ok (.bipush 6, 2) := by decide +kernel
theorem dX2_add_6 : decode cX2_add 6 = .ok (.if_icmp .lt 4, 3) := by decide +kernel
theorem dX2_add_9 : decode cX2_add 9 = .ok (.return_, 1) := by decide +kernel
theorem dX2_add_10 : decode cX2_add 10 = .ok (.aload_n 0, 1) := by decide +kernel
theorem dX2_add_11 : decode cX2_add 11 = .ok (.getfield 9, 3) := by decide +kernel
theorem dX2_add_14 : decode cX2_add 14 = .ok (.aload_n 0, 1) := by decide +kernel
theorem dX2_add_15 : decode cX2_add 15 = .ok (.getfield 27, 3) := by decide +kernel
theorem dX2_add_18 : decode cX2_add 18 = .ok (.iload_n 1, 1) := by decide +kernel
theorem dX2_add_19 : decode cX2_add 19 = .ok (.iastore, 1) := by decide +kernel
theorem dX2_add_20 : decode cX2_add 20 = .ok (.aload_n 0, 1) := by decide +kernel
theorem dX2_add_21 : decode cX2_add 21 = .ok (.getfield 15, 3) := by decide +kernel
theorem dX2_add_24 : decode cX2_add 24 = .ok (.aload_n 0, 1) := by decide +kernel
theorem dX2_add_25 : decode cX2_add 25 = .ok (.getfield 27, 3) := by decide +kernel
theorem dX2_add_28 : decode cX2_add 28 = .ok (.iload_n 2, 1) := by decide +kernel
theorem dX2_add_29 : decode cX2_add 29 = .ok (.iastore, 1) := by decide +kernel
theorem dX2_add_30 : decode cX2_add 30 = .ok (.aload_n 0, 1) := by decide +kernel
theorem dX2_add_31 : decode cX2_add 31 = .ok (.getfield 18, 3) := by decide +kernel
theorem dX2_add_34 : decode cX2_add 34 = .ok (.aload_n 0, 1) := by decide +kernel
theorem dX2_add_35 : decode cX2_add 35 = .ok (.getfield 27, 3) := by decide +kernel
theorem dX2_add_38 : decode cX2_add 38 = .ok (.iload_n 3, 1) := by decide +kernel
theorem dX2_add_39 : decode cX2_add 39 = .ok (.iastore, 1) := by decide +kernel
theorem dX2_add_40 : decode cX2_add 40 = .ok (.aload_n 0, 1) := by decide +kernel
theorem dX2_add_41 : decode cX2_add 41 = .ok (.getfield 21, 3) := by decide +kernel
theorem dX2_add_44 : decode cX2_add 44 = .ok (.aload_n 0, 1) := by decide +kernel
theorem dX2_add_45 : decode cX2_add 45 = .ok (.getfield 27, 3) := by decide +kernel
theorem dX2_add_48 : decode cX2_add 48 = .ok (.iload 4, 2) := by decide +kernel
theorem dX2_add_50 : decode cX2_add 50 = .ok (.iastore, 1) := by decide +kernel
theorem dX2_add_51 : decode cX2_add 51 = .ok (.aload_n 0, 1) := by decide +kernel
theorem dX2_add_52 : decode cX2_add 52 = .ok (.getfield 24, 3) := by decide +kernel
theorem dX2_add_55 : decode cX2_add 55 = .ok (.aload_n 0, 1) := by decide +kernel
theorem dX2_add_56 : decode cX2_add 56 = .ok (.getfield 27, 3) := by decide +kernel
theorem dX2_add_59 : decode cX2_add 59 = .ok (.iload 5, 2) := by decide +kernel
theorem dX2_add_61 : decode cX2_add 61 = .ok (.iastore, 1) := by decide +kernel
theorem dX2_add_62 : decode cX2_add 62 = .ok (.aload_n 0, 1) := by decide +kernel
theorem dX2_add_63 : decode cX2_add 63 = .ok (.dup, 1) := by decide +kernel
theorem dX2_add_64 : decode cX2_add 64 = .ok (.getfield 27, 3) := by decide +kernel
theorem dX2_add_67 : decode cX2_add 67 = .ok (.iconst 1, 1) := by decide +kernel
theorem dX2_add_68 : decode cX2_add 68 = .ok (.iadd, 1) := by decide +kernel
theorem dX2_add_69 : decode cX2_add 69 = .ok (.putfield 27, 3) := by decide +kernel
theorem dX2_add_72 : decode cX2_add 72 = .ok (.return_, 1) := by decide +kernel
theorem dX2_isHeld_0 : decode cX2_isHeld 0 = .ok (.aload_n 0, 1) := by decide +kernel
theorem dX2_isHeld_1 : decode cX2_isHeld 1 = .ok (.getfield 18, 3) := by decide +kernel
theorem dX2_isHeld_4 : decode cX2_isHeld 4 = .ok (.iload_n 1, 1) := by decide +kernel
theorem dX2_isHeld_5 : decode cX2_isHeld 5 = .ok (.iaload, 1) := by decide +kernel
theorem dX2_isHeld_6 : decode cX2_isHeld 6 = .ok (.istore_n 3, 1) := by decide +kernel
theorem dX2_isHeld_7 : decode cX2_isHeld 7 = .ok (.iload_n 3, 1) := by decide +kernel
theorem dX2_isHeld_8 : decode cX2_isHeld 8 = .ok (.iconst 1, 1) := by decide +kernel
theorem dX2_isHeld_9 : decode cX2_isHeld 9 = .ok (.if_icmp .lt 15, 3) := by decide +kernel
theorem dX2_isHeld_12 : decode cX2_isHeld 12 = .ok (.iload_n 2, 1) := by decide +kernel
theorem dX2_isHeld_13 : decode cX2_isHeld 13 = .ok (.iload_n 1, 1) := by decide +kernel
theorem dX2_isHeld_14 : decode cX2_isHeld 14 = .ok (.iadd, 1) := by decide +kernel
theorem dX2_isHeld_15 : decode cX2_isHeld 15 = .ok (.iload_n 3, 1) := by decide +kernel
theorem dX2_isHeld_16 : decode cX2_isHeld 16 = .ok (.irem, 1) := by decide +kernel
theorem dX2_isHeld_17 : decode cX2_isHeld 17 = .ok (.ifCond .ne 7, 3) := by decide +kernel
theorem dX2_isHeld_20 : decode cX2_isHeld 20 = .ok (.iconst 1, 1) := by decide +kernel
theorem dX2_isHeld_21 : decode cX2_isHeld 21 = .ok (.goto 4, 3) := by decide +kernel
theorem dX2_isHeld_24 : decode cX2_isHeld 24 = .ok (.iconst 0, 1) := by decide +kernel
theorem dX2_isHeld_25 : decode cX2_isHeld 25 = .ok (.ireturn, 1) := by decide +kernel
theorem dX2_takeFrom_0 : decode cX2_takeFrom 0 = .ok (.aload_n 1, 1) := by decide +kernel
theorem dX2_takeFrom_1 : decode cX2_takeFrom 1 = .ok (.getfield 9, 3) := by decide +kernel
theorem dX2_takeFrom_4 : decode cX2_takeFrom 4 = .ok (.iconst 0, 1) := by decide +kernel
theorem dX2_takeFrom_5 : decode cX2_takeFrom 5 = .ok (.aload_n 0, 1) := by decide +kernel
theorem dX2_takeFrom_6 : decode cX2_takeFrom 6 = .ok (.getfield 9, 3) := by decide +kernel
theorem dX2_takeFrom_9 : decode cX2_takeFrom 9 = .ok (.iconst 0, 1) := by decide +kernel
theorem dX2_takeFrom_10 : decode cX2_takeFrom 10 = .ok (.bipush 6, 2) := by decide +kernel
theorem dX2_takeFrom_12 : decode cX2_takeFrom 12 = .ok (.invokestatic 35, 3) := by decide +kernel
theorem dX2_takeFrom_15 : decode cX2_takeFrom 15 = .ok (.aload_n 1, 1) := by decide +kernel
theorem dX2_takeFrom_16 : decode cX2_takeFrom 16 = .ok (.getfield 15, 3) := by decide +kernel
theorem dX2_takeFrom_19 : decode cX2_takeFrom 19 = .ok (.iconst 0, 1) := by decide +kernel
theorem dX2_takeFrom_20 : decode cX2_takeFrom 20 = .ok (.aload_n 0, 1) := by decide +kernel
theorem dX2_takeFrom_21 : decode cX2_takeFrom 21 = .ok (.getfield 15, 3) := by decide +kernel
theorem dX2_takeFrom_24 : decode cX2_takeFrom 24 = .ok (.iconst 0, 1) := by decide +kernel
theorem dX2_takeFrom_25 : decode cX2_takeFrom 25 = .ok (.bipush 6, 2) := by decide +kernel
theorem dX2_takeFrom_27 : decode cX2_takeFrom 27 = .ok (.invokestatic 35, 3) := by decide +kernel
theorem dX2_takeFrom_30 : decode cX2_takeFrom 30 = .ok (.aload_n 1, 1) := by decide +kernel
theorem dX2_takeFrom_31 : decode cX2_takeFrom 31 = .ok (.getfield 18, 3) := by decide +kernel
theorem dX2_takeFrom_34 : decode cX2_takeFrom 34 = .ok (.iconst 0, 1) := by decide +kernel
theorem dX2_takeFrom_35 : decode cX2_takeFrom 35 = .ok (.aload_n 0, 1) := by decide +kernel
theorem dX2_takeFrom_36 : decode cX2_takeFrom 36 = .ok (.getfield 18, 3) := by decide +kernel
theorem dX2_takeFrom_39 : decode cX2_takeFrom 39 = .ok (.iconst 0, 1) := by decide +kernel
theorem dX2_takeFrom_40 : decode cX2_takeFrom 40 = .ok (.bipush 6, 2) := by decide +kernel
theorem dX2_takeFrom_42 : decode cX2_takeFrom 42 = .ok (.invokestatic 35, 3) := by decide +kernel
theorem dX2_takeFrom_45 : decode cX2_takeFrom 45 = .ok (.aload_n 1, 1) := by decide +kernel
theorem dX2_takeFrom_46 : decode cX2_takeFrom 46 = .ok (.getfield 21, 3) := by decide +kernel
theorem dX2_takeFrom_49 : decode cX2_takeFrom 49 = .ok (.iconst 0, 1) := by decide +kernel
theorem dX2_takeFrom_50 : decode cX2_takeFrom 50 = .ok (.aload_n 0, 1) := by decide +kernel
theorem dX2_takeFrom_51 : decode cX2_takeFrom 51 = .ok (.getfield 21, 3) := by decide +kernel
theorem dX2_takeFrom_54 : decode cX2_takeFrom 54 = .ok (.iconst 0, 1) := by decide +kernel
theorem dX2_takeFrom_55 : decode cX2_takeFrom 55 = .ok (.bipush 6, 2) := by decide +kernel
theorem dX2_takeFrom_57 : decode cX2_takeFrom 57 = .ok (.invokestatic 35, 3) := by decide +kernel
theorem dX2_takeFrom_60 : decode cX2_takeFrom 60 = .ok (.aload_n 1, 1) := by decide +kernel
theorem dX2_takeFrom_61 : decode cX2_takeFrom 61 = .ok (.getfield 24, 3) := by decide +kernel
theorem dX2_takeFrom_64 : decode cX2_takeFrom 64 = .ok (.iconst 0, 1) := by decide +kernel
theorem dX2_takeFrom_65 : decode cX2_takeFrom 65 = .ok (.aload_n 0, 1) := by decide +kernel
theorem dX2_takeFrom_66 : decode cX2_takeFrom 66 = .ok (.getfield 24, 3) := by decide +kernel
theorem dX2_takeFrom_69 : decode cX2_takeFrom 69 = .ok (.iconst 0, 1) := by decide +kernel
theorem dX2_takeFrom_70 : decode cX2_takeFrom 70 = .ok (.bipush 6, 2) := by decide +kernel
theorem dX2_takeFrom_72 : decode cX2_takeFrom 72 = .ok (.invokestatic 35, 3) := by decide +kernel
theorem dX2_takeFrom_75 : decode cX2_takeFrom 75 = .ok (.aload_n 0, 1) := by decide +kernel
theorem dX2_takeFrom_76 : decode cX2_takeFrom 76 = .ok (.aload_n 1, 1) := by decide +kernel
theorem dX2_takeFrom_77 : decode cX2_takeFrom 77 = .ok (.getfield 27, 3) := by decide +kernel
theorem dX2_takeFrom_80 : decode cX2_takeFrom 80 = .ok (.putfield 27, 3) := by decide +kernel
theorem dX2_takeFrom_83 : decode cX2_takeFrom 83 = .ok (.return_, 1) := by decide +kernel
theorem dX3_init_0 : decode cX3_init 0 = .ok (.aload_n 0, 1) := by decide +kernel
theorem dX3_init_1 : decode cX3_init 1 = .ok (.invokespecial 1, 3) := by decide +kernel
theorem dX3_init_4 : decode cX3_init 4 = .ok (.aload_n 0, 1) := by decide +kernel
theorem dX3_init_5 : decode cX3_init 5 = .ok (.bipush 8, 2) := by decide +kernel
theorem dX3_init_7 : decode cX3_init 7 = .ok (.anewarray 9, 3) := by decide +kernel
theorem dX3_init_10 : decode cX3_init 10 = .ok (.putfield 11, 3) := by decide +kernel
theorem dX3_init_13 : decode cX3_init 13 = .ok (.aload_n 0, 1) := by decide +kernel
theorem dX3_init_14 : decode cX3_init 14 = .ok (.iconst 0, 1) := by decide +kernel
theorem dX3_init_15 : decode cX3_init 15 = .ok (.putfield 15, 3) := by decide +kernel
theorem dX3_init_18 : decode cX3_init 18 = .ok (.aload_n 0, 1) := by decide +kernel
theorem dX3_init_19 : decode cX3_init 19 = .ok (.iconst 0, 1) := by decide +kernel
theorem dX3_init_20 : decode cX3_init 20 = .ok (.putfield 19, 3) := by decide +kernel
theorem dX3_init_23 : decode cX3_init 23 = .ok (.iconst 0, 1) := by decide +kernel
theorem dX3_init_24 : decode cX3_init 24 = .ok (.istore_n 1, 1) := by decide +kernel
theorem dX3_init_25 : decode cX3_init 25 = .ok (.iload_n 1, 1) := by decide +kernel
theorem dX3_init_26 : decode cX3_init 26 = .ok (.bipush 8, 2) := by decide +kernel
theorem dX3_init_28 : decode cX3_init 28 = .ok (.if_icmp .ge 22, 3) := by decide +kernel
theorem dX3_init_31 : decode cX3_init 31 = .ok (.aload_n 0, 1) := by decide +kernel
theorem dX3_init_32 : decode cX3_init 32 = .ok (.getfield 11, 3) := by decide +kernel
theorem dX3_init_35 : decode cX3_init 35 = .ok (.iload_n 1, 1) := by decide +kernel
theorem dX3_init_36 : decode cX3_init 36 = .ok (.new 9, 3) := by decide +kernel
theorem dX3_init_39 : decode cX3_init 39 = .ok (.dup, 1) := by decide +kernel
theorem dX3_init_40 : decode cX3_init 40 = .ok (.invokespecial 22, 3) := by decide +kernel
theorem dX3_init_43 : decode cX3_init 43 = .ok (.aastore, 1) := by decide +kernel
theorem dX3_init_44 : decode cX3_init 44 = .ok (.iinc 1 1, 3) := by decide +kernel
theorem dX3_init_47 : decode cX3_init 47 = .ok (.goto (-22), 3) := by decide +kernel
theorem dX3_init_50 : decode cX3_init 50 = .ok (.return_, 1) := by decide +kernel
theorem dX3_remember_0 : decode cX3_remember 0 = .ok (.aload_n 0, 1) := by decide +kernel
theorem dX3_remember_1 : decode cX3_remember 1 = .ok (.getfield 11, 3) := by decide +kernel
theorem dX3_remember_4 : decode cX3_remember 4 = .ok (.aload_n 0, 1) := by decide +kernel
theorem dX3_remember_5 : decode cX3_remember 5 = .ok (.getfield 15, 3) := by decide +kernel
theorem dX3_remember_8 : decode cX3_remember 8 = .ok (.aaload, 1) := by decide +kernel
theorem dX3_remember_9 : decode cX3_remember 9 = .ok (.aload_n 1, 1) := by decide +kernel
theorem dX3_remember_10 : decode cX3_remember 10 = .ok (.invokevirtual 23, 3) := by decide +kernel
theorem dX3_remember_13 : decode cX3_remember 13 = .ok (.aload_n 0, 1) := by decide +kernel
theorem dX3_remember_14 : decode cX3_remember 14 = .ok (.aload_n 0, 1) := by decide +kernel
theorem dX3_remember_15 : decode cX3_remember 15 = .ok (.getfield 15, 3) := by decide +kernel
theorem dX3_remember_18 : decode cX3_remember 18 = .ok (.iconst 1, 1) := by decide +kernel
theorem dX3_remember_19 : decode cX3_remember 19 = .ok (.iadd, 1) := by decide +kernel
theorem dX3_remember_20 : decode cX3_remember 20 = .ok (.bipush 8, 2) := by decide +kernel
theorem dX3_remember_22 : decode cX3_remember 22 = .ok (.irem, 1) := by decide +kernel
theorem dX3_remember_23 : decode cX3_remember 23 = .ok (.putfield 15, 3) := by decide +kernel
theorem dX3_remember_26 : decode cX3_remember 26 = .ok (.aload_n 0, 1) := by decide +kernel
theorem dX3_remember_27 : decode cX3_remember 27 = .ok (.getfield 19, 3) := by decide +kernel
theorem dX3_remember_30 : decode cX3_remember 30 = .ok (.bipush 8, 2) := by decide +kernel
theorem dX3_remember_32 : decode cX3_remember 32 = .ok (.if_icmp .ge 13, 3) := by decide +kernel
theorem dX3_remember_35 : decode cX3_remember 35 = .ok (.aload_n 0, 1) := by decide +kernel
theorem dX3_remember_36 : decode cX3_remember 36 = .ok (.dup, 1) := by decide +kernel
theorem dX3_remember_37 : decode cX3_remember 37 = .ok (.getfield 19, 3) := by decide +kernel
theorem dX3_remember_40 : decode cX3_remember 40 = .ok (.iconst 1, 1) := by decide +kernel
theorem dX3_remember_41 : decode cX3_remember 41 = .ok (.iadd, 1) := by decide +kernel
theorem dX3_remember_42 : decode cX3_remember 42 = .ok (.putfield 19, 3) := by decide +kernel
theorem dX3_remember_45 : decode cX3_remember 45 = .ok (.return_, 1) := by decide +kernel
theorem dX4_init_0 : decode cX4_init 0 = .ok (.aload_n 0, 1) := by decide +kernel
theorem dX4_init_1 : decode cX4_init 1 = .ok (.invokespecial 1, 3) := by decide +kernel
theorem dX4_init_4 : decode cX4_init 4 = .ok (.aload_n 0, 1) := by decide +kernel
theorem dX4_init_5 : decode cX4_init 5 = .ok (.bipush 10, 2) := by decide +kernel
theorem dX4_init_7 : decode cX4_init 7 = .ok (.newarray .int, 2) := by decide +kernel
theorem dX4_init_9 : decode cX4_init 9 = .ok (.putfield 9, 3) := by decide +kernel
theorem dX4_init_12 : decode cX4_init 12 = .ok (.aload_n 0, 1) := by decide +kernel
theorem dX4_init_13 : decode cX4_init 13 = .ok (.iconst 0, 1) := by decide +kernel
theorem dX4_init_14 : decode cX4_init 14 = .ok (.putfield 13, 3) := by decide +kernel
theorem dX4_init_17 : decode cX4_init 17 = .ok (.return_, 1) := by decide +kernel
theorem dX4_add_0 : decode cX4_add 0 = .ok (.aload_n 0, 1) := by decide +kernel
theorem dX4_add_1 : decode cX4_add 1 = .ok (.getfield 13, 3) := by decide +kernel
theorem dX4_add_4 : decode cX4_add 4 = .ok (.bipush 10, 2) := by decide +kernel
theorem dX4_add_6 : decode cX4_add 6 = .ok (.if_icmp .lt 24, 3) := by decide +kernel
theorem dX4_add_9 : decode cX4_add 9 = .ok (.aload_n 0, 1) := by decide +kernel
theorem dX4_add_10 : decode cX4_add 10 = .ok (.getfield 9, 3) := by decide +kernel
theorem dX4_add_13 : decode cX4_add 13 = .ok (.iconst 1, 1) := by decide +kernel
theorem dX4_add_14 : decode cX4_add 14 = .ok (.aload_n 0, 1) := by decide +kernel
theorem dX4_add_15 : decode cX4_add 15 = .ok (.getfield 9, 3) := by decide +kernel
theorem dX4_add_18 : decode cX4_add 18 = .ok (.iconst 0, 1) := by decide +kernel
theorem dX4_add_19 : decode cX4_add 19 = .ok (.bipush 9, 2) := by decide +kernel
theorem dX4_add_21 : decode cX4_add 21 = .ok (.invokestatic 17, 3) := by decide +kernel
theorem dX4_add_24 : decode cX4_add 24 = .ok (.aload_n 0, 1) := by decide +kernel
theorem dX4_add_25 : decode cX4_add 25 = .ok (.bipush 9, 2) := by decide +kernel
theorem dX4_add_27 : decode cX4_add 27 = .ok (.putfield 13, 3) := by decide +kernel
theorem dX4_add_30 : decode cX4_add 30 = .ok (.aload_n 0, 1) := by decide +kernel
theorem dX4_add_31 : decode cX4_add 31 = .ok (.getfield 9, 3) := by decide +kernel
theorem dX4_add_34 : decode cX4_add 34 = .ok (.aload_n 0, 1) := by decide +kernel
theorem dX4_add_35 : decode cX4_add 35 = .ok (.getfield 13, 3) := by decide +kernel
theorem dX4_add_38 : decode cX4_add 38 = .ok (.iload_n 1, 1) := by decide +kernel
theorem dX4_add_39 : decode cX4_add 39 = .ok (.iload_n 2, 1) := by decide +kernel
theorem dX4_add_40 : decode cX4_add 40 = .ok (.invokestatic 23, 3) := by decide +kernel
theorem dX4_add_43 : decode cX4_add 43 = .ok (.iastore, 1) := by decide +kernel
theorem dX4_add_44 : decode cX4_add 44 = .ok (.aload_n 0, 1) := by decide +kernel
theorem dX4_add_45 : decode cX4_add 45 = .ok (.dup, 1) := by decide +kernel
theorem dX4_add_46 : decode cX4_add 46 = .ok (.getfield 13, 3) := by decide +kernel
theorem dX4_add_49 : decode cX4_add 49 = .ok (.iconst 1, 1) := by decide +kernel
theorem dX4_add_50 : decode cX4_add 50 = .ok (.iadd, 1) := by decide +kernel
theorem dX4_add_51 : decode cX4_add 51 = .ok (.putfield 13, 3) := by decide +kernel
theorem dX4_add_54 : decode cX4_add 54 = .ok (.return_, 1) := by decide +kernel
theorem dX4_takeFrom_0 : decode cX4_takeFrom 0 = .ok (.aload_n 1, 1) := by decide +kernel
theorem dX4_takeFrom_1 : decode cX4_takeFrom 1 = .ok (.getfield 9, 3) := by decide +kernel
theorem dX4_takeFrom_4 : decode cX4_takeFrom 4 = .ok (.iconst 0, 1) := by decide +kernel
theorem dX4_takeFrom_5 : decode cX4_takeFrom 5 = .ok (.aload_n 0, 1) := by decide +kernel
theorem dX4_takeFrom_6 : decode cX4_takeFrom 6 = .ok (.getfield 9, 3) := by decide +kernel
theorem dX4_takeFrom_9 : decode cX4_takeFrom 9 = .ok (.iconst 0, 1) := by decide +kernel
theorem dX4_takeFrom_10 : decode cX4_takeFrom 10 = .ok (.bipush 10, 2) := by decide +kernel
theorem dX4_takeFrom_12 : decode cX4_takeFrom 12 = .ok (.invokestatic 17, 3) := by decide +kernel
theorem dX4_takeFrom_15 : decode cX4_takeFrom 15 = .ok (.aload_n 0, 1) := by decide +kernel
theorem dX4_takeFrom_16 : decode cX4_takeFrom 16 = .ok (.aload_n 1, 1) := by decide +kernel
theorem dX4_takeFrom_17 : decode cX4_takeFrom 17 = .ok (.getfield 13, 3) := by decide +kernel
theorem dX4_takeFrom_20 : decode cX4_takeFrom 20 = .ok (.putfield 13, 3) := by decide +kernel
theorem dX4_takeFrom_23 : decode cX4_takeFrom 23 = .ok (.return_, 1) := by decide +kernel
theorem dX5_init_0 : decode cX5_init 0 = .ok (.aload_n 0, 1) := by decide +kernel
theorem dX5_init_1 : decode cX5_init 1 = .ok (.invokespecial 3, 3) := by decide +kernel
theorem dX5_init_4 : decode cX5_init 4 = .ok (.aload_n 0, 1) := by decide +kernel
theorem dX5_init_5 : decode cX5_init 5 = .ok (.iconst 0, 1) := by decide +kernel
theorem dX5_init_6 : decode cX5_init 6 = .ok (.putfield 9, 3) := by decide +kernel
theorem dX5_init_9 : decode cX5_init 9 = .ok (.aload_n 0, 1) := by decide +kernel
theorem dX5_init_10 : decode cX5_init 10 = .ok (.iconst (-1), 1) := by decide +kernel
theorem dX5_init_11 : decode cX5_init 11 = .ok (.putfield 15, 3) := by decide +kernel
theorem dX5_init_14 : decode cX5_init 14 = .ok (.aload_n 0, 1) := by decide +kernel
theorem dX5_init_15 : decode cX5_init 15 = .ok (.new 18, 3) := by decide +kernel
theorem dX5_init_18 : decode cX5_init 18 = .ok (.dup, 1) := by decide +kernel
theorem dX5_init_19 : decode cX5_init 19 = .ok (.aload_n 1, 1) := by decide +kernel
theorem dX5_init_20 : decode cX5_init 20 = .ok (.invokespecial 20, 3) := by decide +kernel
theorem dX5_init_23 : decode cX5_init 23 = .ok (.putfield 23, 3) := by decide +kernel
theorem dX5_init_26 : decode cX5_init 26 = .ok (.aload_n 0, 1) := by decide +kernel
theorem dX5_init_27 : decode cX5_init 27 = .ok (.aload_n 2, 1) := by decide +kernel
theorem dX5_init_28 : decode cX5_init 28 = .ok (.putfield 27, 3) := by decide +kernel
theorem dX5_init_31 : decode cX5_init 31 = .ok (.return_, 1) := by decide +kernel
theorem dX5_readText_0 : decode cX5_readText 0 = .ok (.aload_n 0, 1) := by decide +kernel
theorem dX5_readText_1 : decode cX5_readText 1 = .ok (.invokevirtual 31, 3) := by decide +kernel
theorem dX5_readText_4 : decode cX5_readText 4 = .ok (.ifCond .ne 5, 3) := by decide +kernel
theorem dX5_readText_7 : decode cX5_readText 7 = .ok (.iconst 0, 1) := by decide +kernel
theorem dX5_readText_8 : decode cX5_readText 8 = .ok (.ireturn, 1) := by decide +kernel
theorem dX5_readText_9 : decode cX5_readText 9 = .ok (.aload_n 0, 1) := by decide +kernel
theorem dX5_readText_10 : decode cX5_readText 10 = .ok (.getfield 23, 3) := by decide +kernel
theorem dX5_readText_13 : decode cX5_readText 13 = .ok (.invokevirtual 35, 3) := by decide +kernel
theorem dX5_readText_16 : decode cX5_readText 16 = .ok (.iconst 0, 1) := by decide +kernel
theorem dX5_readText_17 : decode cX5_readText 17 = .ok (.istore_n 1, 1) := by decide +kernel
theorem dX5_readText_18 : decode cX5_readText 18 = .ok (.iload_n 1, 1) := by decide +kernel
theorem dX5_readText_19 : decode cX5_readText 19 = .ok (.sipush 600, 3) := by decide +kernel
theorem dX5_readText_22 : decode cX5_readText 22 = .ok (.if_icmp .ge 35, 3) := by decide +kernel
theorem dX5_readText_25 : decode cX5_readText 25 = .ok (.aload_n 0, 1) := by decide +kernel
theorem dX5_readText_26 : decode cX5_readText 26 = .ok (.getfield 23, 3) := by decide +kernel
theorem dX5_readText_29 : decode cX5_readText 29 = .ok (.getfield 40, 3) := by decide +kernel
theorem dX5_readText_32 : decode cX5_readText 32 = .ok (.ifCond .eq 25, 3) := by decide +kernel
theorem dX5_readText_35 : decode cX5_readText 35 = .ok (.aload_n 0, 1) := by decide +kernel
theorem dX5_readText_36 : decode cX5_readText 36 = .ok (.invokevirtual 43, 3) := by decide +kernel
theorem dX5_readText_39 : decode cX5_readText 39 = .ok (.ifCond .ne 5, 3) := by decide +kernel
theorem dX5_readText_42 : decode cX5_readText 42 = .ok (.iconst 0, 1) := by decide +kernel
theorem dX5_readText_43 : decode cX5_readText 43 = .ok (.ireturn, 1) := by decide +kernel
theorem dX5_readText_44 : decode cX5_readText 44 = .ok (.aload_n 0, 1) := by decide +kernel
theorem dX5_readText_45 : decode cX5_readText 45 = .ok (.getfield 23, 3) := by decide +kernel
theorem dX5_readText_48 : decode cX5_readText 48 = .ok (.invokevirtual 35, 3) := by decide +kernel
theorem dX5_readText_51 : decode cX5_readText 51 = .ok (.iinc 1 1, 3) := by decide +kernel
theorem dX5_readText_54 : decode cX5_readText 54 = .ok (.goto (-36), 3) := by decide +kernel
theorem dX5_readText_57 : decode cX5_readText 57 = .ok (.iconst 1, 1) := by decide +kernel
theorem dX5_readText_58 : decode cX5_readText 58 = .ok (.ireturn, 1) := by decide +kernel
theorem dX5_readAlmanac_0 : decode cX5_readAlmanac 0 = .ok (.aload_n 0, 1) := by decide +kernel
theorem dX5_readAlmanac_1 : decode cX5_readAlmanac 1 = .ok (.getfield 23, 3) := by decide +kernel
theorem dX5_readAlmanac_4 : decode cX5_readAlmanac 4 = .ok (.invokevirtual 35, 3) := by decide +kernel
theorem dX5_readAlmanac_7 : decode cX5_readAlmanac 7 = .ok (.aload_n 0, 1) := by decide +kernel
theorem dX5_readAlmanac_8 : decode cX5_readAlmanac 8 = .ok (.getfield 23, 3) := by decide +kernel
theorem dX5_readAlmanac_11 : decode cX5_readAlmanac 11 = .ok (.ldc 46, 2) := by decide +kernel
theorem dX5_readAlmanac_13 : decode cX5_readAlmanac 13 = .ok (.invokevirtual 48, 3) := by decide +kernel
theorem dX5_readAlmanac_16 : decode cX5_readAlmanac 16 = .ok (.ifCond .ne 9, 3) := by decide +kernel
theorem dX5_readAlmanac_19 : decode cX5_readAlmanac 19 = .ok (.aload_n 0, 1) := by decide +kernel
theorem dX5_readAlmanac_20 : decode cX5_readAlmanac 20 = .ok (.iconst 1, 1) := by decide +kernel
theorem dX5_readAlmanac_21 : decode cX5_readAlmanac 21 = .ok (.invokevirtual 52, 3) := by decide +kernel
theorem dX5_readAlmanac_24 : decode cX5_readAlmanac 24 = .ok (.ireturn, 1) := by decide +kernel
theorem dX5_readAlmanac_25 : decode cX5_readAlmanac 25 = .ok (.aload_n 0, 1) := by decide +kernel
theorem dX5_readAlmanac_26 : decode cX5_readAlmanac 26 = .ok (.iconst 0, 1) := by decide +kernel
theorem dX5_readAlmanac_27 : decode cX5_readAlmanac 27 = .ok (.sipush 1023, 3) := by decide +kernel
theorem dX5_readAlmanac_30 : decode cX5_readAlmanac 30 = .ok (.invokevirtual 56, 3) := by decide +kernel
theorem dX5_readAlmanac_33 : decode cX5_readAlmanac 33 = .ok (.ifCond .ne 5, 3) := by decide +kernel
theorem dX5_readAlmanac_36 : decode cX5_readAlmanac 36 = .ok (.iconst 0, 1) := by decide +kernel
theorem dX5_readAlmanac_37 : decode cX5_readAlmanac 37 = .ok (.ireturn, 1) := by decide +kernel
theorem dX5_readAlmanac_38 : decode cX5_readAlmanac 38 = .ok (.aload_n 0, 1) := by decide +kernel
theorem dX5_readAlmanac_39 : decode cX5_readAlmanac 39 = .ok (.getfield 27, 3) := by decide +kernel
theorem dX5_readAlmanac_42 : decode cX5_readAlmanac 42 = .ok (.getfield 60, 3) := by decide +kernel
theorem dX5_readAlmanac_45 : decode cX5_readAlmanac 45 = .ok (.aload_n 0, 1) := by decide +kernel
theorem dX5_readAlmanac_46 : decode cX5_readAlmanac 46 = .ok (.getfield 23, 3) := by decide +kernel
theorem dX5_readAlmanac_49 : decode cX5_readAlmanac 49 = .ok (.getfield 66, 3) := by decide +kernel
theorem dX5_readAlmanac_52 : decode cX5_readAlmanac 52 = .ok (.putfield 69, 3) := by decide +kernel
theorem dX5_readAlmanac_55 : decode cX5_readAlmanac 55 = .ok (.iconst 0, 1) := by decide +kernel
theorem dX5_readAlmanac_56 : decode cX5_readAlmanac 56 = .ok (.istore_n 1, 1) := by decide +kernel
theorem dX5_readAlmanac_57 : decode cX5_readAlmanac 57 = .ok (.iload_n 1, 1) := by decide +kernel
theorem dX5_readAlmanac_58 : decode cX5_readAlmanac 58 = .ok (.iconst 2, 1) := by decide +kernel
theorem dX5_readAlmanac_59 : decode cX5_readAlmanac 59 = .ok (.if_icmp .gt 40, 3) := by decide +kernel
theorem dX5_readAlmanac_62 : decode cX5_readAlmanac 62 = .ok (.aload_n 0, 1) := by decide +kernel
theorem dX5_readAlmanac_63 : decode cX5_readAlmanac 63 = .ok (.iconst 0, 1) := by decide +kernel
theorem dX5_readAlmanac_64 : decode cX5_readAlmanac 64 = .ok (.bipush 20, 2) := by decide +kernel
theorem dX5_readAlmanac_66 : decode cX5_readAlmanac 66 = .ok (.invokevirtual 56, 3) := by decide +kernel
theorem dX5_readAlmanac_69 : decode cX5_readAlmanac 69 = .ok (.ifCond .ne 5, 3) := by decide +kernel
theorem dX5_readAlmanac_72 : decode cX5_readAlmanac 72 = .ok (.iconst 0, 1) := by decide +kernel
theorem dX5_readAlmanac_73 : decode cX5_readAlmanac 73 = .ok (.ireturn, 1) := by decide +kernel
theorem dX5_readAlmanac_74 : decode cX5_readAlmanac 74 = .ok (.aload_n 0, 1) := by decide +kernel
theorem dX5_readAlmanac_75 : decode cX5_readAlmanac 75 = .ok (.getfield 27, 3) := by decide +kernel
theorem dX5_readAlmanac_78 : decode cX5_readAlmanac 78 = .ok (.getfield 60, 3) := by decide +kernel
theorem dX5_readAlmanac_81 : decode cX5_readAlmanac 81 = .ok (.getfield 74, 3) := by decide +kernel
theorem dX5_readAlmanac_84 : decode cX5_readAlmanac 84 = .ok (.iload_n 1, 1) := by decide +kernel
theorem dX5_readAlmanac_85 : decode cX5_readAlmanac 85 = .ok (.aload_n 0, 1) := by decide +kernel
theorem dX5_readAlmanac_86 : decode cX5_readAlmanac 86 = .ok (.getfield 23, 3) := by decide +kernel
theorem dX5_readAlmanac_89 : decode cX5_readAlmanac 89 = .ok (.getfield 66, 3) := by decide +kernel
theorem dX5_readAlmanac_92 : decode cX5_readAlmanac 92 = .ok (.iastore, 1) := by decide +kernel
theorem dX5_readAlmanac_93 : decode cX5_readAlmanac 93 = .ok (.iinc 1 1, 3) := by decide +kernel
theorem dX5_readAlmanac_96 : decode cX5_readAlmanac 96 = .ok (.goto (-39), 3) := by decide +kernel
theorem dX5_readAlmanac_99 : decode cX5_readAlmanac 99 = .ok (.aload_n 0, 1) := by decide +kernel
theorem dX5_readAlmanac_100 : decode cX5_readAlmanac 100 = .ok (.getfield 27, 3) := by decide +kernel
theorem dX5_readAlmanac_103 : decode cX5_readAlmanac 103 = .ok (.getfield 60, 3) := by decide +kernel
theorem dX5_readAlmanac_106 : decode cX5_readAlmanac 106 = .ok (.invokevirtual 78, 3) := by decide +kernel
theorem dX5_readAlmanac_109 : decode cX5_readAlmanac 109 = .ok (.ifCond .ne 9, 3) := by decide +kernel
theorem dX5_readAlmanac_112 : decode cX5_readAlmanac 112 = .ok (.aload_n 0, 1) := by decide +kernel
theorem dX5_readAlmanac_113 : decode cX5_readAlmanac 113 = .ok (.iconst 2, 1) := by decide +kernel
theorem dX5_readAlmanac_114 : decode cX5_readAlmanac 114 = .ok (.invokevirtual 52, 3) := by decide +kernel
theorem dX5_readAlmanac_117 : decode cX5_readAlmanac 117 = .ok (.ireturn, 1) := by decide +kernel
theorem dX5_readAlmanac_118 : decode cX5_readAlmanac 118 = .ok (.aload_n 0, 1) := by decide +kernel
theorem dX5_readAlmanac_119 : decode cX5_readAlmanac 119 = .ok (.invokevirtual 82, 3) := by decide +kernel
theorem dX5_readAlmanac_122 : decode cX5_readAlmanac 122 = .ok (.ireturn, 1) := by decide +kernel
theorem dX5_readStatement_0 : decode cX5_readStatement 0 = .ok (.aload_n 0, 1) := by decide +kernel
theorem dX5_readStatement_1 : decode cX5_readStatement 1 = .ok (.getfield 23, 3) := by decide +kernel
theorem dX5_readStatement_4 : decode cX5_readStatement 4 = .ok (.ldc 85, 2) := by decide +kernel
theorem dX5_readStatement_6 : decode cX5_readStatement 6 = .ok (.invokevirtual 48, 3) := by decide +kernel
theorem dX5_readStatement_9 : decode cX5_readStatement 9 = .ok (.ifCond .eq 8, 3) := by decide +kernel
theorem dX5_readStatement_12 : decode cX5_readStatement 12 = .ok (.aload_n 0, 1) := by decide +kernel
theorem dX5_readStatement_13 : decode cX5_readStatement 13 = .ok (.invokevirtual 87, 3) := by decide +kernel
theorem dX5_readStatement_16 : decode cX5_readStatement 16 = .ok (.ireturn, 1) := by decide +kernel
theorem dX5_readStatement_17 : decode cX5_readStatement 17 = .ok (.aload_n 0, 1) := by decide +kernel
theorem dX5_readStatement_18 : decode cX5_readStatement 18 = .ok (.getfield 23, 3) := by decide +kernel
theorem dX5_readStatement_21 : decode cX5_readStatement 21 = .ok (.ldc 90, 2) := by decide +kernel
theorem dX5_readStatement_23 : decode cX5_readStatement 23 = .ok (.invokevirtual 48, 3) := by decide +kernel
theorem dX5_readStatement_26 : decode cX5_readStatement 26 = .ok (.ifCond .eq 8, 3) := by decide +kernel
theorem dX5_readStatement_29 : decode cX5_readStatement 29 = .ok (.aload_n 0, 1) := by decide +kernel
theorem dX5_readStatement_30 : decode cX5_readStatement 30 = .ok (.invokevirtual 92, 3) := by decide +kernel
theorem dX5_readStatement_33 : decode cX5_readStatement 33 = .ok (.ireturn, 1) := by decide +kernel
theorem dX5_readStatement_34 : decode cX5_readStatement 34 = .ok (.aload_n 0, 1) := by decide +kernel
theorem dX5_readStatement_35 : decode cX5_readStatement 35 = .ok (.getfield 23, 3) := by decide +kernel
theorem dX5_readStatement_38 : decode cX5_readStatement 38 = .ok (.ldc 95, 2) := by decide +kernel
theorem dX5_readStatement_40 : decode cX5_readStatement 40 = .ok (.invokevirtual 48, 3) := by decide +kernel
theorem dX5_readStatement_43 : decode cX5_readStatement 43 = .ok (.ifCond .eq 8, 3) := by decide +kernel
theorem dX5_readStatement_46 : decode cX5_readStatement 46 = .ok (.aload_n 0, 1) := by decide +kernel
theorem dX5_readStatement_47 : decode cX5_readStatement 47 = .ok (.invokevirtual 97, 3) := by decide +kernel
theorem dX5_readStatement_50 : decode cX5_readStatement 50 = .ok (.ireturn, 1) := by decide +kernel
theorem dX5_readStatement_51 : decode cX5_readStatement 51 = .ok (.aload_n 0, 1) := by decide +kernel
theorem dX5_readStatement_52 : decode cX5_readStatement 52 = .ok (.getfield 23, 3) := by decide +kernel
theorem dX5_readStatement_55 : decode cX5_readStatement 55 = .ok (.ldc 100, 2) := by decide +kernel
theorem dX5_readStatement_57 : decode cX5_readStatement 57 = .ok (.invokevirtual 48, 3) := by decide +kernel
theorem dX5_readStatement_60 : decode cX5_readStatement 60 = .ok (.ifCond .eq 8, 3) := by decide +kernel
theorem dX5_readStatement_63 : decode cX5_readStatement 63 = .ok (.aload_n 0, 1) := by decide +kernel
theorem dX5_readStatement_64 : decode cX5_readStatement 64 = .ok (.invokevirtual 102, 3) := by decide +kernel
theorem dX5_readStatement_67 : decode cX5_readStatement 67 = .ok (.ireturn, 1) := by decide +kernel
theorem dX5_readStatement_68 : decode cX5_readStatement 68 = .ok (.aload_n 0, 1) := by decide +kernel
theorem dX5_readStatement_69 : decode cX5_readStatement 69 = .ok (.getfield 23, 3) := by decide +kernel
theorem dX5_readStatement_72 : decode cX5_readStatement 72 = .ok (.ldc 105, 2) := by decide +kernel
theorem dX5_readStatement_74 : decode cX5_readStatement 74 = .ok (.invokevirtual 48, 3) := by decide +kernel
theorem dX5_readStatement_77 : decode cX5_readStatement 77 = .ok (.ifCond .eq 8, 3) := by decide +kernel
theorem dX5_readStatement_80 : decode cX5_readStatement 80 = .ok (.aload_n 0, 1) := by decide +kernel
theorem dX5_readStatement_81 : decode cX5_readStatement 81 = .ok (.invokevirtual 107, 3) := by decide +kernel
theorem dX5_readStatement_84 : decode cX5_readStatement 84 = .ok (.ireturn, 1) := by decide +kernel
theorem dX5_readStatement_85 : decode cX5_readStatement 85 = .ok (.aload_n 0, 1) := by decide +kernel
theorem dX5_readStatement_86 : decode cX5_readStatement 86 = .ok (.iconst 1, 1) := by decide +kernel
theorem dX5_readStatement_87 : decode cX5_readStatement 87 = .ok (.invokevirtual 52, 3) := by decide +kernel
theorem dX5_readStatement_90 : decode cX5_readStatement 90 = .ok (.ireturn, 1) := by decide +kernel
theorem dX5_readVillage_0 : decode cX5_readVillage 0 = .ok (.aload_n 0, 1) := by decide +kernel
theorem dX5_readVillage_1 : decode cX5_readVillage 1 = .ok (.getfield 27, 3) := by decide +kernel
theorem dX5_readVillage_4 : decode cX5_readVillage 4 = .ok (.getfield 110, 3) := by decide +kernel
theorem dX5_readVillage_7 : decode cX5_readVillage 7 = .ok (.getfield 114, 3) := by decide +kernel
theorem dX5_readVillage_10 : decode cX5_readVillage 10 = .ok (.bipush 6, 2) := by decide +kernel
theorem dX5_readVillage_12 : decode cX5_readVillage 12 = .ok (.if_icmp .lt 9, 3) := by decide +kernel
theorem dX5_readVillage_15 : decode cX5_readVillage 15 = .ok (.aload_n 0, 1) := by decide +kernel
theorem dX5_readVillage_16 : decode cX5_readVillage 16 = .ok (.iconst 5, 1) := by decide +kernel
theorem dX5_readVillage_17 : decode cX5_readVillage 17 = .ok (.invokevirtual 52, 3) := by decide +kernel
theorem dX5_readVillage_20 : decode cX5_readVillage 20 = .ok (.ireturn, 1) := by decide +kernel
theorem dX5_readVillage_21 : decode cX5_readVillage 21 = .ok (.aload_n 0, 1) := by decide +kernel
theorem dX5_readVillage_22 : decode cX5_readVillage 22 = .ok (.invokevirtual 119, 3) := by decide +kernel
theorem dX5_readVillage_25 : decode cX5_readVillage 25 = .ok (.ifCond .ne 5, 3) := by decide +kernel
theorem dX5_readVillage_28 : decode cX5_readVillage 28 = .ok (.iconst 0, 1) := by decide +kernel
theorem dX5_readVillage_29 : decode cX5_readVillage 29 = .ok (.ireturn, 1) := by decide +kernel
theorem dX5_readVillage_30 : decode cX5_readVillage 30 = .ok (.aload_n 0, 1) := by decide +kernel
theorem dX5_readVillage_31 : decode cX5_readVillage 31 = .ok (.getfield 23, 3) := by decide +kernel
theorem dX5_readVillage_34 : decode cX5_readVillage 34 = .ok (.invokevirtual 122, 3) := by decide +kernel
theorem dX5_readVillage_37 : decode cX5_readVillage 37 = .ok (.istore_n 1, 1) := by decide +kernel
theorem dX5_readVillage_38 : decode cX5_readVillage 38 = .ok (.aload_n 0, 1) := by decide +kernel
theorem dX5_readVillage_39 : decode cX5_readVillage 39 = .ok (.iconst 1, 1) := by decide +kernel
theorem dX5_readVillage_40 : decode cX5_readVillage 40 = .ok (.bipush 99, 2) := by decide +kernel
theorem dX5_readVillage_42 : decode cX5_readVillage 42 = .ok (.invokevirtual 56, 3) := by decide +kernel
theorem dX5_readVillage_45 : decode cX5_readVillage 45 = .ok (.ifCond .ne 5, 3) := by decide +kernel
theorem dX5_readVillage_48 : decode cX5_readVillage 48 = .ok (.iconst 0, 1) := by decide +kernel
theorem dX5_readVillage_49 : decode cX5_readVillage 49 = .ok (.ireturn, 1) := by decide +kernel
theorem dX5_readVillage_50 : decode cX5_readVillage 50 = .ok (.aload_n 0, 1) := by decide +kernel
theorem dX5_readVillage_51 : decode cX5_readVillage 51 = .ok (.getfield 23, 3) := by decide +kernel
theorem dX5_readVillage_54 : decode cX5_readVillage 54 = .ok (.getfield 66, 3) := by decide +kernel
theorem dX5_readVillage_57 : decode cX5_readVillage 57 = .ok (.istore_n 2, 1) := by decide +kernel
theorem dX5_readVillage_58 : decode cX5_readVillage 58 = .ok (.aload_n 0, 1) := by decide +kernel
theorem dX5_readVillage_59 : decode cX5_readVillage 59 = .ok (.iconst 0, 1) := by decide +kernel
theorem dX5_readVillage_60 : decode cX5_readVillage 60 = .ok (.bipush 100, 2) := by decide +kernel
theorem dX5_readVillage_62 : decode cX5_readVillage 62 = .ok (.invokevirtual 56, 3) := by decide +kernel
theorem dX5_readVillage_65 : decode cX5_readVillage 65 = .ok (.ifCond .ne 5, 3) := by decide +kernel
theorem dX5_readVillage_68 : decode cX5_readVillage 68 = .ok (.iconst 0, 1) := by decide +kernel
theorem dX5_readVillage_69 : decode cX5_readVillage 69 = .ok (.ireturn, 1) := by decide +kernel
theorem dX5_readVillage_70 : decode cX5_readVillage 70 = .ok (.aload_n 0, 1) := by decide +kernel
theorem dX5_readVillage_71 : decode cX5_readVillage 71 = .ok (.getfield 23, 3) := by decide +kernel
theorem dX5_readVillage_74 : decode cX5_readVillage 74 = .ok (.getfield 66, 3) := by decide +kernel
theorem dX5_readVillage_77 : decode cX5_readVillage 77 = .ok (.istore_n 3, 1) := by decide +kernel
theorem dX5_readVillage_78 : decode cX5_readVillage 78 = .ok (.aload_n 0, 1) := by decide +kernel
theorem dX5_readVillage_79 : decode cX5_readVillage 79 = .ok (.invokevirtual 82, 3) := by decide +kernel
theorem dX5_readVillage_82 : decode cX5_readVillage 82 = .ok (.ifCond .ne 5, 3) := by decide +kernel
theorem dX5_readVillage_85 : decode cX5_readVillage 85 = .ok (.iconst 0, 1) := by decide +kernel
theorem dX5_readVillage_86 : decode cX5_readVillage 86 = .ok (.ireturn, 1) := by decide +kernel
theorem dX5_readVillage_87 : decode cX5_readVillage 87 = .ok (.aload_n 0, 1) := by decide +kernel
theorem dX5_readVillage_88 : decode cX5_readVillage 88 = .ok (.getfield 27, 3) := by decide +kernel
theorem dX5_readVillage_91 : decode cX5_readVillage 91 = .ok (.getfield 110, 3) := by decide +kernel
theorem dX5_readVillage_94 : decode cX5_readVillage 94 = .ok (.iload_n 1, 1) := by decide +kernel
theorem dX5_readVillage_95 : decode cX5_readVillage 95 = .ok (.iload_n 2, 1) := by decide +kernel
theorem dX5_readVillage_96 : decode cX5_readVillage 96 = .ok (.iload_n 3, 1) := by decide +kernel
theorem dX5_readVillage_97 : decode cX5_readVillage 97 = .ok (.invokevirtual 125, 3) := by decide +kernel
theorem dX5_readVillage_100 : decode cX5_readVillage 100 = .ok (.iconst 1, 1) := by decide +kernel
theorem dX5_readVillage_101 : decode cX5_readVillage 101 = .ok (.ireturn, 1) := by decide +kernel
theorem dX5_readFair_0 : decode cX5_readFair 0 = .ok (.aload_n 0, 1) := by decide +kernel
theorem dX5_readFair_1 : decode cX5_readFair 1 = .ok (.getfield 27, 3) := by decide +kernel
theorem dX5_readFair_4 : decode cX5_readFair 4 = .ok (.getfield 129, 3) := by decide +kernel
theorem dX5_readFair_7 : decode cX5_readFair 7 = .ok (.getfield 133, 3) := by decide +kernel
theorem dX5_readFair_10 : decode cX5_readFair 10 = .ok (.bipush 6, 2) := by decide +kernel
theorem dX5_readFair_12 : decode cX5_readFair 12 = .ok (.if_icmp .lt 9, 3) := by decide +kernel
theorem dX5_readFair_15 : decode cX5_readFair 15 = .ok (.aload_n 0, 1) := by decide +kernel
theorem dX5_readFair_16 : decode cX5_readFair 16 = .ok (.iconst 5, 1) := by decide +kernel
theorem dX5_readFair_17 : decode cX5_readFair 17 = .ok (.invokevirtual 52, 3) := by decide +kernel
theorem dX5_readFair_20 : decode cX5_readFair 20 = .ok (.ireturn, 1) := by decide +kernel
theorem dX5_readFair_21 : decode cX5_readFair 21 = .ok (.aload_n 0, 1) := by decide +kernel
theorem dX5_readFair_22 : decode cX5_readFair 22 = .ok (.invokevirtual 119, 3) := by decide +kernel
theorem dX5_readFair_25 : decode cX5_readFair 25 = .ok (.ifCond .ne 5, 3) := by decide +kernel
theorem dX5_readFair_28 : decode cX5_readFair 28 = .ok (.iconst 0, 1) := by decide +kernel
theorem dX5_readFair_29 : decode cX5_readFair 29 = .ok (.ireturn, 1) := by decide +kernel
theorem dX5_readFair_30 : decode cX5_readFair 30 = .ok (.aload_n 0, 1) := by decide +kernel
theorem dX5_readFair_31 : decode cX5_readFair 31 = .ok (.getfield 23, 3) := by decide +kernel
theorem dX5_readFair_34 : decode cX5_readFair 34 = .ok (.invokevirtual 122, 3) := by decide +kernel
theorem dX5_readFair_37 : decode cX5_readFair 37 = .ok (.istore_n 1, 1) := by decide +kernel
theorem dX5_readFair_38 : decode cX5_readFair 38 = .ok (.aload_n 0, 1) := by decide +kernel
theorem dX5_readFair_39 : decode cX5_readFair 39 = .ok (.invokevirtual 136, 3) := by decide +kernel
theorem dX5_readFair_42 : decode cX5_readFair 42 = .ok (.ifCond .ne 5, 3) := by decide +kernel
theorem dX5_readFair_45 : decode cX5_readFair 45 = .ok (.iconst 0, 1) := by decide +kernel
theorem dX5_readFair_46 : decode cX5_readFair 46 = .ok (.ireturn, 1) := by decide +kernel
theorem dX5_readFair_47 : decode cX5_readFair 47 = .ok (.aload_n 0, 1) := by decide +kernel
theorem dX5_readFair_48 : decode cX5_readFair 48 = .ok (.getfield 27, 3) := by decide +kernel
theorem dX5_readFair_51 : decode cX5_readFair 51 = .ok (.getfield 110, 3) := by decide +kernel
theorem dX5_readFair_54 : decode cX5_readFair 54 = .ok (.aload_n 0, 1) := by decide +kernel
theorem dX5_readFair_55 : decode cX5_readFair 55 = .ok (.getfield 23, 3) := by decide +kernel
theorem dX5_readFair_58 : decode cX5_readFair 58 = .ok (.invokevirtual 122, 3) := by decide +kernel
theorem dX5_readFair_61 : decode cX5_readFair 61 = .ok (.invokevirtual 139, 3) := by decide +kernel
theorem dX5_readFair_64 : decode cX5_readFair 64 = .ok (.istore_n 2, 1) := by decide +kernel
theorem dX5_readFair_65 : decode cX5_readFair 65 = .ok (.aload_n 0, 1) := by decide +kernel
theorem dX5_readFair_66 : decode cX5_readFair 66 = .ok (.iconst 1, 1) := by decide +kernel
theorem dX5_readFair_67 : decode cX5_readFair 67 = .ok (.bipush 12, 2) := by decide +kernel
theorem dX5_readFair_69 : decode cX5_readFair 69 = .ok (.invokevirtual 56, 3) := by decide +kernel
theorem dX5_readFair_72 : decode cX5_readFair 72 = .ok (.ifCond .ne 5, 3) := by decide +kernel
theorem dX5_readFair_75 : decode cX5_readFair 75 = .ok (.iconst 0, 1) := by decide +kernel
theorem dX5_readFair_76 : decode cX5_readFair 76 = .ok (.ireturn, 1) := by decide +kernel
theorem dX5_readFair_77 : decode cX5_readFair 77 = .ok (.aload_n 0, 1) := by decide +kernel
theorem dX5_readFair_78 : decode cX5_readFair 78 = .ok (.getfield 23, 3) := by decide +kernel
theorem dX5_readFair_81 : decode cX5_readFair 81 = .ok (.getfield 66, 3) := by decide +kernel
theorem dX5_readFair_84 : decode cX5_readFair 84 = .ok (.istore_n 3, 1) := by decide +kernel
theorem dX5_readFair_85 : decode cX5_readFair 85 = .ok (.aload_n 0, 1) := by decide +kernel
theorem dX5_readFair_86 : decode cX5_readFair 86 = .ok (.iconst 1, 1) := by decide +kernel
theorem dX5_readFair_87 : decode cX5_readFair 87 = .ok (.bipush 99, 2) := by decide +kernel
theorem dX5_readFair_89 : decode cX5_readFair 89 = .ok (.invokevirtual 56, 3) := by decide +kernel
theorem dX5_readFair_92 : decode cX5_readFair 92 = .ok (.ifCond .ne 5, 3) := by decide +kernel
theorem dX5_readFair_95 : decode cX5_readFair 95 = .ok (.iconst 0, 1) := by decide +kernel
theorem dX5_readFair_96 : decode cX5_readFair 96 = .ok (.ireturn, 1) := by decide +kernel
theorem dX5_readFair_97 : decode cX5_readFair 97 = .ok (.aload_n 0, 1) := by decide +kernel
theorem dX5_readFair_98 : decode cX5_readFair 98 = .ok (.getfield 23, 3) := by decide +kernel
theorem dX5_readFair_101 : decode cX5_readFair 101 = .ok (.getfield 66, 3) := by decide +kernel
theorem dX5_readFair_104 : decode cX5_readFair 104 = .ok (.istore 4, 2) := by decide +kernel
theorem dX5_readFair_106 : decode cX5_readFair 106 = .ok (.aload_n 0, 1) := by decide +kernel
theorem dX5_readFair_107 : decode cX5_readFair 107 = .ok (.iconst 1, 1) := by decide +kernel
theorem dX5_readFair_108 : decode cX5_readFair 108 = .ok (.bipush 20, 2) := by decide +kernel
theorem dX5_readFair_110 : decode cX5_readFair 110 = .ok (.invokevirtual 56, 3) := by decide +kernel
theorem dX5_readFair_113 : decode cX5_readFair 113 = .ok (.ifCond .ne 5, 3) := by decide +kernel
theorem dX5_readFair_116 : decode cX5_readFair 116 = .ok (.iconst 0, 1) := by decide +kernel
theorem dX5_readFair_117 : decode cX5_readFair 117 = .ok (.ireturn, 1) := by decide +kernel
theorem dX5_readFair_118 : decode cX5_readFair 118 = .ok (.aload_n 0, 1) := by decide +kernel
theorem dX5_readFair_119 : decode cX5_readFair 119 = .ok (.getfield 23, 3) := by decide +kernel
theorem dX5_readFair_122 : decode cX5_readFair 122 = .ok (.getfield 66, 3) := by decide +kernel
theorem dX5_readFair_125 : decode cX5_readFair 125 = .ok (.istore 5, 2) := by decide +kernel
theorem dX5_readFair_127 : decode cX5_readFair 127 = .ok (.aload_n 0, 1) := by decide +kernel
theorem dX5_readFair_128 : decode cX5_readFair 128 = .ok (.invokevirtual 82, 3) := by decide +kernel
theorem dX5_readFair_131 : decode cX5_readFair 131 = .ok (.ifCond .ne 5, 3) := by decide +kernel
theorem dX5_readFair_134 : decode cX5_readFair 134 = .ok (.iconst 0, 1) := by decide +kernel
theorem dX5_readFair_135 : decode cX5_readFair 135 = .ok (.ireturn, 1) := by decide +kernel
theorem dX5_readFair_136 : decode cX5_readFair 136 = .ok (.aload_n 0, 1) := by decide +kernel
theorem dX5_readFair_137 : decode cX5_readFair 137 = .ok (.getfield 27, 3) := by decide +kernel
theorem dX5_readFair_140 : decode cX5_readFair 140 = .ok (.getfield 129, 3) := by decide +kernel
theorem dX5_readFair_143 : decode cX5_readFair 143 = .ok (.iload_n 1, 1) := by decide +kernel
theorem dX5_readFair_144 : decode cX5_readFair 144 = .ok (.iload_n 2, 1) := by decide +kernel
theorem dX5_readFair_145 : decode cX5_readFair 145 = .ok (.iload_n 3, 1) := by decide +kernel
theorem dX5_readFair_146 : decode cX5_readFair 146 = .ok (.iload 4, 2) := by decide +kernel
theorem dX5_readFair_148 : decode cX5_readFair 148 = .ok (.iload 5, 2) := by decide +kernel
theorem dX5_readFair_150 : decode cX5_readFair 150 = .ok (.invokevirtual 143, 3) := by decide +kernel
theorem dX5_readFair_153 : decode cX5_readFair 153 = .ok (.iconst 1, 1) := by decide +kernel
theorem dX5_readFair_154 : decode cX5_readFair 154 = .ok (.ireturn, 1) := by decide +kernel
theorem dX5_readSay_0 : decode cX5_readSay 0 = .ok (.aload_n 0, 1) := by decide +kernel
theorem dX5_readSay_1 : decode cX5_readSay 1 = .ok (.invokevirtual 136, 3) := by decide +kernel
theorem dX5_readSay_4 : decode cX5_readSay 4 = .ok (.ifCond .ne 5, 3) := by decide +kernel
theorem dX5_readSay_7 : decode cX5_readSay 7 = .ok (.iconst 0, 1) := by decide +kernel
theorem dX5_readSay_8 : decode cX5_readSay 8 = .ok (.ireturn, 1) := by decide +kernel
theorem dX5_readSay_9 : decode cX5_readSay 9 = .ok (.aload_n 0, 1) := by decide +kernel
theorem dX5_readSay_10 : decode cX5_readSay 10 = .ok (.getfield 27, 3) := by decide +kernel
theorem dX5_readSay_13 : decode cX5_readSay 13 = .ok (.getfield 110, 3) := by decide +kernel
theorem dX5_readSay_16 : decode cX5_readSay 16 = .ok (.aload_n 0, 1) := by decide +kernel
theorem dX5_readSay_17 : decode cX5_readSay 17 = .ok (.getfield 23, 3) := by decide +kernel
theorem dX5_readSay_20 : decode cX5_readSay 20 = .ok (.invokevirtual 122, 3) := by decide +kernel
theorem dX5_readSay_23 : decode cX5_readSay 23 = .ok (.invokevirtual 139, 3) := by decide +kernel
theorem dX5_readSay_26 : decode cX5_readSay 26 = .ok (.istore_n 1, 1) := by decide +kernel
theorem dX5_readSay_27 : decode cX5_readSay 27 = .ok (.aload_n 0, 1) := by decide +kernel
theorem dX5_readSay_28 : decode cX5_readSay 28 = .ok (.iconst 0, 1) := by decide +kernel
theorem dX5_readSay_29 : decode cX5_readSay 29 = .ok (.sipush 9999, 3) := by decide +kernel
theorem dX5_readSay_32 : decode cX5_readSay 32 = .ok (.invokevirtual 56, 3) := by decide +kernel
theorem dX5_readSay_35 : decode cX5_readSay 35 = .ok (.ifCond .ne 5, 3) := by decide +kernel
theorem dX5_readSay_38 : decode cX5_readSay 38 = .ok (.iconst 0, 1) := by decide +kernel
theorem dX5_readSay_39 : decode cX5_readSay 39 = .ok (.ireturn, 1) := by decide +kernel
theorem dX5_readSay_40 : decode cX5_readSay 40 = .ok (.aload_n 0, 1) := by decide +kernel
theorem dX5_readSay_41 : decode cX5_readSay 41 = .ok (.getfield 23, 3) := by decide +kernel
theorem dX5_readSay_44 : decode cX5_readSay 44 = .ok (.getfield 66, 3) := by decide +kernel
theorem dX5_readSay_47 : decode cX5_readSay 47 = .ok (.istore_n 2, 1) := by decide +kernel
theorem dX5_readSay_48 : decode cX5_readSay 48 = .ok (.aload_n 0, 1) := by decide +kernel
theorem dX5_readSay_49 : decode cX5_readSay 49 = .ok (.getfield 23, 3) := by decide +kernel
theorem dX5_readSay_52 : decode cX5_readSay 52 = .ok (.invokevirtual 35, 3) := by decide +kernel
theorem dX5_readSay_55 : decode cX5_readSay 55 = .ok (.aload_n 0, 1) := by decide +kernel
theorem dX5_readSay_56 : decode cX5_readSay 56 = .ok (.invokevirtual 146, 3) := by decide +kernel
theorem dX5_readSay_59 : decode cX5_readSay 59 = .ok (.istore_n 3, 1) := by decide +kernel
theorem dX5_readSay_60 : decode cX5_readSay 60 = .ok (.iload_n 3, 1) := by decide +kernel
theorem dX5_readSay_61 : decode cX5_readSay 61 = .ok (.iconst (-1), 1) := by decide +kernel
theorem dX5_readSay_62 : decode cX5_readSay 62 = .ok (.if_icmp .ne 9, 3) := by decide +kernel
theorem dX5_readSay_65 : decode cX5_readSay 65 = .ok (.aload_n 0, 1) := by decide +kernel
theorem dX5_readSay_66 : decode cX5_readSay 66 = .ok (.iconst 1, 1) := by decide +kernel
theorem dX5_readSay_67 : decode cX5_readSay 67 = .ok (.invokevirtual 52, 3) := by decide +kernel
theorem dX5_readSay_70 : decode cX5_readSay 70 = .ok (.ireturn, 1) := by decide +kernel
theorem dX5_readSay_71 : decode cX5_readSay 71 = .ok (.aload_n 0, 1) := by decide +kernel
theorem dX5_readSay_72 : decode cX5_readSay 72 = .ok (.invokevirtual 82, 3) := by decide +kernel
theorem dX5_readSay_75 : decode cX5_readSay 75 = .ok (.ifCond .ne 5, 3) := by decide +kernel
theorem dX5_readSay_78 : decode cX5_readSay 78 = .ok (.iconst 0, 1) := by decide +kernel
theorem dX5_readSay_79 : decode cX5_readSay 79 = .ok (.ireturn, 1) := by decide +kernel
theorem dX5_readSay_80 : decode cX5_readSay 80 = .ok (.aload_n 0, 1) := by decide +kernel
theorem dX5_readSay_81 : decode cX5_readSay 81 = .ok (.getfield 27, 3) := by decide +kernel
theorem dX5_readSay_84 : decode cX5_readSay 84 = .ok (.iload_n 1, 1) := by decide +kernel
theorem dX5_readSay_85 : decode cX5_readSay 85 = .ok (.iload_n 2, 1) := by decide +kernel
theorem dX5_readSay_86 : decode cX5_readSay 86 = .ok (.invokevirtual 149, 3) := by decide +kernel
theorem dX5_readSay_89 : decode cX5_readSay 89 = .ok (.ifCond .eq 10, 3) := by decide +kernel
theorem dX5_readSay_92 : decode cX5_readSay 92 = .ok (.aload_n 0, 1) := by decide +kernel
theorem dX5_readSay_93 : decode cX5_readSay 93 = .ok (.bipush 6, 2) := by decide +kernel
theorem dX5_readSay_95 : decode cX5_readSay 95 = .ok (.invokevirtual 52, 3) := by decide +kernel
theorem dX5_readSay_98 : decode cX5_readSay 98 = .ok (.ireturn, 1) := by decide +kernel
theorem dX5_readSay_99 : decode cX5_readSay 99 = .ok (.aload_n 0, 1) := by decide +kernel
theorem dX5_readSay_100 : decode cX5_readSay 100 = .ok (.getfield 27, 3) := by decide +kernel
theorem dX5_readSay_103 : decode cX5_readSay 103 = .ok (.getfield 153, 3) := by decide +kernel
theorem dX5_readSay_106 : decode cX5_readSay 106 = .ok (.iload_n 1, 1) := by decide +kernel
theorem dX5_readSay_107 : decode cX5_readSay 107 = .ok (.iload_n 2, 1) := by decide +kernel
theorem dX5_readSay_108 : decode cX5_readSay 108 = .ok (.iload_n 3, 1) := by decide +kernel
theorem dX5_readSay_109 : decode cX5_readSay 109 = .ok (.invokevirtual 157, 3) := by decide +kernel
theorem dX5_readSay_112 : decode cX5_readSay 112 = .ok (.iconst 1, 1) := by decide +kernel
theorem dX5_readSay_113 : decode cX5_readSay 113 = .ok (.ireturn, 1) := by decide +kernel
theorem dX5_readRetract_0 : decode cX5_readRetract 0 = .ok (.aload_n 0, 1) := by decide +kernel
theorem dX5_readRetract_1 : decode cX5_readRetract 1 = .ok (.getfield 23, 3) := by decide +kernel
theorem dX5_readRetract_4 : decode cX5_readRetract 4 = .ok (.invokevirtual 35, 3) := by decide +kernel
theorem dX5_readRetract_7 : decode cX5_readRetract 7 = .ok (.aload_n 0, 1) := by decide +kernel
theorem dX5_readRetract_8 : decode cX5_readRetract 8 = .ok (.getfield 23, 3) := by decide +kernel
theorem dX5_readRetract_11 : decode cX5_readRetract 11 = .ok (.getfield 40, 3) := by decide +kernel
theorem dX5_readRetract_14 : decode cX5_readRetract 14 = .ok (.iconst 2, 1) := by decide +kernel
theorem dX5_readRetract_15 : decode cX5_readRetract 15 = .ok (.if_icmp .eq 9, 3) := by decide +kernel
theorem dX5_readRetract_18 : decode cX5_readRetract 18 = .ok (.aload_n 0, 1) := by decide +kernel
theorem dX5_readRetract_19 : decode cX5_readRetract 19 = .ok (.iconst 1, 1) := by decide +kernel
theorem dX5_readRetract_20 : decode cX5_readRetract 20 = .ok (.invokevirtual 52, 3) := by decide +kernel
theorem dX5_readRetract_23 : decode cX5_readRetract 23 = .ok (.ireturn, 1) := by decide +kernel
theorem dX5_readRetract_24 : decode cX5_readRetract 24 = .ok (.aload_n 0, 1) := by decide +kernel
theorem dX5_readRetract_25 : decode cX5_readRetract 25 = .ok (.getfield 23, 3) := by decide +kernel
theorem dX5_readRetract_28 : decode cX5_readRetract 28 = .ok (.getfield 66, 3) := by decide +kernel
theorem dX5_readRetract_31 : decode cX5_readRetract 31 = .ok (.istore_n 1, 1) := by decide +kernel
theorem dX5_readRetract_32 : decode cX5_readRetract 32 = .ok (.aload_n 0, 1) := by decide +kernel
theorem dX5_readRetract_33 : decode cX5_readRetract 33 = .ok (.getfield 27, 3) := by decide +kernel
theorem dX5_readRetract_36 : decode cX5_readRetract 36 = .ok (.getfield 153, 3) := by decide +kernel
theorem dX5_readRetract_39 : decode cX5_readRetract 39 = .ok (.iload_n 1, 1) := by decide +kernel
theorem dX5_readRetract_40 : decode cX5_readRetract 40 = .ok (.invokevirtual 160, 3) := by decide +kernel
theorem dX5_readRetract_43 : decode cX5_readRetract 43 = .ok (.ifCond .ne 9, 3) := by decide +kernel
theorem dX5_readRetract_46 : decode cX5_readRetract 46 = .ok (.aload_n 0, 1) := by decide +kernel
theorem dX5_readRetract_47 : decode cX5_readRetract 47 = .ok (.iconst 4, 1) := by decide +kernel
theorem dX5_readRetract_48 : decode cX5_readRetract 48 = .ok (.invokevirtual 52, 3) := by decide +kernel
theorem dX5_readRetract_51 : decode cX5_readRetract 51 = .ok (.ireturn, 1) := by decide +kernel
theorem dX5_readRetract_52 : decode cX5_readRetract 52 = .ok (.aload_n 0, 1) := by decide +kernel
theorem dX5_readRetract_53 : decode cX5_readRetract 53 = .ok (.getfield 27, 3) := by decide +kernel
theorem dX5_readRetract_56 : decode cX5_readRetract 56 = .ok (.iload_n 1, 1) := by decide +kernel
theorem dX5_readRetract_57 : decode cX5_readRetract 57 = .ok (.invokevirtual 163, 3) := by decide +kernel
theorem dX5_readRetract_60 : decode cX5_readRetract 60 = .ok (.ifCond .ne 10, 3) := by decide +kernel
theorem dX5_readRetract_63 : decode cX5_readRetract 63 = .ok (.aload_n 0, 1) := by decide +kernel
theorem dX5_readRetract_64 : decode cX5_readRetract 64 = .ok (.bipush 6, 2) := by decide +kernel
theorem dX5_readRetract_66 : decode cX5_readRetract 66 = .ok (.invokevirtual 52, 3) := by decide +kernel
theorem dX5_readRetract_69 : decode cX5_readRetract 69 = .ok (.ireturn, 1) := by decide +kernel
theorem dX5_readRetract_70 : decode cX5_readRetract 70 = .ok (.aload_n 0, 1) := by decide +kernel
theorem dX5_readRetract_71 : decode cX5_readRetract 71 = .ok (.invokevirtual 82, 3) := by decide +kernel
theorem dX5_readRetract_74 : decode cX5_readRetract 74 = .ok (.ifCond .ne 5, 3) := by decide +kernel
theorem dX5_readRetract_77 : decode cX5_readRetract 77 = .ok (.iconst 0, 1) := by decide +kernel
theorem dX5_readRetract_78 : decode cX5_readRetract 78 = .ok (.ireturn, 1) := by decide +kernel
theorem dX5_readRetract_79 : decode cX5_readRetract 79 = .ok (.aload_n 0, 1) := by decide +kernel
theorem dX5_readRetract_80 : decode cX5_readRetract 80 = .ok (.getfield 27, 3) := by decide +kernel
theorem dX5_readRetract_83 : decode cX5_readRetract 83 = .ok (.iload_n 1, 1) := by decide +kernel
theorem dX5_readRetract_84 : decode cX5_readRetract 84 = .ok (.invokevirtual 166, 3) := by decide +kernel
theorem dX5_readRetract_87 : decode cX5_readRetract 87 = .ok (.pop, 1) := by decide +kernel
theorem dX5_readRetract_88 : decode cX5_readRetract 88 = .ok (.iconst 1, 1) := by decide +kernel
theorem dX5_readRetract_89 : decode cX5_readRetract 89 = .ok (.ireturn, 1) := by decide +kernel
theorem dX5_readPass_0 : decode cX5_readPass 0 = .ok (.aload_n 0, 1) := by decide +kernel
theorem dX5_readPass_1 : decode cX5_readPass 1 = .ok (.iconst 0, 1) := by decide +kernel
theorem dX5_readPass_2 : decode cX5_readPass 2 = .ok (.sipush 200, 3) := by decide +kernel
theorem dX5_readPass_5 : decode cX5_readPass 5 = .ok (.invokevirtual 56, 3) := by decide +kernel
theorem dX5_readPass_8 : decode cX5_readPass 8 = .ok (.ifCond .ne 5, 3) := by decide +kernel
theorem dX5_readPass_11 : decode cX5_readPass 11 = .ok (.iconst 0, 1) := by decide +kernel
theorem dX5_readPass_12 : decode cX5_readPass 12 = .ok (.ireturn, 1) := by decide +kernel
theorem dX5_readPass_13 : decode cX5_readPass 13 = .ok (.aload_n 0, 1) := by decide +kernel
theorem dX5_readPass_14 : decode cX5_readPass 14 = .ok (.getfield 23, 3) := by decide +kernel
theorem dX5_readPass_17 : decode cX5_readPass 17 = .ok (.getfield 66, 3) := by decide +kernel
theorem dX5_readPass_20 : decode cX5_readPass 20 = .ok (.istore_n 1, 1) := by decide +kernel
theorem dX5_readPass_21 : decode cX5_readPass 21 = .ok (.aload_n 0, 1) := by decide +kernel
theorem dX5_readPass_22 : decode cX5_readPass 22 = .ok (.invokevirtual 82, 3) := by decide +kernel
theorem dX5_readPass_25 : decode cX5_readPass 25 = .ok (.ifCond .ne 5, 3) := by decide +kernel
theorem dX5_readPass_28 : decode cX5_readPass 28 = .ok (.iconst 0, 1) := by decide +kernel
theorem dX5_readPass_29 : decode cX5_readPass 29 = .ok (.ireturn, 1) := by decide +kernel
theorem dX5_readPass_30 : decode cX5_readPass 30 = .ok (.aload_n 0, 1) := by decide +kernel
theorem dX5_readPass_31 : decode cX5_readPass 31 = .ok (.getfield 27, 3) := by decide +kernel
theorem dX5_readPass_34 : decode cX5_readPass 34 = .ok (.iload_n 1, 1) := by decide +kernel
theorem dX5_readPass_35 : decode cX5_readPass 35 = .ok (.invokevirtual 169, 3) := by decide +kernel
theorem dX5_readPass_38 : decode cX5_readPass 38 = .ok (.iconst 1, 1) := by decide +kernel
theorem dX5_readPass_39 : decode cX5_readPass 39 = .ok (.ireturn, 1) := by decide +kernel
theorem dX5_weatherOfToken_0 : decode cX5_weatherOfToken 0 = .ok (.aload_n 0, 1) := by decide +kernel
theorem dX5_weatherOfToken_1 : decode cX5_weatherOfToken 1 = .ok (.getfield 23, 3) := by decide +kernel
theorem dX5_weatherOfToken_4 : decode cX5_weatherOfToken 4 = .ok (.ldc 173, 2) := by decide +kernel
theorem dX5_weatherOfToken_6 : decode cX5_weatherOfToken 6 = .ok (.invokevirtual 48, 3) := by decide +kernel
theorem dX5_weatherOfToken_9 : decode cX5_weatherOfToken 9 = .ok (.ifCond .eq 5, 3) := by decide +kernel
theorem dX5_weatherOfToken_12 : decode cX5_weatherOfToken 12 = .ok (.iconst 0, 1) := by decide +kernel
theorem dX5_weatherOfToken_13 : decode cX5_weatherOfToken 13 = .ok (.ireturn, 1) := by decide +kernel
theorem dX5_weatherOfToken_14 : decode cX5_weatherOfToken 14 = .ok (.aload_n 0, 1) := by decide +kernel
theorem dX5_weatherOfToken_15 : decode cX5_weatherOfToken 15 = .ok (.getfield 23, 3) := by decide +kernel
theorem dX5_weatherOfToken_18 : decode cX5_weatherOfToken 18 = .ok (.ldc 175, 2) := by decide +kernel
theorem dX5_weatherOfToken_20 : decode cX5_weatherOfToken 20 = .ok (.invokevirtual 48, 3) := by decide +kernel
theorem dX5_weatherOfToken_23 : decode cX5_weatherOfToken 23 = .ok (.ifCond .eq 5, 3) := by decide +kernel
theorem dX5_weatherOfToken_26 : decode cX5_weatherOfToken 26 = .ok (.iconst 1, 1) := by decide +kernel
theorem dX5_weatherOfToken_27 : decode cX5_weatherOfToken 27 = .ok (.ireturn, 1) := by decide +kernel
theorem dX5_weatherOfToken_28 : decode cX5_weatherOfToken 28 = .ok (.aload_n 0, 1) := by decide +kernel
theorem dX5_weatherOfToken_29 : decode cX5_weatherOfToken 29 = .ok (.getfield 23, 3) := by decide +kernel
theorem dX5_weatherOfToken_32 : decode cX5_weatherOfToken 32 = .ok (.ldc 177, 2) := by decide +kernel
theorem dX5_weatherOfToken_34 : decode cX5_weatherOfToken 34 = .ok (.invokevirtual 48, 3) := by decide +kernel
theorem dX5_weatherOfToken_37 : decode cX5_weatherOfToken 37 = .ok (.ifCond .eq 7, 3) := by decide +kernel
theorem dX5_weatherOfToken_40 : decode cX5_weatherOfToken 40 = .ok (.iconst 2, 1) := by decide +kernel
theorem dX5_weatherOfToken_41 : decode cX5_weatherOfToken 41 = .ok (.goto 4, 3) := by decide +kernel
theorem dX5_weatherOfToken_44 : decode cX5_weatherOfToken 44 = .ok (.iconst (-1), 1) := by decide +kernel
theorem dX5_weatherOfToken_45 : decode cX5_weatherOfToken 45 = .ok (.ireturn, 1) := by decide +kernel
theorem dX5_readNewName_0 : decode cX5_readNewName 0 = .ok (.aload_n 0, 1) := by decide +kernel
theorem dX5_readNewName_1 : decode cX5_readNewName 1 = .ok (.getfield 23, 3) := by decide +kernel
theorem dX5_readNewName_4 : decode cX5_readNewName 4 = .ok (.invokevirtual 35, 3) := by decide +kernel
theorem dX5_readNewName_7 : decode cX5_readNewName 7 = .ok (.aload_n 0, 1) := by decide +kernel
theorem dX5_readNewName_8 : decode cX5_readNewName 8 = .ok (.getfield 23, 3) := by decide +kernel
theorem dX5_readNewName_11 : decode cX5_readNewName 11 = .ok (.getfield 40, 3) := by decide +kernel
theorem dX5_readNewName_14 : decode cX5_readNewName 14 = .ok (.iconst 1, 1) := by decide +kernel
theorem dX5_readNewName_15 : decode cX5_readNewName 15 = .ok (.if_icmp .eq 9, 3) := by decide +kernel
theorem dX5_readNewName_18 : decode cX5_readNewName 18 = .ok (.aload_n 0, 1) := by decide +kernel
theorem dX5_readNewName_19 : decode cX5_readNewName 19 = .ok (.iconst 1, 1) := by decide +kernel
theorem dX5_readNewName_20 : decode cX5_readNewName 20 = .ok (.invokevirtual 52, 3) := by decide +kernel
theorem dX5_readNewName_23 : decode cX5_readNewName 23 = .ok (.ireturn, 1) := by decide +kernel
theorem dX5_readNewName_24 : decode cX5_readNewName 24 = .ok (.aload_n 0, 1) := by decide +kernel
theorem dX5_readNewName_25 : decode cX5_readNewName 25 = .ok (.getfield 23, 3) := by decide +kernel
theorem dX5_readNewName_28 : decode cX5_readNewName 28 = .ok (.invokevirtual 122, 3) := by decide +kernel
theorem dX5_readNewName_31 : decode cX5_readNewName 31 = .ok (.istore_n 1, 1) := by decide +kernel
theorem dX5_readNewName_32 : decode cX5_readNewName 32 = .ok (.iload_n 1, 1) := by decide +kernel
theorem dX5_readNewName_33 : decode cX5_readNewName 33 = .ok (.ifCond .ne 9, 3) := by decide +kernel
theorem dX5_readNewName_36 : decode cX5_readNewName 36 = .ok (.aload_n 0, 1) := by decide +kernel
theorem dX5_readNewName_37 : decode cX5_readNewName 37 = .ok (.iconst 2, 1) := by decide +kernel
theorem dX5_readNewName_38 : decode cX5_readNewName 38 = .ok (.invokevirtual 52, 3) := by decide +kernel
theorem dX5_readNewName_41 : decode cX5_readNewName 41 = .ok (.ireturn, 1) := by decide +kernel
theorem dX5_readNewName_42 : decode cX5_readNewName 42 = .ok (.aload_n 0, 1) := by decide +kernel
theorem dX5_readNewName_43 : decode cX5_readNewName 43 = .ok (.getfield 27, 3) := by decide +kernel
theorem dX5_readNewName_46 : decode cX5_readNewName 46 = .ok (.getfield 110, 3) := by decide +kernel
theorem dX5_readNewName_49 : decode cX5_readNewName 49 = .ok (.iload_n 1, 1) := by decide +kernel
theorem dX5_readNewName_50 : decode cX5_readNewName 50 = .ok (.invokevirtual 139, 3) := by decide +kernel
theorem dX5_readNewName_53 : decode cX5_readNewName 53 = .ok (.iconst (-1), 1) := by decide +kernel
theorem dX5_readNewName_54 : decode cX5_readNewName 54 = .ok (.if_icmp .ne 18, 3) := by decide +kernel
theorem dX5_readNewName_57 : decode cX5_readNewName 57 = .ok (.aload_n 0, 1) := by decide +kernel
theorem dX5_readNewName_58 : decode cX5_readNewName 58 = .ok (.getfield 27, 3) := by decide +kernel
theorem dX5_readNewName_61 : decode cX5_readNewName 61 = .ok (.getfield 129, 3) := by decide +kernel
theorem dX5_readNewName_64 : decode cX5_readNewName 64 = .ok (.iload_n 1, 1) := by decide +kernel
theorem dX5_readNewName_65 : decode cX5_readNewName 65 = .ok (.invokevirtual 179, 3) := by decide +kernel
theorem dX5_readNewName_68 : decode cX5_readNewName 68 = .ok (.iconst (-1), 1) := by decide +kernel
theorem dX5_readNewName_69 : decode cX5_readNewName 69 = .ok (.if_icmp .eq 7, 3) := by decide +kernel
theorem dX5_readNewName_72 : decode cX5_readNewName 72 = .ok (.iconst 1, 1) := by decide +kernel
theorem dX5_readNewName_73 : decode cX5_readNewName 73 = .ok (.goto 4, 3) := by decide +kernel
theorem dX5_readNewName_76 : decode cX5_readNewName 76 = .ok (.iconst 0, 1) := by decide +kernel
theorem dX5_readNewName_77 : decode cX5_readNewName 77 = .ok (.istore_n 2, 1) := by decide +kernel
theorem dX5_readNewName_78 : decode cX5_readNewName 78 = .ok (.iload_n 2, 1) := by decide +kernel
theorem dX5_readNewName_79 : decode cX5_readNewName 79 = .ok (.ifCond .eq 11, 3) := by decide +kernel
theorem dX5_readNewName_82 : decode cX5_readNewName 82 = .ok (.aload_n 0, 1) := by decide +kernel
theorem dX5_readNewName_83 : decode cX5_readNewName 83 = .ok (.iconst 3, 1) := by decide +kernel
theorem dX5_readNewName_84 : decode cX5_readNewName 84 = .ok (.invokevirtual 52, 3) := by decide +kernel
theorem dX5_readNewName_87 : decode cX5_readNewName 87 = .ok (.ifCond .eq 7, 3) := by decide +kernel
theorem dX5_readNewName_90 : decode cX5_readNewName 90 = .ok (.iconst 1, 1) := by decide +kernel
theorem dX5_readNewName_91 : decode cX5_readNewName 91 = .ok (.goto 4, 3) := by decide +kernel
theorem dX5_readNewName_94 : decode cX5_readNewName 94 = .ok (.iconst 0, 1) := by decide +kernel
theorem dX5_readNewName_95 : decode cX5_readNewName 95 = .ok (.ireturn, 1) := by decide +kernel
theorem dX5_readKnownVillage_0 : decode cX5_readKnownVillage 0 = .ok (.aload_n 0, 1) := by decide +kernel
theorem dX5_readKnownVillage_1 : decode cX5_readKnownVillage 1 = .ok (.getfield 23, 3) := by decide +kernel
theorem dX5_readKnownVillage_4 : decode cX5_readKnownVillage 4 = .ok (.invokevirtual 35, 3) := by decide +kernel
theorem dX5_readKnownVillage_7 : decode cX5_readKnownVillage 7 = .ok (.aload_n 0, 1) := by decide +kernel
theorem dX5_readKnownVillage_8 : decode cX5_readKnownVillage 8 = .ok (.getfield 23, 3) := by decide +kernel
theorem dX5_readKnownVillage_11 : decode cX5_readKnownVillage 11 = .ok (.getfield 40, 3) := by decide +kernel
theorem dX5_readKnownVillage_14 : decode cX5_readKnownVillage 14 = .ok (.iconst 1, 1) := by decide +kernel
theorem dX5_readKnownVillage_15 : decode cX5_readKnownVillage 15 = .ok (.if_icmp .eq 9, 3) := by decide +kernel
theorem dX5_readKnownVillage_18 : decode cX5_readKnownVillage 18 = .ok (.aload_n 0, 1) := by decide +kernel
theorem dX5_readKnownVillage_19 : decode cX5_readKnownVillage 19 = .ok (.iconst 1, 1) := by decide +kernel
theorem dX5_readKnownVillage_20 : decode cX5_readKnownVillage 20 = .ok (.invokevirtual 52, 3) := by decide +kernel
theorem dX5_readKnownVillage_23 : decode cX5_readKnownVillage 23 = .ok (.ireturn, 1) := by decide +kernel
theorem dX5_readKnownVillage_24 : decode cX5_readKnownVillage 24 = .ok (.aload_n 0, 1) := by decide +kernel
theorem dX5_readKnownVillage_25 : decode cX5_readKnownVillage 25 = .ok (.getfield 27, 3) := by decide +kernel
theorem dX5_readKnownVillage_28 : decode cX5_readKnownVillage 28 = .ok (.getfield 110, 3) := by decide +kernel
theorem dX5_readKnownVillage_31 : decode cX5_readKnownVillage 31 = .ok (.aload_n 0, 1) := by decide +kernel
theorem dX5_readKnownVillage_32 : decode cX5_readKnownVillage 32 = .ok (.getfield 23, 3) := by decide +kernel
theorem dX5_readKnownVillage_35 : decode cX5_readKnownVillage 35 = .ok (.invokevirtual 122, 3) := by decide +kernel
theorem dX5_readKnownVillage_38 : decode cX5_readKnownVillage 38 = .ok (.invokevirtual 139, 3) := by decide +kernel
theorem dX5_readKnownVillage_41 : decode cX5_readKnownVillage 41 = .ok (.iconst (-1), 1) := by decide +kernel
theorem dX5_readKnownVillage_42 : decode cX5_readKnownVillage 42 = .ok (.if_icmp .ne 11, 3) := by decide +kernel
theorem dX5_readKnownVillage_45 : decode cX5_readKnownVillage 45 = .ok (.aload_n 0, 1) := by decide +kernel
theorem dX5_readKnownVillage_46 : decode cX5_readKnownVillage 46 = .ok (.iconst 4, 1) := by decide +kernel
theorem dX5_readKnownVillage_47 : decode cX5_readKnownVillage 47 = .ok (.invokevirtual 52, 3) := by decide +kernel
theorem dX5_readKnownVillage_50 : decode cX5_readKnownVillage 50 = .ok (.ifCond .eq 7, 3) := by decide +kernel
theorem dX5_readKnownVillage_53 : decode cX5_readKnownVillage 53 = .ok (.iconst 1, 1) := by decide +kernel
theorem dX5_readKnownVillage_54 : decode cX5_readKnownVillage 54 = .ok (.goto 4, 3) := by decide +kernel
theorem dX5_readKnownVillage_57 : decode cX5_readKnownVillage 57 = .ok (.iconst 0, 1) := by decide +kernel
theorem dX5_readKnownVillage_58 : decode cX5_readKnownVillage 58 = .ok (.ireturn, 1) := by decide +kernel
theorem dX5_readNumber_0 : decode cX5_readNumber 0 = .ok (.aload_n 0, 1) := by decide +kernel
theorem dX5_readNumber_1 : decode cX5_readNumber 1 = .ok (.getfield 23, 3) := by decide +kernel
theorem dX5_readNumber_4 : decode cX5_readNumber 4 = .ok (.invokevirtual 35, 3) := by decide +kernel
theorem dX5_readNumber_7 : decode cX5_readNumber 7 = .ok (.aload_n 0, 1) := by decide +kernel
theorem dX5_readNumber_8 : decode cX5_readNumber 8 = .ok (.getfield 23, 3) := by decide +kernel
theorem dX5_readNumber_11 : decode cX5_readNumber 11 = .ok (.getfield 40, 3) := by decide +kernel
theorem dX5_readNumber_14 : decode cX5_readNumber 14 = .ok (.iconst 2, 1) := by decide +kernel
theorem dX5_readNumber_15 : decode cX5_readNumber 15 = .ok (.if_icmp .eq 9, 3) := by decide +kernel
theorem dX5_readNumber_18 : decode cX5_readNumber 18 = .ok (.aload_n 0, 1) := by decide +kernel
theorem dX5_readNumber_19 : decode cX5_readNumber 19 = .ok (.iconst 1, 1) := by decide +kernel
theorem dX5_readNumber_20 : decode cX5_readNumber 20 = .ok (.invokevirtual 52, 3) := by decide +kernel
theorem dX5_readNumber_23 : decode cX5_readNumber 23 = .ok (.ireturn, 1) := by decide +kernel
theorem dX5_readNumber_24 : decode cX5_readNumber 24 = .ok (.aload_n 0, 1) := by decide +kernel
theorem dX5_readNumber_25 : decode cX5_readNumber 25 = .ok (.getfield 23, 3) := by decide +kernel
theorem dX5_readNumber_28 : decode cX5_readNumber 28 = .ok (.getfield 66, 3) := by decide +kernel
theorem dX5_readNumber_31 : decode cX5_readNumber 31 = .ok (.iload_n 1, 1) := by decide +kernel
theorem dX5_readNumber_32 : decode cX5_readNumber 32 = .ok (.iload_n 2, 1) := by decide +kernel
theorem dX5_readNumber_33 : decode cX5_readNumber 33 = .ok (.invokestatic 180, 3) := by decide +kernel
theorem dX5_readNumber_36 : decode cX5_readNumber 36 = .ok (.ifCond .ne 11, 3) := by decide +kernel
theorem dX5_readNumber_39 : decode cX5_readNumber 39 = .ok (.aload_n 0, 1) := by decide +kernel
theorem dX5_readNumber_40 : decode cX5_readNumber 40 = .ok (.iconst 2, 1) := by decide +kernel
theorem dX5_readNumber_41 : decode cX5_readNumber 41 = .ok (.invokevirtual 52, 3) := by decide +kernel
theorem dX5_readNumber_44 : decode cX5_readNumber 44 = .ok (.ifCond .eq 7, 3) := by decide +kernel
theorem dX5_readNumber_47 : decode cX5_readNumber 47 = .ok (.iconst 1, 1) := by decide +kernel
theorem dX5_readNumber_48 : decode cX5_readNumber 48 = .ok (.goto 4, 3) := by decide +kernel
theorem dX5_readNumber_51 : decode cX5_readNumber 51 = .ok (.iconst 0, 1) := by decide +kernel
theorem dX5_readNumber_52 : decode cX5_readNumber 52 = .ok (.ireturn, 1) := by decide +kernel
theorem dX5_readSemicolon_0 : decode cX5_readSemicolon 0 = .ok (.aload_n 0, 1) := by decide +kernel
theorem dX5_readSemicolon_1 : decode cX5_readSemicolon 1 = .ok (.getfield 23, 3) := by decide +kernel
theorem dX5_readSemicolon_4 : decode cX5_readSemicolon 4 = .ok (.invokevirtual 35, 3) := by decide +kernel
theorem dX5_readSemicolon_7 : decode cX5_readSemicolon 7 = .ok (.aload_n 0, 1) := by decide +kernel
theorem dX5_readSemicolon_8 : decode cX5_readSemicolon 8 = .ok (.getfield 23, 3) := by decide +kernel
theorem dX5_readSemicolon_11 : decode cX5_readSemicolon 11 = .ok (.invokevirtual 184, 3) := by decide +kernel
theorem dX5_readSemicolon_14 : decode cX5_readSemicolon 14 = .ok (.ifCond .ne 11, 3) := by decide +kernel
theorem dX5_readSemicolon_17 : decode cX5_readSemicolon 17 = .ok (.aload_n 0, 1) := by decide +kernel
theorem dX5_readSemicolon_18 : decode cX5_readSemicolon 18 = .ok (.iconst 1, 1) := by decide +kernel
theorem dX5_readSemicolon_19 : decode cX5_readSemicolon 19 = .ok (.invokevirtual 52, 3) := by decide +kernel
theorem dX5_readSemicolon_22 : decode cX5_readSemicolon 22 = .ok (.ifCond .eq 7, 3) := by decide +kernel
theorem dX5_readSemicolon_25 : decode cX5_readSemicolon 25 = .ok (.iconst 1, 1) := by decide +kernel
theorem dX5_readSemicolon_26 : decode cX5_readSemicolon 26 = .ok (.goto 4, 3) := by decide +kernel
theorem dX5_readSemicolon_29 : decode cX5_readSemicolon 29 = .ok (.iconst 0, 1) := by decide +kernel
theorem dX5_readSemicolon_30 : decode cX5_readSemicolon 30 = .ok (.ireturn, 1) := by decide +kernel
theorem dX5_fail_0 : decode cX5_fail 0 = .ok (.aload_n 0, 1) := by decide +kernel
theorem dX5_fail_1 : decode cX5_fail 1 = .ok (.iload_n 1, 1) := by decide +kernel
theorem dX5_fail_2 : decode cX5_fail 2 = .ok (.putfield 9, 3) := by decide +kernel
theorem dX5_fail_5 : decode cX5_fail 5 = .ok (.aload_n 0, 1) := by decide +kernel
theorem dX5_fail_6 : decode cX5_fail 6 = .ok (.aload_n 0, 1) := by decide +kernel
theorem dX5_fail_7 : decode cX5_fail 7 = .ok (.getfield 23, 3) := by decide +kernel
theorem dX5_fail_10 : decode cX5_fail 10 = .ok (.getfield 187, 3) := by decide +kernel
theorem dX5_fail_13 : decode cX5_fail 13 = .ok (.putfield 15, 3) := by decide +kernel
theorem dX5_fail_16 : decode cX5_fail 16 = .ok (.iconst 0, 1) := by decide +kernel
theorem dX5_fail_17 : decode cX5_fail 17 = .ok (.ireturn, 1) := by decide +kernel
theorem dX6_init_0 : decode cX6_init 0 = .ok (.aload_n 0, 1) := by decide +kernel
theorem dX6_init_1 : decode cX6_init 1 = .ok (.invokespecial 3, 3) := by decide +kernel
theorem dX6_init_4 : decode cX6_init 4 = .ok (.aload_n 0, 1) := by decide +kernel
theorem dX6_init_5 : decode cX6_init 5 = .ok (.iconst 0, 1) := by decide +kernel
theorem dX6_init_6 : decode cX6_init 6 = .ok (.putfield 11, 3) := by decide +kernel
theorem dX6_init_9 : decode cX6_init 9 = .ok (.aload_n 0, 1) := by decide +kernel
theorem dX6_init_10 : decode cX6_init 10 = .ok (.iconst 0, 1) := by decide +kernel
theorem dX6_init_11 : decode cX6_init 11 = .ok (.putfield 15, 3) := by decide +kernel
theorem dX6_init_14 : decode cX6_init 14 = .ok (.aload_n 0, 1) := by decide +kernel
theorem dX6_init_15 : decode cX6_init 15 = .ok (.iconst 0, 1) := by decide +kernel
theorem dX6_init_16 : decode cX6_init 16 = .ok (.putfield 18, 3) := by decide +kernel
theorem dX6_init_19 : decode cX6_init 19 = .ok (.aload_n 0, 1) := by decide +kernel
theorem dX6_init_20 : decode cX6_init 20 = .ok (.iconst 0, 1) := by decide +kernel
theorem dX6_init_21 : decode cX6_init 21 = .ok (.putfield 21, 3) := by decide +kernel
theorem dX6_init_24 : decode cX6_init 24 = .ok (.aload_n 0, 1) := by decide +kernel
theorem dX6_init_25 : decode cX6_init 25 = .ok (.aload_n 1, 1) := by decide +kernel
theorem dX6_init_26 : decode cX6_init 26 = .ok (.putfield 24, 3) := by decide +kernel
theorem dX6_init_29 : decode cX6_init 29 = .ok (.return_, 1) := by decide +kernel
theorem dX6_next_0 : decode cX6_next 0 = .ok (.aload_n 0, 1) := by decide +kernel
theorem dX6_next_1 : decode cX6_next 1 = .ok (.aload_n 0, 1) := by decide +kernel
theorem dX6_next_2 : decode cX6_next 2 = .ok (.getfield 18, 3) := by decide +kernel
theorem dX6_next_5 : decode cX6_next 5 = .ok (.putfield 15, 3) := by decide +kernel
theorem dX6_next_8 : decode cX6_next 8 = .ok (.aload_n 0, 1) := by decide +kernel
theorem dX6_next_9 : decode cX6_next 9 = .ok (.getfield 15, 3) := by decide +kernel
theorem dX6_next_12 : decode cX6_next 12 = .ok (.aload_n 0, 1) := by decide +kernel
theorem dX6_next_13 : decode cX6_next 13 = .ok (.getfield 24, 3) := by decide +kernel
theorem dX6_next_16 : decode cX6_next 16 = .ok (.getfield 28, 3) := by decide +kernel
theorem dX6_next_19 : decode cX6_next 19 = .ok (.if_icmp .ge 34, 3) := by decide +kernel
theorem dX6_next_22 : decode cX6_next 22 = .ok (.aload_n 0, 1) := by decide +kernel
theorem dX6_next_23 : decode cX6_next 23 = .ok (.aload_n 0, 1) := by decide +kernel
theorem dX6_next_24 : decode cX6_next 24 = .ok (.getfield 24, 3) := by decide +kernel
theorem dX6_next_27 : decode cX6_next 27 = .ok (.aload_n 0, 1) := by decide +kernel
theorem dX6_next_28 : decode cX6_next 28 = .ok (.getfield 15, 3) := by decide +kernel
theorem dX6_next_31 : decode cX6_next 31 = .ok (.invokevirtual 33, 3) := by decide +kernel
theorem dX6_next_34 : decode cX6_next 34 = .ok (.invokevirtual 37, 3) := by decide +kernel
theorem dX6_next_37 : decode cX6_next 37 = .ok (.ifCond .eq 16, 3) := by decide +kernel
theorem dX6_next_40 : decode cX6_next 40 = .ok (.aload_n 0, 1) := by decide +kernel
theorem dX6_next_41 : decode cX6_next 41 = .ok (.dup, 1) := by decide +kernel
theorem dX6_next_42 : decode cX6_next 42 = .ok (.getfield 15, 3) := by decide +kernel
theorem dX6_next_45 : decode cX6_next 45 = .ok (.iconst 1, 1) := by decide +kernel
theorem dX6_next_46 : decode cX6_next 46 = .ok (.iadd, 1) := by decide +kernel
theorem dX6_next_47 : decode cX6_next 47 = .ok (.putfield 15, 3) := by decide +kernel
theorem dX6_next_50 : decode cX6_next 50 = .ok (.goto (-42), 3) := by decide +kernel
theorem dX6_next_53 : decode cX6_next 53 = .ok (.aload_n 0, 1) := by decide +kernel
theorem dX6_next_54 : decode cX6_next 54 = .ok (.aload_n 0, 1) := by decide +kernel
theorem dX6_next_55 : decode cX6_next 55 = .ok (.getfield 15, 3) := by decide +kernel
theorem dX6_next_58 : decode cX6_next 58 = .ok (.putfield 18, 3) := by decide +kernel
theorem dX6_next_61 : decode cX6_next 61 = .ok (.aload_n 0, 1) := by decide +kernel
theorem dX6_next_62 : decode cX6_next 62 = .ok (.getfield 24, 3) := by decide +kernel
theorem dX6_next_65 : decode cX6_next 65 = .ok (.aload_n 0, 1) := by decide +kernel
theorem dX6_next_66 : decode cX6_next 66 = .ok (.getfield 15, 3) := by decide +kernel
theorem dX6_next_69 : decode cX6_next 69 = .ok (.invokevirtual 33, 3) := by decide +kernel
theorem dX6_next_72 : decode cX6_next 72 = .ok (.istore_n 1, 1) := by decide +kernel
theorem dX6_next_73 : decode cX6_next 73 = .ok (.iload_n 1, 1) := by decide +kernel
theorem dX6_next_74 : decode cX6_next 74 = .ok (.iconst (-1), 1) := by decide +kernel
theorem dX6_next_75 : decode cX6_next 75 = .ok (.if_icmp .ne 11, 3) := by decide +kernel
theorem dX6_next_78 : decode cX6_next 78 = .ok (.aload_n 0, 1) := by decide +kernel
theorem dX6_next_79 : decode cX6_next 79 = .ok (.iconst 0, 1) := by decide +kernel
theorem dX6_next_80 : decode cX6_next 80 = .ok (.putfield 11, 3) := by decide +kernel
theorem dX6_next_83 : decode cX6_next 83 = .ok (.goto 93, 3) := by decide +kernel
theorem dX6_next_86 : decode cX6_next 86 = .ok (.iload_n 1, 1) := by decide +kernel
theorem dX6_next_87 : decode cX6_next 87 = .ok (.invokestatic 41, 3) := by decide +kernel
theorem dX6_next_90 : decode cX6_next 90 = .ok (.ifCond .eq 52, 3) := by decide +kernel
theorem dX6_next_93 : decode cX6_next 93 = .ok (.aload_n 0, 1) := by decide +kernel
theorem dX6_next_94 : decode cX6_next 94 = .ok (.iconst 1, 1) := by decide +kernel
theorem dX6_next_95 : decode cX6_next 95 = .ok (.putfield 11, 3) := by decide +kernel
theorem dX6_next_98 : decode cX6_next 98 = .ok (.aload_n 0, 1) := by decide +kernel
theorem dX6_next_99 : decode cX6_next 99 = .ok (.getfield 18, 3) := by decide +kernel
theorem dX6_next_102 : decode cX6_next 102 = .ok (.aload_n 0, 1) := by decide +kernel
theorem dX6_next_103 : decode cX6_next 103 = .ok (.getfield 24, 3) := by decide +kernel
theorem dX6_next_106 : decode cX6_next 106 = .ok (.getfield 28, 3) := by decide +kernel
theorem dX6_next_109 : decode cX6_next 109 = .ok (.if_icmp .ge 67, 3) := by decide +kernel
theorem dX6_next_112 : decode cX6_next 112 = .ok (.aload_n 0, 1) := by decide +kernel
theorem dX6_next_113 : decode cX6_next 113 = .ok (.getfield 24, 3) := by decide +kernel
theorem dX6_next_116 : decode cX6_next 116 = .ok (.aload_n 0, 1) := by decide +kernel
theorem dX6_next_117 : decode cX6_next 117 = .ok (.getfield 18, 3) := by decide +kernel
theorem dX6_next_120 : decode cX6_next 120 = .ok (.invokevirtual 33, 3) := by decide +kernel
theorem dX6_next_123 : decode cX6_next 123 = .ok (.invokestatic 41, 3) := by decide +kernel
theorem dX6_next_126 : decode cX6_next 126 = .ok (.ifCond .eq 50, 3) := by decide +kernel
theorem dX6_next_129 : decode cX6_next 129 = .ok (.aload_n 0, 1) := by decide +kernel
theorem dX6_next_130 : decode cX6_next 130 = .ok (.dup, 1) := by decide +kernel
theorem dX6_next_131 : decode cX6_next 131 = .ok (.getfield 18, 3) := by decide +kernel
theorem dX6_next_134 : decode cX6_next 134 = .ok (.iconst 1, 1) := by decide +kernel
theorem dX6_next_135 : decode cX6_next 135 = .ok (.iadd, 1) := by decide +kernel
theorem dX6_next_136 : decode cX6_next 136 = .ok (.putfield 18, 3) := by decide +kernel
theorem dX6_next_139 : decode cX6_next 139 = .ok (.goto (-41), 3) := by decide +kernel
theorem dX6_next_142 : decode cX6_next 142 = .ok (.iload_n 1, 1) := by decide +kernel
theorem dX6_next_143 : decode cX6_next 143 = .ok (.invokestatic 44, 3) := by decide +kernel
theorem dX6_next_146 : decode cX6_next 146 = .ok (.ifCond .eq 15, 3) := by decide +kernel
theorem dX6_next_149 : decode cX6_next 149 = .ok (.aload_n 0, 1) := by decide +kernel
theorem dX6_next_150 : decode cX6_next 150 = .ok (.iconst 2, 1) := by decide +kernel
theorem dX6_next_151 : decode cX6_next 151 = .ok (.putfield 11, 3) := by decide +kernel
theorem dX6_next_154 : decode cX6_next 154 = .ok (.aload_n 0, 1) := by decide +kernel
theorem dX6_next_155 : decode cX6_next 155 = .ok (.invokevirtual 47, 3) := by decide +kernel
theorem dX6_next_158 : decode cX6_next 158 = .ok (.goto 18, 3) := by decide +kernel
theorem dX6_next_161 : decode cX6_next 161 = .ok (.aload_n 0, 1) := by decide +kernel
theorem dX6_next_162 : decode cX6_next 162 = .ok (.iconst 3, 1) := by decide +kernel
theorem dX6_next_163 : decode cX6_next 163 = .ok (.putfield 11, 3) := by decide +kernel
theorem dX6_next_166 : decode cX6_next 166 = .ok (.aload_n 0, 1) := by decide +kernel
theorem dX6_next_167 : decode cX6_next 167 = .ok (.dup, 1) := by decide +kernel
theorem dX6_next_168 : decode cX6_next 168 = .ok (.getfield 18, 3) := by decide +kernel
theorem dX6_next_171 : decode cX6_next 171 = .ok (.iconst 1, 1) := by decide +kernel
theorem dX6_next_172 : decode cX6_next 172 = .ok (.iadd, 1) := by decide +kernel
theorem dX6_next_173 : decode cX6_next 173 = .ok (.putfield 18, 3) := by decide +kernel
theorem dX6_next_176 : decode cX6_next 176 = .ok (.return_, 1) := by decide +kernel
theorem dX6_isBlank_0 : decode cX6_isBlank 0 = .ok (.iload_n 1, 1) := by decide +kernel
theorem dX6_isBlank_1 : decode cX6_isBlank 1 = .ok (.bipush 32, 2) := by decide +kernel
theorem dX6_isBlank_3 : decode cX6_isBlank 3 = .ok (.if_icmp .eq 9, 3) := by decide +kernel
theorem dX6_isBlank_6 : decode cX6_isBlank 6 = .ok (.iload_n 1, 1) := by decide +kernel
theorem dX6_isBlank_7 : decode cX6_isBlank 7 = .ok (.bipush 10, 2) := by decide +kernel
theorem dX6_isBlank_9 : decode cX6_isBlank 9 = .ok (.if_icmp .ne 7, 3) := by decide +kernel
theorem dX6_isBlank_12 : decode cX6_isBlank 12 = .ok (.iconst 1, 1) := by decide +kernel
theorem dX6_isBlank_13 : decode cX6_isBlank 13 = .ok (.goto 4, 3) := by decide +kernel
theorem dX6_isBlank_16 : decode cX6_isBlank 16 = .ok (.iconst 0, 1) := by decide +kernel
theorem dX6_isBlank_17 : decode cX6_isBlank 17 = .ok (.ireturn, 1) := by decide +kernel
theorem dX6_readDigits_0 : decode cX6_readDigits 0 = .ok (.aload_n 0, 1) := by decide +kernel
theorem dX6_readDigits_1 : decode cX6_readDigits 1 = .ok (.iconst 0, 1) := by decide +kernel
theorem dX6_readDigits_2 : decode cX6_readDigits 2 = .ok (.putfield 21, 3) := by decide +kernel
theorem dX6_readDigits_5 : decode cX6_readDigits 5 = .ok (.aload_n 0, 1) := by decide +kernel
theorem dX6_readDigits_6 : decode cX6_readDigits 6 = .ok (.getfield 18, 3) := by decide +kernel
theorem dX6_readDigits_9 : decode cX6_readDigits 9 = .ok (.aload_n 0, 1) := by decide +kernel
theorem dX6_readDigits_10 : decode cX6_readDigits 10 = .ok (.getfield 24, 3) := by decide +kernel
theorem dX6_readDigits_13 : decode cX6_readDigits 13 = .ok (.getfield 28, 3) := by decide +kernel
theorem dX6_readDigits_16 : decode cX6_readDigits 16 = .ok (.if_icmp .ge 64, 3) := by decide +kernel
theorem dX6_readDigits_19 : decode cX6_readDigits 19 = .ok (.aload_n 0, 1) := by decide +kernel
theorem dX6_readDigits_20 : decode cX6_readDigits 20 = .ok (.getfield 24, 3) := by decide +kernel
theorem dX6_readDigits_23 : decode cX6_readDigits 23 = .ok (.aload_n 0, 1) := by decide +kernel
theorem dX6_readDigits_24 : decode cX6_readDigits 24 = .ok (.getfield 18, 3) := by decide +kernel
theorem dX6_readDigits_27 : decode cX6_readDigits 27 = .ok (.invokevirtual 33, 3) := by decide +kernel
theorem dX6_readDigits_30 : decode cX6_readDigits 30 = .ok (.invokestatic 44, 3) := by decide +kernel
theorem dX6_readDigits_33 : decode cX6_readDigits 33 = .ok (.ifCond .eq 47, 3) := by decide +kernel
theorem dX6_readDigits_36 : decode cX6_readDigits 36 = .ok (.aload_n 0, 1) := by decide +kernel
theorem dX6_readDigits_37 : decode cX6_readDigits 37 = .ok (.ldc 50, 2) := by decide +kernel
theorem dX6_readDigits_39 : decode cX6_readDigits 39 = .ok (.bipush 10, 2) := by decide +kernel
theorem dX6_readDigits_41 : decode cX6_readDigits 41 = .ok (.aload_n 0, 1) := by decide +kernel
theorem dX6_readDigits_42 : decode cX6_readDigits 42 = .ok (.getfield 21, 3) := by decide +kernel
theorem dX6_readDigits_45 : decode cX6_readDigits 45 = .ok (.imul, 1) := by decide +kernel
theorem dX6_readDigits_46 : decode cX6_readDigits 46 = .ok (.aload_n 0, 1) := by decide +kernel
theorem dX6_readDigits_47 : decode cX6_readDigits 47 = .ok (.getfield 24, 3) := by decide +kernel
theorem dX6_readDigits_50 : decode cX6_readDigits 50 = .ok (.aload_n 0, 1) := by decide +kernel
theorem dX6_readDigits_51 : decode cX6_readDigits 51 = .ok (.getfield 18, 3) := by decide +kernel
theorem dX6_readDigits_54 : decode cX6_readDigits 54 = .ok (.invokevirtual 33, 3) := by decide +kernel
theorem dX6_readDigits_57 : decode cX6_readDigits 57 = .ok (.iadd, 1) := by decide +kernel
theorem dX6_readDigits_58 : decode cX6_readDigits 58 = .ok (.bipush 48, 2) := by decide +kernel
theorem dX6_readDigits_60 : decode cX6_readDigits 60 = .ok (.isub, 1) := by decide +kernel
theorem dX6_readDigits_61 : decode cX6_readDigits 61 = .ok (.invokestatic 51, 3) := by decide +kernel
theorem dX6_readDigits_64 : decode cX6_readDigits 64 = .ok (.putfield 21, 3) := by decide +kernel
theorem dX6_readDigits_67 : decode cX6_readDigits 67 = .ok (.aload_n 0, 1) := by decide +kernel
theorem dX6_readDigits_68 : decode cX6_readDigits 68 = .ok (.dup, 1) := by decide +kernel
theorem dX6_readDigits_69 : decode cX6_readDigits 69 = .ok (.getfield 18, 3) := by decide +kernel
theorem dX6_readDigits_72 : decode cX6_readDigits 72 = .ok (.iconst 1, 1) := by decide +kernel
theorem dX6_readDigits_73 : decode cX6_readDigits 73 = .ok (.iadd, 1) := by decide +kernel
theorem dX6_readDigits_74 : decode cX6_readDigits 74 = .ok (.putfield 18, 3) := by decide +kernel
theorem dX6_readDigits_77 : decode cX6_readDigits 77 = .ok (.goto (-72), 3) := by decide +kernel
theorem dX6_readDigits_80 : decode cX6_readDigits 80 = .ok (.return_, 1) := by decide +kernel
theorem dX6_isWord_0 : decode cX6_isWord 0 = .ok (.aload_n 0, 1) := by decide +kernel
theorem dX6_isWord_1 : decode cX6_isWord 1 = .ok (.getfield 11, 3) := by decide +kernel
theorem dX6_isWord_4 : decode cX6_isWord 4 = .ok (.iconst 1, 1) := by decide +kernel
theorem dX6_isWord_5 : decode cX6_isWord 5 = .ok (.if_icmp .ne 19, 3) := by decide +kernel
theorem dX6_isWord_8 : decode cX6_isWord 8 = .ok (.aload_n 0, 1) := by decide +kernel
theorem dX6_isWord_9 : decode cX6_isWord 9 = .ok (.getfield 18, 3) := by decide +kernel
theorem dX6_isWord_12 : decode cX6_isWord 12 = .ok (.aload_n 0, 1) := by decide +kernel
theorem dX6_isWord_13 : decode cX6_isWord 13 = .ok (.getfield 15, 3) := by decide +kernel
theorem dX6_isWord_16 : decode cX6_isWord 16 = .ok (.isub, 1) := by decide +kernel
theorem dX6_isWord_17 : decode cX6_isWord 17 = .ok (.aload_n 1, 1) := by decide +kernel
theorem dX6_isWord_18 : decode cX6_isWord 18 = .ok (.invokevirtual 57, 3) := by decide +kernel
theorem dX6_isWord_21 : decode cX6_isWord 21 = .ok (.if_icmp .eq 5, 3) := by decide +kernel
theorem dX6_isWord_24 : decode cX6_isWord 24 = .ok (.iconst 0, 1) := by decide +kernel
theorem dX6_isWord_25 : decode cX6_isWord 25 = .ok (.ireturn, 1) := by decide +kernel
theorem dX6_isWord_26 : decode cX6_isWord 26 = .ok (.iconst 0, 1) := by decide +kernel
theorem dX6_isWord_27 : decode cX6_isWord 27 = .ok (.istore_n 2, 1) := by decide +kernel
theorem dX6_isWord_28 : decode cX6_isWord 28 = .ok (.iload_n 2, 1) := by decide +kernel
theorem dX6_isWord_29 : decode cX6_isWord 29 = .ok (.aload_n 1, 1) := by decide +kernel
theorem dX6_isWord_30 : decode cX6_isWord 30 = .ok (.invokevirtual 57, 3) := by decide +kernel
theorem dX6_isWord_33 : decode cX6_isWord 33 = .ok (.if_icmp .ge 32, 3) := by decide +kernel
theorem dX6_isWord_36 : decode cX6_isWord 36 = .ok (.aload_n 0, 1) := by decide +kernel
theorem dX6_isWord_37 : decode cX6_isWord 37 = .ok (.getfield 24, 3) := by decide +kernel
theorem dX6_isWord_40 : decode cX6_isWord 40 = .ok (.aload_n 0, 1) := by decide +kernel
theorem dX6_isWord_41 : decode cX6_isWord 41 = .ok (.getfield 15, 3) := by decide +kernel
theorem dX6_isWord_44 : decode cX6_isWord 44 = .ok (.iload_n 2, 1) := by decide +kernel
theorem dX6_isWord_45 : decode cX6_isWord 45 = .ok (.iadd, 1) := by decide +kernel
theorem dX6_isWord_46 : decode cX6_isWord 46 = .ok (.invokevirtual 33, 3) := by decide +kernel
theorem dX6_isWord_49 : decode cX6_isWord 49 = .ok (.aload_n 1, 1) := by decide +kernel
theorem dX6_isWord_50 : decode cX6_isWord 50 = .ok (.iload_n 2, 1) := by decide +kernel
theorem dX6_isWord_51 : decode cX6_isWord 51 = .ok (.invokevirtual 62, 3) := by decide +kernel
theorem dX6_isWord_54 : decode cX6_isWord 54 = .ok (.if_icmp .eq 5, 3) := by decide +kernel
theorem dX6_isWord_57 : decode cX6_isWord 57 = .ok (.iconst 0, 1) := by decide +kernel
theorem dX6_isWord_58 : decode cX6_isWord 58 = .ok (.ireturn, 1) := by decide +kernel
theorem dX6_isWord_59 : decode cX6_isWord 59 = .ok (.iinc 2 1, 3) := by decide +kernel
theorem dX6_isWord_62 : decode cX6_isWord 62 = .ok (.goto (-34), 3) := by decide +kernel
theorem dX6_isWord_65 : decode cX6_isWord 65 = .ok (.iconst 1, 1) := by decide +kernel
theorem dX6_isWord_66 : decode cX6_isWord 66 = .ok (.ireturn, 1) := by decide +kernel
theorem dX6_isSemicolon_0 : decode cX6_isSemicolon 0 = .ok (.aload_n 0, 1) := by decide +kernel
theorem dX6_isSemicolon_1 : decode cX6_isSemicolon 1 = .ok (.getfield 11, 3) := by decide +kernel
theorem dX6_isSemicolon_4 : decode cX6_isSemicolon 4 = .ok (.iconst 3, 1) := by decide +kernel
theorem dX6_isSemicolon_5 : decode cX6_isSemicolon 5 = .ok (.if_icmp .ne 23, 3) := by decide +kernel
theorem dX6_isSemicolon_8 : decode cX6_isSemicolon 8 = .ok (.aload_n 0, 1) := by decide +kernel
theorem dX6_isSemicolon_9 : decode cX6_isSemicolon 9 = .ok (.getfield 24, 3) := by decide +kernel
theorem dX6_isSemicolon_12 : decode cX6_isSemicolon 12 = .ok (.aload_n 0, 1) := by decide +kernel
theorem dX6_isSemicolon_13 : decode cX6_isSemicolon 13 = .ok (.getfield 15, 3) := by decide +kernel
theorem dX6_isSemicolon_16 : decode cX6_isSemicolon 16 = .ok (.invokevirtual 33, 3) := by decide +kernel
theorem dX6_isSemicolon_19 : decode cX6_isSemicolon 19 = .ok (.bipush 59, 2) := by decide +kernel
theorem dX6_isSemicolon_21 : decode cX6_isSemicolon 21 = .ok (.if_icmp .ne 7, 3) := by decide +kernel
theorem dX6_isSemicolon_24 : decode cX6_isSemicolon 24 = .ok (.iconst 1, 1) := by decide +kernel
theorem dX6_isSemicolon_25 : decode cX6_isSemicolon 25 = .ok (.goto 4, 3) := by decide +kernel
theorem dX6_isSemicolon_28 : decode cX6_isSemicolon 28 = .ok (.iconst 0, 1) := by decide +kernel
theorem dX6_isSemicolon_29 : decode cX6_isSemicolon 29 = .ok (.ireturn, 1) := by decide +kernel
theorem dX6_name_0 : decode cX6_name 0 = .ok (.aload_n 0, 1) := by decide +kernel
theorem dX6_name_1 : decode cX6_name 1 = .ok (.getfield 24, 3) := by decide +kernel
theorem dX6_name_4 : decode cX6_name 4 = .ok (.aload_n 0, 1) := by decide +kernel
theorem dX6_name_5 : decode cX6_name 5 = .ok (.getfield 15, 3) := by decide +kernel
theorem dX6_name_8 : decode cX6_name 8 = .ok (.aload_n 0, 1) := by decide +kernel
theorem dX6_name_9 : decode cX6_name 9 = .ok (.getfield 18, 3) := by decide +kernel
theorem dX6_name_12 : decode cX6_name 12 = .ok (.invokevirtual 66, 3) := by decide +kernel
theorem dX6_name_15 : decode cX6_name 15 = .ok (.ireturn, 1) := by decide +kernel
theorem dX7_init_0 : decode cX7_init 0 = .ok (.aload_n 0, 1) := by decide +kernel
theorem dX7_init_1 : decode cX7_init 1 = .ok (.invokespecial 3, 3) := by decide +kernel
theorem dX7_init_4 : decode cX7_init 4 = .ok (.aload_n 0, 1) := by decide +kernel
theorem dX7_init_5 : decode cX7_init 5 = .ok (.iconst 3, 1) := by decide +kernel
theorem dX7_init_6 : decode cX7_init 6 = .ok (.newarray .int, 2) := by decide +kernel
theorem dX7_init_8 : decode cX7_init 8 = .ok (.putfield 9, 3) := by decide +kernel
theorem dX7_init_11 : decode cX7_init 11 = .ok (.aload_n 0, 1) := by decide +kernel
theorem dX7_init_12 : decode cX7_init 12 = .ok (.iconst 3, 1) := by decide +kernel
theorem dX7_init_13 : decode cX7_init 13 = .ok (.newarray .int, 2) := by decide +kernel
theorem dX7_init_15 : decode cX7_init 15 = .ok (.putfield 15, 3) := by decide +kernel
theorem dX7_init_18 : decode cX7_init 18 = .ok (.aload_n 0, 1) := by decide +kernel
theorem dX7_init_19 : decode cX7_init 19 = .ok (.iconst 0, 1) := by decide +kernel
theorem dX7_init_20 : decode cX7_init 20 = .ok (.putfield 18, 3) := by decide +kernel
theorem dX7_init_23 : decode cX7_init 23 = .ok (.return_, 1) := by decide +kernel
theorem dX7_sumOfOdds_0 : decode cX7_sumOfOdds 0 = .ok (.aload_n 0, 1) := by decide +kernel
theorem dX7_sumOfOdds_1 : decode cX7_sumOfOdds 1 = .ok (.getfield 9, 3) := by decide +kernel
theorem dX7_sumOfOdds_4 : decode cX7_sumOfOdds 4 = .ok (.iconst 0, 1) := by decide +kernel
theorem dX7_sumOfOdds_5 : decode cX7_sumOfOdds 5 = .ok (.iaload, 1) := by decide +kernel
theorem dX7_sumOfOdds_6 : decode cX7_sumOfOdds 6 = .ok (.aload_n 0, 1) := by decide +kernel
theorem dX7_sumOfOdds_7 : decode cX7_sumOfOdds 7 = .ok (.getfield 9, 3) := by decide +kernel
theorem dX7_sumOfOdds_10 : decode cX7_sumOfOdds 10 = .ok (.iconst 1, 1) := by decide +kernel
theorem dX7_sumOfOdds_11 : decode cX7_sumOfOdds 11 = .ok (.iaload, 1) := by decide +kernel
theorem dX7_sumOfOdds_12 : decode cX7_sumOfOdds 12 = .ok (.iadd, 1) := by decide +kernel
theorem dX7_sumOfOdds_13 : decode cX7_sumOfOdds 13 = .ok (.aload_n 0, 1) := by decide +kernel
theorem dX7_sumOfOdds_14 : decode cX7_sumOfOdds 14 = .ok (.getfield 9, 3) := by decide +kernel
theorem dX7_sumOfOdds_17 : decode cX7_sumOfOdds 17 = .ok (.iconst 2, 1) := by decide +kernel
theorem dX7_sumOfOdds_18 : decode cX7_sumOfOdds 18 = .ok (.iaload, 1) := by decide +kernel
theorem dX7_sumOfOdds_19 : decode cX7_sumOfOdds 19 = .ok (.iadd, 1) := by decide +kernel
theorem dX7_sumOfOdds_20 : decode cX7_sumOfOdds 20 = .ok (.ireturn, 1) := by decide +kernel
theorem dX7_seedAfter_0 : decode cX7_seedAfter 0 = .ok (.bipush 29, 2) := by decide +kernel
theorem dX7_seedAfter_2 : decode cX7_seedAfter 2 = .ok (.iload_n 0, 1) := by decide +kernel
theorem dX7_seedAfter_3 : decode cX7_seedAfter 3 = .ok (.imul, 1) := by decide +kernel
theorem dX7_seedAfter_4 : decode cX7_seedAfter 4 = .ok (.bipush 11, 2) := by decide +kernel
theorem dX7_seedAfter_6 : decode cX7_seedAfter 6 = .ok (.iadd, 1) := by decide +kernel
theorem dX7_seedAfter_7 : decode cX7_seedAfter 7 = .ok (.sipush 1024, 3) := by decide +kernel
theorem dX7_seedAfter_10 : decode cX7_seedAfter 10 = .ok (.irem, 1) := by decide +kernel
theorem dX7_seedAfter_11 : decode cX7_seedAfter 11 = .ok (.ireturn, 1) := by decide +kernel
theorem dX7_weatherFor_0 : decode cX7_weatherFor 0 = .ok (.aload_n 0, 1) := by decide +kernel
theorem dX7_weatherFor_1 : decode cX7_weatherFor 1 = .ok (.invokevirtual 22, 3) := by decide +kernel
theorem dX7_weatherFor_4 : decode cX7_weatherFor 4 = .ok (.istore_n 2, 1) := by decide +kernel
theorem dX7_weatherFor_5 : decode cX7_weatherFor 5 = .ok (.iload_n 2, 1) := by decide +kernel
theorem dX7_weatherFor_6 : decode cX7_weatherFor 6 = .ok (.iconst 1, 1) := by decide +kernel
theorem dX7_weatherFor_7 : decode cX7_weatherFor 7 = .ok (.if_icmp .ge 7, 3) := by decide +kernel
theorem dX7_weatherFor_10 : decode cX7_weatherFor 10 = .ok (.iconst 0, 1) := by decide +kernel
theorem dX7_weatherFor_11 : decode cX7_weatherFor 11 = .ok (.goto 6, 3) := by decide +kernel
theorem dX7_weatherFor_14 : decode cX7_weatherFor 14 = .ok (.iload_n 1, 1) := by decide +kernel
theorem dX7_weatherFor_15 : decode cX7_weatherFor 15 = .ok (.iload_n 2, 1) := by decide +kernel
theorem dX7_weatherFor_16 : decode cX7_weatherFor 16 = .ok (.irem, 1) := by decide +kernel
theorem dX7_weatherFor_17 : decode cX7_weatherFor 17 = .ok (.istore_n 3, 1) := by decide +kernel
theorem dX7_weatherFor_18 : decode cX7_weatherFor 18 = .ok (.iload_n 3, 1) := by decide +kernel
theorem dX7_weatherFor_19 : decode cX7_weatherFor 19 = .ok (.aload_n 0, 1) := by decide +kernel
theorem dX7_weatherFor_20 : decode cX7_weatherFor 20 = .ok (.getfield 9, 3) := by decide +kernel
theorem dX7_weatherFor_23 : decode cX7_weatherFor 23 = .ok (.iconst 0, 1) := by decide +kernel
theorem dX7_weatherFor_24 : decode cX7_weatherFor 24 = .ok (.iaload, 1) := by decide +kernel
theorem dX7_weatherFor_25 : decode cX7_weatherFor 25 = .ok (.if_icmp .ge 5, 3) := by decide +kernel
theorem dX7_weatherFor_28 : decode cX7_weatherFor 28 = .ok (.iconst 0, 1) := by decide +kernel
theorem dX7_weatherFor_29 : decode cX7_weatherFor 29 = .ok (.ireturn, 1) := by decide +kernel
theorem dX7_weatherFor_30 : decode cX7_weatherFor 30 = .ok (.iload_n 3, 1) := by decide +kernel
theorem dX7_weatherFor_31 : decode cX7_weatherFor 31 = .ok (.aload_n 0, 1) := by decide +kernel
theorem dX7_weatherFor_32 : decode cX7_weatherFor 32 = .ok (.getfield 9, 3) := by decide +kernel
theorem dX7_weatherFor_35 : decode cX7_weatherFor 35 = .ok (.iconst 0, 1) := by decide +kernel
theorem dX7_weatherFor_36 : decode cX7_weatherFor 36 = .ok (.iaload, 1) := by decide +kernel
theorem dX7_weatherFor_37 : decode cX7_weatherFor 37 = .ok (.aload_n 0, 1) := by decide +kernel
theorem dX7_weatherFor_38 : decode cX7_weatherFor 38 = .ok (.getfield 9, 3) := by decide +kernel
theorem dX7_weatherFor_41 : decode cX7_weatherFor 41 = .ok (.iconst 1, 1) := by decide +kernel
theorem dX7_weatherFor_42 : decode cX7_weatherFor 42 = .ok (.iaload, 1) := by decide +kernel
theorem dX7_weatherFor_43 : decode cX7_weatherFor 43 = .ok (.iadd, 1) := by decide +kernel
theorem dX7_weatherFor_44 : decode cX7_weatherFor 44 = .ok (.if_icmp .ge 7, 3) := by decide +kernel
theorem dX7_weatherFor_47 : decode cX7_weatherFor 47 = .ok (.iconst 1, 1) := by decide +kernel
theorem dX7_weatherFor_48 : decode cX7_weatherFor 48 = .ok (.goto 4, 3) := by decide +kernel
theorem dX7_weatherFor_51 : decode cX7_weatherFor 51 = .ok (.iconst 2, 1) := by decide +kernel
theorem dX7_weatherFor_52 : decode cX7_weatherFor 52 = .ok (.ireturn, 1) := by decide +kernel
theorem dX7_draw_0 : decode cX7_draw 0 = .ok (.aload_n 0, 1) := by decide +kernel
theorem dX7_draw_1 : decode cX7_draw 1 = .ok (.aload_n 0, 1) := by decide +kernel
theorem dX7_draw_2 : decode cX7_draw 2 = .ok (.getfield 18, 3) := by decide +kernel
theorem dX7_draw_5 : decode cX7_draw 5 = .ok (.invokestatic 26, 3) := by decide +kernel
theorem dX7_draw_8 : decode cX7_draw 8 = .ok (.putfield 18, 3) := by decide +kernel
theorem dX7_draw_11 : decode cX7_draw 11 = .ok (.aload_n 0, 1) := by decide +kernel
theorem dX7_draw_12 : decode cX7_draw 12 = .ok (.aload_n 0, 1) := by decide +kernel
theorem dX7_draw_13 : decode cX7_draw 13 = .ok (.getfield 18, 3) := by decide +kernel
theorem dX7_draw_16 : decode cX7_draw 16 = .ok (.invokevirtual 30, 3) := by decide +kernel
theorem dX7_draw_19 : decode cX7_draw 19 = .ok (.istore_n 1, 1) := by decide +kernel
theorem dX7_draw_20 : decode cX7_draw 20 = .ok (.aload_n 0, 1) := by decide +kernel
theorem dX7_draw_21 : decode cX7_draw 21 = .ok (.getfield 15, 3) := by decide +kernel
theorem dX7_draw_24 : decode cX7_draw 24 = .ok (.iload_n 1, 1) := by decide +kernel
theorem dX7_draw_25 : decode cX7_draw 25 = .ok (.dup2, 1) := by decide +kernel
theorem dX7_draw_26 : decode cX7_draw 26 = .ok (.iaload, 1) := by decide +kernel
theorem dX7_draw_27 : decode cX7_draw 27 = .ok (.iconst 1, 1) := by decide +kernel
theorem dX7_draw_28 : decode cX7_draw 28 = .ok (.iadd, 1) := by decide +kernel
theorem dX7_draw_29 : decode cX7_draw 29 = .ok (.iastore, 1) := by decide +kernel
theorem dX7_draw_30 : decode cX7_draw 30 = .ok (.iload_n 1, 1) := by decide +kernel
theorem dX7_draw_31 : decode cX7_draw 31 = .ok (.ireturn, 1) := by decide +kernel
theorem dX7_firstGreatest_0 : decode cX7_firstGreatest 0 = .ok (.iconst 0, 1) := by decide +kernel
theorem dX7_firstGreatest_1 : decode cX7_firstGreatest 1 = .ok (.istore_n 1, 1) := by decide +kernel
theorem dX7_firstGreatest_2 : decode cX7_firstGreatest 2 = .ok (.iconst 1, 1) := by decide +kernel
theorem dX7_firstGreatest_3 : decode cX7_firstGreatest 3 = .ok (.istore_n 2, 1) := by decide +kernel
theorem dX7_firstGreatest_4 : decode cX7_firstGreatest 4 = .ok (.iload_n 2, 1) := by decide +kernel
theorem dX7_firstGreatest_5 : decode cX7_firstGreatest 5 = .ok (.iconst 2, 1) := by decide +kernel
theorem dX7_firstGreatest_6 : decode cX7_firstGreatest 6 = .ok (.if_icmp .gt 20, 3) := by decide +kernel
theorem dX7_firstGreatest_9 : decode cX7_firstGreatest 9 = .ok (.aload_n 0, 1) := by decide +kernel
theorem dX7_firstGreatest_10 : decode cX7_firstGreatest 10 = .ok (.iload_n 2, 1) := by decide +kernel
theorem dX7_firstGreatest_11 : decode cX7_firstGreatest 11 = .ok (.iaload, 1) := by decide +kernel
theorem dX7_firstGreatest_12 : decode cX7_firstGreatest 12 = .ok (.aload_n 0, 1) := by decide +kernel
theorem dX7_firstGreatest_13 : decode cX7_firstGreatest 13 = .ok (.iload_n 1, 1) := by decide +kernel
theorem dX7_firstGreatest_14 : decode cX7_firstGreatest 14 = .ok (.iaload, 1) := by decide +kernel
theorem dX7_firstGreatest_15 : decode cX7_firstGreatest 15 = .ok (.if_icmp .le 5, 3) := by decide +kernel
theorem dX7_firstGreatest_18 : decode cX7_firstGreatest 18 = .ok (.iload_n 2, 1) := by decide +kernel
theorem dX7_firstGreatest_19 : decode cX7_firstGreatest 19 = .ok (.istore_n 1, 1) := by decide +kernel
theorem dX7_firstGreatest_20 : decode cX7_firstGreatest 20 = .ok (.iinc 2 1, 3) := by decide +kernel
theorem dX7_firstGreatest_23 : decode cX7_firstGreatest 23 = .ok (.goto (-19), 3) := by decide +kernel
theorem dX7_firstGreatest_26 : decode cX7_firstGreatest 26 = .ok (.iload_n 1, 1) := by decide +kernel
theorem dX7_firstGreatest_27 : decode cX7_firstGreatest 27 = .ok (.ireturn, 1) := by decide +kernel
theorem dX7_lastLeast_0 : decode cX7_lastLeast 0 = .ok (.iconst 0, 1) := by decide +kernel
theorem dX7_lastLeast_1 : decode cX7_lastLeast 1 = .ok (.istore_n 1, 1) := by decide +kernel
theorem dX7_lastLeast_2 : decode cX7_lastLeast 2 = .ok (.iconst 1, 1) := by decide +kernel
theorem dX7_lastLeast_3 : decode cX7_lastLeast 3 = .ok (.istore_n 2, 1) := by decide +kernel
theorem dX7_lastLeast_4 : decode cX7_lastLeast 4 = .ok (.iload_n 2, 1) := by decide +kernel
theorem dX7_lastLeast_5 : decode cX7_lastLeast 5 = .ok (.iconst 2, 1) := by decide +kernel
theorem dX7_lastLeast_6 : decode cX7_lastLeast 6 = .ok (.if_icmp .gt 20, 3) := by decide +kernel
theorem dX7_lastLeast_9 : decode cX7_lastLeast 9 = .ok (.aload_n 0, 1) := by decide +kernel
theorem dX7_lastLeast_10 : decode cX7_lastLeast 10 = .ok (.iload_n 2, 1) := by decide +kernel
theorem dX7_lastLeast_11 : decode cX7_lastLeast 11 = .ok (.iaload, 1) := by decide +kernel
theorem dX7_lastLeast_12 : decode cX7_lastLeast 12 = .ok (.aload_n 0, 1) := by decide +kernel
theorem dX7_lastLeast_13 : decode cX7_lastLeast 13 = .ok (.iload_n 1, 1) := by decide +kernel
theorem dX7_lastLeast_14 : decode cX7_lastLeast 14 = .ok (.iaload, 1) := by decide +kernel
theorem dX7_lastLeast_15 : decode cX7_lastLeast 15 = .ok (.if_icmp .gt 5, 3) := by decide +kernel
theorem dX7_lastLeast_18 : decode cX7_lastLeast 18 = .ok (.iload_n 2, 1) := by decide +kernel
theorem dX7_lastLeast_19 : decode cX7_lastLeast 19 = .ok (.istore_n 1, 1) := by decide +kernel
theorem dX7_lastLeast_20 : decode cX7_lastLeast 20 = .ok (.iinc 2 1, 3) := by decide +kernel
theorem dX7_lastLeast_23 : decode cX7_lastLeast 23 = .ok (.goto (-19), 3) := by decide +kernel
theorem dX7_lastLeast_26 : decode cX7_lastLeast 26 = .ok (.iload_n 1, 1) := by decide +kernel
theorem dX7_lastLeast_27 : decode cX7_lastLeast 27 = .ok (.ireturn, 1) := by decide +kernel
theorem dX7_closeYear_0 : decode cX7_closeYear 0 = .ok (.aload_n 0, 1) := by decide +kernel
theorem dX7_closeYear_1 : decode cX7_closeYear 1 = .ok (.getfield 15, 3) := by decide +kernel
theorem dX7_closeYear_4 : decode cX7_closeYear 4 = .ok (.invokestatic 33, 3) := by decide +kernel
theorem dX7_closeYear_7 : decode cX7_closeYear 7 = .ok (.istore_n 1, 1) := by decide +kernel
theorem dX7_closeYear_8 : decode cX7_closeYear 8 = .ok (.aload_n 0, 1) := by decide +kernel
theorem dX7_closeYear_9 : decode cX7_closeYear 9 = .ok (.getfield 9, 3) := by decide +kernel
theorem dX7_closeYear_12 : decode cX7_closeYear 12 = .ok (.iload_n 1, 1) := by decide +kernel
theorem dX7_closeYear_13 : decode cX7_closeYear 13 = .ok (.iaload, 1) := by decide +kernel
theorem dX7_closeYear_14 : decode cX7_closeYear 14 = .ok (.bipush 20, 2) := by decide +kernel
theorem dX7_closeYear_16 : decode cX7_closeYear 16 = .ok (.if_icmp .ge 13, 3) := by decide +kernel
theorem dX7_closeYear_19 : decode cX7_closeYear 19 = .ok (.aload_n 0, 1) := by decide +kernel
theorem dX7_closeYear_20 : decode cX7_closeYear 20 = .ok (.getfield 9, 3) := by decide +kernel
theorem dX7_closeYear_23 : decode cX7_closeYear 23 = .ok (.iload_n 1, 1) := by decide +kernel
theorem dX7_closeYear_24 : decode cX7_closeYear 24 = .ok (.dup2, 1) := by decide +kernel
theorem dX7_closeYear_25 : decode cX7_closeYear 25 = .ok (.iaload, 1) := by decide +kernel
theorem dX7_closeYear_26 : decode cX7_closeYear 26 = .ok (.iconst 1, 1) := by decide +kernel
theorem dX7_closeYear_27 : decode cX7_closeYear 27 = .ok (.iadd, 1) := by decide +kernel
theorem dX7_closeYear_28 : decode cX7_closeYear 28 = .ok (.iastore, 1) := by decide +kernel
theorem dX7_closeYear_29 : decode cX7_closeYear 29 = .ok (.aload_n 0, 1) := by decide +kernel
theorem dX7_closeYear_30 : decode cX7_closeYear 30 = .ok (.getfield 15, 3) := by decide +kernel
theorem dX7_closeYear_33 : decode cX7_closeYear 33 = .ok (.invokestatic 37, 3) := by decide +kernel
theorem dX7_closeYear_36 : decode cX7_closeYear 36 = .ok (.istore_n 2, 1) := by decide +kernel
theorem dX7_closeYear_37 : decode cX7_closeYear 37 = .ok (.aload_n 0, 1) := by decide +kernel
theorem dX7_closeYear_38 : decode cX7_closeYear 38 = .ok (.getfield 9, 3) := by decide +kernel
theorem dX7_closeYear_41 : decode cX7_closeYear 41 = .ok (.iload_n 2, 1) := by decide +kernel
theorem dX7_closeYear_42 : decode cX7_closeYear 42 = .ok (.iaload, 1) := by decide +kernel
theorem dX7_closeYear_43 : decode cX7_closeYear 43 = .ok (.ifCond .le 13, 3) := by decide +kernel
theorem dX7_closeYear_46 : decode cX7_closeYear 46 = .ok (.aload_n 0, 1) := by decide +kernel
theorem dX7_closeYear_47 : decode cX7_closeYear 47 = .ok (.getfield 9, 3) := by decide +kernel
theorem dX7_closeYear_50 : decode cX7_closeYear 50 = .ok (.iload_n 2, 1) := by decide +kernel
theorem dX7_closeYear_51 : decode cX7_closeYear 51 = .ok (.dup2, 1) := by decide +kernel
theorem dX7_closeYear_52 : decode cX7_closeYear 52 = .ok (.iaload, 1) := by decide +kernel
theorem dX7_closeYear_53 : decode cX7_closeYear 53 = .ok (.iconst 1, 1) := by decide +kernel
theorem dX7_closeYear_54 : decode cX7_closeYear 54 = .ok (.isub, 1) := by decide +kernel
theorem dX7_closeYear_55 : decode cX7_closeYear 55 = .ok (.iastore, 1) := by decide +kernel
theorem dX7_closeYear_56 : decode cX7_closeYear 56 = .ok (.iconst 0, 1) := by decide +kernel
theorem dX7_closeYear_57 : decode cX7_closeYear 57 = .ok (.istore_n 3, 1) := by decide +kernel
theorem dX7_closeYear_58 : decode cX7_closeYear 58 = .ok (.iload_n 3, 1) := by decide +kernel
theorem dX7_closeYear_59 : decode cX7_closeYear 59 = .ok (.iconst 2, 1) := by decide +kernel
theorem dX7_closeYear_60 : decode cX7_closeYear 60 = .ok (.if_icmp .gt 16, 3) := by decide +kernel
theorem dX7_closeYear_63 : decode cX7_closeYear 63 = .ok (.aload_n 0, 1) := by decide +kernel
theorem dX7_closeYear_64 : decode cX7_closeYear 64 = .ok (.getfield 15, 3) := by decide +kernel
theorem dX7_closeYear_67 : decode cX7_closeYear 67 = .ok (.iload_n 3, 1) := by decide +kernel
theorem dX7_closeYear_68 : decode cX7_closeYear 68 = .ok (.iconst 0, 1) := by decide +kernel
theorem dX7_closeYear_69 : decode cX7_closeYear 69 = .ok (.iastore, 1) := by decide +kernel
theorem dX7_closeYear_70 : decode cX7_closeYear 70 = .ok (.iinc 3 1, 3) := by decide +kernel
theorem dX7_closeYear_73 : decode cX7_closeYear 73 = .ok (.goto (-15), 3) := by decide +kernel
theorem dX7_closeYear_76 : decode cX7_closeYear 76 = .ok (.return_, 1) := by decide +kernel
theorem dX7_takeFrom_0 : decode cX7_takeFrom 0 = .ok (.aload_n 1, 1) := by decide +kernel
theorem dX7_takeFrom_1 : decode cX7_takeFrom 1 = .ok (.getfield 9, 3) := by decide +kernel
theorem dX7_takeFrom_4 : decode cX7_takeFrom 4 = .ok (.iconst 0, 1) := by decide +kernel
theorem dX7_takeFrom_5 : decode cX7_takeFrom 5 = .ok (.aload_n 0, 1) := by decide +kernel
theorem dX7_takeFrom_6 : decode cX7_takeFrom 6 = .ok (.getfield 9, 3) := by decide +kernel
theorem dX7_takeFrom_9 : decode cX7_takeFrom 9 = .ok (.iconst 0, 1) := by decide +kernel
theorem dX7_takeFrom_10 : decode cX7_takeFrom 10 = .ok (.iconst 3, 1) := by decide +kernel
theorem dX7_takeFrom_11 : decode cX7_takeFrom 11 = .ok (.invokestatic 40, 3) := by decide +kernel
theorem dX7_takeFrom_14 : decode cX7_takeFrom 14 = .ok (.aload_n 1, 1) := by decide +kernel
theorem dX7_takeFrom_15 : decode cX7_takeFrom 15 = .ok (.getfield 15, 3) := by decide +kernel
theorem dX7_takeFrom_18 : decode cX7_takeFrom 18 = .ok (.iconst 0, 1) := by decide +kernel
theorem dX7_takeFrom_19 : decode cX7_takeFrom 19 = .ok (.aload_n 0, 1) := by decide +kernel
theorem dX7_takeFrom_20 : decode cX7_takeFrom 20 = .ok (.getfield 15, 3) := by decide +kernel
theorem dX7_takeFrom_23 : decode cX7_takeFrom 23 = .ok (.iconst 0, 1) := by decide +kernel
theorem dX7_takeFrom_24 : decode cX7_takeFrom 24 = .ok (.iconst 3, 1) := by decide +kernel
theorem dX7_takeFrom_25 : decode cX7_takeFrom 25 = .ok (.invokestatic 40, 3) := by decide +kernel
theorem dX7_takeFrom_28 : decode cX7_takeFrom 28 = .ok (.aload_n 0, 1) := by decide +kernel
theorem dX7_takeFrom_29 : decode cX7_takeFrom 29 = .ok (.aload_n 1, 1) := by decide +kernel
theorem dX7_takeFrom_30 : decode cX7_takeFrom 30 = .ok (.getfield 18, 3) := by decide +kernel
theorem dX7_takeFrom_33 : decode cX7_takeFrom 33 = .ok (.putfield 18, 3) := by decide +kernel
theorem dX7_takeFrom_36 : decode cX7_takeFrom 36 = .ok (.return_, 1) := by decide +kernel
theorem dX8_init_0 : decode cX8_init 0 = .ok (.aload_n 0, 1) := by decide +kernel
theorem dX8_init_1 : decode cX8_init 1 = .ok (.invokespecial 3, 3) := by decide +kernel
theorem dX8_init_4 : decode cX8_init 4 = .ok (.aload_n 0, 1) := by decide +kernel
theorem dX8_init_5 : decode cX8_init 5 = .ok (.new 9, 3) := by decide +kernel
theorem dX8_init_8 : decode cX8_init 8 = .ok (.dup, 1) := by decide +kernel
theorem dX8_init_9 : decode cX8_init 9 = .ok (.invokespecial 11, 3) := by decide +kernel
theorem dX8_init_12 : decode cX8_init 12 = .ok (.putfield 12, 3) := by decide +kernel
theorem dX8_init_15 : decode cX8_init 15 = .ok (.aload_n 0, 1) := by decide +kernel
theorem dX8_init_16 : decode cX8_init 16 = .ok (.new 18, 3) := by decide +kernel
theorem dX8_init_19 : decode cX8_init 19 = .ok (.dup, 1) := by decide +kernel
theorem dX8_init_20 : decode cX8_init 20 = .ok (.invokespecial 20, 3) := by decide +kernel
theorem dX8_init_23 : decode cX8_init 23 = .ok (.putfield 21, 3) := by decide +kernel
theorem dX8_init_26 : decode cX8_init 26 = .ok (.aload_n 0, 1) := by decide +kernel
theorem dX8_init_27 : decode cX8_init 27 = .ok (.new 25, 3) := by decide +kernel
theorem dX8_init_30 : decode cX8_init 30 = .ok (.dup, 1) := by decide +kernel
theorem dX8_init_31 : decode cX8_init 31 = .ok (.invokespecial 27, 3) := by decide +kernel
theorem dX8_init_34 : decode cX8_init 34 = .ok (.putfield 28, 3) := by decide +kernel
theorem dX8_init_37 : decode cX8_init 37 = .ok (.aload_n 0, 1) := by decide +kernel
theorem dX8_init_38 : decode cX8_init 38 = .ok (.new 32, 3) := by decide +kernel
theorem dX8_init_41 : decode cX8_init 41 = .ok (.dup, 1) := by decide +kernel
theorem dX8_init_42 : decode cX8_init 42 = .ok (.invokespecial 34, 3) := by decide +kernel
theorem dX8_init_45 : decode cX8_init 45 = .ok (.putfield 35, 3) := by decide +kernel
theorem dX8_init_48 : decode cX8_init 48 = .ok (.aload_n 0, 1) := by decide +kernel
theorem dX8_init_49 : decode cX8_init 49 = .ok (.new 39, 3) := by decide +kernel
theorem dX8_init_52 : decode cX8_init 52 = .ok (.dup, 1) := by decide +kernel
theorem dX8_init_53 : decode cX8_init 53 = .ok (.invokespecial 41, 3) := by decide +kernel
theorem dX8_init_56 : decode cX8_init 56 = .ok (.putfield 42, 3) := by decide +kernel
theorem dX8_init_59 : decode cX8_init 59 = .ok (.aload_n 0, 1) := by decide +kernel
theorem dX8_init_60 : decode cX8_init 60 = .ok (.iconst 0, 1) := by decide +kernel
theorem dX8_init_61 : decode cX8_init 61 = .ok (.putfield 46, 3) := by decide +kernel
theorem dX8_init_64 : decode cX8_init 64 = .ok (.aload_n 0, 1) := by decide +kernel
theorem dX8_init_65 : decode cX8_init 65 = .ok (.iconst 0, 1) := by decide +kernel
theorem dX8_init_66 : decode cX8_init 66 = .ok (.putfield 50, 3) := by decide +kernel
theorem dX8_init_69 : decode cX8_init 69 = .ok (.aload_n 0, 1) := by decide +kernel
theorem dX8_init_70 : decode cX8_init 70 = .ok (.iconst 0, 1) := by decide +kernel
theorem dX8_init_71 : decode cX8_init 71 = .ok (.putfield 53, 3) := by decide +kernel
theorem dX8_init_74 : decode cX8_init 74 = .ok (.aload_n 0, 1) := by decide +kernel
theorem dX8_init_75 : decode cX8_init 75 = .ok (.iconst 0, 1) := by decide +kernel
theorem dX8_init_76 : decode cX8_init 76 = .ok (.putfield 56, 3) := by decide +kernel
theorem dX8_init_79 : decode cX8_init 79 = .ok (.aload_n 0, 1) := by decide +kernel
theorem dX8_init_80 : decode cX8_init 80 = .ok (.iconst 0, 1) := by decide +kernel
theorem dX8_init_81 : decode cX8_init 81 = .ok (.putfield 59, 3) := by decide +kernel
theorem dX8_init_84 : decode cX8_init 84 = .ok (.aload_n 0, 1) := by decide +kernel
theorem dX8_init_85 : decode cX8_init 85 = .ok (.iconst 0, 1) := by decide +kernel
theorem dX8_init_86 : decode cX8_init 86 = .ok (.putfield 62, 3) := by decide +kernel
theorem dX8_init_89 : decode cX8_init 89 = .ok (.aload_n 0, 1) := by decide +kernel
theorem dX8_init_90 : decode cX8_init 90 = .ok (.iconst 0, 1) := by decide +kernel
theorem dX8_init_91 : decode cX8_init 91 = .ok (.putfield 65, 3) := by decide +kernel
theorem dX8_init_94 : decode cX8_init 94 = .ok (.aload_n 0, 1) := by decide +kernel
theorem dX8_init_95 : decode cX8_init 95 = .ok (.iconst 0, 1) := by decide +kernel
theorem dX8_init_96 : decode cX8_init 96 = .ok (.putfield 68, 3) := by decide +kernel
theorem dX8_init_99 : decode cX8_init 99 = .ok (.aload_n 0, 1) := by decide +kernel
theorem dX8_init_100 : decode cX8_init 100 = .ok (.iconst 0, 1) := by decide +kernel
theorem dX8_init_101 : decode cX8_init 101 = .ok (.putfield 71, 3) := by decide +kernel
theorem dX8_init_104 : decode cX8_init 104 = .ok (.return_, 1) := by decide +kernel
theorem dX8_clear_0 : decode cX8_clear 0 = .ok (.aload_n 0, 1) := by decide +kernel
theorem dX8_clear_1 : decode cX8_clear 1 = .ok (.getfield 12, 3) := by decide +kernel
theorem dX8_clear_4 : decode cX8_clear 4 = .ok (.iconst 0, 1) := by decide +kernel
theorem dX8_clear_5 : decode cX8_clear 5 = .ok (.putfield 74, 3) := by decide +kernel
theorem dX8_clear_8 : decode cX8_clear 8 = .ok (.aload_n 0, 1) := by decide +kernel
theorem dX8_clear_9 : decode cX8_clear 9 = .ok (.getfield 21, 3) := by decide +kernel
theorem dX8_clear_12 : decode cX8_clear 12 = .ok (.iconst 0, 1) := by decide +kernel
theorem dX8_clear_13 : decode cX8_clear 13 = .ok (.putfield 77, 3) := by decide +kernel
theorem dX8_clear_16 : decode cX8_clear 16 = .ok (.aload_n 0, 1) := by decide +kernel
theorem dX8_clear_17 : decode cX8_clear 17 = .ok (.getfield 35, 3) := by decide +kernel
theorem dX8_clear_20 : decode cX8_clear 20 = .ok (.iconst 0, 1) := by decide +kernel
theorem dX8_clear_21 : decode cX8_clear 21 = .ok (.putfield 78, 3) := by decide +kernel
theorem dX8_clear_24 : decode cX8_clear 24 = .ok (.aload_n 0, 1) := by decide +kernel
theorem dX8_clear_25 : decode cX8_clear 25 = .ok (.getfield 42, 3) := by decide +kernel
theorem dX8_clear_28 : decode cX8_clear 28 = .ok (.iconst 0, 1) := by decide +kernel
theorem dX8_clear_29 : decode cX8_clear 29 = .ok (.putfield 79, 3) := by decide +kernel
theorem dX8_clear_32 : decode cX8_clear 32 = .ok (.iconst 0, 1) := by decide +kernel
theorem dX8_clear_33 : decode cX8_clear 33 = .ok (.istore_n 1, 1) := by decide +kernel
theorem dX8_clear_34 : decode cX8_clear 34 = .ok (.iload_n 1, 1) := by decide +kernel
theorem dX8_clear_35 : decode cX8_clear 35 = .ok (.iconst 2, 1) := by decide +kernel
theorem dX8_clear_36 : decode cX8_clear 36 = .ok (.if_icmp .gt 19, 3) := by decide +kernel
theorem dX8_clear_39 : decode cX8_clear 39 = .ok (.aload_n 0, 1) := by decide +kernel
theorem dX8_clear_40 : decode cX8_clear 40 = .ok (.getfield 28, 3) := by decide +kernel
theorem dX8_clear_43 : decode cX8_clear 43 = .ok (.getfield 80, 3) := by decide +kernel
theorem dX8_clear_46 : decode cX8_clear 46 = .ok (.iload_n 1, 1) := by decide +kernel
theorem dX8_clear_47 : decode cX8_clear 47 = .ok (.iconst 0, 1) := by decide +kernel
theorem dX8_clear_48 : decode cX8_clear 48 = .ok (.iastore, 1) := by decide +kernel
theorem dX8_clear_49 : decode cX8_clear 49 = .ok (.iinc 1 1, 3) := by decide +kernel
theorem dX8_clear_52 : decode cX8_clear 52 = .ok (.goto (-18), 3) := by decide +kernel
theorem dX8_clear_55 : decode cX8_clear 55 = .ok (.aload_n 0, 1) := by decide +kernel
theorem dX8_clear_56 : decode cX8_clear 56 = .ok (.iconst 0, 1) := by decide +kernel
theorem dX8_clear_57 : decode cX8_clear 57 = .ok (.putfield 46, 3) := by decide +kernel
theorem dX8_clear_60 : decode cX8_clear 60 = .ok (.aload_n 0, 1) := by decide +kernel
theorem dX8_clear_61 : decode cX8_clear 61 = .ok (.iconst 0, 1) := by decide +kernel
theorem dX8_clear_62 : decode cX8_clear 62 = .ok (.putfield 50, 3) := by decide +kernel
theorem dX8_clear_65 : decode cX8_clear 65 = .ok (.aload_n 0, 1) := by decide +kernel
theorem dX8_clear_66 : decode cX8_clear 66 = .ok (.iconst 0, 1) := by decide +kernel
theorem dX8_clear_67 : decode cX8_clear 67 = .ok (.putfield 53, 3) := by decide +kernel
theorem dX8_clear_70 : decode cX8_clear 70 = .ok (.aload_n 0, 1) := by decide +kernel
theorem dX8_clear_71 : decode cX8_clear 71 = .ok (.iconst 0, 1) := by decide +kernel
theorem dX8_clear_72 : decode cX8_clear 72 = .ok (.putfield 56, 3) := by decide +kernel
theorem dX8_clear_75 : decode cX8_clear 75 = .ok (.aload_n 0, 1) := by decide +kernel
theorem dX8_clear_76 : decode cX8_clear 76 = .ok (.iconst 0, 1) := by decide +kernel
theorem dX8_clear_77 : decode cX8_clear 77 = .ok (.putfield 59, 3) := by decide +kernel
theorem dX8_clear_80 : decode cX8_clear 80 = .ok (.aload_n 0, 1) := by decide +kernel
theorem dX8_clear_81 : decode cX8_clear 81 = .ok (.iconst 0, 1) := by decide +kernel
theorem dX8_clear_82 : decode cX8_clear 82 = .ok (.putfield 62, 3) := by decide +kernel
theorem dX8_clear_85 : decode cX8_clear 85 = .ok (.aload_n 0, 1) := by decide +kernel
theorem dX8_clear_86 : decode cX8_clear 86 = .ok (.iconst 0, 1) := by decide +kernel
theorem dX8_clear_87 : decode cX8_clear 87 = .ok (.putfield 65, 3) := by decide +kernel
theorem dX8_clear_90 : decode cX8_clear 90 = .ok (.aload_n 0, 1) := by decide +kernel
theorem dX8_clear_91 : decode cX8_clear 91 = .ok (.iconst 0, 1) := by decide +kernel
theorem dX8_clear_92 : decode cX8_clear 92 = .ok (.putfield 68, 3) := by decide +kernel
theorem dX8_clear_95 : decode cX8_clear 95 = .ok (.aload_n 0, 1) := by decide +kernel
theorem dX8_clear_96 : decode cX8_clear 96 = .ok (.iconst 0, 1) := by decide +kernel
theorem dX8_clear_97 : decode cX8_clear 97 = .ok (.putfield 71, 3) := by decide +kernel
theorem dX8_clear_100 : decode cX8_clear 100 = .ok (.return_, 1) := by decide +kernel
theorem dX8_takeFrom_0 : decode cX8_takeFrom 0 = .ok (.aload_n 0, 1) := by decide +kernel
theorem dX8_takeFrom_1 : decode cX8_takeFrom 1 = .ok (.getfield 12, 3) := by decide +kernel
theorem dX8_takeFrom_4 : decode cX8_takeFrom 4 = .ok (.aload_n 1, 1) := by decide +kernel
theorem dX8_takeFrom_5 : decode cX8_takeFrom 5 = .ok (.getfield 12, 3) := by decide +kernel
theorem dX8_takeFrom_8 : decode cX8_takeFrom 8 = .ok (.invokevirtual 84, 3) := by decide +kernel
theorem dX8_takeFrom_11 : decode cX8_takeFrom 11 = .ok (.aload_n 0, 1) := by decide +kernel
theorem dX8_takeFrom_12 : decode cX8_takeFrom 12 = .ok (.getfield 21, 3) := by decide +kernel
theorem dX8_takeFrom_15 : decode cX8_takeFrom 15 = .ok (.aload_n 1, 1) := by decide +kernel
theorem dX8_takeFrom_16 : decode cX8_takeFrom 16 = .ok (.getfield 21, 3) := by decide +kernel
theorem dX8_takeFrom_19 : decode cX8_takeFrom 19 = .ok (.invokevirtual 88, 3) := by decide +kernel
theorem dX8_takeFrom_22 : decode cX8_takeFrom 22 = .ok (.aload_n 0, 1) := by decide +kernel
theorem dX8_takeFrom_23 : decode cX8_takeFrom 23 = .ok (.getfield 28, 3) := by decide +kernel
theorem dX8_takeFrom_26 : decode cX8_takeFrom 26 = .ok (.aload_n 1, 1) := by decide +kernel
theorem dX8_takeFrom_27 : decode cX8_takeFrom 27 = .ok (.getfield 28, 3) := by decide +kernel
theorem dX8_takeFrom_30 : decode cX8_takeFrom 30 = .ok (.invokevirtual 91, 3) := by decide +kernel
theorem dX8_takeFrom_33 : decode cX8_takeFrom 33 = .ok (.aload_n 0, 1) := by decide +kernel
theorem dX8_takeFrom_34 : decode cX8_takeFrom 34 = .ok (.getfield 35, 3) := by decide +kernel
theorem dX8_takeFrom_37 : decode cX8_takeFrom 37 = .ok (.aload_n 1, 1) := by decide +kernel
theorem dX8_takeFrom_38 : decode cX8_takeFrom 38 = .ok (.getfield 35, 3) := by decide +kernel
theorem dX8_takeFrom_41 : decode cX8_takeFrom 41 = .ok (.invokevirtual 94, 3) := by decide +kernel
theorem dX8_takeFrom_44 : decode cX8_takeFrom 44 = .ok (.aload_n 0, 1) := by decide +kernel
theorem dX8_takeFrom_45 : decode cX8_takeFrom 45 = .ok (.getfield 42, 3) := by decide +kernel
theorem dX8_takeFrom_48 : decode cX8_takeFrom 48 = .ok (.aload_n 1, 1) := by decide +kernel
theorem dX8_takeFrom_49 : decode cX8_takeFrom 49 = .ok (.getfield 42, 3) := by decide +kernel
theorem dX8_takeFrom_52 : decode cX8_takeFrom 52 = .ok (.invokevirtual 97, 3) := by decide +kernel
theorem dX8_takeFrom_55 : decode cX8_takeFrom 55 = .ok (.aload_n 0, 1) := by decide +kernel
theorem dX8_takeFrom_56 : decode cX8_takeFrom 56 = .ok (.aload_n 1, 1) := by decide +kernel
theorem dX8_takeFrom_57 : decode cX8_takeFrom 57 = .ok (.getfield 46, 3) := by decide +kernel
theorem dX8_takeFrom_60 : decode cX8_takeFrom 60 = .ok (.putfield 46, 3) := by decide +kernel
theorem dX8_takeFrom_63 : decode cX8_takeFrom 63 = .ok (.aload_n 0, 1) := by decide +kernel
theorem dX8_takeFrom_64 : decode cX8_takeFrom 64 = .ok (.aload_n 1, 1) := by decide +kernel
theorem dX8_takeFrom_65 : decode cX8_takeFrom 65 = .ok (.getfield 50, 3) := by decide +kernel
theorem dX8_takeFrom_68 : decode cX8_takeFrom 68 = .ok (.putfield 50, 3) := by decide +kernel
theorem dX8_takeFrom_71 : decode cX8_takeFrom 71 = .ok (.aload_n 0, 1) := by decide +kernel
theorem dX8_takeFrom_72 : decode cX8_takeFrom 72 = .ok (.aload_n 1, 1) := by decide +kernel
theorem dX8_takeFrom_73 : decode cX8_takeFrom 73 = .ok (.getfield 53, 3) := by decide +kernel
theorem dX8_takeFrom_76 : decode cX8_takeFrom 76 = .ok (.putfield 53, 3) := by decide +kernel
theorem dX8_takeFrom_79 : decode cX8_takeFrom 79 = .ok (.aload_n 0, 1) := by decide +kernel
theorem dX8_takeFrom_80 : decode cX8_takeFrom 80 = .ok (.aload_n 1, 1) := by decide +kernel
theorem dX8_takeFrom_81 : decode cX8_takeFrom 81 = .ok (.getfield 56, 3) := by decide +kernel
theorem dX8_takeFrom_84 : decode cX8_takeFrom 84 = .ok (.putfield 56, 3) := by decide +kernel
theorem dX8_takeFrom_87 : decode cX8_takeFrom 87 = .ok (.aload_n 0, 1) := by decide +kernel
theorem dX8_takeFrom_88 : decode cX8_takeFrom 88 = .ok (.aload_n 1, 1) := by decide +kernel
theorem dX8_takeFrom_89 : decode cX8_takeFrom 89 = .ok (.getfield 59, 3) := by decide +kernel
theorem dX8_takeFrom_92 : decode cX8_takeFrom 92 = .ok (.putfield 59, 3) := by decide +kernel
theorem dX8_takeFrom_95 : decode cX8_takeFrom 95 = .ok (.aload_n 0, 1) := by decide +kernel
theorem dX8_takeFrom_96 : decode cX8_takeFrom 96 = .ok (.aload_n 1, 1) := by decide +kernel
theorem dX8_takeFrom_97 : decode cX8_takeFrom 97 = .ok (.getfield 62, 3) := by decide +kernel
theorem dX8_takeFrom_100 : decode cX8_takeFrom 100 = .ok (.putfield 62, 3) := by decide +kernel
theorem dX8_takeFrom_103 : decode cX8_takeFrom 103 = .ok (.aload_n 0, 1) := by decide +kernel
theorem dX8_takeFrom_104 : decode cX8_takeFrom 104 = .ok (.aload_n 1, 1) := by decide +kernel
theorem dX8_takeFrom_105 : decode cX8_takeFrom 105 = .ok (.getfield 65, 3) := by decide +kernel
theorem dX8_takeFrom_108 : decode cX8_takeFrom 108 = .ok (.putfield 65, 3) := by decide +kernel
theorem dX8_takeFrom_111 : decode cX8_takeFrom 111 = .ok (.aload_n 0, 1) := by decide +kernel
theorem dX8_takeFrom_112 : decode cX8_takeFrom 112 = .ok (.aload_n 1, 1) := by decide +kernel
theorem dX8_takeFrom_113 : decode cX8_takeFrom 113 = .ok (.getfield 68, 3) := by decide +kernel
theorem dX8_takeFrom_116 : decode cX8_takeFrom 116 = .ok (.putfield 68, 3) := by decide +kernel
theorem dX8_takeFrom_119 : decode cX8_takeFrom 119 = .ok (.aload_n 0, 1) := by decide +kernel
theorem dX8_takeFrom_120 : decode cX8_takeFrom 120 = .ok (.aload_n 1, 1) := by decide +kernel
theorem dX8_takeFrom_121 : decode cX8_takeFrom 121 = .ok (.getfield 71, 3) := by decide +kernel
theorem dX8_takeFrom_124 : decode cX8_takeFrom 124 = .ok (.putfield 71, 3) := by decide +kernel
theorem dX8_takeFrom_127 : decode cX8_takeFrom 127 = .ok (.return_, 1) := by decide +kernel
theorem dX8_refusalToPrint_0 : decode cX8_refusalToPrint 0 = .ok (.iload_n 2, 1) := by decide +kernel
theorem dX8_refusalToPrint_1 : decode cX8_refusalToPrint 1 = .ok (.aload_n 0, 1) := by decide +kernel
theorem dX8_refusalToPrint_2 : decode cX8_refusalToPrint 2 = .ok (.getfield 46, 3) := by decide +kernel
theorem dX8_refusalToPrint_5 : decode cX8_refusalToPrint 5 = .ok (.iconst 1, 1) := by decide +kernel
theorem dX8_refusalToPrint_6 : decode cX8_refusalToPrint 6 = .ok (.iadd, 1) := by decide +kernel
theorem dX8_refusalToPrint_7 : decode cX8_refusalToPrint 7 = .ok (.aload_n 0, 1) := by decide +kernel
theorem dX8_refusalToPrint_8 : decode cX8_refusalToPrint 8 = .ok (.getfield 46, 3) := by decide +kernel
theorem dX8_refusalToPrint_11 : decode cX8_refusalToPrint 11 = .ok (.bipush 30, 2) := by decide +kernel
theorem dX8_refusalToPrint_13 : decode cX8_refusalToPrint 13 = .ok (.iadd, 1) := by decide +kernel
theorem dX8_refusalToPrint_14 : decode cX8_refusalToPrint 14 = .ok (.invokestatic 100, 3) := by decide +kernel
theorem dX8_refusalToPrint_17 : decode cX8_refusalToPrint 17 = .ok (.ifCond .ne 5, 3) := by decide +kernel
theorem dX8_refusalToPrint_20 : decode cX8_refusalToPrint 20 = .ok (.iconst 1, 1) := by decide +kernel
theorem dX8_refusalToPrint_21 : decode cX8_refusalToPrint 21 = .ok (.ireturn, 1) := by decide +kernel
theorem dX8_refusalToPrint_22 : decode cX8_refusalToPrint 22 = .ok (.aload_n 0, 1) := by decide +kernel
theorem dX8_refusalToPrint_23 : decode cX8_refusalToPrint 23 = .ok (.getfield 35, 3) := by decide +kernel
theorem dX8_refusalToPrint_26 : decode cX8_refusalToPrint 26 = .ok (.iload_n 1, 1) := by decide +kernel
theorem dX8_refusalToPrint_27 : decode cX8_refusalToPrint 27 = .ok (.iload_n 2, 1) := by decide +kernel
theorem dX8_refusalToPrint_28 : decode cX8_refusalToPrint 28 = .ok (.invokevirtual 104, 3) := by decide +kernel
theorem dX8_refusalToPrint_31 : decode cX8_refusalToPrint 31 = .ok (.iconst (-1), 1) := by decide +kernel
theorem dX8_refusalToPrint_32 : decode cX8_refusalToPrint 32 = .ok (.if_icmp .eq 5, 3) := by decide +kernel
theorem dX8_refusalToPrint_35 : decode cX8_refusalToPrint 35 = .ok (.iconst 2, 1) := by decide +kernel
theorem dX8_refusalToPrint_36 : decode cX8_refusalToPrint 36 = .ok (.ireturn, 1) := by decide +kernel
theorem dX8_refusalToPrint_37 : decode cX8_refusalToPrint 37 = .ok (.aload_n 0, 1) := by decide +kernel
theorem dX8_refusalToPrint_38 : decode cX8_refusalToPrint 38 = .ok (.getfield 35, 3) := by decide +kernel
theorem dX8_refusalToPrint_41 : decode cX8_refusalToPrint 41 = .ok (.getfield 78, 3) := by decide +kernel
theorem dX8_refusalToPrint_44 : decode cX8_refusalToPrint 44 = .ok (.bipush 30, 2) := by decide +kernel
theorem dX8_refusalToPrint_46 : decode cX8_refusalToPrint 46 = .ok (.if_icmp .lt 7, 3) := by decide +kernel
theorem dX8_refusalToPrint_49 : decode cX8_refusalToPrint 49 = .ok (.iconst 3, 1) := by decide +kernel
theorem dX8_refusalToPrint_50 : decode cX8_refusalToPrint 50 = .ok (.goto 4, 3) := by decide +kernel
theorem dX8_refusalToPrint_53 : decode cX8_refusalToPrint 53 = .ok (.iconst 0, 1) := by decide +kernel
theorem dX8_refusalToPrint_54 : decode cX8_refusalToPrint 54 = .ok (.ireturn, 1) := by decide +kernel
theorem dX8_canPayBackPage_0 : decode cX8_canPayBackPage 0 = .ok (.aload_n 0, 1) := by decide +kernel
theorem dX8_canPayBackPage_1 : decode cX8_canPayBackPage 1 = .ok (.getfield 50, 3) := by decide +kernel
theorem dX8_canPayBackPage_4 : decode cX8_canPayBackPage 4 = .ok (.aload_n 0, 1) := by decide +kernel
theorem dX8_canPayBackPage_5 : decode cX8_canPayBackPage 5 = .ok (.getfield 35, 3) := by decide +kernel
theorem dX8_canPayBackPage_8 : decode cX8_canPayBackPage 8 = .ok (.iload_n 1, 1) := by decide +kernel
theorem dX8_canPayBackPage_9 : decode cX8_canPayBackPage 9 = .ok (.invokevirtual 108, 3) := by decide +kernel
theorem dX8_canPayBackPage_12 : decode cX8_canPayBackPage 12 = .ok (.if_icmp .lt 7, 3) := by decide +kernel
theorem dX8_canPayBackPage_15 : decode cX8_canPayBackPage 15 = .ok (.iconst 1, 1) := by decide +kernel
theorem dX8_canPayBackPage_16 : decode cX8_canPayBackPage 16 = .ok (.goto 4, 3) := by decide +kernel
theorem dX8_canPayBackPage_19 : decode cX8_canPayBackPage 19 = .ok (.iconst 0, 1) := by decide +kernel
theorem dX8_canPayBackPage_20 : decode cX8_canPayBackPage 20 = .ok (.ireturn, 1) := by decide +kernel
theorem dX8_takeBackPage_0 : decode cX8_takeBackPage 0 = .ok (.aload_n 0, 1) := by decide +kernel
theorem dX8_takeBackPage_1 : decode cX8_takeBackPage 1 = .ok (.getfield 35, 3) := by decide +kernel
theorem dX8_takeBackPage_4 : decode cX8_takeBackPage 4 = .ok (.iload_n 1, 1) := by decide +kernel
theorem dX8_takeBackPage_5 : decode cX8_takeBackPage 5 = .ok (.invokevirtual 108, 3) := by decide +kernel
theorem dX8_takeBackPage_8 : decode cX8_takeBackPage 8 = .ok (.istore_n 2, 1) := by decide +kernel
theorem dX8_takeBackPage_9 : decode cX8_takeBackPage 9 = .ok (.aload_n 0, 1) := by decide +kernel
theorem dX8_takeBackPage_10 : decode cX8_takeBackPage 10 = .ok (.getfield 35, 3) := by decide +kernel
theorem dX8_takeBackPage_13 : decode cX8_takeBackPage 13 = .ok (.iload_n 1, 1) := by decide +kernel
theorem dX8_takeBackPage_14 : decode cX8_takeBackPage 14 = .ok (.invokevirtual 112, 3) := by decide +kernel
theorem dX8_takeBackPage_17 : decode cX8_takeBackPage 17 = .ok (.istore_n 3, 1) := by decide +kernel
theorem dX8_takeBackPage_18 : decode cX8_takeBackPage 18 = .ok (.aload_n 0, 1) := by decide +kernel
theorem dX8_takeBackPage_19 : decode cX8_takeBackPage 19 = .ok (.getfield 35, 3) := by decide +kernel
theorem dX8_takeBackPage_22 : decode cX8_takeBackPage 22 = .ok (.iload_n 1, 1) := by decide +kernel
theorem dX8_takeBackPage_23 : decode cX8_takeBackPage 23 = .ok (.invokevirtual 115, 3) := by decide +kernel
theorem dX8_takeBackPage_26 : decode cX8_takeBackPage 26 = .ok (.istore 4, 2) := by decide +kernel
theorem dX8_takeBackPage_28 : decode cX8_takeBackPage 28 = .ok (.iload_n 3, 1) := by decide +kernel
theorem dX8_takeBackPage_29 : decode cX8_takeBackPage 29 = .ok (.istore 5, 2) := by decide +kernel
theorem dX8_takeBackPage_31 : decode cX8_takeBackPage 31 = .ok (.iload 5, 2) := by decide +kernel
theorem dX8_takeBackPage_33 : decode cX8_takeBackPage 33 = .ok (.iload 4, 2) := by decide +kernel
theorem dX8_takeBackPage_35 : decode cX8_takeBackPage 35 = .ok (.if_icmp .ge 57, 3) := by decide +kernel
theorem dX8_takeBackPage_38 : decode cX8_takeBackPage 38 = .ok (.aload_n 0, 1) := by decide +kernel
theorem dX8_takeBackPage_39 : decode cX8_takeBackPage 39 = .ok (.getfield 12, 3) := by decide +kernel
theorem dX8_takeBackPage_42 : decode cX8_takeBackPage 42 = .ok (.aload_n 0, 1) := by decide +kernel
theorem dX8_takeBackPage_43 : decode cX8_takeBackPage 43 = .ok (.getfield 35, 3) := by decide +kernel
theorem dX8_takeBackPage_46 : decode cX8_takeBackPage 46 = .ok (.getfield 118, 3) := by decide +kernel
theorem dX8_takeBackPage_49 : decode cX8_takeBackPage 49 = .ok (.iload 5, 2) := by decide +kernel
theorem dX8_takeBackPage_51 : decode cX8_takeBackPage 51 = .ok (.iaload, 1) := by decide +kernel
theorem dX8_takeBackPage_52 : decode cX8_takeBackPage 52 = .ok (.bipush (-5), 2) := by decide +kernel
theorem dX8_takeBackPage_54 : decode cX8_takeBackPage 54 = .ok (.invokevirtual 120, 3) := by decide +kernel
theorem dX8_takeBackPage_57 : decode cX8_takeBackPage 57 = .ok (.aload_n 0, 1) := by decide +kernel
theorem dX8_takeBackPage_58 : decode cX8_takeBackPage 58 = .ok (.dup, 1) := by decide +kernel
theorem dX8_takeBackPage_59 : decode cX8_takeBackPage 59 = .ok (.getfield 65, 3) := by decide +kernel
theorem dX8_takeBackPage_62 : decode cX8_takeBackPage 62 = .ok (.aload_n 0, 1) := by decide +kernel
theorem dX8_takeBackPage_63 : decode cX8_takeBackPage 63 = .ok (.getfield 35, 3) := by decide +kernel
theorem dX8_takeBackPage_66 : decode cX8_takeBackPage 66 = .ok (.getfield 124, 3) := by decide +kernel
theorem dX8_takeBackPage_69 : decode cX8_takeBackPage 69 = .ok (.iload 5, 2) := by decide +kernel
theorem dX8_takeBackPage_71 : decode cX8_takeBackPage 71 = .ok (.iaload, 1) := by decide +kernel
theorem dX8_takeBackPage_72 : decode cX8_takeBackPage 72 = .ok (.iadd, 1) := by decide +kernel
theorem dX8_takeBackPage_73 : decode cX8_takeBackPage 73 = .ok (.putfield 65, 3) := by decide +kernel
theorem dX8_takeBackPage_76 : decode cX8_takeBackPage 76 = .ok (.aload_n 0, 1) := by decide +kernel
theorem dX8_takeBackPage_77 : decode cX8_takeBackPage 77 = .ok (.dup, 1) := by decide +kernel
theorem dX8_takeBackPage_78 : decode cX8_takeBackPage 78 = .ok (.getfield 59, 3) := by decide +kernel
theorem dX8_takeBackPage_81 : decode cX8_takeBackPage 81 = .ok (.iconst 1, 1) := by decide +kernel
theorem dX8_takeBackPage_82 : decode cX8_takeBackPage 82 = .ok (.iadd, 1) := by decide +kernel
theorem dX8_takeBackPage_83 : decode cX8_takeBackPage 83 = .ok (.putfield 59, 3) := by decide +kernel
theorem dX8_takeBackPage_86 : decode cX8_takeBackPage 86 = .ok (.iinc 5 1, 3) := by decide +kernel
theorem dX8_takeBackPage_89 : decode cX8_takeBackPage 89 = .ok (.goto (-58), 3) := by decide +kernel
theorem dX8_takeBackPage_92 : decode cX8_takeBackPage 92 = .ok (.aload_n 0, 1) := by decide +kernel
theorem dX8_takeBackPage_93 : decode cX8_takeBackPage 93 = .ok (.getfield 35, 3) := by decide +kernel
theorem dX8_takeBackPage_96 : decode cX8_takeBackPage 96 = .ok (.iload_n 3, 1) := by decide +kernel
theorem dX8_takeBackPage_97 : decode cX8_takeBackPage 97 = .ok (.iload 4, 2) := by decide +kernel
theorem dX8_takeBackPage_99 : decode cX8_takeBackPage 99 = .ok (.invokevirtual 127, 3) := by decide +kernel
theorem dX8_takeBackPage_102 : decode cX8_takeBackPage 102 = .ok (.aload_n 0, 1) := by decide +kernel
theorem dX8_takeBackPage_103 : decode cX8_takeBackPage 103 = .ok (.iload_n 2, 1) := by decide +kernel
theorem dX8_takeBackPage_104 : decode cX8_takeBackPage 104 = .ok (.invokevirtual 130, 3) := by decide +kernel
theorem dX8_takeBackPage_107 : decode cX8_takeBackPage 107 = .ok (.iload_n 2, 1) := by decide +kernel
theorem dX8_takeBackPage_108 : decode cX8_takeBackPage 108 = .ok (.ireturn, 1) := by decide +kernel
theorem dX8_letDaysPass_0 : decode cX8_letDaysPass 0 = .ok (.iconst 0, 1) := by decide +kernel
theorem dX8_letDaysPass_1 : decode cX8_letDaysPass 1 = .ok (.istore_n 2, 1) := by decide +kernel
theorem dX8_letDaysPass_2 : decode cX8_letDaysPass 2 = .ok (.iload_n 2, 1) := by decide +kernel
theorem dX8_letDaysPass_3 : decode cX8_letDaysPass 3 = .ok (.iload_n 1, 1) := by decide +kernel
theorem dX8_letDaysPass_4 : decode cX8_letDaysPass 4 = .ok (.if_icmp .ge 106, 3) := by decide +kernel
theorem dX8_letDaysPass_7 : decode cX8_letDaysPass 7 = .ok (.aload_n 0, 1) := by decide +kernel
theorem dX8_letDaysPass_8 : decode cX8_letDaysPass 8 = .ok (.dup, 1) := by decide +kernel
theorem dX8_letDaysPass_9 : decode cX8_letDaysPass 9 = .ok (.getfield 46, 3) := by decide +kernel
theorem dX8_letDaysPass_12 : decode cX8_letDaysPass 12 = .ok (.iconst 1, 1) := by decide +kernel
theorem dX8_letDaysPass_13 : decode cX8_letDaysPass 13 = .ok (.iadd, 1) := by decide +kernel
theorem dX8_letDaysPass_14 : decode cX8_letDaysPass 14 = .ok (.putfield 46, 3) := by decide +kernel
theorem dX8_letDaysPass_17 : decode cX8_letDaysPass 17 = .ok (.iconst 0, 1) := by decide +kernel
theorem dX8_letDaysPass_18 : decode cX8_letDaysPass 18 = .ok (.istore_n 3, 1) := by decide +kernel
theorem dX8_letDaysPass_19 : decode cX8_letDaysPass 19 = .ok (.iload_n 3, 1) := by decide +kernel
theorem dX8_letDaysPass_20 : decode cX8_letDaysPass 20 = .ok (.aload_n 0, 1) := by decide +kernel
theorem dX8_letDaysPass_21 : decode cX8_letDaysPass 21 = .ok (.getfield 21, 3) := by decide +kernel
theorem dX8_letDaysPass_24 : decode cX8_letDaysPass 24 = .ok (.getfield 77, 3) := by decide +kernel
theorem dX8_letDaysPass_27 : decode cX8_letDaysPass 27 = .ok (.if_icmp .ge 29, 3) := by decide +kernel
theorem dX8_letDaysPass_30 : decode cX8_letDaysPass 30 = .ok (.aload_n 0, 1) := by decide +kernel
theorem dX8_letDaysPass_31 : decode cX8_letDaysPass 31 = .ok (.getfield 21, 3) := by decide +kernel
theorem dX8_letDaysPass_34 : decode cX8_letDaysPass 34 = .ok (.iload_n 3, 1) := by decide +kernel
theorem dX8_letDaysPass_35 : decode cX8_letDaysPass 35 = .ok (.aload_n 0, 1) := by decide +kernel
theorem dX8_letDaysPass_36 : decode cX8_letDaysPass 36 = .ok (.getfield 46, 3) := by decide +kernel
theorem dX8_letDaysPass_39 : decode cX8_letDaysPass 39 = .ok (.invokevirtual 134, 3) := by decide +kernel
theorem dX8_letDaysPass_42 : decode cX8_letDaysPass 42 = .ok (.ifCond .eq 8, 3) := by decide +kernel
theorem dX8_letDaysPass_45 : decode cX8_letDaysPass 45 = .ok (.aload_n 0, 1) := by decide +kernel
theorem dX8_letDaysPass_46 : decode cX8_letDaysPass 46 = .ok (.iload_n 3, 1) := by decide +kernel
theorem dX8_letDaysPass_47 : decode cX8_letDaysPass 47 = .ok (.invokevirtual 138, 3) := by decide +kernel
theorem dX8_letDaysPass_50 : decode cX8_letDaysPass 50 = .ok (.iinc 3 1, 3) := by decide +kernel
theorem dX8_letDaysPass_53 : decode cX8_letDaysPass 53 = .ok (.goto (-34), 3) := by decide +kernel
theorem dX8_letDaysPass_56 : decode cX8_letDaysPass 56 = .ok (.iconst 0, 1) := by decide +kernel
theorem dX8_letDaysPass_57 : decode cX8_letDaysPass 57 = .ok (.istore_n 3, 1) := by decide +kernel
theorem dX8_letDaysPass_58 : decode cX8_letDaysPass 58 = .ok (.iload_n 3, 1) := by decide +kernel
theorem dX8_letDaysPass_59 : decode cX8_letDaysPass 59 = .ok (.aload_n 0, 1) := by decide +kernel
theorem dX8_letDaysPass_60 : decode cX8_letDaysPass 60 = .ok (.getfield 12, 3) := by decide +kernel
theorem dX8_letDaysPass_63 : decode cX8_letDaysPass 63 = .ok (.getfield 74, 3) := by decide +kernel
theorem dX8_letDaysPass_66 : decode cX8_letDaysPass 66 = .ok (.if_icmp .ge 21, 3) := by decide +kernel
theorem dX8_letDaysPass_69 : decode cX8_letDaysPass 69 = .ok (.aload_n 0, 1) := by decide +kernel
theorem dX8_letDaysPass_70 : decode cX8_letDaysPass 70 = .ok (.iload_n 3, 1) := by decide +kernel
theorem dX8_letDaysPass_71 : decode cX8_letDaysPass 71 = .ok (.aload_n 0, 1) := by decide +kernel
theorem dX8_letDaysPass_72 : decode cX8_letDaysPass 72 = .ok (.getfield 28, 3) := by decide +kernel
theorem dX8_letDaysPass_75 : decode cX8_letDaysPass 75 = .ok (.invokevirtual 141, 3) := by decide +kernel
theorem dX8_letDaysPass_78 : decode cX8_letDaysPass 78 = .ok (.invokevirtual 145, 3) := by decide +kernel
theorem dX8_letDaysPass_81 : decode cX8_letDaysPass 81 = .ok (.iinc 3 1, 3) := by decide +kernel
theorem dX8_letDaysPass_84 : decode cX8_letDaysPass 84 = .ok (.goto (-26), 3) := by decide +kernel
theorem dX8_letDaysPass_87 : decode cX8_letDaysPass 87 = .ok (.aload_n 0, 1) := by decide +kernel
theorem dX8_letDaysPass_88 : decode cX8_letDaysPass 88 = .ok (.getfield 46, 3) := by decide +kernel
theorem dX8_letDaysPass_91 : decode cX8_letDaysPass 91 = .ok (.bipush 12, 2) := by decide +kernel
theorem dX8_letDaysPass_93 : decode cX8_letDaysPass 93 = .ok (.irem, 1) := by decide +kernel
theorem dX8_letDaysPass_94 : decode cX8_letDaysPass 94 = .ok (.ifCond .ne 10, 3) := by decide +kernel
theorem dX8_letDaysPass_97 : decode cX8_letDaysPass 97 = .ok (.aload_n 0, 1) := by decide +kernel
theorem dX8_letDaysPass_98 : decode cX8_letDaysPass 98 = .ok (.getfield 28, 3) := by decide +kernel
theorem dX8_letDaysPass_101 : decode cX8_letDaysPass 101 = .ok (.invokevirtual 148, 3) := by decide +kernel
theorem dX8_letDaysPass_104 : decode cX8_letDaysPass 104 = .ok (.iinc 2 1, 3) := by decide +kernel
theorem dX8_letDaysPass_107 : decode cX8_letDaysPass 107 = .ok (.goto (-105), 3) := by decide +kernel
theorem dX8_letDaysPass_110 : decode cX8_letDaysPass 110 = .ok (.return_, 1) := by decide +kernel
theorem dX8_sellAt_0 : decode cX8_sellAt 0 = .ok (.aload_n 0, 1) := by decide +kernel
theorem dX8_sellAt_1 : decode cX8_sellAt 1 = .ok (.getfield 21, 3) := by decide +kernel
theorem dX8_sellAt_4 : decode cX8_sellAt 4 = .ok (.getfield 151, 3) := by decide +kernel
theorem dX8_sellAt_7 : decode cX8_sellAt 7 = .ok (.iload_n 1, 1) := by decide +kernel
theorem dX8_sellAt_8 : decode cX8_sellAt 8 = .ok (.iaload, 1) := by decide +kernel
theorem dX8_sellAt_9 : decode cX8_sellAt 9 = .ok (.istore_n 2, 1) := by decide +kernel
theorem dX8_sellAt_10 : decode cX8_sellAt 10 = .ok (.aload_n 0, 1) := by decide +kernel
theorem dX8_sellAt_11 : decode cX8_sellAt 11 = .ok (.getfield 21, 3) := by decide +kernel
theorem dX8_sellAt_14 : decode cX8_sellAt 14 = .ok (.getfield 152, 3) := by decide +kernel
theorem dX8_sellAt_17 : decode cX8_sellAt 17 = .ok (.iload_n 1, 1) := by decide +kernel
theorem dX8_sellAt_18 : decode cX8_sellAt 18 = .ok (.iaload, 1) := by decide +kernel
theorem dX8_sellAt_19 : decode cX8_sellAt 19 = .ok (.istore_n 3, 1) := by decide +kernel
theorem dX8_sellAt_20 : decode cX8_sellAt 20 = .ok (.iconst 0, 1) := by decide +kernel
theorem dX8_sellAt_21 : decode cX8_sellAt 21 = .ok (.istore 4, 2) := by decide +kernel
theorem dX8_sellAt_23 : decode cX8_sellAt 23 = .ok (.iload 4, 2) := by decide +kernel
theorem dX8_sellAt_25 : decode cX8_sellAt 25 = .ok (.aload_n 0, 1) := by decide +kernel
theorem dX8_sellAt_26 : decode cX8_sellAt 26 = .ok (.getfield 35, 3) := by decide +kernel
theorem dX8_sellAt_29 : decode cX8_sellAt 29 = .ok (.getfield 78, 3) := by decide +kernel
theorem dX8_sellAt_32 : decode cX8_sellAt 32 = .ok (.if_icmp .ge 146, 3) := by decide +kernel
theorem dX8_sellAt_35 : decode cX8_sellAt 35 = .ok (.aload_n 0, 1) := by decide +kernel
theorem dX8_sellAt_36 : decode cX8_sellAt 36 = .ok (.getfield 35, 3) := by decide +kernel
theorem dX8_sellAt_39 : decode cX8_sellAt 39 = .ok (.getfield 118, 3) := by decide +kernel
theorem dX8_sellAt_42 : decode cX8_sellAt 42 = .ok (.iload 4, 2) := by decide +kernel
theorem dX8_sellAt_44 : decode cX8_sellAt 44 = .ok (.iaload, 1) := by decide +kernel
theorem dX8_sellAt_45 : decode cX8_sellAt 45 = .ok (.iload_n 2, 1) := by decide +kernel
theorem dX8_sellAt_46 : decode cX8_sellAt 46 = .ok (.if_icmp .ne 126, 3) := by decide +kernel
theorem dX8_sellAt_49 : decode cX8_sellAt 49 = .ok (.aload_n 0, 1) := by decide +kernel
theorem dX8_sellAt_50 : decode cX8_sellAt 50 = .ok (.getfield 35, 3) := by decide +kernel
theorem dX8_sellAt_53 : decode cX8_sellAt 53 = .ok (.getfield 155, 3) := by decide +kernel
theorem dX8_sellAt_56 : decode cX8_sellAt 56 = .ok (.iload 4, 2) := by decide +kernel
theorem dX8_sellAt_58 : decode cX8_sellAt 58 = .ok (.iaload, 1) := by decide +kernel
theorem dX8_sellAt_59 : decode cX8_sellAt 59 = .ok (.aload_n 0, 1) := by decide +kernel
theorem dX8_sellAt_60 : decode cX8_sellAt 60 = .ok (.getfield 46, 3) := by decide +kernel
theorem dX8_sellAt_63 : decode cX8_sellAt 63 = .ok (.if_icmp .le 109, 3) := by decide +kernel
theorem dX8_sellAt_66 : decode cX8_sellAt 66 = .ok (.iload_n 3, 1) := by decide +kernel
theorem dX8_sellAt_67 : decode cX8_sellAt 67 = .ok (.aload_n 0, 1) := by decide +kernel
theorem dX8_sellAt_68 : decode cX8_sellAt 68 = .ok (.getfield 12, 3) := by decide +kernel
theorem dX8_sellAt_71 : decode cX8_sellAt 71 = .ok (.iload_n 2, 1) := by decide +kernel
theorem dX8_sellAt_72 : decode cX8_sellAt 72 = .ok (.aload_n 0, 1) := by decide +kernel
theorem dX8_sellAt_73 : decode cX8_sellAt 73 = .ok (.getfield 35, 3) := by decide +kernel
theorem dX8_sellAt_76 : decode cX8_sellAt 76 = .ok (.getfield 124, 3) := by decide +kernel
theorem dX8_sellAt_79 : decode cX8_sellAt 79 = .ok (.iload 4, 2) := by decide +kernel
theorem dX8_sellAt_81 : decode cX8_sellAt 81 = .ok (.iaload, 1) := by decide +kernel
theorem dX8_sellAt_82 : decode cX8_sellAt 82 = .ok (.invokevirtual 158, 3) := by decide +kernel
theorem dX8_sellAt_85 : decode cX8_sellAt 85 = .ok (.invokestatic 161, 3) := by decide +kernel
theorem dX8_sellAt_88 : decode cX8_sellAt 88 = .ok (.istore 5, 2) := by decide +kernel
theorem dX8_sellAt_90 : decode cX8_sellAt 90 = .ok (.iload 5, 2) := by decide +kernel
theorem dX8_sellAt_92 : decode cX8_sellAt 92 = .ok (.aload_n 0, 1) := by decide +kernel
theorem dX8_sellAt_93 : decode cX8_sellAt 93 = .ok (.getfield 21, 3) := by decide +kernel
theorem dX8_sellAt_96 : decode cX8_sellAt 96 = .ok (.getfield 166, 3) := by decide +kernel
theorem dX8_sellAt_99 : decode cX8_sellAt 99 = .ok (.iload_n 1, 1) := by decide +kernel
theorem dX8_sellAt_100 : decode cX8_sellAt 100 = .ok (.iaload, 1) := by decide +kernel
theorem dX8_sellAt_101 : decode cX8_sellAt 101 = .ok (.imul, 1) := by decide +kernel
theorem dX8_sellAt_102 : decode cX8_sellAt 102 = .ok (.istore 6, 2) := by decide +kernel
theorem dX8_sellAt_104 : decode cX8_sellAt 104 = .ok (.iload_n 3, 1) := by decide +kernel
theorem dX8_sellAt_105 : decode cX8_sellAt 105 = .ok (.iload 5, 2) := by decide +kernel
theorem dX8_sellAt_107 : decode cX8_sellAt 107 = .ok (.isub, 1) := by decide +kernel
theorem dX8_sellAt_108 : decode cX8_sellAt 108 = .ok (.istore_n 3, 1) := by decide +kernel
theorem dX8_sellAt_109 : decode cX8_sellAt 109 = .ok (.aload_n 0, 1) := by decide +kernel
theorem dX8_sellAt_110 : decode cX8_sellAt 110 = .ok (.getfield 35, 3) := by decide +kernel
theorem dX8_sellAt_113 : decode cX8_sellAt 113 = .ok (.getfield 124, 3) := by decide +kernel
theorem dX8_sellAt_116 : decode cX8_sellAt 116 = .ok (.iload 4, 2) := by decide +kernel
theorem dX8_sellAt_118 : decode cX8_sellAt 118 = .ok (.dup2, 1) := by decide +kernel
theorem dX8_sellAt_119 : decode cX8_sellAt 119 = .ok (.iaload, 1) := by decide +kernel
theorem dX8_sellAt_120 : decode cX8_sellAt 120 = .ok (.iload 5, 2) := by decide +kernel
theorem dX8_sellAt_122 : decode cX8_sellAt 122 = .ok (.iadd, 1) := by decide +kernel
theorem dX8_sellAt_123 : decode cX8_sellAt 123 = .ok (.iastore, 1) := by decide +kernel
theorem dX8_sellAt_124 : decode cX8_sellAt 124 = .ok (.aload_n 0, 1) := by decide +kernel
theorem dX8_sellAt_125 : decode cX8_sellAt 125 = .ok (.getfield 35, 3) := by decide +kernel
theorem dX8_sellAt_128 : decode cX8_sellAt 128 = .ok (.getfield 169, 3) := by decide +kernel
theorem dX8_sellAt_131 : decode cX8_sellAt 131 = .ok (.iload 4, 2) := by decide +kernel
theorem dX8_sellAt_133 : decode cX8_sellAt 133 = .ok (.dup2, 1) := by decide +kernel
theorem dX8_sellAt_134 : decode cX8_sellAt 134 = .ok (.iaload, 1) := by decide +kernel
theorem dX8_sellAt_135 : decode cX8_sellAt 135 = .ok (.iload 6, 2) := by decide +kernel
theorem dX8_sellAt_137 : decode cX8_sellAt 137 = .ok (.iadd, 1) := by decide +kernel
theorem dX8_sellAt_138 : decode cX8_sellAt 138 = .ok (.iastore, 1) := by decide +kernel
theorem dX8_sellAt_139 : decode cX8_sellAt 139 = .ok (.aload_n 0, 1) := by decide +kernel
theorem dX8_sellAt_140 : decode cX8_sellAt 140 = .ok (.dup, 1) := by decide +kernel
theorem dX8_sellAt_141 : decode cX8_sellAt 141 = .ok (.getfield 62, 3) := by decide +kernel
theorem dX8_sellAt_144 : decode cX8_sellAt 144 = .ok (.iload 5, 2) := by decide +kernel
theorem dX8_sellAt_146 : decode cX8_sellAt 146 = .ok (.iadd, 1) := by decide +kernel
theorem dX8_sellAt_147 : decode cX8_sellAt 147 = .ok (.putfield 62, 3) := by decide +kernel
theorem dX8_sellAt_150 : decode cX8_sellAt 150 = .ok (.aload_n 0, 1) := by decide +kernel
theorem dX8_sellAt_151 : decode cX8_sellAt 151 = .ok (.dup, 1) := by decide +kernel
theorem dX8_sellAt_152 : decode cX8_sellAt 152 = .ok (.getfield 68, 3) := by decide +kernel
theorem dX8_sellAt_155 : decode cX8_sellAt 155 = .ok (.iload 6, 2) := by decide +kernel
theorem dX8_sellAt_157 : decode cX8_sellAt 157 = .ok (.iadd, 1) := by decide +kernel
theorem dX8_sellAt_158 : decode cX8_sellAt 158 = .ok (.putfield 68, 3) := by decide +kernel
theorem dX8_sellAt_161 : decode cX8_sellAt 161 = .ok (.aload_n 0, 1) := by decide +kernel
theorem dX8_sellAt_162 : decode cX8_sellAt 162 = .ok (.dup, 1) := by decide +kernel
theorem dX8_sellAt_163 : decode cX8_sellAt 163 = .ok (.getfield 50, 3) := by decide +kernel
theorem dX8_sellAt_166 : decode cX8_sellAt 166 = .ok (.iload 6, 2) := by decide +kernel
theorem dX8_sellAt_168 : decode cX8_sellAt 168 = .ok (.iadd, 1) := by decide +kernel
theorem dX8_sellAt_169 : decode cX8_sellAt 169 = .ok (.putfield 50, 3) := by decide +kernel
theorem dX8_sellAt_172 : decode cX8_sellAt 172 = .ok (.iinc 4 1, 3) := by decide +kernel
theorem dX8_sellAt_175 : decode cX8_sellAt 175 = .ok (.goto (-152), 3) := by decide +kernel
theorem dX8_sellAt_178 : decode cX8_sellAt 178 = .ok (.return_, 1) := by decide +kernel
theorem dX8_judge_0 : decode cX8_judge 0 = .ok (.aload_n 0, 1) := by decide +kernel
theorem dX8_judge_1 : decode cX8_judge 1 = .ok (.getfield 35, 3) := by decide +kernel
theorem dX8_judge_4 : decode cX8_judge 4 = .ok (.iload_n 1, 1) := by decide +kernel
theorem dX8_judge_5 : decode cX8_judge 5 = .ok (.aload_n 0, 1) := by decide +kernel
theorem dX8_judge_6 : decode cX8_judge 6 = .ok (.getfield 46, 3) := by decide +kernel
theorem dX8_judge_9 : decode cX8_judge 9 = .ok (.invokevirtual 104, 3) := by decide +kernel
theorem dX8_judge_12 : decode cX8_judge 12 = .ok (.istore_n 3, 1) := by decide +kernel
theorem dX8_judge_13 : decode cX8_judge 13 = .ok (.iload_n 3, 1) := by decide +kernel
theorem dX8_judge_14 : decode cX8_judge 14 = .ok (.iconst (-1), 1) := by decide +kernel
theorem dX8_judge_15 : decode cX8_judge 15 = .ok (.if_icmp .ne 4, 3) := by decide +kernel
theorem dX8_judge_18 : decode cX8_judge 18 = .ok (.return_, 1) := by decide +kernel
theorem dX8_judge_19 : decode cX8_judge 19 = .ok (.aload_n 0, 1) := by decide +kernel
theorem dX8_judge_20 : decode cX8_judge 20 = .ok (.getfield 35, 3) := by decide +kernel
theorem dX8_judge_23 : decode cX8_judge 23 = .ok (.getfield 169, 3) := by decide +kernel
theorem dX8_judge_26 : decode cX8_judge 26 = .ok (.iload_n 3, 1) := by decide +kernel
theorem dX8_judge_27 : decode cX8_judge 27 = .ok (.iaload, 1) := by decide +kernel
theorem dX8_judge_28 : decode cX8_judge 28 = .ok (.istore 4, 2) := by decide +kernel
theorem dX8_judge_30 : decode cX8_judge 30 = .ok (.aload_n 0, 1) := by decide +kernel
theorem dX8_judge_31 : decode cX8_judge 31 = .ok (.getfield 35, 3) := by decide +kernel
theorem dX8_judge_34 : decode cX8_judge 34 = .ok (.getfield 172, 3) := by decide +kernel
theorem dX8_judge_37 : decode cX8_judge 37 = .ok (.iload_n 3, 1) := by decide +kernel
theorem dX8_judge_38 : decode cX8_judge 38 = .ok (.iaload, 1) := by decide +kernel
theorem dX8_judge_39 : decode cX8_judge 39 = .ok (.iload_n 2, 1) := by decide +kernel
theorem dX8_judge_40 : decode cX8_judge 40 = .ok (.if_icmp .ne 25, 3) := by decide +kernel
theorem dX8_judge_43 : decode cX8_judge 43 = .ok (.aload_n 0, 1) := by decide +kernel
theorem dX8_judge_44 : decode cX8_judge 44 = .ok (.dup, 1) := by decide +kernel
theorem dX8_judge_45 : decode cX8_judge 45 = .ok (.getfield 53, 3) := by decide +kernel
theorem dX8_judge_48 : decode cX8_judge 48 = .ok (.iconst 1, 1) := by decide +kernel
theorem dX8_judge_49 : decode cX8_judge 49 = .ok (.iadd, 1) := by decide +kernel
theorem dX8_judge_50 : decode cX8_judge 50 = .ok (.putfield 53, 3) := by decide +kernel
theorem dX8_judge_53 : decode cX8_judge 53 = .ok (.aload_n 0, 1) := by decide +kernel
theorem dX8_judge_54 : decode cX8_judge 54 = .ok (.getfield 12, 3) := by decide +kernel
theorem dX8_judge_57 : decode cX8_judge 57 = .ok (.iload_n 1, 1) := by decide +kernel
theorem dX8_judge_58 : decode cX8_judge 58 = .ok (.iconst 5, 1) := by decide +kernel
theorem dX8_judge_59 : decode cX8_judge 59 = .ok (.invokevirtual 120, 3) := by decide +kernel
theorem dX8_judge_62 : decode cX8_judge 62 = .ok (.goto 66, 3) := by decide +kernel
theorem dX8_judge_65 : decode cX8_judge 65 = .ok (.aload_n 0, 1) := by decide +kernel
theorem dX8_judge_66 : decode cX8_judge 66 = .ok (.dup, 1) := by decide +kernel
theorem dX8_judge_67 : decode cX8_judge 67 = .ok (.getfield 56, 3) := by decide +kernel
theorem dX8_judge_70 : decode cX8_judge 70 = .ok (.iconst 1, 1) := by decide +kernel
theorem dX8_judge_71 : decode cX8_judge 71 = .ok (.iadd, 1) := by decide +kernel
theorem dX8_judge_72 : decode cX8_judge 72 = .ok (.putfield 56, 3) := by decide +kernel
theorem dX8_judge_75 : decode cX8_judge 75 = .ok (.aload_n 0, 1) := by decide +kernel
theorem dX8_judge_76 : decode cX8_judge 76 = .ok (.getfield 42, 3) := by decide +kernel
theorem dX8_judge_79 : decode cX8_judge 79 = .ok (.iload_n 1, 1) := by decide +kernel
theorem dX8_judge_80 : decode cX8_judge 80 = .ok (.aload_n 0, 1) := by decide +kernel
theorem dX8_judge_81 : decode cX8_judge 81 = .ok (.getfield 46, 3) := by decide +kernel
theorem dX8_judge_84 : decode cX8_judge 84 = .ok (.invokevirtual 175, 3) := by decide +kernel
theorem dX8_judge_87 : decode cX8_judge 87 = .ok (.aload_n 0, 1) := by decide +kernel
theorem dX8_judge_88 : decode cX8_judge 88 = .ok (.iload_n 2, 1) := by decide +kernel
theorem dX8_judge_89 : decode cX8_judge 89 = .ok (.iconst 2, 1) := by decide +kernel
theorem dX8_judge_90 : decode cX8_judge 90 = .ok (.if_icmp .ne 11, 3) := by decide +kernel
theorem dX8_judge_93 : decode cX8_judge 93 = .ok (.iload 4, 2) := by decide +kernel
theorem dX8_judge_95 : decode cX8_judge 95 = .ok (.bipush 10, 2) := by decide +kernel
theorem dX8_judge_97 : decode cX8_judge 97 = .ok (.iadd, 1) := by decide +kernel
theorem dX8_judge_98 : decode cX8_judge 98 = .ok (.goto 7, 3) := by decide +kernel
theorem dX8_judge_101 : decode cX8_judge 101 = .ok (.iload 4, 2) := by decide +kernel
theorem dX8_judge_103 : decode cX8_judge 103 = .ok (.iconst 2, 1) := by decide +kernel
theorem dX8_judge_104 : decode cX8_judge 104 = .ok (.idiv, 1) := by decide +kernel
theorem dX8_judge_105 : decode cX8_judge 105 = .ok (.invokevirtual 130, 3) := by decide +kernel
theorem dX8_judge_108 : decode cX8_judge 108 = .ok (.aload_n 0, 1) := by decide +kernel
theorem dX8_judge_109 : decode cX8_judge 109 = .ok (.getfield 12, 3) := by decide +kernel
theorem dX8_judge_112 : decode cX8_judge 112 = .ok (.iload_n 1, 1) := by decide +kernel
theorem dX8_judge_113 : decode cX8_judge 113 = .ok (.iload_n 2, 1) := by decide +kernel
theorem dX8_judge_114 : decode cX8_judge 114 = .ok (.iconst 2, 1) := by decide +kernel
theorem dX8_judge_115 : decode cX8_judge 115 = .ok (.if_icmp .ne 8, 3) := by decide +kernel
theorem dX8_judge_118 : decode cX8_judge 118 = .ok (.bipush (-20), 2) := by decide +kernel
theorem dX8_judge_120 : decode cX8_judge 120 = .ok (.goto 5, 3) := by decide +kernel
theorem dX8_judge_123 : decode cX8_judge 123 = .ok (.bipush (-10), 2) := by decide +kernel
theorem dX8_judge_125 : decode cX8_judge 125 = .ok (.invokevirtual 120, 3) := by decide +kernel
theorem dX8_judge_128 : decode cX8_judge 128 = .ok (.aload_n 0, 1) := by decide +kernel
theorem dX8_judge_129 : decode cX8_judge 129 = .ok (.dup, 1) := by decide +kernel
theorem dX8_judge_130 : decode cX8_judge 130 = .ok (.getfield 65, 3) := by decide +kernel
theorem dX8_judge_133 : decode cX8_judge 133 = .ok (.aload_n 0, 1) := by decide +kernel
theorem dX8_judge_134 : decode cX8_judge 134 = .ok (.getfield 35, 3) := by decide +kernel
theorem dX8_judge_137 : decode cX8_judge 137 = .ok (.getfield 124, 3) := by decide +kernel
theorem dX8_judge_140 : decode cX8_judge 140 = .ok (.iload_n 3, 1) := by decide +kernel
theorem dX8_judge_141 : decode cX8_judge 141 = .ok (.iaload, 1) := by decide +kernel
theorem dX8_judge_142 : decode cX8_judge 142 = .ok (.iadd, 1) := by decide +kernel
theorem dX8_judge_143 : decode cX8_judge 143 = .ok (.putfield 65, 3) := by decide +kernel
theorem dX8_judge_146 : decode cX8_judge 146 = .ok (.aload_n 0, 1) := by decide +kernel
theorem dX8_judge_147 : decode cX8_judge 147 = .ok (.getfield 35, 3) := by decide +kernel
theorem dX8_judge_150 : decode cX8_judge 150 = .ok (.iload_n 3, 1) := by decide +kernel
theorem dX8_judge_151 : decode cX8_judge 151 = .ok (.iload_n 3, 1) := by decide +kernel
theorem dX8_judge_152 : decode cX8_judge 152 = .ok (.iconst 1, 1) := by decide +kernel
theorem dX8_judge_153 : decode cX8_judge 153 = .ok (.iadd, 1) := by decide +kernel
theorem dX8_judge_154 : decode cX8_judge 154 = .ok (.invokevirtual 127, 3) := by decide +kernel
theorem dX8_judge_157 : decode cX8_judge 157 = .ok (.return_, 1) := by decide +kernel
theorem dX8_payBack_0 : decode cX8_payBack 0 = .ok (.aload_n 0, 1) := by decide +kernel
theorem dX8_payBack_1 : decode cX8_payBack 1 = .ok (.dup, 1) := by decide +kernel
theorem dX8_payBack_2 : decode cX8_payBack 2 = .ok (.getfield 50, 3) := by decide +kernel
theorem dX8_payBack_5 : decode cX8_payBack 5 = .ok (.iload_n 1, 1) := by decide +kernel
theorem dX8_payBack_6 : decode cX8_payBack 6 = .ok (.isub, 1) := by decide +kernel
theorem dX8_payBack_7 : decode cX8_payBack 7 = .ok (.putfield 50, 3) := by decide +kernel
theorem dX8_payBack_10 : decode cX8_payBack 10 = .ok (.aload_n 0, 1) := by decide +kernel
theorem dX8_payBack_11 : decode cX8_payBack 11 = .ok (.dup, 1) := by decide +kernel
theorem dX8_payBack_12 : decode cX8_payBack 12 = .ok (.getfield 71, 3) := by decide +kernel
theorem dX8_payBack_15 : decode cX8_payBack 15 = .ok (.iload_n 1, 1) := by decide +kernel
theorem dX8_payBack_16 : decode cX8_payBack 16 = .ok (.iadd, 1) := by decide +kernel
theorem dX8_payBack_17 : decode cX8_payBack 17 = .ok (.putfield 71, 3) := by decide +kernel
theorem dX8_payBack_20 : decode cX8_payBack 20 = .ok (.return_, 1) := by decide +kernel
theorem dX9_init_0 : decode cX9_init 0 = .ok (.aload_n 0, 1) := by decide +kernel
theorem dX9_init_1 : decode cX9_init 1 = .ok (.invokespecial 3, 3) := by decide +kernel
theorem dX9_init_4 : decode cX9_init 4 = .ok (.aload_n 0, 1) := by decide +kernel
theorem dX9_init_5 : decode cX9_init 5 = .ok (.bipush 6, 2) := by decide +kernel
theorem dX9_init_7 : decode cX9_init 7 = .ok (.newarray .int, 2) := by decide +kernel
theorem dX9_init_9 : decode cX9_init 9 = .ok (.putfield 9, 3) := by decide +kernel
theorem dX9_init_12 : decode cX9_init 12 = .ok (.aload_n 0, 1) := by decide +kernel
theorem dX9_init_13 : decode cX9_init 13 = .ok (.bipush 6, 2) := by decide +kernel
theorem dX9_init_15 : decode cX9_init 15 = .ok (.newarray .int, 2) := by decide +kernel
theorem dX9_init_17 : decode cX9_init 17 = .ok (.putfield 15, 3) := by decide +kernel
theorem dX9_init_20 : decode cX9_init 20 = .ok (.aload_n 0, 1) := by decide +kernel
theorem dX9_init_21 : decode cX9_init 21 = .ok (.bipush 6, 2) := by decide +kernel
theorem dX9_init_23 : decode cX9_init 23 = .ok (.newarray .int, 2) := by decide +kernel
theorem dX9_init_25 : decode cX9_init 25 = .ok (.putfield 18, 3) := by decide +kernel
theorem dX9_init_28 : decode cX9_init 28 = .ok (.aload_n 0, 1) := by decide +kernel
theorem dX9_init_29 : decode cX9_init 29 = .ok (.iconst 0, 1) := by decide +kernel
theorem dX9_init_30 : decode cX9_init 30 = .ok (.putfield 21, 3) := by decide +kernel
theorem dX9_init_33 : decode cX9_init 33 = .ok (.return_, 1) := by decide +kernel
theorem dX9_has_0 : decode cX9_has 0 = .ok (.iload_n 1, 1) := by decide +kernel
theorem dX9_has_1 : decode cX9_has 1 = .ok (.ifCond .lt 15, 3) := by decide +kernel
theorem dX9_has_4 : decode cX9_has 4 = .ok (.iload_n 1, 1) := by decide +kernel
theorem dX9_has_5 : decode cX9_has 5 = .ok (.aload_n 0, 1) := by decide +kernel
theorem dX9_has_6 : decode cX9_has 6 = .ok (.getfield 21, 3) := by decide +kernel
theorem dX9_has_9 : decode cX9_has 9 = .ok (.if_icmp .ge 7, 3) := by decide +kernel
theorem dX9_has_12 : decode cX9_has 12 = .ok (.iconst 1, 1) := by decide +kernel
theorem dX9_has_13 : decode cX9_has 13 = .ok (.goto 4, 3) := by decide +kernel
theorem dX9_has_16 : decode cX9_has 16 = .ok (.iconst 0, 1) := by decide +kernel
theorem dX9_has_17 : decode cX9_has 17 = .ok (.ireturn, 1) := by decide +kernel
theorem dX9_numberOf_0 : decode cX9_numberOf 0 = .ok (.aload_n 0, 1) := by decide +kernel
theorem dX9_numberOf_1 : decode cX9_numberOf 1 = .ok (.getfield 9, 3) := by decide +kernel
theorem dX9_numberOf_4 : decode cX9_numberOf 4 = .ok (.aload_n 0, 1) := by decide +kernel
theorem dX9_numberOf_5 : decode cX9_numberOf 5 = .ok (.getfield 21, 3) := by decide +kernel
theorem dX9_numberOf_8 : decode cX9_numberOf 8 = .ok (.iload_n 1, 1) := by decide +kernel
theorem dX9_numberOf_9 : decode cX9_numberOf 9 = .ok (.invokestatic 25, 3) := by decide +kernel
theorem dX9_numberOf_12 : decode cX9_numberOf 12 = .ok (.ireturn, 1) := by decide +kernel
theorem dX9_add_0 : decode cX9_add 0 = .ok (.aload_n 0, 1) := by decide +kernel
theorem dX9_add_1 : decode cX9_add 1 = .ok (.getfield 21, 3) := by decide +kernel
theorem dX9_add_4 : decode cX9_add 4 = .ok (.bipush 6, 2) := by decide +kernel
theorem dX9_add_6 : decode cX9_add 6 = .ok (.if_icmp .lt 4, 3) := by decide +kernel
theorem dX9_add_9 : decode cX9_add 9 = .ok (.return_, 1) := by decide +kernel
theorem dX9_add_10 : decode cX9_add 10 = .ok (.aload_n 0, 1) := by decide +kernel
theorem dX9_add_11 : decode cX9_add 11 = .ok (.getfield 9, 3) := by decide +kernel
theorem dX9_add_14 : decode cX9_add 14 = .ok (.aload_n 0, 1) := by decide +kernel
theorem dX9_add_15 : decode cX9_add 15 = .ok (.getfield 21, 3) := by decide +kernel
theorem dX9_add_18 : decode cX9_add 18 = .ok (.iload_n 1, 1) := by decide +kernel
theorem dX9_add_19 : decode cX9_add 19 = .ok (.iastore, 1) := by decide +kernel
theorem dX9_add_20 : decode cX9_add 20 = .ok (.aload_n 0, 1) := by decide +kernel
theorem dX9_add_21 : decode cX9_add 21 = .ok (.getfield 15, 3) := by decide +kernel
theorem dX9_add_24 : decode cX9_add 24 = .ok (.aload_n 0, 1) := by decide +kernel
theorem dX9_add_25 : decode cX9_add 25 = .ok (.getfield 21, 3) := by decide +kernel
theorem dX9_add_28 : decode cX9_add 28 = .ok (.iload_n 2, 1) := by decide +kernel
theorem dX9_add_29 : decode cX9_add 29 = .ok (.iastore, 1) := by decide +kernel
theorem dX9_add_30 : decode cX9_add 30 = .ok (.aload_n 0, 1) := by decide +kernel
theorem dX9_add_31 : decode cX9_add 31 = .ok (.getfield 18, 3) := by decide +kernel
theorem dX9_add_34 : decode cX9_add 34 = .ok (.aload_n 0, 1) := by decide +kernel
theorem dX9_add_35 : decode cX9_add 35 = .ok (.getfield 21, 3) := by decide +kernel
theorem dX9_add_38 : decode cX9_add 38 = .ok (.iload_n 3, 1) := by decide +kernel
theorem dX9_add_39 : decode cX9_add 39 = .ok (.iastore, 1) := by decide +kernel
theorem dX9_add_40 : decode cX9_add 40 = .ok (.aload_n 0, 1) := by decide +kernel
theorem dX9_add_41 : decode cX9_add 41 = .ok (.dup, 1) := by decide +kernel
theorem dX9_add_42 : decode cX9_add 42 = .ok (.getfield 21, 3) := by decide +kernel
theorem dX9_add_45 : decode cX9_add 45 = .ok (.iconst 1, 1) := by decide +kernel
theorem dX9_add_46 : decode cX9_add 46 = .ok (.iadd, 1) := by decide +kernel
theorem dX9_add_47 : decode cX9_add 47 = .ok (.putfield 21, 3) := by decide +kernel
theorem dX9_add_50 : decode cX9_add 50 = .ok (.return_, 1) := by decide +kernel
theorem dX9_changeTrust_0 : decode cX9_changeTrust 0 = .ok (.aload_n 0, 1) := by decide +kernel
theorem dX9_changeTrust_1 : decode cX9_changeTrust 1 = .ok (.iload_n 1, 1) := by decide +kernel
theorem dX9_changeTrust_2 : decode cX9_changeTrust 2 = .ok (.invokevirtual 29, 3) := by decide +kernel
theorem dX9_changeTrust_5 : decode cX9_changeTrust 5 = .ok (.ifCond .ne 4, 3) := by decide +kernel
theorem dX9_changeTrust_8 : decode cX9_changeTrust 8 = .ok (.return_, 1) := by decide +kernel
theorem dX9_changeTrust_9 : decode cX9_changeTrust 9 = .ok (.aload_n 0, 1) := by decide +kernel
theorem dX9_changeTrust_10 : decode cX9_changeTrust 10 = .ok (.getfield 18, 3) := by decide +kernel
theorem dX9_changeTrust_13 : decode cX9_changeTrust 13 = .ok (.iload_n 1, 1) := by decide +kernel
theorem dX9_changeTrust_14 : decode cX9_changeTrust 14 = .ok (.iaload, 1) := by decide +kernel
theorem dX9_changeTrust_15 : decode cX9_changeTrust 15 = .ok (.iload_n 2, 1) := by decide +kernel
theorem dX9_changeTrust_16 : decode cX9_changeTrust 16 = .ok (.iadd, 1) := by decide +kernel
theorem dX9_changeTrust_17 : decode cX9_changeTrust 17 = .ok (.istore_n 3, 1) := by decide +kernel
theorem dX9_changeTrust_18 : decode cX9_changeTrust 18 = .ok (.aload_n 0, 1) := by decide +kernel
theorem dX9_changeTrust_19 : decode cX9_changeTrust 19 = .ok (.getfield 18, 3) := by decide +kernel
theorem dX9_changeTrust_22 : decode cX9_changeTrust 22 = .ok (.iload_n 1, 1) := by decide +kernel
theorem dX9_changeTrust_23 : decode cX9_changeTrust 23 = .ok (.iload_n 3, 1) := by decide +kernel
theorem dX9_changeTrust_24 : decode cX9_changeTrust 24 = .ok (.ifCond .ge 7, 3) := by decide +kernel
theorem dX9_changeTrust_27 : decode cX9_changeTrust 27 = .ok (.iconst 0, 1) := by decide +kernel
theorem dX9_changeTrust_28 : decode cX9_changeTrust 28 = .ok (.goto 15, 3) := by decide +kernel
theorem dX9_changeTrust_31 : decode cX9_changeTrust 31 = .ok (.iload_n 3, 1) := by decide +kernel
theorem dX9_changeTrust_32 : decode cX9_changeTrust 32 = .ok (.bipush 100, 2) := by decide +kernel
theorem dX9_changeTrust_34 : decode cX9_changeTrust 34 = .ok (.if_icmp .le 8, 3) := by decide +kernel
theorem dX9_changeTrust_37 : decode cX9_changeTrust 37 = .ok (.bipush 100, 2) := by decide +kernel
theorem dX9_changeTrust_39 : decode cX9_changeTrust 39 = .ok (.goto 4, 3) := by decide +kernel
theorem dX9_changeTrust_42 : decode cX9_changeTrust 42 = .ok (.iload_n 3, 1) := by decide +kernel
theorem dX9_changeTrust_43 : decode cX9_changeTrust 43 = .ok (.iastore, 1) := by decide +kernel
theorem dX9_changeTrust_44 : decode cX9_changeTrust 44 = .ok (.return_, 1) := by decide +kernel
theorem dX9_wish_0 : decode cX9_wish 0 = .ok (.aload_n 0, 1) := by decide +kernel
theorem dX9_wish_1 : decode cX9_wish 1 = .ok (.iload_n 1, 1) := by decide +kernel
theorem dX9_wish_2 : decode cX9_wish 2 = .ok (.invokevirtual 29, 3) := by decide +kernel
theorem dX9_wish_5 : decode cX9_wish 5 = .ok (.ifCond .eq 13, 3) := by decide +kernel
theorem dX9_wish_8 : decode cX9_wish 8 = .ok (.aload_n 0, 1) := by decide +kernel
theorem dX9_wish_9 : decode cX9_wish 9 = .ok (.getfield 15, 3) := by decide +kernel
theorem dX9_wish_12 : decode cX9_wish 12 = .ok (.iload_n 1, 1) := by decide +kernel
theorem dX9_wish_13 : decode cX9_wish 13 = .ok (.iaload, 1) := by decide +kernel
theorem dX9_wish_14 : decode cX9_wish 14 = .ok (.iload_n 2, 1) := by decide +kernel
theorem dX9_wish_15 : decode cX9_wish 15 = .ok (.if_icmp .gt 5, 3) := by decide +kernel
theorem dX9_wish_18 : decode cX9_wish 18 = .ok (.iconst 0, 1) := by decide +kernel
theorem dX9_wish_19 : decode cX9_wish 19 = .ok (.ireturn, 1) := by decide +kernel
theorem dX9_wish_20 : decode cX9_wish 20 = .ok (.aload_n 0, 1) := by decide +kernel
theorem dX9_wish_21 : decode cX9_wish 21 = .ok (.getfield 15, 3) := by decide +kernel
theorem dX9_wish_24 : decode cX9_wish 24 = .ok (.iload_n 1, 1) := by decide +kernel
theorem dX9_wish_25 : decode cX9_wish 25 = .ok (.iaload, 1) := by decide +kernel
theorem dX9_wish_26 : decode cX9_wish 26 = .ok (.iload_n 2, 1) := by decide +kernel
theorem dX9_wish_27 : decode cX9_wish 27 = .ok (.isub, 1) := by decide +kernel
theorem dX9_wish_28 : decode cX9_wish 28 = .ok (.aload_n 0, 1) := by decide +kernel
theorem dX9_wish_29 : decode cX9_wish 29 = .ok (.getfield 18, 3) := by decide +kernel
theorem dX9_wish_32 : decode cX9_wish 32 = .ok (.iload_n 1, 1) := by decide +kernel
theorem dX9_wish_33 : decode cX9_wish 33 = .ok (.iaload, 1) := by decide +kernel
theorem dX9_wish_34 : decode cX9_wish 34 = .ok (.imul, 1) := by decide +kernel
theorem dX9_wish_35 : decode cX9_wish 35 = .ok (.bipush 100, 2) := by decide +kernel
theorem dX9_wish_37 : decode cX9_wish 37 = .ok (.idiv, 1) := by decide +kernel
theorem dX9_wish_38 : decode cX9_wish 38 = .ok (.ireturn, 1) := by decide +kernel
theorem dX9_takeFrom_0 : decode cX9_takeFrom 0 = .ok (.aload_n 1, 1) := by decide +kernel
theorem dX9_takeFrom_1 : decode cX9_takeFrom 1 = .ok (.getfield 9, 3) := by decide +kernel
theorem dX9_takeFrom_4 : decode cX9_takeFrom 4 = .ok (.iconst 0, 1) := by decide +kernel
theorem dX9_takeFrom_5 : decode cX9_takeFrom 5 = .ok (.aload_n 0, 1) := by decide +kernel
theorem dX9_takeFrom_6 : decode cX9_takeFrom 6 = .ok (.getfield 9, 3) := by decide +kernel
theorem dX9_takeFrom_9 : decode cX9_takeFrom 9 = .ok (.iconst 0, 1) := by decide +kernel
theorem dX9_takeFrom_10 : decode cX9_takeFrom 10 = .ok (.bipush 6, 2) := by decide +kernel
theorem dX9_takeFrom_12 : decode cX9_takeFrom 12 = .ok (.invokestatic 33, 3) := by decide +kernel
theorem dX9_takeFrom_15 : decode cX9_takeFrom 15 = .ok (.aload_n 1, 1) := by decide +kernel
theorem dX9_takeFrom_16 : decode cX9_takeFrom 16 = .ok (.getfield 15, 3) := by decide +kernel
theorem dX9_takeFrom_19 : decode cX9_takeFrom 19 = .ok (.iconst 0, 1) := by decide +kernel
theorem dX9_takeFrom_20 : decode cX9_takeFrom 20 = .ok (.aload_n 0, 1) := by decide +kernel
theorem dX9_takeFrom_21 : decode cX9_takeFrom 21 = .ok (.getfield 15, 3) := by decide +kernel
theorem dX9_takeFrom_24 : decode cX9_takeFrom 24 = .ok (.iconst 0, 1) := by decide +kernel
theorem dX9_takeFrom_25 : decode cX9_takeFrom 25 = .ok (.bipush 6, 2) := by decide +kernel
theorem dX9_takeFrom_27 : decode cX9_takeFrom 27 = .ok (.invokestatic 33, 3) := by decide +kernel
theorem dX9_takeFrom_30 : decode cX9_takeFrom 30 = .ok (.aload_n 1, 1) := by decide +kernel
theorem dX9_takeFrom_31 : decode cX9_takeFrom 31 = .ok (.getfield 18, 3) := by decide +kernel
theorem dX9_takeFrom_34 : decode cX9_takeFrom 34 = .ok (.iconst 0, 1) := by decide +kernel
theorem dX9_takeFrom_35 : decode cX9_takeFrom 35 = .ok (.aload_n 0, 1) := by decide +kernel
theorem dX9_takeFrom_36 : decode cX9_takeFrom 36 = .ok (.getfield 18, 3) := by decide +kernel
theorem dX9_takeFrom_39 : decode cX9_takeFrom 39 = .ok (.iconst 0, 1) := by decide +kernel
theorem dX9_takeFrom_40 : decode cX9_takeFrom 40 = .ok (.bipush 6, 2) := by decide +kernel
theorem dX9_takeFrom_42 : decode cX9_takeFrom 42 = .ok (.invokestatic 33, 3) := by decide +kernel
theorem dX9_takeFrom_45 : decode cX9_takeFrom 45 = .ok (.aload_n 0, 1) := by decide +kernel
theorem dX9_takeFrom_46 : decode cX9_takeFrom 46 = .ok (.aload_n 1, 1) := by decide +kernel
theorem dX9_takeFrom_47 : decode cX9_takeFrom 47 = .ok (.getfield 21, 3) := by decide +kernel
theorem dX9_takeFrom_50 : decode cX9_takeFrom 50 = .ok (.putfield 21, 3) := by decide +kernel
theorem dX9_takeFrom_53 : decode cX9_takeFrom 53 = .ok (.return_, 1) := by decide +kernel
theorem dX10_init_0 : decode cX10_init 0 = .ok (.aload_n 0, 1) := by decide +kernel
theorem dX10_init_1 : decode cX10_init 1 = .ok (.invokespecial 1, 3) := by decide +kernel
theorem dX10_init_4 : decode cX10_init 4 = .ok (.aload_n 0, 1) := by decide +kernel
theorem dX10_init_5 : decode cX10_init 5 = .ok (.new 7, 3) := by decide +kernel
theorem dX10_init_8 : decode cX10_init 8 = .ok (.dup, 1) := by decide +kernel
theorem dX10_init_9 : decode cX10_init 9 = .ok (.invokespecial 9, 3) := by decide +kernel
theorem dX10_init_12 : decode cX10_init 12 = .ok (.putfield 10, 3) := by decide +kernel
theorem dX10_init_15 : decode cX10_init 15 = .ok (.aload_n 0, 1) := by decide +kernel
theorem dX10_init_16 : decode cX10_init 16 = .ok (.new 7, 3) := by decide +kernel
theorem dX10_init_19 : decode cX10_init 19 = .ok (.dup, 1) := by decide +kernel
theorem dX10_init_20 : decode cX10_init 20 = .ok (.invokespecial 9, 3) := by decide +kernel
theorem dX10_init_23 : decode cX10_init 23 = .ok (.putfield 16, 3) := by decide +kernel
theorem dX10_init_26 : decode cX10_init 26 = .ok (.aload_n 0, 1) := by decide +kernel
theorem dX10_init_27 : decode cX10_init 27 = .ok (.new 19, 3) := by decide +kernel
theorem dX10_init_30 : decode cX10_init 30 = .ok (.dup, 1) := by decide +kernel
theorem dX10_init_31 : decode cX10_init 31 = .ok (.invokespecial 21, 3) := by decide +kernel
theorem dX10_init_34 : decode cX10_init 34 = .ok (.putfield 22, 3) := by decide +kernel
theorem dX10_init_37 : decode cX10_init 37 = .ok (.aload_n 0, 1) := by decide +kernel
theorem dX10_init_38 : decode cX10_init 38 = .ok (.new 19, 3) := by decide +kernel
theorem dX10_init_41 : decode cX10_init 41 = .ok (.dup, 1) := by decide +kernel
theorem dX10_init_42 : decode cX10_init 42 = .ok (.invokespecial 21, 3) := by decide +kernel
theorem dX10_init_45 : decode cX10_init 45 = .ok (.putfield 26, 3) := by decide +kernel
theorem dX10_init_48 : decode cX10_init 48 = .ok (.aload_n 0, 1) := by decide +kernel
theorem dX10_init_49 : decode cX10_init 49 = .ok (.new 29, 3) := by decide +kernel
theorem dX10_init_52 : decode cX10_init 52 = .ok (.dup, 1) := by decide +kernel
theorem dX10_init_53 : decode cX10_init 53 = .ok (.invokespecial 31, 3) := by decide +kernel
theorem dX10_init_56 : decode cX10_init 56 = .ok (.putfield 32, 3) := by decide +kernel
theorem dX10_init_59 : decode cX10_init 59 = .ok (.aload_n 0, 1) := by decide +kernel
theorem dX10_init_60 : decode cX10_init 60 = .ok (.iconst 2, 1) := by decide +kernel
theorem dX10_init_61 : decode cX10_init 61 = .ok (.anewarray 19, 3) := by decide +kernel
theorem dX10_init_64 : decode cX10_init 64 = .ok (.dup, 1) := by decide +kernel
theorem dX10_init_65 : decode cX10_init 65 = .ok (.iconst 0, 1) := by decide +kernel
theorem dX10_init_66 : decode cX10_init 66 = .ok (.new 19, 3) := by decide +kernel
theorem dX10_init_69 : decode cX10_init 69 = .ok (.dup, 1) := by decide +kernel
theorem dX10_init_70 : decode cX10_init 70 = .ok (.invokespecial 21, 3) := by decide +kernel
theorem dX10_init_73 : decode cX10_init 73 = .ok (.aastore, 1) := by decide +kernel
theorem dX10_init_74 : decode cX10_init 74 = .ok (.dup, 1) := by decide +kernel
theorem dX10_init_75 : decode cX10_init 75 = .ok (.iconst 1, 1) := by decide +kernel
theorem dX10_init_76 : decode cX10_init 76 = .ok (.new 19, 3) := by decide +kernel
theorem dX10_init_79 : decode cX10_init 79 = .ok (.dup, 1) := by decide +kernel
theorem dX10_init_80 : decode cX10_init 80 = .ok (.invokespecial 21, 3) := by decide +kernel
theorem dX10_init_83 : decode cX10_init 83 = .ok (.aastore, 1) := by decide +kernel
theorem dX10_init_84 : decode cX10_init 84 = .ok (.putfield 36, 3) := by decide +kernel
theorem dX10_init_87 : decode cX10_init 87 = .ok (.aload_n 0, 1) := by decide +kernel
theorem dX10_init_88 : decode cX10_init 88 = .ok (.iconst 2, 1) := by decide +kernel
theorem dX10_init_89 : decode cX10_init 89 = .ok (.newarray .boolean, 2) := by decide +kernel
theorem dX10_init_91 : decode cX10_init 91 = .ok (.putfield 40, 3) := by decide +kernel
theorem dX10_init_94 : decode cX10_init 94 = .ok (.aload_n 0, 1) := by decide +kernel
theorem dX10_init_95 : decode cX10_init 95 = .ok (.iconst 0, 1) := by decide +kernel
theorem dX10_init_96 : decode cX10_init 96 = .ok (.putfield 44, 3) := by decide +kernel
theorem dX10_init_99 : decode cX10_init 99 = .ok (.aload_n 0, 1) := by decide +kernel
theorem dX10_init_100 : decode cX10_init 100 = .ok (.iconst (-1), 1) := by decide +kernel
theorem dX10_init_101 : decode cX10_init 101 = .ok (.putfield 48, 3) := by decide +kernel
theorem dX10_init_104 : decode cX10_init 104 = .ok (.new 7, 3) := by decide +kernel
theorem dX10_init_107 : decode cX10_init 107 = .ok (.dup, 1) := by decide +kernel
theorem dX10_init_108 : decode cX10_init 108 = .ok (.invokespecial 9, 3) := by decide +kernel
theorem dX10_init_111 : decode cX10_init 111 = .ok (.astore_n 1, 1) := by decide +kernel
theorem dX10_init_112 : decode cX10_init 112 = .ok (.aload_n 1, 1) := by decide +kernel
theorem dX10_init_113 : decode cX10_init 113 = .ok (.ldc 51, 2) := by decide +kernel
theorem dX10_init_115 : decode cX10_init 115 = .ok (.invokevirtual 53, 3) := by decide +kernel
theorem dX10_init_118 : decode cX10_init 118 = .ok (.new 19, 3) := by decide +kernel
theorem dX10_init_121 : decode cX10_init 121 = .ok (.dup, 1) := by decide +kernel
theorem dX10_init_122 : decode cX10_init 122 = .ok (.invokespecial 21, 3) := by decide +kernel
theorem dX10_init_125 : decode cX10_init 125 = .ok (.astore_n 2, 1) := by decide +kernel
theorem dX10_init_126 : decode cX10_init 126 = .ok (.new 57, 3) := by decide +kernel
theorem dX10_init_129 : decode cX10_init 129 = .ok (.dup, 1) := by decide +kernel
theorem dX10_init_130 : decode cX10_init 130 = .ok (.aload_n 1, 1) := by decide +kernel
theorem dX10_init_131 : decode cX10_init 131 = .ok (.aload_n 2, 1) := by decide +kernel
theorem dX10_init_132 : decode cX10_init 132 = .ok (.invokespecial 59, 3) := by decide +kernel
theorem dX10_init_135 : decode cX10_init 135 = .ok (.invokevirtual 62, 3) := by decide +kernel
theorem dX10_init_138 : decode cX10_init 138 = .ok (.pop, 1) := by decide +kernel
theorem dX10_init_139 : decode cX10_init 139 = .ok (.aload_n 0, 1) := by decide +kernel
theorem dX10_init_140 : decode cX10_init 140 = .ok (.getfield 22, 3) := by decide +kernel
theorem dX10_init_143 : decode cX10_init 143 = .ok (.aload_n 2, 1) := by decide +kernel
theorem dX10_init_144 : decode cX10_init 144 = .ok (.invokevirtual 66, 3) := by decide +kernel
theorem dX10_init_147 : decode cX10_init 147 = .ok (.return_, 1) := by decide +kernel
theorem dX10_appendInput_0 : decode cX10_appendInput 0 = .ok (.aload_n 0, 1) := by decide +kernel
theorem dX10_appendInput_1 : decode cX10_appendInput 1 = .ok (.getfield 10, 3) := by decide +kernel
theorem dX10_appendInput_4 : decode cX10_appendInput 4 = .ok (.bipush 20, 2) := by decide +kernel
theorem dX10_appendInput_6 : decode cX10_appendInput 6 = .ok (.invokevirtual 70, 3) := by decide +kernel
theorem dX10_appendInput_9 : decode cX10_appendInput 9 = .ok (.ifCond .ne 11, 3) := by decide +kernel
theorem dX10_appendInput_12 : decode cX10_appendInput 12 = .ok (.new 74, 3) := by decide +kernel
theorem dX10_appendInput_15 : decode cX10_appendInput 15 = .ok (.dup, 1) := by decide +kernel
theorem dX10_appendInput_16 : decode cX10_appendInput 16 = .ok (.invokespecial 76, 3) := by decide +kernel
theorem dX10_appendInput_19 : decode cX10_appendInput 19 = .ok (.athrow, 1) := by decide +kernel
theorem dX10_appendInput_20 : decode cX10_appendInput 20 = .ok (.aload_n 0, 1) := by decide +kernel
theorem dX10_appendInput_21 : decode cX10_appendInput 21 = .ok (.getfield 10, 3) := by decide +kernel
theorem dX10_appendInput_24 : decode cX10_appendInput 24 = .ok (.iload_n 1, 1) := by decide +kernel
theorem dX10_appendInput_25 : decode cX10_appendInput 25 = .ok (.invokevirtual 77, 3) := by decide +kernel
theorem dX10_appendInput_28 : decode cX10_appendInput 28 = .ok (.aload_n 0, 1) := by decide +kernel
theorem dX10_appendInput_29 : decode cX10_appendInput 29 = .ok (.getfield 10, 3) := by decide +kernel
theorem dX10_appendInput_32 : decode cX10_appendInput 32 = .ok (.iload_n 2, 1) := by decide +kernel
theorem dX10_appendInput_33 : decode cX10_appendInput 33 = .ok (.invokevirtual 77, 3) := by decide +kernel
theorem dX10_appendInput_36 : decode cX10_appendInput 36 = .ok (.aload_n 0, 1) := by decide +kernel
theorem dX10_appendInput_37 : decode cX10_appendInput 37 = .ok (.getfield 10, 3) := by decide +kernel
theorem dX10_appendInput_40 : decode cX10_appendInput 40 = .ok (.iload_n 3, 1) := by decide +kernel
theorem dX10_appendInput_41 : decode cX10_appendInput 41 = .ok (.invokevirtual 77, 3) := by decide +kernel
theorem dX10_appendInput_44 : decode cX10_appendInput 44 = .ok (.aload_n 0, 1) := by decide +kernel
theorem dX10_appendInput_45 : decode cX10_appendInput 45 = .ok (.getfield 10, 3) := by decide +kernel
theorem dX10_appendInput_48 : decode cX10_appendInput 48 = .ok (.iload 4, 2) := by decide +kernel
theorem dX10_appendInput_50 : decode cX10_appendInput 50 = .ok (.invokevirtual 77, 3) := by decide +kernel
theorem dX10_appendInput_53 : decode cX10_appendInput 53 = .ok (.aload_n 0, 1) := by decide +kernel
theorem dX10_appendInput_54 : decode cX10_appendInput 54 = .ok (.getfield 10, 3) := by decide +kernel
theorem dX10_appendInput_57 : decode cX10_appendInput 57 = .ok (.iload 5, 2) := by decide +kernel
theorem dX10_appendInput_59 : decode cX10_appendInput 59 = .ok (.invokevirtual 77, 3) := by decide +kernel
theorem dX10_appendInput_62 : decode cX10_appendInput 62 = .ok (.aload_n 0, 1) := by decide +kernel
theorem dX10_appendInput_63 : decode cX10_appendInput 63 = .ok (.getfield 10, 3) := by decide +kernel
theorem dX10_appendInput_66 : decode cX10_appendInput 66 = .ok (.getfield 81, 3) := by decide +kernel
theorem dX10_appendInput_69 : decode cX10_appendInput 69 = .ok (.ireturn, 1) := by decide +kernel
theorem dX10_truncateInput_0 : decode cX10_truncateInput 0 = .ok (.aload_n 0, 1) := by decide +kernel
theorem dX10_truncateInput_1 : decode cX10_truncateInput 1 = .ok (.iload_n 1, 1) := by decide +kernel
theorem dX10_truncateInput_2 : decode cX10_truncateInput 2 = .ok (.iconst 0, 1) := by decide +kernel
theorem dX10_truncateInput_3 : decode cX10_truncateInput 3 = .ok (.aload_n 0, 1) := by decide +kernel
theorem dX10_truncateInput_4 : decode cX10_truncateInput 4 = .ok (.getfield 10, 3) := by decide +kernel
theorem dX10_truncateInput_7 : decode cX10_truncateInput 7 = .ok (.getfield 81, 3) := by decide +kernel
theorem dX10_truncateInput_10 : decode cX10_truncateInput 10 = .ok (.invokevirtual 84, 3) := by decide +kernel
theorem dX10_truncateInput_13 : decode cX10_truncateInput 13 = .ok (.aload_n 0, 1) := by decide +kernel
theorem dX10_truncateInput_14 : decode cX10_truncateInput 14 = .ok (.getfield 10, 3) := by decide +kernel
theorem dX10_truncateInput_17 : decode cX10_truncateInput 17 = .ok (.iload_n 1, 1) := by decide +kernel
theorem dX10_truncateInput_18 : decode cX10_truncateInput 18 = .ok (.putfield 81, 3) := by decide +kernel
theorem dX10_truncateInput_21 : decode cX10_truncateInput 21 = .ok (.iload_n 1, 1) := by decide +kernel
theorem dX10_truncateInput_22 : decode cX10_truncateInput 22 = .ok (.ireturn, 1) := by decide +kernel
theorem dX10_load_0 : decode cX10_load 0 = .ok (.aload_n 0, 1) := by decide +kernel
theorem dX10_load_1 : decode cX10_load 1 = .ok (.getfield 26, 3) := by decide +kernel
theorem dX10_load_4 : decode cX10_load 4 = .ok (.invokevirtual 88, 3) := by decide +kernel
theorem dX10_load_7 : decode cX10_load 7 = .ok (.new 57, 3) := by decide +kernel
theorem dX10_load_10 : decode cX10_load 10 = .ok (.dup, 1) := by decide +kernel
theorem dX10_load_11 : decode cX10_load 11 = .ok (.aload_n 0, 1) := by decide +kernel
theorem dX10_load_12 : decode cX10_load 12 = .ok (.getfield 10, 3) := by decide +kernel
theorem dX10_load_15 : decode cX10_load 15 = .ok (.aload_n 0, 1) := by decide +kernel
theorem dX10_load_16 : decode cX10_load 16 = .ok (.getfield 26, 3) := by decide +kernel
theorem dX10_load_19 : decode cX10_load 19 = .ok (.invokespecial 59, 3) := by decide +kernel
theorem dX10_load_22 : decode cX10_load 22 = .ok (.astore_n 1, 1) := by decide +kernel
theorem dX10_load_23 : decode cX10_load 23 = .ok (.aload_n 1, 1) := by decide +kernel
theorem dX10_load_24 : decode cX10_load 24 = .ok (.invokevirtual 62, 3) := by decide +kernel
theorem dX10_load_27 : decode cX10_load 27 = .ok (.istore_n 2, 1) := by decide +kernel
theorem dX10_load_28 : decode cX10_load 28 = .ok (.aload_n 0, 1) := by decide +kernel
theorem dX10_load_29 : decode cX10_load 29 = .ok (.getfield 10, 3) := by decide +kernel
theorem dX10_load_32 : decode cX10_load 32 = .ok (.iconst 0, 1) := by decide +kernel
theorem dX10_load_33 : decode cX10_load 33 = .ok (.putfield 81, 3) := by decide +kernel
theorem dX10_load_36 : decode cX10_load 36 = .ok (.aload_n 0, 1) := by decide +kernel
theorem dX10_load_37 : decode cX10_load 37 = .ok (.aload_n 1, 1) := by decide +kernel
theorem dX10_load_38 : decode cX10_load 38 = .ok (.getfield 91, 3) := by decide +kernel
theorem dX10_load_41 : decode cX10_load 41 = .ok (.putfield 44, 3) := by decide +kernel
theorem dX10_load_44 : decode cX10_load 44 = .ok (.aload_n 0, 1) := by decide +kernel
theorem dX10_load_45 : decode cX10_load 45 = .ok (.aload_n 1, 1) := by decide +kernel
theorem dX10_load_46 : decode cX10_load 46 = .ok (.getfield 92, 3) := by decide +kernel
theorem dX10_load_49 : decode cX10_load 49 = .ok (.putfield 48, 3) := by decide +kernel
theorem dX10_load_52 : decode cX10_load 52 = .ok (.iload_n 2, 1) := by decide +kernel
theorem dX10_load_53 : decode cX10_load 53 = .ok (.ifCond .ne 11, 3) := by decide +kernel
theorem dX10_load_56 : decode cX10_load 56 = .ok (.new 93, 3) := by decide +kernel
theorem dX10_load_59 : decode cX10_load 59 = .ok (.dup, 1) := by decide +kernel
theorem dX10_load_60 : decode cX10_load 60 = .ok (.invokespecial 95, 3) := by decide +kernel
theorem dX10_load_63 : decode cX10_load 63 = .ok (.athrow, 1) := by decide +kernel
theorem dX10_load_64 : decode cX10_load 64 = .ok (.aload_n 0, 1) := by decide +kernel
theorem dX10_load_65 : decode cX10_load 65 = .ok (.getfield 32, 3) := by decide +kernel
theorem dX10_load_68 : decode cX10_load 68 = .ok (.aload_n 0, 1) := by decide +kernel
theorem dX10_load_69 : decode cX10_load 69 = .ok (.getfield 22, 3) := by decide +kernel
theorem dX10_load_72 : decode cX10_load 72 = .ok (.invokevirtual 96, 3) := by decide +kernel
theorem dX10_load_75 : decode cX10_load 75 = .ok (.aload_n 0, 1) := by decide +kernel
theorem dX10_load_76 : decode cX10_load 76 = .ok (.getfield 22, 3) := by decide +kernel
theorem dX10_load_79 : decode cX10_load 79 = .ok (.aload_n 0, 1) := by decide +kernel
theorem dX10_load_80 : decode cX10_load 80 = .ok (.getfield 26, 3) := by decide +kernel
theorem dX10_load_83 : decode cX10_load 83 = .ok (.invokevirtual 66, 3) := by decide +kernel
theorem dX10_load_86 : decode cX10_load 86 = .ok (.aload_n 0, 1) := by decide +kernel
theorem dX10_load_87 : decode cX10_load 87 = .ok (.getfield 22, 3) := by decide +kernel
theorem dX10_load_90 : decode cX10_load 90 = .ok (.getfield 99, 3) := by decide +kernel
theorem dX10_load_93 : decode cX10_load 93 = .ok (.getfield 103, 3) := by decide +kernel
theorem dX10_load_96 : decode cX10_load 96 = .ok (.ireturn, 1) := by decide +kernel
theorem dX10_errorCode_0 : decode cX10_errorCode 0 = .ok (.aload_n 0, 1) := by decide +kernel
theorem dX10_errorCode_1 : decode cX10_errorCode 1 = .ok (.getfield 44, 3) := by decide +kernel
theorem dX10_errorCode_4 : decode cX10_errorCode 4 = .ok (.ireturn, 1) := by decide +kernel
theorem dX10_day_0 : decode cX10_day 0 = .ok (.aload_n 0, 1) := by decide +kernel
theorem dX10_day_1 : decode cX10_day 1 = .ok (.getfield 22, 3) := by decide +kernel
theorem dX10_day_4 : decode cX10_day 4 = .ok (.getfield 108, 3) := by decide +kernel
theorem dX10_day_7 : decode cX10_day 7 = .ok (.ireturn, 1) := by decide +kernel
theorem dX10_seed_0 : decode cX10_seed 0 = .ok (.aload_n 0, 1) := by decide +kernel
theorem dX10_seed_1 : decode cX10_seed 1 = .ok (.getfield 22, 3) := by decide +kernel
theorem dX10_seed_4 : decode cX10_seed 4 = .ok (.getfield 111, 3) := by decide +kernel
theorem dX10_seed_7 : decode cX10_seed 7 = .ok (.getfield 115, 3) := by decide +kernel
theorem dX10_seed_10 : decode cX10_seed 10 = .ok (.ireturn, 1) := by decide +kernel
theorem dX10_coins_0 : decode cX10_coins 0 = .ok (.aload_n 0, 1) := by decide +kernel
theorem dX10_coins_1 : decode cX10_coins 1 = .ok (.getfield 22, 3) := by decide +kernel
theorem dX10_coins_4 : decode cX10_coins 4 = .ok (.getfield 120, 3) := by decide +kernel
theorem dX10_coins_7 : decode cX10_coins 7 = .ok (.ireturn, 1) := by decide +kernel
theorem dX10_fairCount_0 : decode cX10_fairCount 0 = .ok (.aload_n 0, 1) := by decide +kernel
theorem dX10_fairCount_1 : decode cX10_fairCount 1 = .ok (.getfield 22, 3) := by decide +kernel
theorem dX10_fairCount_4 : decode cX10_fairCount 4 = .ok (.getfield 123, 3) := by decide +kernel
theorem dX10_fairCount_7 : decode cX10_fairCount 7 = .ok (.getfield 127, 3) := by decide +kernel
theorem dX10_fairCount_10 : decode cX10_fairCount 10 = .ok (.ireturn, 1) := by decide +kernel
theorem dX10_peopleOf_0 : decode cX10_peopleOf 0 = .ok (.aload_n 0, 1) := by decide +kernel
theorem dX10_peopleOf_1 : decode cX10_peopleOf 1 = .ok (.iload_n 1, 1) := by decide +kernel
theorem dX10_peopleOf_2 : decode cX10_peopleOf 2 = .ok (.invokevirtual 139, 3) := by decide +kernel
theorem dX10_peopleOf_5 : decode cX10_peopleOf 5 = .ok (.aload_n 0, 1) := by decide +kernel
theorem dX10_peopleOf_6 : decode cX10_peopleOf 6 = .ok (.getfield 22, 3) := by decide +kernel
theorem dX10_peopleOf_9 : decode cX10_peopleOf 9 = .ok (.getfield 99, 3) := by decide +kernel
theorem dX10_peopleOf_12 : decode cX10_peopleOf 12 = .ok (.getfield 142, 3) := by decide +kernel
theorem dX10_peopleOf_15 : decode cX10_peopleOf 15 = .ok (.iload_n 1, 1) := by decide +kernel
theorem dX10_peopleOf_16 : decode cX10_peopleOf 16 = .ok (.iaload, 1) := by decide +kernel
theorem dX10_peopleOf_17 : decode cX10_peopleOf 17 = .ok (.ireturn, 1) := by decide +kernel
theorem dX10_trustOf_0 : decode cX10_trustOf 0 = .ok (.aload_n 0, 1) := by decide +kernel
theorem dX10_trustOf_1 : decode cX10_trustOf 1 = .ok (.iload_n 1, 1) := by decide +kernel
theorem dX10_trustOf_2 : decode cX10_trustOf 2 = .ok (.invokevirtual 139, 3) := by decide +kernel
theorem dX10_trustOf_5 : decode cX10_trustOf 5 = .ok (.aload_n 0, 1) := by decide +kernel
theorem dX10_trustOf_6 : decode cX10_trustOf 6 = .ok (.getfield 22, 3) := by decide +kernel
theorem dX10_trustOf_9 : decode cX10_trustOf 9 = .ok (.getfield 99, 3) := by decide +kernel
theorem dX10_trustOf_12 : decode cX10_trustOf 12 = .ok (.getfield 146, 3) := by decide +kernel
theorem dX10_trustOf_15 : decode cX10_trustOf 15 = .ok (.iload_n 1, 1) := by decide +kernel
theorem dX10_trustOf_16 : decode cX10_trustOf 16 = .ok (.iaload, 1) := by decide +kernel
theorem dX10_trustOf_17 : decode cX10_trustOf 17 = .ok (.ireturn, 1) := by decide +kernel
theorem dX10_oddsOf_0 : decode cX10_oddsOf 0 = .ok (.aload_n 0, 1) := by decide +kernel
theorem dX10_oddsOf_1 : decode cX10_oddsOf 1 = .ok (.iload_n 1, 1) := by decide +kernel
theorem dX10_oddsOf_2 : decode cX10_oddsOf 2 = .ok (.iconst 0, 1) := by decide +kernel
theorem dX10_oddsOf_3 : decode cX10_oddsOf 3 = .ok (.iconst 2, 1) := by decide +kernel
theorem dX10_oddsOf_4 : decode cX10_oddsOf 4 = .ok (.invokevirtual 84, 3) := by decide +kernel
theorem dX10_oddsOf_7 : decode cX10_oddsOf 7 = .ok (.aload_n 0, 1) := by decide +kernel
theorem dX10_oddsOf_8 : decode cX10_oddsOf 8 = .ok (.getfield 22, 3) := by decide +kernel
theorem dX10_oddsOf_11 : decode cX10_oddsOf 11 = .ok (.getfield 111, 3) := by decide +kernel
theorem dX10_oddsOf_14 : decode cX10_oddsOf 14 = .ok (.getfield 175, 3) := by decide +kernel
theorem dX10_oddsOf_17 : decode cX10_oddsOf 17 = .ok (.iload_n 1, 1) := by decide +kernel
theorem dX10_oddsOf_18 : decode cX10_oddsOf 18 = .ok (.iaload, 1) := by decide +kernel
theorem dX10_oddsOf_19 : decode cX10_oddsOf 19 = .ok (.ireturn, 1) := by decide +kernel
theorem dX10_drawnThisYear_0 : decode cX10_drawnThisYear 0 = .ok (.aload_n 0, 1) := by decide +kernel
theorem dX10_drawnThisYear_1 : decode cX10_drawnThisYear 1 = .ok (.iload_n 1, 1) := by decide +kernel
theorem dX10_drawnThisYear_2 : decode cX10_drawnThisYear 2 = .ok (.iconst 0, 1) := by decide +kernel
theorem dX10_drawnThisYear_3 : decode cX10_drawnThisYear 3 = .ok (.iconst 2, 1) := by decide +kernel
theorem dX10_drawnThisYear_4 : decode cX10_drawnThisYear 4 = .ok (.invokevirtual 84, 3) := by decide +kernel
theorem dX10_drawnThisYear_7 : decode cX10_drawnThisYear 7 = .ok (.aload_n 0, 1) := by decide +kernel
theorem dX10_drawnThisYear_8 : decode cX10_drawnThisYear 8 = .ok (.getfield 22, 3) := by decide +kernel
theorem dX10_drawnThisYear_11 : decode cX10_drawnThisYear 11 = .ok (.getfield 111, 3) := by decide +kernel
theorem dX10_drawnThisYear_14 : decode cX10_drawnThisYear 14 = .ok (.getfield 182, 3) := by decide +kernel
theorem dX10_drawnThisYear_17 : decode cX10_drawnThisYear 17 = .ok (.iload_n 1, 1) := by decide +kernel
theorem dX10_drawnThisYear_18 : decode cX10_drawnThisYear 18 = .ok (.iaload, 1) := by decide +kernel
theorem dX10_drawnThisYear_19 : decode cX10_drawnThisYear 19 = .ok (.ireturn, 1) := by decide +kernel
theorem dX10_forecastCount_0 : decode cX10_forecastCount 0 = .ok (.aload_n 0, 1) := by decide +kernel
theorem dX10_forecastCount_1 : decode cX10_forecastCount 1 = .ok (.getfield 22, 3) := by decide +kernel
theorem dX10_forecastCount_4 : decode cX10_forecastCount 4 = .ok (.getfield 149, 3) := by decide +kernel
theorem dX10_forecastCount_7 : decode cX10_forecastCount 7 = .ok (.getfield 185, 3) := by decide +kernel
theorem dX10_forecastCount_10 : decode cX10_forecastCount 10 = .ok (.ireturn, 1) := by decide +kernel
theorem dX10_weatherOf_0 : decode cX10_weatherOf 0 = .ok (.aload_n 0, 1) := by decide +kernel
theorem dX10_weatherOf_1 : decode cX10_weatherOf 1 = .ok (.getfield 22, 3) := by decide +kernel
theorem dX10_weatherOf_4 : decode cX10_weatherOf 4 = .ok (.getfield 149, 3) := by decide +kernel
theorem dX10_weatherOf_7 : decode cX10_weatherOf 7 = .ok (.getfield 189, 3) := by decide +kernel
theorem dX10_weatherOf_10 : decode cX10_weatherOf 10 = .ok (.aload_n 0, 1) := by decide +kernel
theorem dX10_weatherOf_11 : decode cX10_weatherOf 11 = .ok (.iload_n 1, 1) := by decide +kernel
theorem dX10_weatherOf_12 : decode cX10_weatherOf 12 = .ok (.iload_n 2, 1) := by decide +kernel
theorem dX10_weatherOf_13 : decode cX10_weatherOf 13 = .ok (.invokevirtual 192, 3) := by decide +kernel
theorem dX10_weatherOf_16 : decode cX10_weatherOf 16 = .ok (.iaload, 1) := by decide +kernel
theorem dX10_weatherOf_17 : decode cX10_weatherOf 17 = .ok (.ireturn, 1) := by decide +kernel
theorem dX10_soldOf_0 : decode cX10_soldOf 0 = .ok (.aload_n 0, 1) := by decide +kernel
theorem dX10_soldOf_1 : decode cX10_soldOf 1 = .ok (.getfield 22, 3) := by decide +kernel
theorem dX10_soldOf_4 : decode cX10_soldOf 4 = .ok (.getfield 149, 3) := by decide +kernel
theorem dX10_soldOf_7 : decode cX10_soldOf 7 = .ok (.getfield 195, 3) := by decide +kernel
theorem dX10_soldOf_10 : decode cX10_soldOf 10 = .ok (.aload_n 0, 1) := by decide +kernel
theorem dX10_soldOf_11 : decode cX10_soldOf 11 = .ok (.iload_n 1, 1) := by decide +kernel
theorem dX10_soldOf_12 : decode cX10_soldOf 12 = .ok (.iload_n 2, 1) := by decide +kernel
theorem dX10_soldOf_13 : decode cX10_soldOf 13 = .ok (.invokevirtual 192, 3) := by decide +kernel
theorem dX10_soldOf_16 : decode cX10_soldOf 16 = .ok (.iaload, 1) := by decide +kernel
theorem dX10_soldOf_17 : decode cX10_soldOf 17 = .ok (.ireturn, 1) := by decide +kernel
theorem dX10_paidOf_0 : decode cX10_paidOf 0 = .ok (.aload_n 0, 1) := by decide +kernel
theorem dX10_paidOf_1 : decode cX10_paidOf 1 = .ok (.getfield 22, 3) := by decide +kernel
theorem dX10_paidOf_4 : decode cX10_paidOf 4 = .ok (.getfield 149, 3) := by decide +kernel
theorem dX10_paidOf_7 : decode cX10_paidOf 7 = .ok (.getfield 198, 3) := by decide +kernel
theorem dX10_paidOf_10 : decode cX10_paidOf 10 = .ok (.aload_n 0, 1) := by decide +kernel
theorem dX10_paidOf_11 : decode cX10_paidOf 11 = .ok (.iload_n 1, 1) := by decide +kernel
theorem dX10_paidOf_12 : decode cX10_paidOf 12 = .ok (.iload_n 2, 1) := by decide +kernel
theorem dX10_paidOf_13 : decode cX10_paidOf 13 = .ok (.invokevirtual 192, 3) := by decide +kernel
theorem dX10_paidOf_16 : decode cX10_paidOf 16 = .ok (.iaload, 1) := by decide +kernel
theorem dX10_paidOf_17 : decode cX10_paidOf 17 = .ok (.ireturn, 1) := by decide +kernel
theorem dX10_pageOf_0 : decode cX10_pageOf 0 = .ok (.aload_n 0, 1) := by decide +kernel
theorem dX10_pageOf_1 : decode cX10_pageOf 1 = .ok (.iload_n 1, 1) := by decide +kernel
theorem dX10_pageOf_2 : decode cX10_pageOf 2 = .ok (.iload_n 2, 1) := by decide +kernel
theorem dX10_pageOf_3 : decode cX10_pageOf 3 = .ok (.invokevirtual 192, 3) := by decide +kernel
theorem dX10_pageOf_6 : decode cX10_pageOf 6 = .ok (.iconst 4, 1) := by decide +kernel
theorem dX10_pageOf_7 : decode cX10_pageOf 7 = .ok (.idiv, 1) := by decide +kernel
theorem dX10_pageOf_8 : decode cX10_pageOf 8 = .ok (.ireturn, 1) := by decide +kernel
theorem dX10_forecastAt_0 : decode cX10_forecastAt 0 = .ok (.iload_n 1, 1) := by decide +kernel
theorem dX10_forecastAt_1 : decode cX10_forecastAt 1 = .ok (.iconst 0, 1) := by decide +kernel
theorem dX10_forecastAt_2 : decode cX10_forecastAt 2 = .ok (.aload_n 0, 1) := by decide +kernel
theorem dX10_forecastAt_3 : decode cX10_forecastAt 3 = .ok (.getfield 22, 3) := by decide +kernel
theorem dX10_forecastAt_6 : decode cX10_forecastAt 6 = .ok (.getfield 149, 3) := by decide +kernel
theorem dX10_forecastAt_9 : decode cX10_forecastAt 9 = .ok (.getfield 185, 3) := by decide +kernel
theorem dX10_forecastAt_12 : decode cX10_forecastAt 12 = .ok (.iconst 1, 1) := by decide +kernel
theorem dX10_forecastAt_13 : decode cX10_forecastAt 13 = .ok (.isub, 1) := by decide +kernel
theorem dX10_forecastAt_14 : decode cX10_forecastAt 14 = .ok (.invokestatic 201, 3) := by decide +kernel
theorem dX10_forecastAt_17 : decode cX10_forecastAt 17 = .ok (.ifCond .ne 11, 3) := by decide +kernel
theorem dX10_forecastAt_20 : decode cX10_forecastAt 20 = .ok (.new 205, 3) := by decide +kernel
theorem dX10_forecastAt_23 : decode cX10_forecastAt 23 = .ok (.dup, 1) := by decide +kernel
theorem dX10_forecastAt_24 : decode cX10_forecastAt 24 = .ok (.invokespecial 207, 3) := by decide +kernel
theorem dX10_forecastAt_27 : decode cX10_forecastAt 27 = .ok (.athrow, 1) := by decide +kernel
theorem dX10_forecastAt_28 : decode cX10_forecastAt 28 = .ok (.aload_n 0, 1) := by decide +kernel
theorem dX10_forecastAt_29 : decode cX10_forecastAt 29 = .ok (.getfield 22, 3) := by decide +kernel
theorem dX10_forecastAt_32 : decode cX10_forecastAt 32 = .ok (.getfield 149, 3) := by decide +kernel
theorem dX10_forecastAt_35 : decode cX10_forecastAt 35 = .ok (.iload_n 1, 1) := by decide +kernel
theorem dX10_forecastAt_36 : decode cX10_forecastAt 36 = .ok (.invokevirtual 208, 3) := by decide +kernel
theorem dX10_forecastAt_39 : decode cX10_forecastAt 39 = .ok (.ireturn, 1) := by decide +kernel
theorem dX10_pageCount_0 : decode cX10_pageCount 0 = .ok (.aload_n 0, 1) := by decide +kernel
theorem dX10_pageCount_1 : decode cX10_pageCount 1 = .ok (.getfield 22, 3) := by decide +kernel
theorem dX10_pageCount_4 : decode cX10_pageCount 4 = .ok (.getfield 149, 3) := by decide +kernel
theorem dX10_pageCount_7 : decode cX10_pageCount 7 = .ok (.invokevirtual 211, 3) := by decide +kernel
theorem dX10_pageCount_10 : decode cX10_pageCount 10 = .ok (.ireturn, 1) := by decide +kernel
theorem dX10_regretCount_0 : decode cX10_regretCount 0 = .ok (.aload_n 0, 1) := by decide +kernel
theorem dX10_regretCount_1 : decode cX10_regretCount 1 = .ok (.getfield 22, 3) := by decide +kernel
theorem dX10_regretCount_4 : decode cX10_regretCount 4 = .ok (.getfield 236, 3) := by decide +kernel
theorem dX10_regretCount_7 : decode cX10_regretCount 7 = .ok (.getfield 240, 3) := by decide +kernel
theorem dX10_regretCount_10 : decode cX10_regretCount 10 = .ok (.ireturn, 1) := by decide +kernel
theorem dX10_regretAt_0 : decode cX10_regretAt 0 = .ok (.iload_n 1, 1) := by decide +kernel
theorem dX10_regretAt_1 : decode cX10_regretAt 1 = .ok (.iconst 0, 1) := by decide +kernel
theorem dX10_regretAt_2 : decode cX10_regretAt 2 = .ok (.aload_n 0, 1) := by decide +kernel
theorem dX10_regretAt_3 : decode cX10_regretAt 3 = .ok (.getfield 22, 3) := by decide +kernel
theorem dX10_regretAt_6 : decode cX10_regretAt 6 = .ok (.getfield 236, 3) := by decide +kernel
theorem dX10_regretAt_9 : decode cX10_regretAt 9 = .ok (.getfield 240, 3) := by decide +kernel
theorem dX10_regretAt_12 : decode cX10_regretAt 12 = .ok (.iconst 1, 1) := by decide +kernel
theorem dX10_regretAt_13 : decode cX10_regretAt 13 = .ok (.isub, 1) := by decide +kernel
theorem dX10_regretAt_14 : decode cX10_regretAt 14 = .ok (.invokestatic 201, 3) := by decide +kernel
theorem dX10_regretAt_17 : decode cX10_regretAt 17 = .ok (.ifCond .ne 11, 3) := by decide +kernel
theorem dX10_regretAt_20 : decode cX10_regretAt 20 = .ok (.new 243, 3) := by decide +kernel
theorem dX10_regretAt_23 : decode cX10_regretAt 23 = .ok (.dup, 1) := by decide +kernel
theorem dX10_regretAt_24 : decode cX10_regretAt 24 = .ok (.invokespecial 245, 3) := by decide +kernel
theorem dX10_regretAt_27 : decode cX10_regretAt 27 = .ok (.athrow, 1) := by decide +kernel
theorem dX10_regretAt_28 : decode cX10_regretAt 28 = .ok (.aload_n 0, 1) := by decide +kernel
theorem dX10_regretAt_29 : decode cX10_regretAt 29 = .ok (.getfield 22, 3) := by decide +kernel
theorem dX10_regretAt_32 : decode cX10_regretAt 32 = .ok (.getfield 236, 3) := by decide +kernel
theorem dX10_regretAt_35 : decode cX10_regretAt 35 = .ok (.getfield 246, 3) := by decide +kernel
theorem dX10_regretAt_38 : decode cX10_regretAt 38 = .ok (.iload_n 1, 1) := by decide +kernel
theorem dX10_regretAt_39 : decode cX10_regretAt 39 = .ok (.iaload, 1) := by decide +kernel
theorem dX10_regretAt_40 : decode cX10_regretAt 40 = .ok (.ireturn, 1) := by decide +kernel
theorem dX10_hits_0 : decode cX10_hits 0 = .ok (.aload_n 0, 1) := by decide +kernel
theorem dX10_hits_1 : decode cX10_hits 1 = .ok (.getfield 22, 3) := by decide +kernel
theorem dX10_hits_4 : decode cX10_hits 4 = .ok (.getfield 249, 3) := by decide +kernel
theorem dX10_hits_7 : decode cX10_hits 7 = .ok (.ireturn, 1) := by decide +kernel
theorem dX10_regrets_0 : decode cX10_regrets 0 = .ok (.aload_n 0, 1) := by decide +kernel
theorem dX10_regrets_1 : decode cX10_regrets 1 = .ok (.getfield 22, 3) := by decide +kernel
theorem dX10_regrets_4 : decode cX10_regrets 4 = .ok (.getfield 252, 3) := by decide +kernel
theorem dX10_regrets_7 : decode cX10_regrets 7 = .ok (.ireturn, 1) := by decide +kernel
theorem dX10_retractions_0 : decode cX10_retractions 0 = .ok (.aload_n 0, 1) := by decide +kernel
theorem dX10_retractions_1 : decode cX10_retractions 1 = .ok (.getfield 22, 3) := by decide +kernel
theorem dX10_retractions_4 : decode cX10_retractions 4 = .ok (.getfield 255, 3) := by decide +kernel
theorem dX10_retractions_7 : decode cX10_retractions 7 = .ok (.ireturn, 1) := by decide +kernel
theorem dX10_copyDifference_0 : decode cX10_copyDifference 0 = .ok (.aload_n 0, 1) := by decide +kernel
theorem dX10_copyDifference_1 : decode cX10_copyDifference 1 = .ok (.getfield 22, 3) := by decide +kernel
theorem dX10_copyDifference_4 : decode cX10_copyDifference 4 = .ok (.getfield 267, 3) := by decide +kernel
theorem dX10_copyDifference_7 : decode cX10_copyDifference 7 = .ok (.aload_n 0, 1) := by decide +kernel
theorem dX10_copyDifference_8 : decode cX10_copyDifference 8 = .ok (.getfield 22, 3) := by decide +kernel
theorem dX10_copyDifference_11 : decode cX10_copyDifference 11 = .ok (.getfield 149, 3) := by decide +kernel
theorem dX10_copyDifference_14 : decode cX10_copyDifference 14 = .ok (.invokevirtual 270, 3) := by decide +kernel
theorem dX10_copyDifference_17 : decode cX10_copyDifference 17 = .ok (.isub, 1) := by decide +kernel
theorem dX10_copyDifference_18 : decode cX10_copyDifference 18 = .ok (.aload_n 0, 1) := by decide +kernel
theorem dX10_copyDifference_19 : decode cX10_copyDifference 19 = .ok (.getfield 22, 3) := by decide +kernel
theorem dX10_copyDifference_22 : decode cX10_copyDifference 22 = .ok (.getfield 273, 3) := by decide +kernel
theorem dX10_copyDifference_25 : decode cX10_copyDifference 25 = .ok (.isub, 1) := by decide +kernel
theorem dX10_copyDifference_26 : decode cX10_copyDifference 26 = .ok (.ireturn, 1) := by decide +kernel
theorem dX10_coinDifference_0 : decode cX10_coinDifference 0 = .ok (.aload_n 0, 1) := by decide +kernel
theorem dX10_coinDifference_1 : decode cX10_coinDifference 1 = .ok (.getfield 22, 3) := by decide +kernel
theorem dX10_coinDifference_4 : decode cX10_coinDifference 4 = .ok (.getfield 276, 3) := by decide +kernel
theorem dX10_coinDifference_7 : decode cX10_coinDifference 7 = .ok (.aload_n 0, 1) := by decide +kernel
theorem dX10_coinDifference_8 : decode cX10_coinDifference 8 = .ok (.getfield 22, 3) := by decide +kernel
theorem dX10_coinDifference_11 : decode cX10_coinDifference 11 = .ok (.getfield 279, 3) := by decide +kernel
theorem dX10_coinDifference_14 : decode cX10_coinDifference 14 = .ok (.isub, 1) := by decide +kernel
theorem dX10_coinDifference_15 : decode cX10_coinDifference 15 = .ok (.aload_n 0, 1) := by decide +kernel
theorem dX10_coinDifference_16 : decode cX10_coinDifference 16 = .ok (.getfield 22, 3) := by decide +kernel
theorem dX10_coinDifference_19 : decode cX10_coinDifference 19 = .ok (.getfield 120, 3) := by decide +kernel
theorem dX10_coinDifference_22 : decode cX10_coinDifference 22 = .ok (.isub, 1) := by decide +kernel
theorem dX10_coinDifference_23 : decode cX10_coinDifference 23 = .ok (.ireturn, 1) := by decide +kernel
theorem dX10_bookErrors_0 : decode cX10_bookErrors 0 = .ok (.aload_n 0, 1) := by decide +kernel
theorem dX10_bookErrors_1 : decode cX10_bookErrors 1 = .ok (.getfield 22, 3) := by decide +kernel
theorem dX10_bookErrors_4 : decode cX10_bookErrors 4 = .ok (.getfield 149, 3) := by decide +kernel
theorem dX10_bookErrors_7 : decode cX10_bookErrors 7 = .ok (.invokevirtual 282, 3) := by decide +kernel
theorem dX10_bookErrors_10 : decode cX10_bookErrors 10 = .ok (.ireturn, 1) := by decide +kernel
theorem dX10_print_0 : decode cX10_print 0 = .ok (.aload_n 0, 1) := by decide +kernel
theorem dX10_print_1 : decode cX10_print 1 = .ok (.iload_n 1, 1) := by decide +kernel
theorem dX10_print_2 : decode cX10_print 2 = .ok (.invokevirtual 139, 3) := by decide +kernel
theorem dX10_print_5 : decode cX10_print 5 = .ok (.aload_n 0, 1) := by decide +kernel
theorem dX10_print_6 : decode cX10_print 6 = .ok (.iload_n 3, 1) := by decide +kernel
theorem dX10_print_7 : decode cX10_print 7 = .ok (.iconst 0, 1) := by decide +kernel
theorem dX10_print_8 : decode cX10_print 8 = .ok (.iconst 2, 1) := by decide +kernel
theorem dX10_print_9 : decode cX10_print 9 = .ok (.invokevirtual 84, 3) := by decide +kernel
theorem dX10_print_12 : decode cX10_print 12 = .ok (.aload_n 0, 1) := by decide +kernel
theorem dX10_print_13 : decode cX10_print 13 = .ok (.getfield 22, 3) := by decide +kernel
theorem dX10_print_16 : decode cX10_print 16 = .ok (.iload_n 1, 1) := by decide +kernel
theorem dX10_print_17 : decode cX10_print 17 = .ok (.iload_n 2, 1) := by decide +kernel
theorem dX10_print_18 : decode cX10_print 18 = .ok (.invokevirtual 223, 3) := by decide +kernel
theorem dX10_print_21 : decode cX10_print 21 = .ok (.ifCond .eq 11, 3) := by decide +kernel
theorem dX10_print_24 : decode cX10_print 24 = .ok (.new 74, 3) := by decide +kernel
theorem dX10_print_27 : decode cX10_print 27 = .ok (.dup, 1) := by decide +kernel
theorem dX10_print_28 : decode cX10_print 28 = .ok (.invokespecial 76, 3) := by decide +kernel
theorem dX10_print_31 : decode cX10_print 31 = .ok (.athrow, 1) := by decide +kernel
theorem dX10_print_32 : decode cX10_print 32 = .ok (.aload_n 0, 1) := by decide +kernel
theorem dX10_print_33 : decode cX10_print 33 = .ok (.getfield 32, 3) := by decide +kernel
theorem dX10_print_36 : decode cX10_print 36 = .ok (.aload_n 0, 1) := by decide +kernel
theorem dX10_print_37 : decode cX10_print 37 = .ok (.getfield 22, 3) := by decide +kernel
theorem dX10_print_40 : decode cX10_print 40 = .ok (.invokevirtual 96, 3) := by decide +kernel
theorem dX10_print_43 : decode cX10_print 43 = .ok (.aload_n 0, 1) := by decide +kernel
theorem dX10_print_44 : decode cX10_print 44 = .ok (.getfield 22, 3) := by decide +kernel
theorem dX10_print_47 : decode cX10_print 47 = .ok (.getfield 149, 3) := by decide +kernel
theorem dX10_print_50 : decode cX10_print 50 = .ok (.iload_n 1, 1) := by decide +kernel
theorem dX10_print_51 : decode cX10_print 51 = .ok (.iload_n 2, 1) := by decide +kernel
theorem dX10_print_52 : decode cX10_print 52 = .ok (.iload_n 3, 1) := by decide +kernel
theorem dX10_print_53 : decode cX10_print 53 = .ok (.invokevirtual 288, 3) := by decide +kernel
theorem dX10_print_56 : decode cX10_print 56 = .ok (.aload_n 0, 1) := by decide +kernel
theorem dX10_print_57 : decode cX10_print 57 = .ok (.getfield 22, 3) := by decide +kernel
theorem dX10_print_60 : decode cX10_print 60 = .ok (.getfield 149, 3) := by decide +kernel
theorem dX10_print_63 : decode cX10_print 63 = .ok (.getfield 185, 3) := by decide +kernel
theorem dX10_print_66 : decode cX10_print 66 = .ok (.iconst 1, 1) := by decide +kernel
theorem dX10_print_67 : decode cX10_print 67 = .ok (.isub, 1) := by decide +kernel
theorem dX10_print_68 : decode cX10_print 68 = .ok (.iconst 4, 1) := by decide +kernel
theorem dX10_print_69 : decode cX10_print 69 = .ok (.idiv, 1) := by decide +kernel
theorem dX10_print_70 : decode cX10_print 70 = .ok (.ireturn, 1) := by decide +kernel
theorem dX10_retract_0 : decode cX10_retract 0 = .ok (.aload_n 0, 1) := by decide +kernel
theorem dX10_retract_1 : decode cX10_retract 1 = .ok (.iload_n 1, 1) := by decide +kernel
theorem dX10_retract_2 : decode cX10_retract 2 = .ok (.invokevirtual 214, 3) := by decide +kernel
theorem dX10_retract_5 : decode cX10_retract 5 = .ok (.aload_n 0, 1) := by decide +kernel
theorem dX10_retract_6 : decode cX10_retract 6 = .ok (.getfield 22, 3) := by decide +kernel
theorem dX10_retract_9 : decode cX10_retract 9 = .ok (.iload_n 1, 1) := by decide +kernel
theorem dX10_retract_10 : decode cX10_retract 10 = .ok (.invokevirtual 220, 3) := by decide +kernel
theorem dX10_retract_13 : decode cX10_retract 13 = .ok (.ifCond .ne 11, 3) := by decide +kernel
theorem dX10_retract_16 : decode cX10_retract 16 = .ok (.new 74, 3) := by decide +kernel
theorem dX10_retract_19 : decode cX10_retract 19 = .ok (.dup, 1) := by decide +kernel
theorem dX10_retract_20 : decode cX10_retract 20 = .ok (.invokespecial 76, 3) := by decide +kernel
theorem dX10_retract_23 : decode cX10_retract 23 = .ok (.athrow, 1) := by decide +kernel
theorem dX10_retract_24 : decode cX10_retract 24 = .ok (.aload_n 0, 1) := by decide +kernel
theorem dX10_retract_25 : decode cX10_retract 25 = .ok (.getfield 32, 3) := by decide +kernel
theorem dX10_retract_28 : decode cX10_retract 28 = .ok (.aload_n 0, 1) := by decide +kernel
theorem dX10_retract_29 : decode cX10_retract 29 = .ok (.getfield 22, 3) := by decide +kernel
theorem dX10_retract_32 : decode cX10_retract 32 = .ok (.invokevirtual 96, 3) := by decide +kernel
theorem dX10_retract_35 : decode cX10_retract 35 = .ok (.aload_n 0, 1) := by decide +kernel
theorem dX10_retract_36 : decode cX10_retract 36 = .ok (.getfield 22, 3) := by decide +kernel
theorem dX10_retract_39 : decode cX10_retract 39 = .ok (.iload_n 1, 1) := by decide +kernel
theorem dX10_retract_40 : decode cX10_retract 40 = .ok (.invokevirtual 291, 3) := by decide +kernel
theorem dX10_retract_43 : decode cX10_retract 43 = .ok (.ireturn, 1) := by decide +kernel
theorem dX10_setTrust_0 : decode cX10_setTrust 0 = .ok (.aload_n 0, 1) := by decide +kernel
theorem dX10_setTrust_1 : decode cX10_setTrust 1 = .ok (.iload_n 1, 1) := by decide +kernel
theorem dX10_setTrust_2 : decode cX10_setTrust 2 = .ok (.invokevirtual 139, 3) := by decide +kernel
theorem dX10_setTrust_5 : decode cX10_setTrust 5 = .ok (.aload_n 0, 1) := by decide +kernel
theorem dX10_setTrust_6 : decode cX10_setTrust 6 = .ok (.iload_n 2, 1) := by decide +kernel
theorem dX10_setTrust_7 : decode cX10_setTrust 7 = .ok (.iconst 0, 1) := by decide +kernel
theorem dX10_setTrust_8 : decode cX10_setTrust 8 = .ok (.bipush 100, 2) := by decide +kernel
theorem dX10_setTrust_10 : decode cX10_setTrust 10 = .ok (.invokevirtual 84, 3) := by decide +kernel
theorem dX10_setTrust_13 : decode cX10_setTrust 13 = .ok (.aload_n 0, 1) := by decide +kernel
theorem dX10_setTrust_14 : decode cX10_setTrust 14 = .ok (.getfield 32, 3) := by decide +kernel
theorem dX10_setTrust_17 : decode cX10_setTrust 17 = .ok (.aload_n 0, 1) := by decide +kernel
theorem dX10_setTrust_18 : decode cX10_setTrust 18 = .ok (.getfield 22, 3) := by decide +kernel
theorem dX10_setTrust_21 : decode cX10_setTrust 21 = .ok (.invokevirtual 96, 3) := by decide +kernel
theorem dX10_setTrust_24 : decode cX10_setTrust 24 = .ok (.aload_n 0, 1) := by decide +kernel
theorem dX10_setTrust_25 : decode cX10_setTrust 25 = .ok (.getfield 22, 3) := by decide +kernel
theorem dX10_setTrust_28 : decode cX10_setTrust 28 = .ok (.getfield 99, 3) := by decide +kernel
theorem dX10_setTrust_31 : decode cX10_setTrust 31 = .ok (.getfield 146, 3) := by decide +kernel
theorem dX10_setTrust_34 : decode cX10_setTrust 34 = .ok (.iload_n 1, 1) := by decide +kernel
theorem dX10_setTrust_35 : decode cX10_setTrust 35 = .ok (.iaload, 1) := by decide +kernel
theorem dX10_setTrust_36 : decode cX10_setTrust 36 = .ok (.istore_n 3, 1) := by decide +kernel
theorem dX10_setTrust_37 : decode cX10_setTrust 37 = .ok (.aload_n 0, 1) := by decide +kernel
theorem dX10_setTrust_38 : decode cX10_setTrust 38 = .ok (.getfield 22, 3) := by decide +kernel
theorem dX10_setTrust_41 : decode cX10_setTrust 41 = .ok (.getfield 99, 3) := by decide +kernel
theorem dX10_setTrust_44 : decode cX10_setTrust 44 = .ok (.getfield 146, 3) := by decide +kernel
theorem dX10_setTrust_47 : decode cX10_setTrust 47 = .ok (.iload_n 1, 1) := by decide +kernel
theorem dX10_setTrust_48 : decode cX10_setTrust 48 = .ok (.iload_n 2, 1) := by decide +kernel
theorem dX10_setTrust_49 : decode cX10_setTrust 49 = .ok (.iastore, 1) := by decide +kernel
theorem dX10_setTrust_50 : decode cX10_setTrust 50 = .ok (.iload_n 3, 1) := by decide +kernel
theorem dX10_setTrust_51 : decode cX10_setTrust 51 = .ok (.ireturn, 1) := by decide +kernel
theorem dX10_setPeople_0 : decode cX10_setPeople 0 = .ok (.aload_n 0, 1) := by decide +kernel
theorem dX10_setPeople_1 : decode cX10_setPeople 1 = .ok (.iload_n 1, 1) := by decide +kernel
theorem dX10_setPeople_2 : decode cX10_setPeople 2 = .ok (.invokevirtual 139, 3) := by decide +kernel
theorem dX10_setPeople_5 : decode cX10_setPeople 5 = .ok (.aload_n 0, 1) := by decide +kernel
theorem dX10_setPeople_6 : decode cX10_setPeople 6 = .ok (.iload_n 2, 1) := by decide +kernel
theorem dX10_setPeople_7 : decode cX10_setPeople 7 = .ok (.iconst 1, 1) := by decide +kernel
theorem dX10_setPeople_8 : decode cX10_setPeople 8 = .ok (.bipush 99, 2) := by decide +kernel
theorem dX10_setPeople_10 : decode cX10_setPeople 10 = .ok (.invokevirtual 84, 3) := by decide +kernel
theorem dX10_setPeople_13 : decode cX10_setPeople 13 = .ok (.aload_n 0, 1) := by decide +kernel
theorem dX10_setPeople_14 : decode cX10_setPeople 14 = .ok (.getfield 32, 3) := by decide +kernel
theorem dX10_setPeople_17 : decode cX10_setPeople 17 = .ok (.aload_n 0, 1) := by decide +kernel
theorem dX10_setPeople_18 : decode cX10_setPeople 18 = .ok (.getfield 22, 3) := by decide +kernel
theorem dX10_setPeople_21 : decode cX10_setPeople 21 = .ok (.invokevirtual 96, 3) := by decide +kernel
theorem dX10_setPeople_24 : decode cX10_setPeople 24 = .ok (.aload_n 0, 1) := by decide +kernel
theorem dX10_setPeople_25 : decode cX10_setPeople 25 = .ok (.getfield 22, 3) := by decide +kernel
theorem dX10_setPeople_28 : decode cX10_setPeople 28 = .ok (.getfield 99, 3) := by decide +kernel
theorem dX10_setPeople_31 : decode cX10_setPeople 31 = .ok (.getfield 142, 3) := by decide +kernel
theorem dX10_setPeople_34 : decode cX10_setPeople 34 = .ok (.iload_n 1, 1) := by decide +kernel
theorem dX10_setPeople_35 : decode cX10_setPeople 35 = .ok (.iaload, 1) := by decide +kernel
theorem dX10_setPeople_36 : decode cX10_setPeople 36 = .ok (.istore_n 3, 1) := by decide +kernel
theorem dX10_setPeople_37 : decode cX10_setPeople 37 = .ok (.aload_n 0, 1) := by decide +kernel
theorem dX10_setPeople_38 : decode cX10_setPeople 38 = .ok (.getfield 22, 3) := by decide +kernel
theorem dX10_setPeople_41 : decode cX10_setPeople 41 = .ok (.getfield 99, 3) := by decide +kernel
theorem dX10_setPeople_44 : decode cX10_setPeople 44 = .ok (.getfield 142, 3) := by decide +kernel
theorem dX10_setPeople_47 : decode cX10_setPeople 47 = .ok (.iload_n 1, 1) := by decide +kernel
theorem dX10_setPeople_48 : decode cX10_setPeople 48 = .ok (.iload_n 2, 1) := by decide +kernel
theorem dX10_setPeople_49 : decode cX10_setPeople 49 = .ok (.iastore, 1) := by decide +kernel
theorem dX10_setPeople_50 : decode cX10_setPeople 50 = .ok (.iload_n 3, 1) := by decide +kernel
theorem dX10_setPeople_51 : decode cX10_setPeople 51 = .ok (.ireturn, 1) := by decide +kernel
theorem dX10_setOdds_0 : decode cX10_setOdds 0 = .ok (.aload_n 0, 1) := by decide +kernel
theorem dX10_setOdds_1 : decode cX10_setOdds 1 = .ok (.iload_n 1, 1) := by decide +kernel
theorem dX10_setOdds_2 : decode cX10_setOdds 2 = .ok (.iconst 0, 1) := by decide +kernel
theorem dX10_setOdds_3 : decode cX10_setOdds 3 = .ok (.iconst 2, 1) := by decide +kernel
theorem dX10_setOdds_4 : decode cX10_setOdds 4 = .ok (.invokevirtual 84, 3) := by decide +kernel
theorem dX10_setOdds_7 : decode cX10_setOdds 7 = .ok (.aload_n 0, 1) := by decide +kernel
theorem dX10_setOdds_8 : decode cX10_setOdds 8 = .ok (.iload_n 2, 1) := by decide +kernel
theorem dX10_setOdds_9 : decode cX10_setOdds 9 = .ok (.iconst 0, 1) := by decide +kernel
theorem dX10_setOdds_10 : decode cX10_setOdds 10 = .ok (.bipush 20, 2) := by decide +kernel
theorem dX10_setOdds_12 : decode cX10_setOdds 12 = .ok (.invokevirtual 84, 3) := by decide +kernel
theorem dX10_setOdds_15 : decode cX10_setOdds 15 = .ok (.aload_n 0, 1) := by decide +kernel
theorem dX10_setOdds_16 : decode cX10_setOdds 16 = .ok (.getfield 22, 3) := by decide +kernel
theorem dX10_setOdds_19 : decode cX10_setOdds 19 = .ok (.getfield 111, 3) := by decide +kernel
theorem dX10_setOdds_22 : decode cX10_setOdds 22 = .ok (.getfield 175, 3) := by decide +kernel
theorem dX10_setOdds_25 : decode cX10_setOdds 25 = .ok (.iload_n 1, 1) := by decide +kernel
theorem dX10_setOdds_26 : decode cX10_setOdds 26 = .ok (.iaload, 1) := by decide +kernel
theorem dX10_setOdds_27 : decode cX10_setOdds 27 = .ok (.istore_n 3, 1) := by decide +kernel
theorem dX10_setOdds_28 : decode cX10_setOdds 28 = .ok (.aload_n 0, 1) := by decide +kernel
theorem dX10_setOdds_29 : decode cX10_setOdds 29 = .ok (.getfield 22, 3) := by decide +kernel
theorem dX10_setOdds_32 : decode cX10_setOdds 32 = .ok (.getfield 111, 3) := by decide +kernel
theorem dX10_setOdds_35 : decode cX10_setOdds 35 = .ok (.invokevirtual 178, 3) := by decide +kernel
theorem dX10_setOdds_38 : decode cX10_setOdds 38 = .ok (.iload_n 3, 1) := by decide +kernel
theorem dX10_setOdds_39 : decode cX10_setOdds 39 = .ok (.isub, 1) := by decide +kernel
theorem dX10_setOdds_40 : decode cX10_setOdds 40 = .ok (.iload_n 2, 1) := by decide +kernel
theorem dX10_setOdds_41 : decode cX10_setOdds 41 = .ok (.iadd, 1) := by decide +kernel
theorem dX10_setOdds_42 : decode cX10_setOdds 42 = .ok (.ifCond .ne 11, 3) := by decide +kernel
theorem dX10_setOdds_45 : decode cX10_setOdds 45 = .ok (.new 74, 3) := by decide +kernel
theorem dX10_setOdds_48 : decode cX10_setOdds 48 = .ok (.dup, 1) := by decide +kernel
theorem dX10_setOdds_49 : decode cX10_setOdds 49 = .ok (.invokespecial 76, 3) := by decide +kernel
theorem dX10_setOdds_52 : decode cX10_setOdds 52 = .ok (.athrow, 1) := by decide +kernel
theorem dX10_setOdds_53 : decode cX10_setOdds 53 = .ok (.aload_n 0, 1) := by decide +kernel
theorem dX10_setOdds_54 : decode cX10_setOdds 54 = .ok (.getfield 32, 3) := by decide +kernel
theorem dX10_setOdds_57 : decode cX10_setOdds 57 = .ok (.aload_n 0, 1) := by decide +kernel
theorem dX10_setOdds_58 : decode cX10_setOdds 58 = .ok (.getfield 22, 3) := by decide +kernel
theorem dX10_setOdds_61 : decode cX10_setOdds 61 = .ok (.invokevirtual 96, 3) := by decide +kernel
theorem dX10_setOdds_64 : decode cX10_setOdds 64 = .ok (.aload_n 0, 1) := by decide +kernel
theorem dX10_setOdds_65 : decode cX10_setOdds 65 = .ok (.getfield 22, 3) := by decide +kernel
theorem dX10_setOdds_68 : decode cX10_setOdds 68 = .ok (.getfield 111, 3) := by decide +kernel
theorem dX10_setOdds_71 : decode cX10_setOdds 71 = .ok (.getfield 175, 3) := by decide +kernel
theorem dX10_setOdds_74 : decode cX10_setOdds 74 = .ok (.iload_n 1, 1) := by decide +kernel
theorem dX10_setOdds_75 : decode cX10_setOdds 75 = .ok (.iload_n 2, 1) := by decide +kernel
theorem dX10_setOdds_76 : decode cX10_setOdds 76 = .ok (.iastore, 1) := by decide +kernel
theorem dX10_setOdds_77 : decode cX10_setOdds 77 = .ok (.iload_n 3, 1) := by decide +kernel
theorem dX10_setOdds_78 : decode cX10_setOdds 78 = .ok (.ireturn, 1) := by decide +kernel
theorem dX10_pass_0 : decode cX10_pass 0 = .ok (.aload_n 0, 1) := by decide +kernel
theorem dX10_pass_1 : decode cX10_pass 1 = .ok (.iload_n 1, 1) := by decide +kernel
theorem dX10_pass_2 : decode cX10_pass 2 = .ok (.iconst 1, 1) := by decide +kernel
theorem dX10_pass_3 : decode cX10_pass 3 = .ok (.sipush 200, 3) := by decide +kernel
theorem dX10_pass_6 : decode cX10_pass 6 = .ok (.invokevirtual 84, 3) := by decide +kernel
theorem dX10_pass_9 : decode cX10_pass 9 = .ok (.aload_n 0, 1) := by decide +kernel
theorem dX10_pass_10 : decode cX10_pass 10 = .ok (.getfield 32, 3) := by decide +kernel
theorem dX10_pass_13 : decode cX10_pass 13 = .ok (.aload_n 0, 1) := by decide +kernel
theorem dX10_pass_14 : decode cX10_pass 14 = .ok (.getfield 22, 3) := by decide +kernel
theorem dX10_pass_17 : decode cX10_pass 17 = .ok (.invokevirtual 96, 3) := by decide +kernel
theorem dX10_pass_20 : decode cX10_pass 20 = .ok (.aload_n 0, 1) := by decide +kernel
theorem dX10_pass_21 : decode cX10_pass 21 = .ok (.getfield 22, 3) := by decide +kernel
theorem dX10_pass_24 : decode cX10_pass 24 = .ok (.getfield 252, 3) := by decide +kernel
theorem dX10_pass_27 : decode cX10_pass 27 = .ok (.istore_n 2, 1) := by decide +kernel
theorem dX10_pass_28 : decode cX10_pass 28 = .ok (.aload_n 0, 1) := by decide +kernel
theorem dX10_pass_29 : decode cX10_pass 29 = .ok (.getfield 22, 3) := by decide +kernel
theorem dX10_pass_32 : decode cX10_pass 32 = .ok (.iload_n 1, 1) := by decide +kernel
theorem dX10_pass_33 : decode cX10_pass 33 = .ok (.invokevirtual 294, 3) := by decide +kernel
theorem dX10_pass_36 : decode cX10_pass 36 = .ok (.aload_n 0, 1) := by decide +kernel
theorem dX10_pass_37 : decode cX10_pass 37 = .ok (.getfield 22, 3) := by decide +kernel
theorem dX10_pass_40 : decode cX10_pass 40 = .ok (.getfield 252, 3) := by decide +kernel
theorem dX10_pass_43 : decode cX10_pass 43 = .ok (.iload_n 2, 1) := by decide +kernel
theorem dX10_pass_44 : decode cX10_pass 44 = .ok (.isub, 1) := by decide +kernel
theorem dX10_pass_45 : decode cX10_pass 45 = .ok (.ireturn, 1) := by decide +kernel
theorem dX10_requireVillage_0 : decode cX10_requireVillage 0 = .ok (.aload_n 0, 1) := by decide +kernel
theorem dX10_requireVillage_1 : decode cX10_requireVillage 1 = .ok (.getfield 22, 3) := by decide +kernel
theorem dX10_requireVillage_4 : decode cX10_requireVillage 4 = .ok (.getfield 99, 3) := by decide +kernel
theorem dX10_requireVillage_7 : decode cX10_requireVillage 7 = .ok (.iload_n 1, 1) := by decide +kernel
theorem dX10_requireVillage_8 : decode cX10_requireVillage 8 = .ok (.invokevirtual 319, 3) := by decide +kernel
theorem dX10_requireVillage_11 : decode cX10_requireVillage 11 = .ok (.ifCond .ne 11, 3) := by decide +kernel
theorem dX10_requireVillage_14 : decode cX10_requireVillage 14 = .ok (.new 243, 3) := by decide +kernel
theorem dX10_requireVillage_17 : decode cX10_requireVillage 17 = .ok (.dup, 1) := by decide +kernel
theorem dX10_requireVillage_18 : decode cX10_requireVillage 18 = .ok (.invokespecial 245, 3) := by decide +kernel
theorem dX10_requireVillage_21 : decode cX10_requireVillage 21 = .ok (.athrow, 1) := by decide +kernel
theorem dX10_requireVillage_22 : decode cX10_requireVillage 22 = .ok (.return_, 1) := by decide +kernel
theorem dX10_requirePage_0 : decode cX10_requirePage 0 = .ok (.aload_n 0, 1) := by decide +kernel
theorem dX10_requirePage_1 : decode cX10_requirePage 1 = .ok (.getfield 22, 3) := by decide +kernel
theorem dX10_requirePage_4 : decode cX10_requirePage 4 = .ok (.getfield 149, 3) := by decide +kernel
theorem dX10_requirePage_7 : decode cX10_requirePage 7 = .ok (.iload_n 1, 1) := by decide +kernel
theorem dX10_requirePage_8 : decode cX10_requirePage 8 = .ok (.invokevirtual 323, 3) := by decide +kernel
theorem dX10_requirePage_11 : decode cX10_requirePage 11 = .ok (.ifCond .ne 11, 3) := by decide +kernel
theorem dX10_requirePage_14 : decode cX10_requirePage 14 = .ok (.new 205, 3) := by decide +kernel
theorem dX10_requirePage_17 : decode cX10_requirePage 17 = .ok (.dup, 1) := by decide +kernel
theorem dX10_requirePage_18 : decode cX10_requirePage 18 = .ok (.invokespecial 207, 3) := by decide +kernel
theorem dX10_requirePage_21 : decode cX10_requirePage 21 = .ok (.athrow, 1) := by decide +kernel
theorem dX10_requirePage_22 : decode cX10_requirePage 22 = .ok (.return_, 1) := by decide +kernel
theorem dX10_requireRange_0 : decode cX10_requireRange 0 = .ok (.iload_n 1, 1) := by decide +kernel
theorem dX10_requireRange_1 : decode cX10_requireRange 1 = .ok (.iload_n 2, 1) := by decide +kernel
theorem dX10_requireRange_2 : decode cX10_requireRange 2 = .ok (.iload_n 3, 1) := by decide +kernel
theorem dX10_requireRange_3 : decode cX10_requireRange 3 = .ok (.invokestatic 201, 3) := by decide +kernel
theorem dX10_requireRange_6 : decode cX10_requireRange 6 = .ok (.ifCond .ne 11, 3) := by decide +kernel
theorem dX10_requireRange_9 : decode cX10_requireRange 9 = .ok (.new 93, 3) := by decide +kernel
theorem dX10_requireRange_12 : decode cX10_requireRange 12 = .ok (.dup, 1) := by decide +kernel
theorem dX10_requireRange_13 : decode cX10_requireRange 13 = .ok (.invokespecial 95, 3) := by decide +kernel
theorem dX10_requireRange_16 : decode cX10_requireRange 16 = .ok (.athrow, 1) := by decide +kernel
theorem dX10_requireRange_17 : decode cX10_requireRange 17 = .ok (.return_, 1) := by decide +kernel
theorem dX10_requireForecast_0 : decode cX10_requireForecast 0 = .ok (.aload_n 0, 1) := by decide +kernel
theorem dX10_requireForecast_1 : decode cX10_requireForecast 1 = .ok (.iload_n 1, 1) := by decide +kernel
theorem dX10_requireForecast_2 : decode cX10_requireForecast 2 = .ok (.invokevirtual 139, 3) := by decide +kernel
theorem dX10_requireForecast_5 : decode cX10_requireForecast 5 = .ok (.aload_n 0, 1) := by decide +kernel
theorem dX10_requireForecast_6 : decode cX10_requireForecast 6 = .ok (.getfield 22, 3) := by decide +kernel
theorem dX10_requireForecast_9 : decode cX10_requireForecast 9 = .ok (.getfield 149, 3) := by decide +kernel
theorem dX10_requireForecast_12 : decode cX10_requireForecast 12 = .ok (.iload_n 1, 1) := by decide +kernel
theorem dX10_requireForecast_13 : decode cX10_requireForecast 13 = .ok (.iload_n 2, 1) := by decide +kernel
theorem dX10_requireForecast_14 : decode cX10_requireForecast 14 = .ok (.invokevirtual 186, 3) := by decide +kernel
theorem dX10_requireForecast_17 : decode cX10_requireForecast 17 = .ok (.istore_n 3, 1) := by decide +kernel
theorem dX10_requireForecast_18 : decode cX10_requireForecast 18 = .ok (.iload_n 3, 1) := by decide +kernel
theorem dX10_requireForecast_19 : decode cX10_requireForecast 19 = .ok (.iconst (-1), 1) := by decide +kernel
theorem dX10_requireForecast_20 : decode cX10_requireForecast 20 = .ok (.if_icmp .ne 11, 3) := by decide +kernel
theorem dX10_requireForecast_23 : decode cX10_requireForecast 23 = .ok (.new 205, 3) := by decide +kernel
theorem dX10_requireForecast_26 : decode cX10_requireForecast 26 = .ok (.dup, 1) := by decide +kernel
theorem dX10_requireForecast_27 : decode cX10_requireForecast 27 = .ok (.invokespecial 207, 3) := by decide +kernel
theorem dX10_requireForecast_30 : decode cX10_requireForecast 30 = .ok (.athrow, 1) := by decide +kernel
theorem dX10_requireForecast_31 : decode cX10_requireForecast 31 = .ok (.iload_n 3, 1) := by decide +kernel
theorem dX10_requireForecast_32 : decode cX10_requireForecast 32 = .ok (.ireturn, 1) := by decide +kernel
theorem dX10_isBetween_0 : decode cX10_isBetween 0 = .ok (.iload_n 0, 1) := by decide +kernel
theorem dX10_isBetween_1 : decode cX10_isBetween 1 = .ok (.iload_n 1, 1) := by decide +kernel
theorem dX10_isBetween_2 : decode cX10_isBetween 2 = .ok (.if_icmp .lt 12, 3) := by decide +kernel
theorem dX10_isBetween_5 : decode cX10_isBetween 5 = .ok (.iload_n 0, 1) := by decide +kernel
theorem dX10_isBetween_6 : decode cX10_isBetween 6 = .ok (.iload_n 2, 1) := by decide +kernel
theorem dX10_isBetween_7 : decode cX10_isBetween 7 = .ok (.if_icmp .gt 7, 3) := by decide +kernel
theorem dX10_isBetween_10 : decode cX10_isBetween 10 = .ok (.iconst 1, 1) := by decide +kernel
theorem dX10_isBetween_11 : decode cX10_isBetween 11 = .ok (.goto 4, 3) := by decide +kernel
theorem dX10_isBetween_14 : decode cX10_isBetween 14 = .ok (.iconst 0, 1) := by decide +kernel
theorem dX10_isBetween_15 : decode cX10_isBetween 15 = .ok (.ireturn, 1) := by decide +kernel
theorem dX10_isLetter_0 : decode cX10_isLetter 0 = .ok (.iload_n 0, 1) := by decide +kernel
theorem dX10_isLetter_1 : decode cX10_isLetter 1 = .ok (.bipush 97, 2) := by decide +kernel
theorem dX10_isLetter_3 : decode cX10_isLetter 3 = .ok (.if_icmp .lt 13, 3) := by decide +kernel
theorem dX10_isLetter_6 : decode cX10_isLetter 6 = .ok (.iload_n 0, 1) := by decide +kernel
theorem dX10_isLetter_7 : decode cX10_isLetter 7 = .ok (.bipush 122, 2) := by decide +kernel
theorem dX10_isLetter_9 : decode cX10_isLetter 9 = .ok (.if_icmp .gt 7, 3) := by decide +kernel
theorem dX10_isLetter_12 : decode cX10_isLetter 12 = .ok (.iconst 1, 1) := by decide +kernel
theorem dX10_isLetter_13 : decode cX10_isLetter 13 = .ok (.goto 4, 3) := by decide +kernel
theorem dX10_isLetter_16 : decode cX10_isLetter 16 = .ok (.iconst 0, 1) := by decide +kernel
theorem dX10_isLetter_17 : decode cX10_isLetter 17 = .ok (.ireturn, 1) := by decide +kernel
theorem dX10_isDigit_0 : decode cX10_isDigit 0 = .ok (.iload_n 0, 1) := by decide +kernel
theorem dX10_isDigit_1 : decode cX10_isDigit 1 = .ok (.bipush 48, 2) := by decide +kernel
theorem dX10_isDigit_3 : decode cX10_isDigit 3 = .ok (.if_icmp .lt 13, 3) := by decide +kernel
theorem dX10_isDigit_6 : decode cX10_isDigit 6 = .ok (.iload_n 0, 1) := by decide +kernel
theorem dX10_isDigit_7 : decode cX10_isDigit 7 = .ok (.bipush 57, 2) := by decide +kernel
theorem dX10_isDigit_9 : decode cX10_isDigit 9 = .ok (.if_icmp .gt 7, 3) := by decide +kernel
theorem dX10_isDigit_12 : decode cX10_isDigit 12 = .ok (.iconst 1, 1) := by decide +kernel
theorem dX10_isDigit_13 : decode cX10_isDigit 13 = .ok (.goto 4, 3) := by decide +kernel
theorem dX10_isDigit_16 : decode cX10_isDigit 16 = .ok (.iconst 0, 1) := by decide +kernel
theorem dX10_isDigit_17 : decode cX10_isDigit 17 = .ok (.ireturn, 1) := by decide +kernel
theorem dX10_placeIn_0 : decode cX10_placeIn 0 = .ok (.iconst 0, 1) := by decide +kernel
theorem dX10_placeIn_1 : decode cX10_placeIn 1 = .ok (.istore_n 3, 1) := by decide +kernel
theorem dX10_placeIn_2 : decode cX10_placeIn 2 = .ok (.iload_n 3, 1) := by decide +kernel
theorem dX10_placeIn_3 : decode cX10_placeIn 3 = .ok (.iload_n 1, 1) := by decide +kernel
theorem dX10_placeIn_4 : decode cX10_placeIn 4 = .ok (.if_icmp .ge 18, 3) := by decide +kernel
theorem dX10_placeIn_7 : decode cX10_placeIn 7 = .ok (.aload_n 0, 1) := by decide +kernel
theorem dX10_placeIn_8 : decode cX10_placeIn 8 = .ok (.iload_n 3, 1) := by decide +kernel
theorem dX10_placeIn_9 : decode cX10_placeIn 9 = .ok (.iaload, 1) := by decide +kernel
theorem dX10_placeIn_10 : decode cX10_placeIn 10 = .ok (.iload_n 2, 1) := by decide +kernel
theorem dX10_placeIn_11 : decode cX10_placeIn 11 = .ok (.if_icmp .ne 5, 3) := by decide +kernel
theorem dX10_placeIn_14 : decode cX10_placeIn 14 = .ok (.iload_n 3, 1) := by decide +kernel
theorem dX10_placeIn_15 : decode cX10_placeIn 15 = .ok (.ireturn, 1) := by decide +kernel
theorem dX10_placeIn_16 : decode cX10_placeIn 16 = .ok (.iinc 3 1, 3) := by decide +kernel
theorem dX10_placeIn_19 : decode cX10_placeIn 19 = .ok (.goto (-17), 3) := by decide +kernel
theorem dX10_placeIn_22 : decode cX10_placeIn 22 = .ok (.iconst (-1), 1) := by decide +kernel
theorem dX10_placeIn_23 : decode cX10_placeIn 23 = .ok (.ireturn, 1) := by decide +kernel
theorem dX10_labelOf_0 : decode cX10_labelOf 0 = .ok (.bipush 10, 2) := by decide +kernel
theorem dX10_labelOf_2 : decode cX10_labelOf 2 = .ok (.iload_n 1, 1) := by decide +kernel
theorem dX10_labelOf_3 : decode cX10_labelOf 3 = .ok (.imul, 1) := by decide +kernel
theorem dX10_labelOf_4 : decode cX10_labelOf 4 = .ok (.iload_n 0, 1) := by decide +kernel
theorem dX10_labelOf_5 : decode cX10_labelOf 5 = .ok (.iadd, 1) := by decide +kernel
theorem dX10_labelOf_6 : decode cX10_labelOf 6 = .ok (.ireturn, 1) := by decide +kernel
theorem dX11_init_0 : decode cX11_init 0 = .ok (.aload_n 0, 1) := by decide +kernel
theorem dX11_init_1 : decode cX11_init 1 = .ok (.invokespecial 1, 3) := by decide +kernel
theorem dX11_init_4 : decode cX11_init 4 = .ok (.aload_n 0, 1) := by decide +kernel
theorem dX11_init_5 : decode cX11_init 5 = .ok (.iconst 3, 1) := by decide +kernel
theorem dX11_init_6 : decode cX11_init 6 = .ok (.newarray .int, 2) := by decide +kernel
theorem dX11_init_8 : decode cX11_init 8 = .ok (.putfield 7, 3) := by decide +kernel
theorem dX11_init_11 : decode cX11_init 11 = .ok (.aload_n 0, 1) := by decide +kernel
theorem dX11_init_12 : decode cX11_init 12 = .ok (.iconst 3, 1) := by decide +kernel
theorem dX11_init_13 : decode cX11_init 13 = .ok (.newarray .int, 2) := by decide +kernel
theorem dX11_init_15 : decode cX11_init 15 = .ok (.putfield 13, 3) := by decide +kernel
theorem dX11_init_18 : decode cX11_init 18 = .ok (.aload_n 0, 1) := by decide +kernel
theorem dX11_init_19 : decode cX11_init 19 = .ok (.iconst 3, 1) := by decide +kernel
theorem dX11_init_20 : decode cX11_init 20 = .ok (.newarray .int, 2) := by decide +kernel
theorem dX11_init_22 : decode cX11_init 22 = .ok (.putfield 16, 3) := by decide +kernel
theorem dX11_init_25 : decode cX11_init 25 = .ok (.aload_n 0, 1) := by decide +kernel
theorem dX11_init_26 : decode cX11_init 26 = .ok (.iconst 3, 1) := by decide +kernel
theorem dX11_init_27 : decode cX11_init 27 = .ok (.newarray .int, 2) := by decide +kernel
theorem dX11_init_29 : decode cX11_init 29 = .ok (.putfield 19, 3) := by decide +kernel
theorem dX11_init_32 : decode cX11_init 32 = .ok (.aload_n 0, 1) := by decide +kernel
theorem dX11_init_33 : decode cX11_init 33 = .ok (.iconst 2, 1) := by decide +kernel
theorem dX11_init_34 : decode cX11_init 34 = .ok (.newarray .int, 2) := by decide +kernel
theorem dX11_init_36 : decode cX11_init 36 = .ok (.putfield 22, 3) := by decide +kernel
theorem dX11_init_39 : decode cX11_init 39 = .ok (.aload_n 0, 1) := by decide +kernel
theorem dX11_init_40 : decode cX11_init 40 = .ok (.iconst 2, 1) := by decide +kernel
theorem dX11_init_41 : decode cX11_init 41 = .ok (.newarray .int, 2) := by decide +kernel
theorem dX11_init_43 : decode cX11_init 43 = .ok (.putfield 25, 3) := by decide +kernel
theorem dX11_init_46 : decode cX11_init 46 = .ok (.aload_n 0, 1) := by decide +kernel
theorem dX11_init_47 : decode cX11_init 47 = .ok (.iconst 2, 1) := by decide +kernel
theorem dX11_init_48 : decode cX11_init 48 = .ok (.newarray .int, 2) := by decide +kernel
theorem dX11_init_50 : decode cX11_init 50 = .ok (.putfield 28, 3) := by decide +kernel
theorem dX11_init_53 : decode cX11_init 53 = .ok (.aload_n 0, 1) := by decide +kernel
theorem dX11_init_54 : decode cX11_init 54 = .ok (.iconst 2, 1) := by decide +kernel
theorem dX11_init_55 : decode cX11_init 55 = .ok (.newarray .int, 2) := by decide +kernel
theorem dX11_init_57 : decode cX11_init 57 = .ok (.putfield 31, 3) := by decide +kernel
theorem dX11_init_60 : decode cX11_init 60 = .ok (.aload_n 0, 1) := by decide +kernel
theorem dX11_init_61 : decode cX11_init 61 = .ok (.iconst 0, 1) := by decide +kernel
theorem dX11_init_62 : decode cX11_init 62 = .ok (.anewarray 34, 3) := by decide +kernel
theorem dX11_init_65 : decode cX11_init 65 = .ok (.putfield 35, 3) := by decide +kernel
theorem dX11_init_68 : decode cX11_init 68 = .ok (.aload_n 0, 1) := by decide +kernel
theorem dX11_init_69 : decode cX11_init 69 = .ok (.iconst 0, 1) := by decide +kernel
theorem dX11_init_70 : decode cX11_init 70 = .ok (.newarray .int, 2) := by decide +kernel
theorem dX11_init_72 : decode cX11_init 72 = .ok (.putfield 39, 3) := by decide +kernel
theorem dX11_init_75 : decode cX11_init 75 = .ok (.aload_n 0, 1) := by decide +kernel
theorem dX11_init_76 : decode cX11_init 76 = .ok (.aload_n 1, 1) := by decide +kernel
theorem dX11_init_77 : decode cX11_init 77 = .ok (.iconst 0, 1) := by decide +kernel
theorem dX11_init_78 : decode cX11_init 78 = .ok (.invokestatic 42, 3) := by decide +kernel
theorem dX11_init_81 : decode cX11_init 81 = .ok (.sipush 1024, 3) := by decide +kernel
theorem dX11_init_84 : decode cX11_init 84 = .ok (.irem, 1) := by decide +kernel
theorem dX11_init_85 : decode cX11_init 85 = .ok (.putfield 48, 3) := by decide +kernel
theorem dX11_init_88 : decode cX11_init 88 = .ok (.iconst 0, 1) := by decide +kernel
theorem dX11_init_89 : decode cX11_init 89 = .ok (.istore_n 2, 1) := by decide +kernel
theorem dX11_init_90 : decode cX11_init 90 = .ok (.iload_n 2, 1) := by decide +kernel
theorem dX11_init_91 : decode cX11_init 91 = .ok (.iconst 3, 1) := by decide +kernel
theorem dX11_init_92 : decode cX11_init 92 = .ok (.if_icmp .ge 42, 3) := by decide +kernel
theorem dX11_init_95 : decode cX11_init 95 = .ok (.aload_n 0, 1) := by decide +kernel
theorem dX11_init_96 : decode cX11_init 96 = .ok (.getfield 16, 3) := by decide +kernel
theorem dX11_init_99 : decode cX11_init 99 = .ok (.iload_n 2, 1) := by decide +kernel
theorem dX11_init_100 : decode cX11_init 100 = .ok (.aload_n 1, 1) := by decide +kernel
theorem dX11_init_101 : decode cX11_init 101 = .ok (.iload_n 2, 1) := by decide +kernel
theorem dX11_init_102 : decode cX11_init 102 = .ok (.invokestatic 52, 3) := by decide +kernel
theorem dX11_init_105 : decode cX11_init 105 = .ok (.iastore, 1) := by decide +kernel
theorem dX11_init_106 : decode cX11_init 106 = .ok (.aload_n 0, 1) := by decide +kernel
theorem dX11_init_107 : decode cX11_init 107 = .ok (.getfield 7, 3) := by decide +kernel
theorem dX11_init_110 : decode cX11_init 110 = .ok (.iload_n 2, 1) := by decide +kernel
theorem dX11_init_111 : decode cX11_init 111 = .ok (.aload_n 1, 1) := by decide +kernel
theorem dX11_init_112 : decode cX11_init 112 = .ok (.iload_n 2, 1) := by decide +kernel
theorem dX11_init_113 : decode cX11_init 113 = .ok (.invokestatic 54, 3) := by decide +kernel
theorem dX11_init_116 : decode cX11_init 116 = .ok (.iastore, 1) := by decide +kernel
theorem dX11_init_117 : decode cX11_init 117 = .ok (.aload_n 0, 1) := by decide +kernel
theorem dX11_init_118 : decode cX11_init 118 = .ok (.getfield 13, 3) := by decide +kernel
theorem dX11_init_121 : decode cX11_init 121 = .ok (.iload_n 2, 1) := by decide +kernel
theorem dX11_init_122 : decode cX11_init 122 = .ok (.aload_n 1, 1) := by decide +kernel
theorem dX11_init_123 : decode cX11_init 123 = .ok (.iload_n 2, 1) := by decide +kernel
theorem dX11_init_124 : decode cX11_init 124 = .ok (.invokestatic 56, 3) := by decide +kernel
theorem dX11_init_127 : decode cX11_init 127 = .ok (.iastore, 1) := by decide +kernel
theorem dX11_init_128 : decode cX11_init 128 = .ok (.iinc 2 1, 3) := by decide +kernel
theorem dX11_init_131 : decode cX11_init 131 = .ok (.goto (-41), 3) := by decide +kernel
theorem dX11_init_134 : decode cX11_init 134 = .ok (.iconst 0, 1) := by decide +kernel
theorem dX11_init_135 : decode cX11_init 135 = .ok (.istore_n 2, 1) := by decide +kernel
theorem dX11_init_136 : decode cX11_init 136 = .ok (.iload_n 2, 1) := by decide +kernel
theorem dX11_init_137 : decode cX11_init 137 = .ok (.iconst 2, 1) := by decide +kernel
theorem dX11_init_138 : decode cX11_init 138 = .ok (.if_icmp .ge 53, 3) := by decide +kernel
theorem dX11_init_141 : decode cX11_init 141 = .ok (.aload_n 0, 1) := by decide +kernel
theorem dX11_init_142 : decode cX11_init 142 = .ok (.getfield 22, 3) := by decide +kernel
theorem dX11_init_145 : decode cX11_init 145 = .ok (.iload_n 2, 1) := by decide +kernel
theorem dX11_init_146 : decode cX11_init 146 = .ok (.aload_n 1, 1) := by decide +kernel
theorem dX11_init_147 : decode cX11_init 147 = .ok (.iload_n 2, 1) := by decide +kernel
theorem dX11_init_148 : decode cX11_init 148 = .ok (.invokestatic 58, 3) := by decide +kernel
theorem dX11_init_151 : decode cX11_init 151 = .ok (.iastore, 1) := by decide +kernel
theorem dX11_init_152 : decode cX11_init 152 = .ok (.aload_n 0, 1) := by decide +kernel
theorem dX11_init_153 : decode cX11_init 153 = .ok (.getfield 25, 3) := by decide +kernel
theorem dX11_init_156 : decode cX11_init 156 = .ok (.iload_n 2, 1) := by decide +kernel
theorem dX11_init_157 : decode cX11_init 157 = .ok (.aload_n 1, 1) := by decide +kernel
theorem dX11_init_158 : decode cX11_init 158 = .ok (.iload_n 2, 1) := by decide +kernel
theorem dX11_init_159 : decode cX11_init 159 = .ok (.invokestatic 61, 3) := by decide +kernel
theorem dX11_init_162 : decode cX11_init 162 = .ok (.iastore, 1) := by decide +kernel
theorem dX11_init_163 : decode cX11_init 163 = .ok (.aload_n 0, 1) := by decide +kernel
theorem dX11_init_164 : decode cX11_init 164 = .ok (.getfield 28, 3) := by decide +kernel
theorem dX11_init_167 : decode cX11_init 167 = .ok (.iload_n 2, 1) := by decide +kernel
theorem dX11_init_168 : decode cX11_init 168 = .ok (.aload_n 1, 1) := by decide +kernel
theorem dX11_init_169 : decode cX11_init 169 = .ok (.iload_n 2, 1) := by decide +kernel
theorem dX11_init_170 : decode cX11_init 170 = .ok (.invokestatic 63, 3) := by decide +kernel
theorem dX11_init_173 : decode cX11_init 173 = .ok (.iastore, 1) := by decide +kernel
theorem dX11_init_174 : decode cX11_init 174 = .ok (.aload_n 0, 1) := by decide +kernel
theorem dX11_init_175 : decode cX11_init 175 = .ok (.getfield 31, 3) := by decide +kernel
theorem dX11_init_178 : decode cX11_init 178 = .ok (.iload_n 2, 1) := by decide +kernel
theorem dX11_init_179 : decode cX11_init 179 = .ok (.aload_n 1, 1) := by decide +kernel
theorem dX11_init_180 : decode cX11_init 180 = .ok (.iload_n 2, 1) := by decide +kernel
theorem dX11_init_181 : decode cX11_init 181 = .ok (.invokestatic 65, 3) := by decide +kernel
theorem dX11_init_184 : decode cX11_init 184 = .ok (.iastore, 1) := by decide +kernel
theorem dX11_init_185 : decode cX11_init 185 = .ok (.iinc 2 1, 3) := by decide +kernel
theorem dX11_init_188 : decode cX11_init 188 = .ok (.goto (-52), 3) := by decide +kernel
theorem dX11_init_191 : decode cX11_init 191 = .ok (.return_, 1) := by decide +kernel
theorem dX11_with_0 : decode cX11_with 0 = .ok (.aload_n 0, 1) := by decide +kernel
theorem dX11_with_1 : decode cX11_with 1 = .ok (.arraylength, 1) := by decide +kernel
theorem dX11_with_2 : decode cX11_with 2 = .ok (.iconst 1, 1) := by decide +kernel
theorem dX11_with_3 : decode cX11_with 3 = .ok (.iadd, 1) := by decide +kernel
theorem dX11_with_4 : decode cX11_with 4 = .ok (.anewarray 34, 3) := by decide +kernel
theorem dX11_with_7 : decode cX11_with 7 = .ok (.astore_n 2, 1) := by decide +kernel
theorem dX11_with_8 : decode cX11_with 8 = .ok (.iconst 0, 1) := by decide +kernel
theorem dX11_with_9 : decode cX11_with 9 = .ok (.istore_n 3, 1) := by decide +kernel
theorem dX11_with_10 : decode cX11_with 10 = .ok (.iload_n 3, 1) := by decide +kernel
theorem dX11_with_11 : decode cX11_with 11 = .ok (.aload_n 0, 1) := by decide +kernel
theorem dX11_with_12 : decode cX11_with 12 = .ok (.arraylength, 1) := by decide +kernel
theorem dX11_with_13 : decode cX11_with 13 = .ok (.if_icmp .ge 15, 3) := by decide +kernel
theorem dX11_with_16 : decode cX11_with 16 = .ok (.aload_n 2, 1) := by decide +kernel
theorem dX11_with_17 : decode cX11_with 17 = .ok (.iload_n 3, 1) := by decide +kernel
theorem dX11_with_18 : decode cX11_with 18 = .ok (.aload_n 0, 1) := by decide +kernel
theorem dX11_with_19 : decode cX11_with 19 = .ok (.iload_n 3, 1) := by decide +kernel
theorem dX11_with_20 : decode cX11_with 20 = .ok (.aaload, 1) := by decide +kernel
theorem dX11_with_21 : decode cX11_with 21 = .ok (.aastore, 1) := by decide +kernel
theorem dX11_with_22 : decode cX11_with 22 = .ok (.iinc 3 1, 3) := by decide +kernel
theorem dX11_with_25 : decode cX11_with 25 = .ok (.goto (-15), 3) := by decide +kernel
theorem dX11_with_28 : decode cX11_with 28 = .ok (.aload_n 2, 1) := by decide +kernel
theorem dX11_with_29 : decode cX11_with 29 = .ok (.aload_n 0, 1) := by decide +kernel
theorem dX11_with_30 : decode cX11_with 30 = .ok (.arraylength, 1) := by decide +kernel
theorem dX11_with_31 : decode cX11_with 31 = .ok (.aload_n 1, 1) := by decide +kernel
theorem dX11_with_32 : decode cX11_with 32 = .ok (.aastore, 1) := by decide +kernel
theorem dX11_with_33 : decode cX11_with 33 = .ok (.aload_n 2, 1) := by decide +kernel
theorem dX11_with_34 : decode cX11_with 34 = .ok (.areturn, 1) := by decide +kernel
theorem dX11_without_0 : decode cX11_without 0 = .ok (.aload_n 0, 1) := by decide +kernel
theorem dX11_without_1 : decode cX11_without 1 = .ok (.arraylength, 1) := by decide +kernel
theorem dX11_without_2 : decode cX11_without 2 = .ok (.iconst 1, 1) := by decide +kernel
theorem dX11_without_3 : decode cX11_without 3 = .ok (.isub, 1) := by decide +kernel
theorem dX11_without_4 : decode cX11_without 4 = .ok (.anewarray 34, 3) := by decide +kernel
theorem dX11_without_7 : decode cX11_without 7 = .ok (.astore_n 2, 1) := by decide +kernel
theorem dX11_without_8 : decode cX11_without 8 = .ok (.iconst 0, 1) := by decide +kernel
theorem dX11_without_9 : decode cX11_without 9 = .ok (.istore_n 3, 1) := by decide +kernel
theorem dX11_without_10 : decode cX11_without 10 = .ok (.iload_n 3, 1) := by decide +kernel
theorem dX11_without_11 : decode cX11_without 11 = .ok (.aload_n 2, 1) := by decide +kernel
theorem dX11_without_12 : decode cX11_without 12 = .ok (.arraylength, 1) := by decide +kernel
theorem dX11_without_13 : decode cX11_without 13 = .ok (.if_icmp .ge 26, 3) := by decide +kernel
theorem dX11_without_16 : decode cX11_without 16 = .ok (.aload_n 2, 1) := by decide +kernel
theorem dX11_without_17 : decode cX11_without 17 = .ok (.iload_n 3, 1) := by decide +kernel
theorem dX11_without_18 : decode cX11_without 18 = .ok (.aload_n 0, 1) := by decide +kernel
theorem dX11_without_19 : decode cX11_without 19 = .ok (.iload_n 3, 1) := by decide +kernel
theorem dX11_without_20 : decode cX11_without 20 = .ok (.iload_n 1, 1) := by decide +kernel
theorem dX11_without_21 : decode cX11_without 21 = .ok (.if_icmp .ge 7, 3) := by decide +kernel
theorem dX11_without_24 : decode cX11_without 24 = .ok (.iload_n 3, 1) := by decide +kernel
theorem dX11_without_25 : decode cX11_without 25 = .ok (.goto 6, 3) := by decide +kernel
theorem dX11_without_28 : decode cX11_without 28 = .ok (.iload_n 3, 1) := by decide +kernel
theorem dX11_without_29 : decode cX11_without 29 = .ok (.iconst 1, 1) := by decide +kernel
theorem dX11_without_30 : decode cX11_without 30 = .ok (.iadd, 1) := by decide +kernel
theorem dX11_without_31 : decode cX11_without 31 = .ok (.aaload, 1) := by decide +kernel
theorem dX11_without_32 : decode cX11_without 32 = .ok (.aastore, 1) := by decide +kernel
theorem dX11_without_33 : decode cX11_without 33 = .ok (.iinc 3 1, 3) := by decide +kernel
theorem dX11_without_36 : decode cX11_without 36 = .ok (.goto (-26), 3) := by decide +kernel
theorem dX11_without_39 : decode cX11_without 39 = .ok (.aload_n 2, 1) := by decide +kernel
theorem dX11_without_40 : decode cX11_without 40 = .ok (.areturn, 1) := by decide +kernel
theorem dX11_find_0 : decode cX11_find 0 = .ok (.iconst 0, 1) := by decide +kernel
theorem dX11_find_1 : decode cX11_find 1 = .ok (.istore_n 3, 1) := by decide +kernel
theorem dX11_find_2 : decode cX11_find 2 = .ok (.iload_n 3, 1) := by decide +kernel
theorem dX11_find_3 : decode cX11_find 3 = .ok (.aload_n 0, 1) := by decide +kernel
theorem dX11_find_4 : decode cX11_find 4 = .ok (.getfield 35, 3) := by decide +kernel
theorem dX11_find_7 : decode cX11_find 7 = .ok (.arraylength, 1) := by decide +kernel
theorem dX11_find_8 : decode cX11_find 8 = .ok (.if_icmp .ge 35, 3) := by decide +kernel
theorem dX11_find_11 : decode cX11_find 11 = .ok (.aload_n 0, 1) := by decide +kernel
theorem dX11_find_12 : decode cX11_find 12 = .ok (.getfield 35, 3) := by decide +kernel
theorem dX11_find_15 : decode cX11_find 15 = .ok (.iload_n 3, 1) := by decide +kernel
theorem dX11_find_16 : decode cX11_find 16 = .ok (.aaload, 1) := by decide +kernel
theorem dX11_find_17 : decode cX11_find 17 = .ok (.iconst 0, 1) := by decide +kernel
theorem dX11_find_18 : decode cX11_find 18 = .ok (.iaload, 1) := by decide +kernel
theorem dX11_find_19 : decode cX11_find 19 = .ok (.iload_n 1, 1) := by decide +kernel
theorem dX11_find_20 : decode cX11_find 20 = .ok (.if_icmp .ne 17, 3) := by decide +kernel
theorem dX11_find_23 : decode cX11_find 23 = .ok (.aload_n 0, 1) := by decide +kernel
theorem dX11_find_24 : decode cX11_find 24 = .ok (.getfield 35, 3) := by decide +kernel
theorem dX11_find_27 : decode cX11_find 27 = .ok (.iload_n 3, 1) := by decide +kernel
theorem dX11_find_28 : decode cX11_find 28 = .ok (.aaload, 1) := by decide +kernel
theorem dX11_find_29 : decode cX11_find 29 = .ok (.iconst 1, 1) := by decide +kernel
theorem dX11_find_30 : decode cX11_find 30 = .ok (.iaload, 1) := by decide +kernel
theorem dX11_find_31 : decode cX11_find 31 = .ok (.iload_n 2, 1) := by decide +kernel
theorem dX11_find_32 : decode cX11_find 32 = .ok (.if_icmp .ne 5, 3) := by decide +kernel
theorem dX11_find_35 : decode cX11_find 35 = .ok (.iload_n 3, 1) := by decide +kernel
theorem dX11_find_36 : decode cX11_find 36 = .ok (.ireturn, 1) := by decide +kernel
theorem dX11_find_37 : decode cX11_find 37 = .ok (.iinc 3 1, 3) := by decide +kernel
theorem dX11_find_40 : decode cX11_find 40 = .ok (.goto (-38), 3) := by decide +kernel
theorem dX11_find_43 : decode cX11_find 43 = .ok (.iconst (-1), 1) := by decide +kernel
theorem dX11_find_44 : decode cX11_find 44 = .ok (.ireturn, 1) := by decide +kernel
theorem dX11_remembers_0 : decode cX11_remembers 0 = .ok (.aload_n 0, 1) := by decide +kernel
theorem dX11_remembers_1 : decode cX11_remembers 1 = .ok (.getfield 39, 3) := by decide +kernel
theorem dX11_remembers_4 : decode cX11_remembers 4 = .ok (.arraylength, 1) := by decide +kernel
theorem dX11_remembers_5 : decode cX11_remembers 5 = .ok (.bipush 10, 2) := by decide +kernel
theorem dX11_remembers_7 : decode cX11_remembers 7 = .ok (.if_icmp .ne 7, 3) := by decide +kernel
theorem dX11_remembers_10 : decode cX11_remembers 10 = .ok (.iconst 1, 1) := by decide +kernel
theorem dX11_remembers_11 : decode cX11_remembers 11 = .ok (.goto 4, 3) := by decide +kernel
theorem dX11_remembers_14 : decode cX11_remembers 14 = .ok (.iconst 0, 1) := by decide +kernel
theorem dX11_remembers_15 : decode cX11_remembers 15 = .ok (.istore_n 2, 1) := by decide +kernel
theorem dX11_remembers_16 : decode cX11_remembers 16 = .ok (.aload_n 0, 1) := by decide +kernel
theorem dX11_remembers_17 : decode cX11_remembers 17 = .ok (.getfield 39, 3) := by decide +kernel
theorem dX11_remembers_20 : decode cX11_remembers 20 = .ok (.arraylength, 1) := by decide +kernel
theorem dX11_remembers_21 : decode cX11_remembers 21 = .ok (.iload_n 2, 1) := by decide +kernel
theorem dX11_remembers_22 : decode cX11_remembers 22 = .ok (.isub, 1) := by decide +kernel
theorem dX11_remembers_23 : decode cX11_remembers 23 = .ok (.iconst 1, 1) := by decide +kernel
theorem dX11_remembers_24 : decode cX11_remembers 24 = .ok (.iadd, 1) := by decide +kernel
theorem dX11_remembers_25 : decode cX11_remembers 25 = .ok (.newarray .int, 2) := by decide +kernel
theorem dX11_remembers_27 : decode cX11_remembers 27 = .ok (.astore_n 3, 1) := by decide +kernel
theorem dX11_remembers_28 : decode cX11_remembers 28 = .ok (.iconst 0, 1) := by decide +kernel
theorem dX11_remembers_29 : decode cX11_remembers 29 = .ok (.istore 4, 2) := by decide +kernel
theorem dX11_remembers_31 : decode cX11_remembers 31 = .ok (.iload 4, 2) := by decide +kernel
theorem dX11_remembers_33 : decode cX11_remembers 33 = .ok (.aload_n 3, 1) := by decide +kernel
theorem dX11_remembers_34 : decode cX11_remembers 34 = .ok (.arraylength, 1) := by decide +kernel
theorem dX11_remembers_35 : decode cX11_remembers 35 = .ok (.iconst 1, 1) := by decide +kernel
theorem dX11_remembers_36 : decode cX11_remembers 36 = .ok (.isub, 1) := by decide +kernel
theorem dX11_remembers_37 : decode cX11_remembers 37 = .ok (.if_icmp .ge 22, 3) := by decide +kernel
theorem dX11_remembers_40 : decode cX11_remembers 40 = .ok (.aload_n 3, 1) := by decide +kernel
theorem dX11_remembers_41 : decode cX11_remembers 41 = .ok (.iload 4, 2) := by decide +kernel
theorem dX11_remembers_43 : decode cX11_remembers 43 = .ok (.aload_n 0, 1) := by decide +kernel
theorem dX11_remembers_44 : decode cX11_remembers 44 = .ok (.getfield 39, 3) := by decide +kernel
theorem dX11_remembers_47 : decode cX11_remembers 47 = .ok (.iload 4, 2) := by decide +kernel
theorem dX11_remembers_49 : decode cX11_remembers 49 = .ok (.iload_n 2, 1) := by decide +kernel
theorem dX11_remembers_50 : decode cX11_remembers 50 = .ok (.iadd, 1) := by decide +kernel
theorem dX11_remembers_51 : decode cX11_remembers 51 = .ok (.iaload, 1) := by decide +kernel
theorem dX11_remembers_52 : decode cX11_remembers 52 = .ok (.iastore, 1) := by decide +kernel
theorem dX11_remembers_53 : decode cX11_remembers 53 = .ok (.iinc 4 1, 3) := by decide +kernel
theorem dX11_remembers_56 : decode cX11_remembers 56 = .ok (.goto (-25), 3) := by decide +kernel
theorem dX11_remembers_59 : decode cX11_remembers 59 = .ok (.aload_n 3, 1) := by decide +kernel
theorem dX11_remembers_60 : decode cX11_remembers 60 = .ok (.aload_n 3, 1) := by decide +kernel
theorem dX11_remembers_61 : decode cX11_remembers 61 = .ok (.arraylength, 1) := by decide +kernel
theorem dX11_remembers_62 : decode cX11_remembers 62 = .ok (.iconst 1, 1) := by decide +kernel
theorem dX11_remembers_63 : decode cX11_remembers 63 = .ok (.isub, 1) := by decide +kernel
theorem dX11_remembers_64 : decode cX11_remembers 64 = .ok (.iload_n 1, 1) := by decide +kernel
theorem dX11_remembers_65 : decode cX11_remembers 65 = .ok (.iastore, 1) := by decide +kernel
theorem dX11_remembers_66 : decode cX11_remembers 66 = .ok (.aload_n 0, 1) := by decide +kernel
theorem dX11_remembers_67 : decode cX11_remembers 67 = .ok (.aload_n 3, 1) := by decide +kernel
theorem dX11_remembers_68 : decode cX11_remembers 68 = .ok (.putfield 39, 3) := by decide +kernel
theorem dX11_remembers_71 : decode cX11_remembers 71 = .ok (.aload_n 0, 1) := by decide +kernel
theorem dX11_remembers_72 : decode cX11_remembers 72 = .ok (.dup, 1) := by decide +kernel
theorem dX11_remembers_73 : decode cX11_remembers 73 = .ok (.getfield 67, 3) := by decide +kernel
theorem dX11_remembers_76 : decode cX11_remembers 76 = .ok (.iconst 1, 1) := by decide +kernel
theorem dX11_remembers_77 : decode cX11_remembers 77 = .ok (.iadd, 1) := by decide +kernel
theorem dX11_remembers_78 : decode cX11_remembers 78 = .ok (.putfield 67, 3) := by decide +kernel
theorem dX11_remembers_81 : decode cX11_remembers 81 = .ok (.return_, 1) := by decide +kernel
theorem dX11_fair_0 : decode cX11_fair 0 = .ok (.aload_n 0, 1) := by decide +kernel
theorem dX11_fair_1 : decode cX11_fair 1 = .ok (.getfield 28, 3) := by decide +kernel
theorem dX11_fair_4 : decode cX11_fair 4 = .ok (.iload_n 1, 1) := by decide +kernel
theorem dX11_fair_5 : decode cX11_fair 5 = .ok (.iaload, 1) := by decide +kernel
theorem dX11_fair_6 : decode cX11_fair 6 = .ok (.istore_n 2, 1) := by decide +kernel
theorem dX11_fair_7 : decode cX11_fair 7 = .ok (.aload_n 0, 1) := by decide +kernel
theorem dX11_fair_8 : decode cX11_fair 8 = .ok (.getfield 35, 3) := by decide +kernel
theorem dX11_fair_11 : decode cX11_fair 11 = .ok (.astore_n 3, 1) := by decide +kernel
theorem dX11_fair_12 : decode cX11_fair 12 = .ok (.aload_n 3, 1) := by decide +kernel
theorem dX11_fair_13 : decode cX11_fair 13 = .ok (.arraylength, 1) := by decide +kernel
theorem dX11_fair_14 : decode cX11_fair 14 = .ok (.istore 4, 2) := by decide +kernel
theorem dX11_fair_16 : decode cX11_fair 16 = .ok (.iconst 0, 1) := by decide +kernel
theorem dX11_fair_17 : decode cX11_fair 17 = .ok (.istore 5, 2) := by decide +kernel
theorem dX11_fair_19 : decode cX11_fair 19 = .ok (.iload 5, 2) := by decide +kernel
theorem dX11_fair_21 : decode cX11_fair 21 = .ok (.iload 4, 2) := by decide +kernel
theorem dX11_fair_23 : decode cX11_fair 23 = .ok (.if_icmp .ge 127, 3) := by decide +kernel
theorem dX11_fair_26 : decode cX11_fair 26 = .ok (.aload_n 3, 1) := by decide +kernel
theorem dX11_fair_27 : decode cX11_fair 27 = .ok (.iload 5, 2) := by decide +kernel
theorem dX11_fair_29 : decode cX11_fair 29 = .ok (.aaload, 1) := by decide +kernel
theorem dX11_fair_30 : decode cX11_fair 30 = .ok (.astore 6, 2) := by decide +kernel
theorem dX11_fair_32 : decode cX11_fair 32 = .ok (.aload 6, 2) := by decide +kernel
theorem dX11_fair_34 : decode cX11_fair 34 = .ok (.iconst 0, 1) := by decide +kernel
theorem dX11_fair_35 : decode cX11_fair 35 = .ok (.iaload, 1) := by decide +kernel
theorem dX11_fair_36 : decode cX11_fair 36 = .ok (.aload_n 0, 1) := by decide +kernel
theorem dX11_fair_37 : decode cX11_fair 37 = .ok (.getfield 22, 3) := by decide +kernel
theorem dX11_fair_40 : decode cX11_fair 40 = .ok (.iload_n 1, 1) := by decide +kernel
theorem dX11_fair_41 : decode cX11_fair 41 = .ok (.iaload, 1) := by decide +kernel
theorem dX11_fair_42 : decode cX11_fair 42 = .ok (.if_icmp .ne 102, 3) := by decide +kernel
theorem dX11_fair_45 : decode cX11_fair 45 = .ok (.aload 6, 2) := by decide +kernel
theorem dX11_fair_47 : decode cX11_fair 47 = .ok (.iconst 1, 1) := by decide +kernel
theorem dX11_fair_48 : decode cX11_fair 48 = .ok (.iaload, 1) := by decide +kernel
theorem dX11_fair_49 : decode cX11_fair 49 = .ok (.aload_n 0, 1) := by decide +kernel
theorem dX11_fair_50 : decode cX11_fair 50 = .ok (.getfield 70, 3) := by decide +kernel
theorem dX11_fair_53 : decode cX11_fair 53 = .ok (.if_icmp .gt 6, 3) := by decide +kernel
theorem dX11_fair_56 : decode cX11_fair 56 = .ok (.goto 88, 3) := by decide +kernel
theorem dX11_fair_59 : decode cX11_fair 59 = .ok (.iload_n 2, 1) := by decide +kernel
theorem dX11_fair_60 : decode cX11_fair 60 = .ok (.iconst 0, 1) := by decide +kernel
theorem dX11_fair_61 : decode cX11_fair 61 = .ok (.aload_n 0, 1) := by decide +kernel
theorem dX11_fair_62 : decode cX11_fair 62 = .ok (.getfield 7, 3) := by decide +kernel
theorem dX11_fair_65 : decode cX11_fair 65 = .ok (.aload 6, 2) := by decide +kernel
theorem dX11_fair_67 : decode cX11_fair 67 = .ok (.iconst 0, 1) := by decide +kernel
theorem dX11_fair_68 : decode cX11_fair 68 = .ok (.iaload, 1) := by decide +kernel
theorem dX11_fair_69 : decode cX11_fair 69 = .ok (.iaload, 1) := by decide +kernel
theorem dX11_fair_70 : decode cX11_fair 70 = .ok (.aload 6, 2) := by decide +kernel
theorem dX11_fair_72 : decode cX11_fair 72 = .ok (.iconst 3, 1) := by decide +kernel
theorem dX11_fair_73 : decode cX11_fair 73 = .ok (.iaload, 1) := by decide +kernel
theorem dX11_fair_74 : decode cX11_fair 74 = .ok (.isub, 1) := by decide +kernel
theorem dX11_fair_75 : decode cX11_fair 75 = .ok (.invokestatic 73, 3) := by decide +kernel
theorem dX11_fair_78 : decode cX11_fair 78 = .ok (.aload_n 0, 1) := by decide +kernel
theorem dX11_fair_79 : decode cX11_fair 79 = .ok (.getfield 13, 3) := by decide +kernel
theorem dX11_fair_82 : decode cX11_fair 82 = .ok (.aload 6, 2) := by decide +kernel
theorem dX11_fair_84 : decode cX11_fair 84 = .ok (.iconst 0, 1) := by decide +kernel
theorem dX11_fair_85 : decode cX11_fair 85 = .ok (.iaload, 1) := by decide +kernel
theorem dX11_fair_86 : decode cX11_fair 86 = .ok (.iaload, 1) := by decide +kernel
theorem dX11_fair_87 : decode cX11_fair 87 = .ok (.imul, 1) := by decide +kernel
theorem dX11_fair_88 : decode cX11_fair 88 = .ok (.bipush 100, 2) := by decide +kernel
theorem dX11_fair_90 : decode cX11_fair 90 = .ok (.idiv, 1) := by decide +kernel
theorem dX11_fair_91 : decode cX11_fair 91 = .ok (.invokestatic 79, 3) := by decide +kernel
theorem dX11_fair_94 : decode cX11_fair 94 = .ok (.istore 7, 2) := by decide +kernel
theorem dX11_fair_96 : decode cX11_fair 96 = .ok (.iload_n 2, 1) := by decide +kernel
theorem dX11_fair_97 : decode cX11_fair 97 = .ok (.iload 7, 2) := by decide +kernel
theorem dX11_fair_99 : decode cX11_fair 99 = .ok (.isub, 1) := by decide +kernel
theorem dX11_fair_100 : decode cX11_fair 100 = .ok (.istore_n 2, 1) := by decide +kernel
theorem dX11_fair_101 : decode cX11_fair 101 = .ok (.aload 6, 2) := by decide +kernel
theorem dX11_fair_103 : decode cX11_fair 103 = .ok (.iconst 3, 1) := by decide +kernel
theorem dX11_fair_104 : decode cX11_fair 104 = .ok (.dup2, 1) := by decide +kernel
theorem dX11_fair_105 : decode cX11_fair 105 = .ok (.iaload, 1) := by decide +kernel
theorem dX11_fair_106 : decode cX11_fair 106 = .ok (.iload 7, 2) := by decide +kernel
theorem dX11_fair_108 : decode cX11_fair 108 = .ok (.iadd, 1) := by decide +kernel
theorem dX11_fair_109 : decode cX11_fair 109 = .ok (.iastore, 1) := by decide +kernel
theorem dX11_fair_110 : decode cX11_fair 110 = .ok (.aload 6, 2) := by decide +kernel
theorem dX11_fair_112 : decode cX11_fair 112 = .ok (.iconst 4, 1) := by decide +kernel
theorem dX11_fair_113 : decode cX11_fair 113 = .ok (.dup2, 1) := by decide +kernel
theorem dX11_fair_114 : decode cX11_fair 114 = .ok (.iaload, 1) := by decide +kernel
theorem dX11_fair_115 : decode cX11_fair 115 = .ok (.iload 7, 2) := by decide +kernel
theorem dX11_fair_117 : decode cX11_fair 117 = .ok (.aload_n 0, 1) := by decide +kernel
theorem dX11_fair_118 : decode cX11_fair 118 = .ok (.getfield 31, 3) := by decide +kernel
theorem dX11_fair_121 : decode cX11_fair 121 = .ok (.iload_n 1, 1) := by decide +kernel
theorem dX11_fair_122 : decode cX11_fair 122 = .ok (.iaload, 1) := by decide +kernel
theorem dX11_fair_123 : decode cX11_fair 123 = .ok (.imul, 1) := by decide +kernel
theorem dX11_fair_124 : decode cX11_fair 124 = .ok (.iadd, 1) := by decide +kernel
theorem dX11_fair_125 : decode cX11_fair 125 = .ok (.iastore, 1) := by decide +kernel
theorem dX11_fair_126 : decode cX11_fair 126 = .ok (.aload_n 0, 1) := by decide +kernel
theorem dX11_fair_127 : decode cX11_fair 127 = .ok (.dup, 1) := by decide +kernel
theorem dX11_fair_128 : decode cX11_fair 128 = .ok (.getfield 82, 3) := by decide +kernel
theorem dX11_fair_131 : decode cX11_fair 131 = .ok (.iload 7, 2) := by decide +kernel
theorem dX11_fair_133 : decode cX11_fair 133 = .ok (.aload_n 0, 1) := by decide +kernel
theorem dX11_fair_134 : decode cX11_fair 134 = .ok (.getfield 31, 3) := by decide +kernel
theorem dX11_fair_137 : decode cX11_fair 137 = .ok (.iload_n 1, 1) := by decide +kernel
theorem dX11_fair_138 : decode cX11_fair 138 = .ok (.iaload, 1) := by decide +kernel
theorem dX11_fair_139 : decode cX11_fair 139 = .ok (.imul, 1) := by decide +kernel
theorem dX11_fair_140 : decode cX11_fair 140 = .ok (.iadd, 1) := by decide +kernel
theorem dX11_fair_141 : decode cX11_fair 141 = .ok (.putfield 82, 3) := by decide +kernel
theorem dX11_fair_144 : decode cX11_fair 144 = .ok (.iinc 5 1, 3) := by decide +kernel
theorem dX11_fair_147 : decode cX11_fair 147 = .ok (.goto (-128), 3) := by decide +kernel
theorem dX11_fair_150 : decode cX11_fair 150 = .ok (.return_, 1) := by decide +kernel
theorem dX11_weather_0 : decode cX11_weather 0 = .ok (.aload_n 0, 1) := by decide +kernel
theorem dX11_weather_1 : decode cX11_weather 1 = .ok (.bipush 29, 2) := by decide +kernel
theorem dX11_weather_3 : decode cX11_weather 3 = .ok (.aload_n 0, 1) := by decide +kernel
theorem dX11_weather_4 : decode cX11_weather 4 = .ok (.getfield 48, 3) := by decide +kernel
theorem dX11_weather_7 : decode cX11_weather 7 = .ok (.imul, 1) := by decide +kernel
theorem dX11_weather_8 : decode cX11_weather 8 = .ok (.bipush 11, 2) := by decide +kernel
theorem dX11_weather_10 : decode cX11_weather 10 = .ok (.iadd, 1) := by decide +kernel
theorem dX11_weather_11 : decode cX11_weather 11 = .ok (.sipush 1024, 3) := by decide +kernel
theorem dX11_weather_14 : decode cX11_weather 14 = .ok (.irem, 1) := by decide +kernel
theorem dX11_weather_15 : decode cX11_weather 15 = .ok (.putfield 48, 3) := by decide +kernel
theorem dX11_weather_18 : decode cX11_weather 18 = .ok (.aload_n 0, 1) := by decide +kernel
theorem dX11_weather_19 : decode cX11_weather 19 = .ok (.getfield 48, 3) := by decide +kernel
theorem dX11_weather_22 : decode cX11_weather 22 = .ok (.aload_n 0, 1) := by decide +kernel
theorem dX11_weather_23 : decode cX11_weather 23 = .ok (.getfield 16, 3) := by decide +kernel
theorem dX11_weather_26 : decode cX11_weather 26 = .ok (.iconst 0, 1) := by decide +kernel
theorem dX11_weather_27 : decode cX11_weather 27 = .ok (.iaload, 1) := by decide +kernel
theorem dX11_weather_28 : decode cX11_weather 28 = .ok (.aload_n 0, 1) := by decide +kernel
theorem dX11_weather_29 : decode cX11_weather 29 = .ok (.getfield 16, 3) := by decide +kernel
theorem dX11_weather_32 : decode cX11_weather 32 = .ok (.iconst 1, 1) := by decide +kernel
theorem dX11_weather_33 : decode cX11_weather 33 = .ok (.iaload, 1) := by decide +kernel
theorem dX11_weather_34 : decode cX11_weather 34 = .ok (.iadd, 1) := by decide +kernel
theorem dX11_weather_35 : decode cX11_weather 35 = .ok (.aload_n 0, 1) := by decide +kernel
theorem dX11_weather_36 : decode cX11_weather 36 = .ok (.getfield 16, 3) := by decide +kernel
theorem dX11_weather_39 : decode cX11_weather 39 = .ok (.iconst 2, 1) := by decide +kernel
theorem dX11_weather_40 : decode cX11_weather 40 = .ok (.iaload, 1) := by decide +kernel
theorem dX11_weather_41 : decode cX11_weather 41 = .ok (.iadd, 1) := by decide +kernel
theorem dX11_weather_42 : decode cX11_weather 42 = .ok (.irem, 1) := by decide +kernel
theorem dX11_weather_43 : decode cX11_weather 43 = .ok (.istore_n 2, 1) := by decide +kernel
theorem dX11_weather_44 : decode cX11_weather 44 = .ok (.iload_n 2, 1) := by decide +kernel
theorem dX11_weather_45 : decode cX11_weather 45 = .ok (.aload_n 0, 1) := by decide +kernel
theorem dX11_weather_46 : decode cX11_weather 46 = .ok (.getfield 16, 3) := by decide +kernel
theorem dX11_weather_49 : decode cX11_weather 49 = .ok (.iconst 0, 1) := by decide +kernel
theorem dX11_weather_50 : decode cX11_weather 50 = .ok (.iaload, 1) := by decide +kernel
theorem dX11_weather_51 : decode cX11_weather 51 = .ok (.if_icmp .ge 7, 3) := by decide +kernel
theorem dX11_weather_54 : decode cX11_weather 54 = .ok (.iconst 0, 1) := by decide +kernel
theorem dX11_weather_55 : decode cX11_weather 55 = .ok (.goto 25, 3) := by decide +kernel
theorem dX11_weather_58 : decode cX11_weather 58 = .ok (.iload_n 2, 1) := by decide +kernel
theorem dX11_weather_59 : decode cX11_weather 59 = .ok (.aload_n 0, 1) := by decide +kernel
theorem dX11_weather_60 : decode cX11_weather 60 = .ok (.getfield 16, 3) := by decide +kernel
theorem dX11_weather_63 : decode cX11_weather 63 = .ok (.iconst 0, 1) := by decide +kernel
theorem dX11_weather_64 : decode cX11_weather 64 = .ok (.iaload, 1) := by decide +kernel
theorem dX11_weather_65 : decode cX11_weather 65 = .ok (.aload_n 0, 1) := by decide +kernel
theorem dX11_weather_66 : decode cX11_weather 66 = .ok (.getfield 16, 3) := by decide +kernel
theorem dX11_weather_69 : decode cX11_weather 69 = .ok (.iconst 1, 1) := by decide +kernel
theorem dX11_weather_70 : decode cX11_weather 70 = .ok (.iaload, 1) := by decide +kernel
theorem dX11_weather_71 : decode cX11_weather 71 = .ok (.iadd, 1) := by decide +kernel
theorem dX11_weather_72 : decode cX11_weather 72 = .ok (.if_icmp .ge 7, 3) := by decide +kernel
theorem dX11_weather_75 : decode cX11_weather 75 = .ok (.iconst 1, 1) := by decide +kernel
theorem dX11_weather_76 : decode cX11_weather 76 = .ok (.goto 4, 3) := by decide +kernel
theorem dX11_weather_79 : decode cX11_weather 79 = .ok (.iconst 2, 1) := by decide +kernel
theorem dX11_weather_80 : decode cX11_weather 80 = .ok (.istore_n 3, 1) := by decide +kernel
theorem dX11_weather_81 : decode cX11_weather 81 = .ok (.aload_n 0, 1) := by decide +kernel
theorem dX11_weather_82 : decode cX11_weather 82 = .ok (.getfield 19, 3) := by decide +kernel
theorem dX11_weather_85 : decode cX11_weather 85 = .ok (.iload_n 3, 1) := by decide +kernel
theorem dX11_weather_86 : decode cX11_weather 86 = .ok (.dup2, 1) := by decide +kernel
theorem dX11_weather_87 : decode cX11_weather 87 = .ok (.iaload, 1) := by decide +kernel
theorem dX11_weather_88 : decode cX11_weather 88 = .ok (.iconst 1, 1) := by decide +kernel
theorem dX11_weather_89 : decode cX11_weather 89 = .ok (.iadd, 1) := by decide +kernel
theorem dX11_weather_90 : decode cX11_weather 90 = .ok (.iastore, 1) := by decide +kernel
theorem dX11_weather_91 : decode cX11_weather 91 = .ok (.aload_n 0, 1) := by decide +kernel
theorem dX11_weather_92 : decode cX11_weather 92 = .ok (.iload_n 1, 1) := by decide +kernel
theorem dX11_weather_93 : decode cX11_weather 93 = .ok (.aload_n 0, 1) := by decide +kernel
theorem dX11_weather_94 : decode cX11_weather 94 = .ok (.getfield 70, 3) := by decide +kernel
theorem dX11_weather_97 : decode cX11_weather 97 = .ok (.invokevirtual 85, 3) := by decide +kernel
theorem dX11_weather_100 : decode cX11_weather 100 = .ok (.istore 4, 2) := by decide +kernel
theorem dX11_weather_102 : decode cX11_weather 102 = .ok (.iload 4, 2) := by decide +kernel
theorem dX11_weather_104 : decode cX11_weather 104 = .ok (.ifCond .ge 4, 3) := by decide +kernel
theorem dX11_weather_107 : decode cX11_weather 107 = .ok (.return_, 1) := by decide +kernel
theorem dX11_weather_108 : decode cX11_weather 108 = .ok (.aload_n 0, 1) := by decide +kernel
theorem dX11_weather_109 : decode cX11_weather 109 = .ok (.getfield 35, 3) := by decide +kernel
theorem dX11_weather_112 : decode cX11_weather 112 = .ok (.iload 4, 2) := by decide +kernel
theorem dX11_weather_114 : decode cX11_weather 114 = .ok (.aaload, 1) := by decide +kernel
theorem dX11_weather_115 : decode cX11_weather 115 = .ok (.astore 5, 2) := by decide +kernel
theorem dX11_weather_117 : decode cX11_weather 117 = .ok (.aload_n 0, 1) := by decide +kernel
theorem dX11_weather_118 : decode cX11_weather 118 = .ok (.aload_n 0, 1) := by decide +kernel
theorem dX11_weather_119 : decode cX11_weather 119 = .ok (.getfield 35, 3) := by decide +kernel
theorem dX11_weather_122 : decode cX11_weather 122 = .ok (.iload 4, 2) := by decide +kernel
theorem dX11_weather_124 : decode cX11_weather 124 = .ok (.invokestatic 88, 3) := by decide +kernel
theorem dX11_weather_127 : decode cX11_weather 127 = .ok (.putfield 35, 3) := by decide +kernel
theorem dX11_weather_130 : decode cX11_weather 130 = .ok (.aload 5, 2) := by decide +kernel
theorem dX11_weather_132 : decode cX11_weather 132 = .ok (.iconst 2, 1) := by decide +kernel
theorem dX11_weather_133 : decode cX11_weather 133 = .ok (.iaload, 1) := by decide +kernel
theorem dX11_weather_134 : decode cX11_weather 134 = .ok (.iload_n 3, 1) := by decide +kernel
theorem dX11_weather_135 : decode cX11_weather 135 = .ok (.if_icmp .ne 33, 3) := by decide +kernel
theorem dX11_weather_138 : decode cX11_weather 138 = .ok (.aload_n 0, 1) := by decide +kernel
theorem dX11_weather_139 : decode cX11_weather 139 = .ok (.dup, 1) := by decide +kernel
theorem dX11_weather_140 : decode cX11_weather 140 = .ok (.getfield 92, 3) := by decide +kernel
theorem dX11_weather_143 : decode cX11_weather 143 = .ok (.iconst 1, 1) := by decide +kernel
theorem dX11_weather_144 : decode cX11_weather 144 = .ok (.iadd, 1) := by decide +kernel
theorem dX11_weather_145 : decode cX11_weather 145 = .ok (.putfield 92, 3) := by decide +kernel
theorem dX11_weather_148 : decode cX11_weather 148 = .ok (.aload_n 0, 1) := by decide +kernel
theorem dX11_weather_149 : decode cX11_weather 149 = .ok (.getfield 13, 3) := by decide +kernel
theorem dX11_weather_152 : decode cX11_weather 152 = .ok (.iload_n 1, 1) := by decide +kernel
theorem dX11_weather_153 : decode cX11_weather 153 = .ok (.bipush 100, 2) := by decide +kernel
theorem dX11_weather_155 : decode cX11_weather 155 = .ok (.aload_n 0, 1) := by decide +kernel
theorem dX11_weather_156 : decode cX11_weather 156 = .ok (.getfield 13, 3) := by decide +kernel
theorem dX11_weather_159 : decode cX11_weather 159 = .ok (.iload_n 1, 1) := by decide +kernel
theorem dX11_weather_160 : decode cX11_weather 160 = .ok (.iaload, 1) := by decide +kernel
theorem dX11_weather_161 : decode cX11_weather 161 = .ok (.iconst 5, 1) := by decide +kernel
theorem dX11_weather_162 : decode cX11_weather 162 = .ok (.iadd, 1) := by decide +kernel
theorem dX11_weather_163 : decode cX11_weather 163 = .ok (.invokestatic 79, 3) := by decide +kernel
theorem dX11_weather_166 : decode cX11_weather 166 = .ok (.iastore, 1) := by decide +kernel
theorem dX11_weather_167 : decode cX11_weather 167 = .ok (.return_, 1) := by decide +kernel
theorem dX11_weather_168 : decode cX11_weather 168 = .ok (.aload_n 0, 1) := by decide +kernel
theorem dX11_weather_169 : decode cX11_weather 169 = .ok (.bipush 10, 2) := by decide +kernel
theorem dX11_weather_171 : decode cX11_weather 171 = .ok (.aload_n 0, 1) := by decide +kernel
theorem dX11_weather_172 : decode cX11_weather 172 = .ok (.getfield 70, 3) := by decide +kernel
theorem dX11_weather_175 : decode cX11_weather 175 = .ok (.imul, 1) := by decide +kernel
theorem dX11_weather_176 : decode cX11_weather 176 = .ok (.iload_n 1, 1) := by decide +kernel
theorem dX11_weather_177 : decode cX11_weather 177 = .ok (.iadd, 1) := by decide +kernel
theorem dX11_weather_178 : decode cX11_weather 178 = .ok (.invokevirtual 95, 3) := by decide +kernel
theorem dX11_weather_181 : decode cX11_weather 181 = .ok (.aload_n 0, 1) := by decide +kernel
theorem dX11_weather_182 : decode cX11_weather 182 = .ok (.dup, 1) := by decide +kernel
theorem dX11_weather_183 : decode cX11_weather 183 = .ok (.getfield 82, 3) := by decide +kernel
theorem dX11_weather_186 : decode cX11_weather 186 = .ok (.iload_n 3, 1) := by decide +kernel
theorem dX11_weather_187 : decode cX11_weather 187 = .ok (.iconst 2, 1) := by decide +kernel
theorem dX11_weather_188 : decode cX11_weather 188 = .ok (.if_icmp .ne 13, 3) := by decide +kernel
theorem dX11_weather_191 : decode cX11_weather 191 = .ok (.aload 5, 2) := by decide +kernel
theorem dX11_weather_193 : decode cX11_weather 193 = .ok (.iconst 4, 1) := by decide +kernel
theorem dX11_weather_194 : decode cX11_weather 194 = .ok (.iaload, 1) := by decide +kernel
theorem dX11_weather_195 : decode cX11_weather 195 = .ok (.bipush 10, 2) := by decide +kernel
theorem dX11_weather_197 : decode cX11_weather 197 = .ok (.iadd, 1) := by decide +kernel
theorem dX11_weather_198 : decode cX11_weather 198 = .ok (.goto 9, 3) := by decide +kernel
theorem dX11_weather_201 : decode cX11_weather 201 = .ok (.aload 5, 2) := by decide +kernel
theorem dX11_weather_203 : decode cX11_weather 203 = .ok (.iconst 4, 1) := by decide +kernel
theorem dX11_weather_204 : decode cX11_weather 204 = .ok (.iaload, 1) := by decide +kernel
theorem dX11_weather_205 : decode cX11_weather 205 = .ok (.iconst 2, 1) := by decide +kernel
theorem dX11_weather_206 : decode cX11_weather 206 = .ok (.idiv, 1) := by decide +kernel
theorem dX11_weather_207 : decode cX11_weather 207 = .ok (.isub, 1) := by decide +kernel
theorem dX11_weather_208 : decode cX11_weather 208 = .ok (.putfield 82, 3) := by decide +kernel
theorem dX11_weather_211 : decode cX11_weather 211 = .ok (.aload_n 0, 1) := by decide +kernel
theorem dX11_weather_212 : decode cX11_weather 212 = .ok (.getfield 13, 3) := by decide +kernel
theorem dX11_weather_215 : decode cX11_weather 215 = .ok (.iload_n 1, 1) := by decide +kernel
theorem dX11_weather_216 : decode cX11_weather 216 = .ok (.iconst 0, 1) := by decide +kernel
theorem dX11_weather_217 : decode cX11_weather 217 = .ok (.aload_n 0, 1) := by decide +kernel
theorem dX11_weather_218 : decode cX11_weather 218 = .ok (.getfield 13, 3) := by decide +kernel
theorem dX11_weather_221 : decode cX11_weather 221 = .ok (.iload_n 1, 1) := by decide +kernel
theorem dX11_weather_222 : decode cX11_weather 222 = .ok (.iaload, 1) := by decide +kernel
theorem dX11_weather_223 : decode cX11_weather 223 = .ok (.iload_n 3, 1) := by decide +kernel
theorem dX11_weather_224 : decode cX11_weather 224 = .ok (.iconst 2, 1) := by decide +kernel
theorem dX11_weather_225 : decode cX11_weather 225 = .ok (.if_icmp .ne 8, 3) := by decide +kernel
theorem dX11_weather_228 : decode cX11_weather 228 = .ok (.bipush 20, 2) := by decide +kernel
theorem dX11_weather_230 : decode cX11_weather 230 = .ok (.goto 5, 3) := by decide +kernel
theorem dX11_weather_233 : decode cX11_weather 233 = .ok (.bipush 10, 2) := by decide +kernel
theorem dX11_weather_235 : decode cX11_weather 235 = .ok (.isub, 1) := by decide +kernel
theorem dX11_weather_236 : decode cX11_weather 236 = .ok (.invokestatic 73, 3) := by decide +kernel
theorem dX11_weather_239 : decode cX11_weather 239 = .ok (.iastore, 1) := by decide +kernel
theorem dX11_weather_240 : decode cX11_weather 240 = .ok (.return_, 1) := by decide +kernel
theorem dX11_passes_0 : decode cX11_passes 0 = .ok (.aload_n 0, 1) := by decide +kernel
theorem dX11_passes_1 : decode cX11_passes 1 = .ok (.dup, 1) := by decide +kernel
theorem dX11_passes_2 : decode cX11_passes 2 = .ok (.getfield 70, 3) := by decide +kernel
theorem dX11_passes_5 : decode cX11_passes 5 = .ok (.iconst 1, 1) := by decide +kernel
theorem dX11_passes_6 : decode cX11_passes 6 = .ok (.iadd, 1) := by decide +kernel
theorem dX11_passes_7 : decode cX11_passes 7 = .ok (.putfield 70, 3) := by decide +kernel
theorem dX11_passes_10 : decode cX11_passes 10 = .ok (.iconst 0, 1) := by decide +kernel
theorem dX11_passes_11 : decode cX11_passes 11 = .ok (.istore_n 1, 1) := by decide +kernel
theorem dX11_passes_12 : decode cX11_passes 12 = .ok (.iload_n 1, 1) := by decide +kernel
theorem dX11_passes_13 : decode cX11_passes 13 = .ok (.iconst 2, 1) := by decide +kernel
theorem dX11_passes_14 : decode cX11_passes 14 = .ok (.if_icmp .ge 30, 3) := by decide +kernel
theorem dX11_passes_17 : decode cX11_passes 17 = .ok (.aload_n 0, 1) := by decide +kernel
theorem dX11_passes_18 : decode cX11_passes 18 = .ok (.getfield 70, 3) := by decide +kernel
theorem dX11_passes_21 : decode cX11_passes 21 = .ok (.iload_n 1, 1) := by decide +kernel
theorem dX11_passes_22 : decode cX11_passes 22 = .ok (.iadd, 1) := by decide +kernel
theorem dX11_passes_23 : decode cX11_passes 23 = .ok (.aload_n 0, 1) := by decide +kernel
theorem dX11_passes_24 : decode cX11_passes 24 = .ok (.getfield 25, 3) := by decide +kernel
theorem dX11_passes_27 : decode cX11_passes 27 = .ok (.iload_n 1, 1) := by decide +kernel
theorem dX11_passes_28 : decode cX11_passes 28 = .ok (.iaload, 1) := by decide +kernel
theorem dX11_passes_29 : decode cX11_passes 29 = .ok (.irem, 1) := by decide +kernel
theorem dX11_passes_30 : decode cX11_passes 30 = .ok (.ifCond .ne 8, 3) := by decide +kernel
theorem dX11_passes_33 : decode cX11_passes 33 = .ok (.aload_n 0, 1) := by decide +kernel
theorem dX11_passes_34 : decode cX11_passes 34 = .ok (.iload_n 1, 1) := by decide +kernel
theorem dX11_passes_35 : decode cX11_passes 35 = .ok (.invokevirtual 99, 3) := by decide +kernel
theorem dX11_passes_38 : decode cX11_passes 38 = .ok (.iinc 1 1, 3) := by decide +kernel
theorem dX11_passes_41 : decode cX11_passes 41 = .ok (.goto (-29), 3) := by decide +kernel
theorem dX11_passes_44 : decode cX11_passes 44 = .ok (.iconst 0, 1) := by decide +kernel
theorem dX11_passes_45 : decode cX11_passes 45 = .ok (.istore_n 1, 1) := by decide +kernel
theorem dX11_passes_46 : decode cX11_passes 46 = .ok (.iload_n 1, 1) := by decide +kernel
theorem dX11_passes_47 : decode cX11_passes 47 = .ok (.iconst 3, 1) := by decide +kernel
theorem dX11_passes_48 : decode cX11_passes 48 = .ok (.if_icmp .ge 14, 3) := by decide +kernel
theorem dX11_passes_51 : decode cX11_passes 51 = .ok (.aload_n 0, 1) := by decide +kernel
theorem dX11_passes_52 : decode cX11_passes 52 = .ok (.iload_n 1, 1) := by decide +kernel
theorem dX11_passes_53 : decode cX11_passes 53 = .ok (.invokevirtual 102, 3) := by decide +kernel
theorem dX11_passes_56 : decode cX11_passes 56 = .ok (.iinc 1 1, 3) := by decide +kernel
theorem dX11_passes_59 : decode cX11_passes 59 = .ok (.goto (-13), 3) := by decide +kernel
theorem dX11_passes_62 : decode cX11_passes 62 = .ok (.aload_n 0, 1) := by decide +kernel
theorem dX11_passes_63 : decode cX11_passes 63 = .ok (.getfield 70, 3) := by decide +kernel
theorem dX11_passes_66 : decode cX11_passes 66 = .ok (.bipush 12, 2) := by decide +kernel
theorem dX11_passes_68 : decode cX11_passes 68 = .ok (.irem, 1) := by decide +kernel
theorem dX11_passes_69 : decode cX11_passes 69 = .ok (.ifCond .eq 4, 3) := by decide +kernel
theorem dX11_passes_72 : decode cX11_passes 72 = .ok (.return_, 1) := by decide +kernel
theorem dX11_passes_73 : decode cX11_passes 73 = .ok (.aload_n 0, 1) := by decide +kernel
theorem dX11_passes_74 : decode cX11_passes 74 = .ok (.getfield 19, 3) := by decide +kernel
theorem dX11_passes_77 : decode cX11_passes 77 = .ok (.iconst 0, 1) := by decide +kernel
theorem dX11_passes_78 : decode cX11_passes 78 = .ok (.iaload, 1) := by decide +kernel
theorem dX11_passes_79 : decode cX11_passes 79 = .ok (.aload_n 0, 1) := by decide +kernel
theorem dX11_passes_80 : decode cX11_passes 80 = .ok (.getfield 19, 3) := by decide +kernel
theorem dX11_passes_83 : decode cX11_passes 83 = .ok (.iconst 1, 1) := by decide +kernel
theorem dX11_passes_84 : decode cX11_passes 84 = .ok (.iaload, 1) := by decide +kernel
theorem dX11_passes_85 : decode cX11_passes 85 = .ok (.if_icmp .lt 22, 3) := by decide +kernel
theorem dX11_passes_88 : decode cX11_passes 88 = .ok (.aload_n 0, 1) := by decide +kernel
theorem dX11_passes_89 : decode cX11_passes 89 = .ok (.getfield 19, 3) := by decide +kernel
theorem dX11_passes_92 : decode cX11_passes 92 = .ok (.iconst 0, 1) := by decide +kernel
theorem dX11_passes_93 : decode cX11_passes 93 = .ok (.iaload, 1) := by decide +kernel
theorem dX11_passes_94 : decode cX11_passes 94 = .ok (.aload_n 0, 1) := by decide +kernel
theorem dX11_passes_95 : decode cX11_passes 95 = .ok (.getfield 19, 3) := by decide +kernel
theorem dX11_passes_98 : decode cX11_passes 98 = .ok (.iconst 2, 1) := by decide +kernel
theorem dX11_passes_99 : decode cX11_passes 99 = .ok (.iaload, 1) := by decide +kernel
theorem dX11_passes_100 : decode cX11_passes 100 = .ok (.if_icmp .lt 7, 3) := by decide +kernel
theorem dX11_passes_103 : decode cX11_passes 103 = .ok (.iconst 0, 1) := by decide +kernel
theorem dX11_passes_104 : decode cX11_passes 104 = .ok (.goto 23, 3) := by decide +kernel
theorem dX11_passes_107 : decode cX11_passes 107 = .ok (.aload_n 0, 1) := by decide +kernel
theorem dX11_passes_108 : decode cX11_passes 108 = .ok (.getfield 19, 3) := by decide +kernel
theorem dX11_passes_111 : decode cX11_passes 111 = .ok (.iconst 1, 1) := by decide +kernel
theorem dX11_passes_112 : decode cX11_passes 112 = .ok (.iaload, 1) := by decide +kernel
theorem dX11_passes_113 : decode cX11_passes 113 = .ok (.aload_n 0, 1) := by decide +kernel
theorem dX11_passes_114 : decode cX11_passes 114 = .ok (.getfield 19, 3) := by decide +kernel
theorem dX11_passes_117 : decode cX11_passes 117 = .ok (.iconst 2, 1) := by decide +kernel
theorem dX11_passes_118 : decode cX11_passes 118 = .ok (.iaload, 1) := by decide +kernel
theorem dX11_passes_119 : decode cX11_passes 119 = .ok (.if_icmp .lt 7, 3) := by decide +kernel
theorem dX11_passes_122 : decode cX11_passes 122 = .ok (.iconst 1, 1) := by decide +kernel
theorem dX11_passes_123 : decode cX11_passes 123 = .ok (.goto 4, 3) := by decide +kernel
theorem dX11_passes_126 : decode cX11_passes 126 = .ok (.iconst 2, 1) := by decide +kernel
theorem dX11_passes_127 : decode cX11_passes 127 = .ok (.istore_n 1, 1) := by decide +kernel
theorem dX11_passes_128 : decode cX11_passes 128 = .ok (.aload_n 0, 1) := by decide +kernel
theorem dX11_passes_129 : decode cX11_passes 129 = .ok (.getfield 19, 3) := by decide +kernel
theorem dX11_passes_132 : decode cX11_passes 132 = .ok (.iconst 2, 1) := by decide +kernel
theorem dX11_passes_133 : decode cX11_passes 133 = .ok (.iaload, 1) := by decide +kernel
theorem dX11_passes_134 : decode cX11_passes 134 = .ok (.aload_n 0, 1) := by decide +kernel
theorem dX11_passes_135 : decode cX11_passes 135 = .ok (.getfield 19, 3) := by decide +kernel
theorem dX11_passes_138 : decode cX11_passes 138 = .ok (.iconst 1, 1) := by decide +kernel
theorem dX11_passes_139 : decode cX11_passes 139 = .ok (.iaload, 1) := by decide +kernel
theorem dX11_passes_140 : decode cX11_passes 140 = .ok (.if_icmp .gt 22, 3) := by decide +kernel
theorem dX11_passes_143 : decode cX11_passes 143 = .ok (.aload_n 0, 1) := by decide +kernel
theorem dX11_passes_144 : decode cX11_passes 144 = .ok (.getfield 19, 3) := by decide +kernel
theorem dX11_passes_147 : decode cX11_passes 147 = .ok (.iconst 2, 1) := by decide +kernel
theorem dX11_passes_148 : decode cX11_passes 148 = .ok (.iaload, 1) := by decide +kernel
theorem dX11_passes_149 : decode cX11_passes 149 = .ok (.aload_n 0, 1) := by decide +kernel
theorem dX11_passes_150 : decode cX11_passes 150 = .ok (.getfield 19, 3) := by decide +kernel
theorem dX11_passes_153 : decode cX11_passes 153 = .ok (.iconst 0, 1) := by decide +kernel
theorem dX11_passes_154 : decode cX11_passes 154 = .ok (.iaload, 1) := by decide +kernel
theorem dX11_passes_155 : decode cX11_passes 155 = .ok (.if_icmp .gt 7, 3) := by decide +kernel
theorem dX11_passes_158 : decode cX11_passes 158 = .ok (.iconst 2, 1) := by decide +kernel
theorem dX11_passes_159 : decode cX11_passes 159 = .ok (.goto 23, 3) := by decide +kernel
theorem dX11_passes_162 : decode cX11_passes 162 = .ok (.aload_n 0, 1) := by decide +kernel
theorem dX11_passes_163 : decode cX11_passes 163 = .ok (.getfield 19, 3) := by decide +kernel
theorem dX11_passes_166 : decode cX11_passes 166 = .ok (.iconst 1, 1) := by decide +kernel
theorem dX11_passes_167 : decode cX11_passes 167 = .ok (.iaload, 1) := by decide +kernel
theorem dX11_passes_168 : decode cX11_passes 168 = .ok (.aload_n 0, 1) := by decide +kernel
theorem dX11_passes_169 : decode cX11_passes 169 = .ok (.getfield 19, 3) := by decide +kernel
theorem dX11_passes_172 : decode cX11_passes 172 = .ok (.iconst 0, 1) := by decide +kernel
theorem dX11_passes_173 : decode cX11_passes 173 = .ok (.iaload, 1) := by decide +kernel
theorem dX11_passes_174 : decode cX11_passes 174 = .ok (.if_icmp .gt 7, 3) := by decide +kernel
theorem dX11_passes_177 : decode cX11_passes 177 = .ok (.iconst 1, 1) := by decide +kernel
theorem dX11_passes_178 : decode cX11_passes 178 = .ok (.goto 4, 3) := by decide +kernel
theorem dX11_passes_181 : decode cX11_passes 181 = .ok (.iconst 0, 1) := by decide +kernel
theorem dX11_passes_182 : decode cX11_passes 182 = .ok (.istore_n 2, 1) := by decide +kernel
theorem dX11_passes_183 : decode cX11_passes 183 = .ok (.aload_n 0, 1) := by decide +kernel
theorem dX11_passes_184 : decode cX11_passes 184 = .ok (.getfield 16, 3) := by decide +kernel
theorem dX11_passes_187 : decode cX11_passes 187 = .ok (.iload_n 1, 1) := by decide +kernel
theorem dX11_passes_188 : decode cX11_passes 188 = .ok (.bipush 20, 2) := by decide +kernel
theorem dX11_passes_190 : decode cX11_passes 190 = .ok (.aload_n 0, 1) := by decide +kernel
theorem dX11_passes_191 : decode cX11_passes 191 = .ok (.getfield 16, 3) := by decide +kernel
theorem dX11_passes_194 : decode cX11_passes 194 = .ok (.iload_n 1, 1) := by decide +kernel
theorem dX11_passes_195 : decode cX11_passes 195 = .ok (.iaload, 1) := by decide +kernel
theorem dX11_passes_196 : decode cX11_passes 196 = .ok (.iconst 1, 1) := by decide +kernel
theorem dX11_passes_197 : decode cX11_passes 197 = .ok (.iadd, 1) := by decide +kernel
theorem dX11_passes_198 : decode cX11_passes 198 = .ok (.invokestatic 79, 3) := by decide +kernel
theorem dX11_passes_201 : decode cX11_passes 201 = .ok (.iastore, 1) := by decide +kernel
theorem dX11_passes_202 : decode cX11_passes 202 = .ok (.aload_n 0, 1) := by decide +kernel
theorem dX11_passes_203 : decode cX11_passes 203 = .ok (.getfield 16, 3) := by decide +kernel
theorem dX11_passes_206 : decode cX11_passes 206 = .ok (.iload_n 2, 1) := by decide +kernel
theorem dX11_passes_207 : decode cX11_passes 207 = .ok (.iconst 0, 1) := by decide +kernel
theorem dX11_passes_208 : decode cX11_passes 208 = .ok (.aload_n 0, 1) := by decide +kernel
theorem dX11_passes_209 : decode cX11_passes 209 = .ok (.getfield 16, 3) := by decide +kernel
theorem dX11_passes_212 : decode cX11_passes 212 = .ok (.iload_n 2, 1) := by decide +kernel
theorem dX11_passes_213 : decode cX11_passes 213 = .ok (.iaload, 1) := by decide +kernel
theorem dX11_passes_214 : decode cX11_passes 214 = .ok (.iconst 1, 1) := by decide +kernel
theorem dX11_passes_215 : decode cX11_passes 215 = .ok (.isub, 1) := by decide +kernel
theorem dX11_passes_216 : decode cX11_passes 216 = .ok (.invokestatic 73, 3) := by decide +kernel
theorem dX11_passes_219 : decode cX11_passes 219 = .ok (.iastore, 1) := by decide +kernel
theorem dX11_passes_220 : decode cX11_passes 220 = .ok (.iconst 0, 1) := by decide +kernel
theorem dX11_passes_221 : decode cX11_passes 221 = .ok (.istore_n 3, 1) := by decide +kernel
theorem dX11_passes_222 : decode cX11_passes 222 = .ok (.iload_n 3, 1) := by decide +kernel
theorem dX11_passes_223 : decode cX11_passes 223 = .ok (.iconst 3, 1) := by decide +kernel
theorem dX11_passes_224 : decode cX11_passes 224 = .ok (.if_icmp .ge 16, 3) := by decide +kernel
theorem dX11_passes_227 : decode cX11_passes 227 = .ok (.aload_n 0, 1) := by decide +kernel
theorem dX11_passes_228 : decode cX11_passes 228 = .ok (.getfield 19, 3) := by decide +kernel
theorem dX11_passes_231 : decode cX11_passes 231 = .ok (.iload_n 3, 1) := by decide +kernel
theorem dX11_passes_232 : decode cX11_passes 232 = .ok (.iconst 0, 1) := by decide +kernel
theorem dX11_passes_233 : decode cX11_passes 233 = .ok (.iastore, 1) := by decide +kernel
theorem dX11_passes_234 : decode cX11_passes 234 = .ok (.iinc 3 1, 3) := by decide +kernel
theorem dX11_passes_237 : decode cX11_passes 237 = .ok (.goto (-15), 3) := by decide +kernel
theorem dX11_passes_240 : decode cX11_passes 240 = .ok (.return_, 1) := by decide +kernel
theorem dX11_retracts_0 : decode cX11_retracts 0 = .ok (.iconst 0, 1) := by decide +kernel
theorem dX11_retracts_1 : decode cX11_retracts 1 = .ok (.istore_n 2, 1) := by decide +kernel
theorem dX11_retracts_2 : decode cX11_retracts 2 = .ok (.aload_n 0, 1) := by decide +kernel
theorem dX11_retracts_3 : decode cX11_retracts 3 = .ok (.getfield 35, 3) := by decide +kernel
theorem dX11_retracts_6 : decode cX11_retracts 6 = .ok (.arraylength, 1) := by decide +kernel
theorem dX11_retracts_7 : decode cX11_retracts 7 = .ok (.iconst 4, 1) := by decide +kernel
theorem dX11_retracts_8 : decode cX11_retracts 8 = .ok (.iload_n 1, 1) := by decide +kernel
theorem dX11_retracts_9 : decode cX11_retracts 9 = .ok (.imul, 1) := by decide +kernel
theorem dX11_retracts_10 : decode cX11_retracts 10 = .ok (.iconst 4, 1) := by decide +kernel
theorem dX11_retracts_11 : decode cX11_retracts 11 = .ok (.iadd, 1) := by decide +kernel
theorem dX11_retracts_12 : decode cX11_retracts 12 = .ok (.invokestatic 79, 3) := by decide +kernel
theorem dX11_retracts_15 : decode cX11_retracts 15 = .ok (.istore_n 3, 1) := by decide +kernel
theorem dX11_retracts_16 : decode cX11_retracts 16 = .ok (.iconst 4, 1) := by decide +kernel
theorem dX11_retracts_17 : decode cX11_retracts 17 = .ok (.iload_n 1, 1) := by decide +kernel
theorem dX11_retracts_18 : decode cX11_retracts 18 = .ok (.imul, 1) := by decide +kernel
theorem dX11_retracts_19 : decode cX11_retracts 19 = .ok (.istore 4, 2) := by decide +kernel
theorem dX11_retracts_21 : decode cX11_retracts 21 = .ok (.iload 4, 2) := by decide +kernel
theorem dX11_retracts_23 : decode cX11_retracts 23 = .ok (.iload_n 3, 1) := by decide +kernel
theorem dX11_retracts_24 : decode cX11_retracts 24 = .ok (.if_icmp .ge 21, 3) := by decide +kernel
theorem dX11_retracts_27 : decode cX11_retracts 27 = .ok (.iload_n 2, 1) := by decide +kernel
theorem dX11_retracts_28 : decode cX11_retracts 28 = .ok (.aload_n 0, 1) := by decide +kernel
theorem dX11_retracts_29 : decode cX11_retracts 29 = .ok (.getfield 35, 3) := by decide +kernel
theorem dX11_retracts_32 : decode cX11_retracts 32 = .ok (.iload 4, 2) := by decide +kernel
theorem dX11_retracts_34 : decode cX11_retracts 34 = .ok (.aaload, 1) := by decide +kernel
theorem dX11_retracts_35 : decode cX11_retracts 35 = .ok (.iconst 4, 1) := by decide +kernel
theorem dX11_retracts_36 : decode cX11_retracts 36 = .ok (.iaload, 1) := by decide +kernel
theorem dX11_retracts_37 : decode cX11_retracts 37 = .ok (.iadd, 1) := by decide +kernel
theorem dX11_retracts_38 : decode cX11_retracts 38 = .ok (.istore_n 2, 1) := by decide +kernel
theorem dX11_retracts_39 : decode cX11_retracts 39 = .ok (.iinc 4 1, 3) := by decide +kernel
theorem dX11_retracts_42 : decode cX11_retracts 42 = .ok (.goto (-21), 3) := by decide +kernel
theorem dX11_retracts_45 : decode cX11_retracts 45 = .ok (.iload_n 2, 1) := by decide +kernel
theorem dX11_retracts_46 : decode cX11_retracts 46 = .ok (.aload_n 0, 1) := by decide +kernel
theorem dX11_retracts_47 : decode cX11_retracts 47 = .ok (.getfield 82, 3) := by decide +kernel
theorem dX11_retracts_50 : decode cX11_retracts 50 = .ok (.if_icmp .le 6, 3) := by decide +kernel
theorem dX11_retracts_53 : decode cX11_retracts 53 = .ok (.bipush (-9), 2) := by decide +kernel
theorem dX11_retracts_55 : decode cX11_retracts 55 = .ok (.ireturn, 1) := by decide +kernel
theorem dX11_retracts_56 : decode cX11_retracts 56 = .ok (.aload_n 0, 1) := by decide +kernel
theorem dX11_retracts_57 : decode cX11_retracts 57 = .ok (.dup, 1) := by decide +kernel
theorem dX11_retracts_58 : decode cX11_retracts 58 = .ok (.getfield 82, 3) := by decide +kernel
theorem dX11_retracts_61 : decode cX11_retracts 61 = .ok (.iload_n 2, 1) := by decide +kernel
theorem dX11_retracts_62 : decode cX11_retracts 62 = .ok (.isub, 1) := by decide +kernel
theorem dX11_retracts_63 : decode cX11_retracts 63 = .ok (.putfield 82, 3) := by decide +kernel
theorem dX11_retracts_66 : decode cX11_retracts 66 = .ok (.iload_n 3, 1) := by decide +kernel
theorem dX11_retracts_67 : decode cX11_retracts 67 = .ok (.iconst 1, 1) := by decide +kernel
theorem dX11_retracts_68 : decode cX11_retracts 68 = .ok (.isub, 1) := by decide +kernel
theorem dX11_retracts_69 : decode cX11_retracts 69 = .ok (.istore 4, 2) := by decide +kernel
theorem dX11_retracts_71 : decode cX11_retracts 71 = .ok (.iload 4, 2) := by decide +kernel
theorem dX11_retracts_73 : decode cX11_retracts 73 = .ok (.iconst 4, 1) := by decide +kernel
theorem dX11_retracts_74 : decode cX11_retracts 74 = .ok (.iload_n 1, 1) := by decide +kernel
theorem dX11_retracts_75 : decode cX11_retracts 75 = .ok (.imul, 1) := by decide +kernel
theorem dX11_retracts_76 : decode cX11_retracts 76 = .ok (.if_icmp .lt 66, 3) := by decide +kernel
theorem dX11_retracts_79 : decode cX11_retracts 79 = .ok (.aload_n 0, 1) := by decide +kernel
theorem dX11_retracts_80 : decode cX11_retracts 80 = .ok (.getfield 13, 3) := by decide +kernel
theorem dX11_retracts_83 : decode cX11_retracts 83 = .ok (.aload_n 0, 1) := by decide +kernel
theorem dX11_retracts_84 : decode cX11_retracts 84 = .ok (.getfield 35, 3) := by decide +kernel
theorem dX11_retracts_87 : decode cX11_retracts 87 = .ok (.iload 4, 2) := by decide +kernel
theorem dX11_retracts_89 : decode cX11_retracts 89 = .ok (.aaload, 1) := by decide +kernel
theorem dX11_retracts_90 : decode cX11_retracts 90 = .ok (.iconst 0, 1) := by decide +kernel
theorem dX11_retracts_91 : decode cX11_retracts 91 = .ok (.iaload, 1) := by decide +kernel
theorem dX11_retracts_92 : decode cX11_retracts 92 = .ok (.iconst 0, 1) := by decide +kernel
theorem dX11_retracts_93 : decode cX11_retracts 93 = .ok (.aload_n 0, 1) := by decide +kernel
theorem dX11_retracts_94 : decode cX11_retracts 94 = .ok (.getfield 13, 3) := by decide +kernel
theorem dX11_retracts_97 : decode cX11_retracts 97 = .ok (.aload_n 0, 1) := by decide +kernel
theorem dX11_retracts_98 : decode cX11_retracts 98 = .ok (.getfield 35, 3) := by decide +kernel
theorem dX11_retracts_101 : decode cX11_retracts 101 = .ok (.iload 4, 2) := by decide +kernel
theorem dX11_retracts_103 : decode cX11_retracts 103 = .ok (.aaload, 1) := by decide +kernel
theorem dX11_retracts_104 : decode cX11_retracts 104 = .ok (.iconst 0, 1) := by decide +kernel
theorem dX11_retracts_105 : decode cX11_retracts 105 = .ok (.iaload, 1) := by decide +kernel
theorem dX11_retracts_106 : decode cX11_retracts 106 = .ok (.iaload, 1) := by decide +kernel
theorem dX11_retracts_107 : decode cX11_retracts 107 = .ok (.iconst 5, 1) := by decide +kernel
theorem dX11_retracts_108 : decode cX11_retracts 108 = .ok (.isub, 1) := by decide +kernel
theorem dX11_retracts_109 : decode cX11_retracts 109 = .ok (.invokestatic 73, 3) := by decide +kernel
theorem dX11_retracts_112 : decode cX11_retracts 112 = .ok (.iastore, 1) := by decide +kernel
theorem dX11_retracts_113 : decode cX11_retracts 113 = .ok (.aload_n 0, 1) := by decide +kernel
theorem dX11_retracts_114 : decode cX11_retracts 114 = .ok (.dup, 1) := by decide +kernel
theorem dX11_retracts_115 : decode cX11_retracts 115 = .ok (.getfield 105, 3) := by decide +kernel
theorem dX11_retracts_118 : decode cX11_retracts 118 = .ok (.iconst 1, 1) := by decide +kernel
theorem dX11_retracts_119 : decode cX11_retracts 119 = .ok (.iadd, 1) := by decide +kernel
theorem dX11_retracts_120 : decode cX11_retracts 120 = .ok (.putfield 105, 3) := by decide +kernel
theorem dX11_retracts_123 : decode cX11_retracts 123 = .ok (.aload_n 0, 1) := by decide +kernel
theorem dX11_retracts_124 : decode cX11_retracts 124 = .ok (.aload_n 0, 1) := by decide +kernel
theorem dX11_retracts_125 : decode cX11_retracts 125 = .ok (.getfield 35, 3) := by decide +kernel
theorem dX11_retracts_128 : decode cX11_retracts 128 = .ok (.iload 4, 2) := by decide +kernel
theorem dX11_retracts_130 : decode cX11_retracts 130 = .ok (.invokestatic 88, 3) := by decide +kernel
theorem dX11_retracts_133 : decode cX11_retracts 133 = .ok (.putfield 35, 3) := by decide +kernel
theorem dX11_retracts_136 : decode cX11_retracts 136 = .ok (.iinc 4 (-1), 3) := by decide +kernel
theorem dX11_retracts_139 : decode cX11_retracts 139 = .ok (.goto (-68), 3) := by decide +kernel
theorem dX11_retracts_142 : decode cX11_retracts 142 = .ok (.iload_n 2, 1) := by decide +kernel
theorem dX11_retracts_143 : decode cX11_retracts 143 = .ok (.ireturn, 1) := by decide +kernel
theorem dX11_acts_0 : decode cX11_acts 0 = .ok (.iload_n 1, 1) := by decide +kernel
theorem dX11_acts_1 : decode cX11_acts 1 = .ok (.bipush 32, 2) := by decide +kernel
theorem dX11_acts_3 : decode cX11_acts 3 = .ok (.idiv, 1) := by decide +kernel
theorem dX11_acts_4 : decode cX11_acts 4 = .ok (.istore_n 2, 1) := by decide +kernel
theorem dX11_acts_5 : decode cX11_acts 5 = .ok (.iload_n 2, 1) := by decide +kernel
theorem dX11_acts_6 : decode cX11_acts 6 = .ok (.bipush 16, 2) := by decide +kernel
theorem dX11_acts_8 : decode cX11_acts 8 = .ok (.idiv, 1) := by decide +kernel
theorem dX11_acts_9 : decode cX11_acts 9 = .ok (.istore_n 3, 1) := by decide +kernel
theorem dX11_acts_10 : decode cX11_acts 10 = .ok (.aload_n 0, 1) := by decide +kernel
theorem dX11_acts_11 : decode cX11_acts 11 = .ok (.getfield 35, 3) := by decide +kernel
theorem dX11_acts_14 : decode cX11_acts 14 = .ok (.arraylength, 1) := by decide +kernel
theorem dX11_acts_15 : decode cX11_acts 15 = .ok (.iconst 3, 1) := by decide +kernel
theorem dX11_acts_16 : decode cX11_acts 16 = .ok (.iadd, 1) := by decide +kernel
theorem dX11_acts_17 : decode cX11_acts 17 = .ok (.iconst 4, 1) := by decide +kernel
theorem dX11_acts_18 : decode cX11_acts 18 = .ok (.idiv, 1) := by decide +kernel
theorem dX11_acts_19 : decode cX11_acts 19 = .ok (.istore 4, 2) := by decide +kernel
theorem dX11_acts_21 : decode cX11_acts 21 = .ok (.iload_n 1, 1) := by decide +kernel
theorem dX11_acts_22 : decode cX11_acts 22 = .ok (.bipush 32, 2) := by decide +kernel
theorem dX11_acts_24 : decode cX11_acts 24 = .ok (.irem, 1) := by decide +kernel
theorem dX11_acts_25 : decode cX11_acts 25 = .ok (.bipush 12, 2) := by decide +kernel
theorem dX11_acts_27 : decode cX11_acts 27 = .ok (.if_icmp .lt 20, 3) := by decide +kernel
theorem dX11_acts_30 : decode cX11_acts 30 = .ok (.iload_n 1, 1) := by decide +kernel
theorem dX11_acts_31 : decode cX11_acts 31 = .ok (.bipush 32, 2) := by decide +kernel
theorem dX11_acts_33 : decode cX11_acts 33 = .ok (.irem, 1) := by decide +kernel
theorem dX11_acts_34 : decode cX11_acts 34 = .ok (.bipush 15, 2) := by decide +kernel
theorem dX11_acts_36 : decode cX11_acts 36 = .ok (.if_icmp .ge 11, 3) := by decide +kernel
theorem dX11_acts_39 : decode cX11_acts 39 = .ok (.iload 4, 2) := by decide +kernel
theorem dX11_acts_41 : decode cX11_acts 41 = .ok (.ifCond .ne 6, 3) := by decide +kernel
theorem dX11_acts_44 : decode cX11_acts 44 = .ok (.bipush (-8), 2) := by decide +kernel
theorem dX11_acts_46 : decode cX11_acts 46 = .ok (.ireturn, 1) := by decide +kernel
theorem dX11_acts_47 : decode cX11_acts 47 = .ok (.iload_n 1, 1) := by decide +kernel
theorem dX11_acts_48 : decode cX11_acts 48 = .ok (.bipush 32, 2) := by decide +kernel
theorem dX11_acts_50 : decode cX11_acts 50 = .ok (.irem, 1) := by decide +kernel
theorem dX11_acts_51 : decode cX11_acts 51 = .ok (.tableswitch 320 0 18 #[89, 89, 89, 89, 89, 89, 89, 89, 89, 89, 89, 89, 200, 200, 200, 209, 234, 261, 261], 89) := by decide +kernel
theorem dX11_acts_140 : decode cX11_acts 140 = .ok (.aload_n 0, 1) := by decide +kernel
theorem dX11_acts_141 : decode cX11_acts 141 = .ok (.getfield 70, 3) := by decide +kernel
theorem dX11_acts_144 : decode cX11_acts 144 = .ok (.iload_n 3, 1) := by decide +kernel
theorem dX11_acts_145 : decode cX11_acts 145 = .ok (.bipush 36, 2) := by decide +kernel
theorem dX11_acts_147 : decode cX11_acts 147 = .ok (.irem, 1) := by decide +kernel
theorem dX11_acts_148 : decode cX11_acts 148 = .ok (.iadd, 1) := by decide +kernel
theorem dX11_acts_149 : decode cX11_acts 149 = .ok (.iconst 2, 1) := by decide +kernel
theorem dX11_acts_150 : decode cX11_acts 150 = .ok (.isub, 1) := by decide +kernel
theorem dX11_acts_151 : decode cX11_acts 151 = .ok (.istore 6, 2) := by decide +kernel
theorem dX11_acts_153 : decode cX11_acts 153 = .ok (.iload 6, 2) := by decide +kernel
theorem dX11_acts_155 : decode cX11_acts 155 = .ok (.aload_n 0, 1) := by decide +kernel
theorem dX11_acts_156 : decode cX11_acts 156 = .ok (.getfield 70, 3) := by decide +kernel
theorem dX11_acts_159 : decode cX11_acts 159 = .ok (.if_icmp .le 37, 3) := by decide +kernel
theorem dX11_acts_162 : decode cX11_acts 162 = .ok (.iload 6, 2) := by decide +kernel
theorem dX11_acts_164 : decode cX11_acts 164 = .ok (.aload_n 0, 1) := by decide +kernel
theorem dX11_acts_165 : decode cX11_acts 165 = .ok (.getfield 70, 3) := by decide +kernel
theorem dX11_acts_168 : decode cX11_acts 168 = .ok (.bipush 30, 2) := by decide +kernel
theorem dX11_acts_170 : decode cX11_acts 170 = .ok (.iadd, 1) := by decide +kernel
theorem dX11_acts_171 : decode cX11_acts 171 = .ok (.if_icmp .gt 25, 3) := by decide +kernel
theorem dX11_acts_174 : decode cX11_acts 174 = .ok (.aload_n 0, 1) := by decide +kernel
theorem dX11_acts_175 : decode cX11_acts 175 = .ok (.iload_n 2, 1) := by decide +kernel
theorem dX11_acts_176 : decode cX11_acts 176 = .ok (.iconst 3, 1) := by decide +kernel
theorem dX11_acts_177 : decode cX11_acts 177 = .ok (.irem, 1) := by decide +kernel
theorem dX11_acts_178 : decode cX11_acts 178 = .ok (.iload 6, 2) := by decide +kernel
theorem dX11_acts_180 : decode cX11_acts 180 = .ok (.invokevirtual 85, 3) := by decide +kernel
theorem dX11_acts_183 : decode cX11_acts 183 = .ok (.ifCond .ge 13, 3) := by decide +kernel
theorem dX11_acts_186 : decode cX11_acts 186 = .ok (.aload_n 0, 1) := by decide +kernel
theorem dX11_acts_187 : decode cX11_acts 187 = .ok (.getfield 35, 3) := by decide +kernel
theorem dX11_acts_190 : decode cX11_acts 190 = .ok (.arraylength, 1) := by decide +kernel
theorem dX11_acts_191 : decode cX11_acts 191 = .ok (.bipush 30, 2) := by decide +kernel
theorem dX11_acts_193 : decode cX11_acts 193 = .ok (.if_icmp .ne 6, 3) := by decide +kernel
theorem dX11_acts_196 : decode cX11_acts 196 = .ok (.bipush (-9), 2) := by decide +kernel
theorem dX11_acts_198 : decode cX11_acts 198 = .ok (.ireturn, 1) := by decide +kernel
theorem dX11_acts_199 : decode cX11_acts 199 = .ok (.aload_n 0, 1) := by decide +kernel
theorem dX11_acts_200 : decode cX11_acts 200 = .ok (.aload_n 0, 1) := by decide +kernel
theorem dX11_acts_201 : decode cX11_acts 201 = .ok (.getfield 35, 3) := by decide +kernel
theorem dX11_acts_204 : decode cX11_acts 204 = .ok (.iconst 5, 1) := by decide +kernel
theorem dX11_acts_205 : decode cX11_acts 205 = .ok (.newarray .int, 2) := by decide +kernel
theorem dX11_acts_207 : decode cX11_acts 207 = .ok (.dup, 1) := by decide +kernel
theorem dX11_acts_208 : decode cX11_acts 208 = .ok (.iconst 0, 1) := by decide +kernel
theorem dX11_acts_209 : decode cX11_acts 209 = .ok (.iload_n 2, 1) := by decide +kernel
theorem dX11_acts_210 : decode cX11_acts 210 = .ok (.iconst 3, 1) := by decide +kernel
theorem dX11_acts_211 : decode cX11_acts 211 = .ok (.irem, 1) := by decide +kernel
theorem dX11_acts_212 : decode cX11_acts 212 = .ok (.iastore, 1) := by decide +kernel
theorem dX11_acts_213 : decode cX11_acts 213 = .ok (.dup, 1) := by decide +kernel
theorem dX11_acts_214 : decode cX11_acts 214 = .ok (.iconst 1, 1) := by decide +kernel
theorem dX11_acts_215 : decode cX11_acts 215 = .ok (.iload 6, 2) := by decide +kernel
theorem dX11_acts_217 : decode cX11_acts 217 = .ok (.iastore, 1) := by decide +kernel
theorem dX11_acts_218 : decode cX11_acts 218 = .ok (.dup, 1) := by decide +kernel
theorem dX11_acts_219 : decode cX11_acts 219 = .ok (.iconst 2, 1) := by decide +kernel
theorem dX11_acts_220 : decode cX11_acts 220 = .ok (.iload_n 3, 1) := by decide +kernel
theorem dX11_acts_221 : decode cX11_acts 221 = .ok (.bipush 64, 2) := by decide +kernel
theorem dX11_acts_223 : decode cX11_acts 223 = .ok (.idiv, 1) := by decide +kernel
theorem dX11_acts_224 : decode cX11_acts 224 = .ok (.iconst 3, 1) := by decide +kernel
theorem dX11_acts_225 : decode cX11_acts 225 = .ok (.irem, 1) := by decide +kernel
theorem dX11_acts_226 : decode cX11_acts 226 = .ok (.iastore, 1) := by decide +kernel
theorem dX11_acts_227 : decode cX11_acts 227 = .ok (.dup, 1) := by decide +kernel
theorem dX11_acts_228 : decode cX11_acts 228 = .ok (.iconst 3, 1) := by decide +kernel
theorem dX11_acts_229 : decode cX11_acts 229 = .ok (.iconst 0, 1) := by decide +kernel
theorem dX11_acts_230 : decode cX11_acts 230 = .ok (.iastore, 1) := by decide +kernel
theorem dX11_acts_231 : decode cX11_acts 231 = .ok (.dup, 1) := by decide +kernel
theorem dX11_acts_232 : decode cX11_acts 232 = .ok (.iconst 4, 1) := by decide +kernel
theorem dX11_acts_233 : decode cX11_acts 233 = .ok (.iconst 0, 1) := by decide +kernel
theorem dX11_acts_234 : decode cX11_acts 234 = .ok (.iastore, 1) := by decide +kernel
theorem dX11_acts_235 : decode cX11_acts 235 = .ok (.invokestatic 108, 3) := by decide +kernel
theorem dX11_acts_238 : decode cX11_acts 238 = .ok (.putfield 35, 3) := by decide +kernel
theorem dX11_acts_241 : decode cX11_acts 241 = .ok (.aload_n 0, 1) := by decide +kernel
theorem dX11_acts_242 : decode cX11_acts 242 = .ok (.getfield 35, 3) := by decide +kernel
theorem dX11_acts_245 : decode cX11_acts 245 = .ok (.arraylength, 1) := by decide +kernel
theorem dX11_acts_246 : decode cX11_acts 246 = .ok (.iconst 1, 1) := by decide +kernel
theorem dX11_acts_247 : decode cX11_acts 247 = .ok (.isub, 1) := by decide +kernel
theorem dX11_acts_248 : decode cX11_acts 248 = .ok (.iconst 4, 1) := by decide +kernel
theorem dX11_acts_249 : decode cX11_acts 249 = .ok (.idiv, 1) := by decide +kernel
theorem dX11_acts_250 : decode cX11_acts 250 = .ok (.ireturn, 1) := by decide +kernel
theorem dX11_acts_251 : decode cX11_acts 251 = .ok (.aload_n 0, 1) := by decide +kernel
theorem dX11_acts_252 : decode cX11_acts 252 = .ok (.iload_n 2, 1) := by decide +kernel
theorem dX11_acts_253 : decode cX11_acts 253 = .ok (.iload 4, 2) := by decide +kernel
theorem dX11_acts_255 : decode cX11_acts 255 = .ok (.irem, 1) := by decide +kernel
theorem dX11_acts_256 : decode cX11_acts 256 = .ok (.invokevirtual 112, 3) := by decide +kernel
theorem dX11_acts_259 : decode cX11_acts 259 = .ok (.ireturn, 1) := by decide +kernel
theorem dX11_acts_260 : decode cX11_acts 260 = .ok (.aload_n 0, 1) := by decide +kernel
theorem dX11_acts_261 : decode cX11_acts 261 = .ok (.getfield 13, 3) := by decide +kernel
theorem dX11_acts_264 : decode cX11_acts 264 = .ok (.iload_n 2, 1) := by decide +kernel
theorem dX11_acts_265 : decode cX11_acts 265 = .ok (.iconst 3, 1) := by decide +kernel
theorem dX11_acts_266 : decode cX11_acts 266 = .ok (.irem, 1) := by decide +kernel
theorem dX11_acts_267 : decode cX11_acts 267 = .ok (.iaload, 1) := by decide +kernel
theorem dX11_acts_268 : decode cX11_acts 268 = .ok (.istore 5, 2) := by decide +kernel
theorem dX11_acts_270 : decode cX11_acts 270 = .ok (.aload_n 0, 1) := by decide +kernel
theorem dX11_acts_271 : decode cX11_acts 271 = .ok (.getfield 13, 3) := by decide +kernel
theorem dX11_acts_274 : decode cX11_acts 274 = .ok (.iload_n 2, 1) := by decide +kernel
theorem dX11_acts_275 : decode cX11_acts 275 = .ok (.iconst 3, 1) := by decide +kernel
theorem dX11_acts_276 : decode cX11_acts 276 = .ok (.irem, 1) := by decide +kernel
theorem dX11_acts_277 : decode cX11_acts 277 = .ok (.iload_n 3, 1) := by decide +kernel
theorem dX11_acts_278 : decode cX11_acts 278 = .ok (.bipush 101, 2) := by decide +kernel
theorem dX11_acts_280 : decode cX11_acts 280 = .ok (.irem, 1) := by decide +kernel
theorem dX11_acts_281 : decode cX11_acts 281 = .ok (.iastore, 1) := by decide +kernel
theorem dX11_acts_282 : decode cX11_acts 282 = .ok (.iload 5, 2) := by decide +kernel
theorem dX11_acts_284 : decode cX11_acts 284 = .ok (.ireturn, 1) := by decide +kernel
theorem dX11_acts_285 : decode cX11_acts 285 = .ok (.aload_n 0, 1) := by decide +kernel
theorem dX11_acts_286 : decode cX11_acts 286 = .ok (.getfield 7, 3) := by decide +kernel
theorem dX11_acts_289 : decode cX11_acts 289 = .ok (.iload_n 2, 1) := by decide +kernel
theorem dX11_acts_290 : decode cX11_acts 290 = .ok (.iconst 3, 1) := by decide +kernel
theorem dX11_acts_291 : decode cX11_acts 291 = .ok (.irem, 1) := by decide +kernel
theorem dX11_acts_292 : decode cX11_acts 292 = .ok (.iaload, 1) := by decide +kernel
theorem dX11_acts_293 : decode cX11_acts 293 = .ok (.istore 5, 2) := by decide +kernel
theorem dX11_acts_295 : decode cX11_acts 295 = .ok (.aload_n 0, 1) := by decide +kernel
theorem dX11_acts_296 : decode cX11_acts 296 = .ok (.getfield 7, 3) := by decide +kernel
theorem dX11_acts_299 : decode cX11_acts 299 = .ok (.iload_n 2, 1) := by decide +kernel
theorem dX11_acts_300 : decode cX11_acts 300 = .ok (.iconst 3, 1) := by decide +kernel
theorem dX11_acts_301 : decode cX11_acts 301 = .ok (.irem, 1) := by decide +kernel
theorem dX11_acts_302 : decode cX11_acts 302 = .ok (.iconst 1, 1) := by decide +kernel
theorem dX11_acts_303 : decode cX11_acts 303 = .ok (.iload_n 3, 1) := by decide +kernel
theorem dX11_acts_304 : decode cX11_acts 304 = .ok (.bipush 99, 2) := by decide +kernel
theorem dX11_acts_306 : decode cX11_acts 306 = .ok (.irem, 1) := by decide +kernel
theorem dX11_acts_307 : decode cX11_acts 307 = .ok (.iadd, 1) := by decide +kernel
theorem dX11_acts_308 : decode cX11_acts 308 = .ok (.iastore, 1) := by decide +kernel
theorem dX11_acts_309 : decode cX11_acts 309 = .ok (.iload 5, 2) := by decide +kernel
theorem dX11_acts_311 : decode cX11_acts 311 = .ok (.ireturn, 1) := by decide +kernel
theorem dX11_acts_312 : decode cX11_acts 312 = .ok (.aload_n 0, 1) := by decide +kernel
theorem dX11_acts_313 : decode cX11_acts 313 = .ok (.getfield 16, 3) := by decide +kernel
theorem dX11_acts_316 : decode cX11_acts 316 = .ok (.iload_n 2, 1) := by decide +kernel
theorem dX11_acts_317 : decode cX11_acts 317 = .ok (.iconst 3, 1) := by decide +kernel
theorem dX11_acts_318 : decode cX11_acts 318 = .ok (.irem, 1) := by decide +kernel
theorem dX11_acts_319 : decode cX11_acts 319 = .ok (.iaload, 1) := by decide +kernel
theorem dX11_acts_320 : decode cX11_acts 320 = .ok (.istore 5, 2) := by decide +kernel
theorem dX11_acts_322 : decode cX11_acts 322 = .ok (.aload_n 0, 1) := by decide +kernel
theorem dX11_acts_323 : decode cX11_acts 323 = .ok (.getfield 16, 3) := by decide +kernel
theorem dX11_acts_326 : decode cX11_acts 326 = .ok (.iconst 0, 1) := by decide +kernel
theorem dX11_acts_327 : decode cX11_acts 327 = .ok (.iaload, 1) := by decide +kernel
theorem dX11_acts_328 : decode cX11_acts 328 = .ok (.aload_n 0, 1) := by decide +kernel
theorem dX11_acts_329 : decode cX11_acts 329 = .ok (.getfield 16, 3) := by decide +kernel
theorem dX11_acts_332 : decode cX11_acts 332 = .ok (.iconst 1, 1) := by decide +kernel
theorem dX11_acts_333 : decode cX11_acts 333 = .ok (.iaload, 1) := by decide +kernel
theorem dX11_acts_334 : decode cX11_acts 334 = .ok (.iadd, 1) := by decide +kernel
theorem dX11_acts_335 : decode cX11_acts 335 = .ok (.aload_n 0, 1) := by decide +kernel
theorem dX11_acts_336 : decode cX11_acts 336 = .ok (.getfield 16, 3) := by decide +kernel
theorem dX11_acts_339 : decode cX11_acts 339 = .ok (.iconst 2, 1) := by decide +kernel
theorem dX11_acts_340 : decode cX11_acts 340 = .ok (.iaload, 1) := by decide +kernel
theorem dX11_acts_341 : decode cX11_acts 341 = .ok (.iadd, 1) := by decide +kernel
theorem dX11_acts_342 : decode cX11_acts 342 = .ok (.iload 5, 2) := by decide +kernel
theorem dX11_acts_344 : decode cX11_acts 344 = .ok (.isub, 1) := by decide +kernel
theorem dX11_acts_345 : decode cX11_acts 345 = .ok (.iload_n 3, 1) := by decide +kernel
theorem dX11_acts_346 : decode cX11_acts 346 = .ok (.bipush 21, 2) := by decide +kernel
theorem dX11_acts_348 : decode cX11_acts 348 = .ok (.irem, 1) := by decide +kernel
theorem dX11_acts_349 : decode cX11_acts 349 = .ok (.iadd, 1) := by decide +kernel
theorem dX11_acts_350 : decode cX11_acts 350 = .ok (.ifCond .ne 6, 3) := by decide +kernel
theorem dX11_acts_353 : decode cX11_acts 353 = .ok (.bipush (-9), 2) := by decide +kernel
theorem dX11_acts_355 : decode cX11_acts 355 = .ok (.ireturn, 1) := by decide +kernel
theorem dX11_acts_356 : decode cX11_acts 356 = .ok (.aload_n 0, 1) := by decide +kernel
theorem dX11_acts_357 : decode cX11_acts 357 = .ok (.getfield 16, 3) := by decide +kernel
theorem dX11_acts_360 : decode cX11_acts 360 = .ok (.iload_n 2, 1) := by decide +kernel
theorem dX11_acts_361 : decode cX11_acts 361 = .ok (.iconst 3, 1) := by decide +kernel
theorem dX11_acts_362 : decode cX11_acts 362 = .ok (.irem, 1) := by decide +kernel
theorem dX11_acts_363 : decode cX11_acts 363 = .ok (.iload_n 3, 1) := by decide +kernel
theorem dX11_acts_364 : decode cX11_acts 364 = .ok (.bipush 21, 2) := by decide +kernel
theorem dX11_acts_366 : decode cX11_acts 366 = .ok (.irem, 1) := by decide +kernel
theorem dX11_acts_367 : decode cX11_acts 367 = .ok (.iastore, 1) := by decide +kernel
theorem dX11_acts_368 : decode cX11_acts 368 = .ok (.iload 5, 2) := by decide +kernel
theorem dX11_acts_370 : decode cX11_acts 370 = .ok (.ireturn, 1) := by decide +kernel
theorem dX11_acts_371 : decode cX11_acts 371 = .ok (.aload_n 0, 1) := by decide +kernel
theorem dX11_acts_372 : decode cX11_acts 372 = .ok (.getfield 67, 3) := by decide +kernel
theorem dX11_acts_375 : decode cX11_acts 375 = .ok (.istore 5, 2) := by decide +kernel
theorem dX11_acts_377 : decode cX11_acts 377 = .ok (.iconst 0, 1) := by decide +kernel
theorem dX11_acts_378 : decode cX11_acts 378 = .ok (.istore 6, 2) := by decide +kernel
theorem dX11_acts_380 : decode cX11_acts 380 = .ok (.iload 6, 2) := by decide +kernel
theorem dX11_acts_382 : decode cX11_acts 382 = .ok (.iload_n 3, 1) := by decide +kernel
theorem dX11_acts_383 : decode cX11_acts 383 = .ok (.iload_n 1, 1) := by decide +kernel
theorem dX11_acts_384 : decode cX11_acts 384 = .ok (.bipush 32, 2) := by decide +kernel
theorem dX11_acts_386 : decode cX11_acts 386 = .ok (.irem, 1) := by decide +kernel
theorem dX11_acts_387 : decode cX11_acts 387 = .ok (.bipush 29, 2) := by decide +kernel
theorem dX11_acts_389 : decode cX11_acts 389 = .ok (.if_icmp .ge 7, 3) := by decide +kernel
theorem dX11_acts_392 : decode cX11_acts 392 = .ok (.iconst 3, 1) := by decide +kernel
theorem dX11_acts_393 : decode cX11_acts 393 = .ok (.goto 5, 3) := by decide +kernel
theorem dX11_acts_396 : decode cX11_acts 396 = .ok (.bipush 25, 2) := by decide +kernel
theorem dX11_acts_398 : decode cX11_acts 398 = .ok (.irem, 1) := by decide +kernel
theorem dX11_acts_399 : decode cX11_acts 399 = .ok (.if_icmp .gt 13, 3) := by decide +kernel
theorem dX11_acts_402 : decode cX11_acts 402 = .ok (.aload_n 0, 1) := by decide +kernel
theorem dX11_acts_403 : decode cX11_acts 403 = .ok (.invokevirtual 116, 3) := by decide +kernel
theorem dX11_acts_406 : decode cX11_acts 406 = .ok (.iinc 6 1, 3) := by decide +kernel
theorem dX11_acts_409 : decode cX11_acts 409 = .ok (.goto (-29), 3) := by decide +kernel
theorem dX11_acts_412 : decode cX11_acts 412 = .ok (.aload_n 0, 1) := by decide +kernel
theorem dX11_acts_413 : decode cX11_acts 413 = .ok (.getfield 67, 3) := by decide +kernel
theorem dX11_acts_416 : decode cX11_acts 416 = .ok (.iload 5, 2) := by decide +kernel
theorem dX11_acts_418 : decode cX11_acts 418 = .ok (.isub, 1) := by decide +kernel
theorem dX11_acts_419 : decode cX11_acts 419 = .ok (.ireturn, 1) := by decide +kernel
theorem dX11_agrees_0 : decode cX11_agrees 0 = .ok (.aload_n 1, 1) := by decide +kernel
theorem dX11_agrees_1 : decode cX11_agrees 1 = .ok (.invokevirtual 119, 3) := by decide +kernel
theorem dX11_agrees_4 : decode cX11_agrees 4 = .ok (.aload_n 0, 1) := by decide +kernel
theorem dX11_agrees_5 : decode cX11_agrees 5 = .ok (.getfield 70, 3) := by decide +kernel
theorem dX11_agrees_8 : decode cX11_agrees 8 = .ok (.if_icmp .ne 82, 3) := by decide +kernel
theorem dX11_agrees_11 : decode cX11_agrees 11 = .ok (.aload_n 1, 1) := by decide +kernel
theorem dX11_agrees_12 : decode cX11_agrees 12 = .ok (.invokevirtual 124, 3) := by decide +kernel
theorem dX11_agrees_15 : decode cX11_agrees 15 = .ok (.aload_n 0, 1) := by decide +kernel
theorem dX11_agrees_16 : decode cX11_agrees 16 = .ok (.getfield 48, 3) := by decide +kernel
theorem dX11_agrees_19 : decode cX11_agrees 19 = .ok (.if_icmp .ne 71, 3) := by decide +kernel
theorem dX11_agrees_22 : decode cX11_agrees 22 = .ok (.aload_n 1, 1) := by decide +kernel
theorem dX11_agrees_23 : decode cX11_agrees 23 = .ok (.invokevirtual 126, 3) := by decide +kernel
theorem dX11_agrees_26 : decode cX11_agrees 26 = .ok (.aload_n 0, 1) := by decide +kernel
theorem dX11_agrees_27 : decode cX11_agrees 27 = .ok (.getfield 82, 3) := by decide +kernel
theorem dX11_agrees_30 : decode cX11_agrees 30 = .ok (.if_icmp .ne 60, 3) := by decide +kernel
theorem dX11_agrees_33 : decode cX11_agrees 33 = .ok (.aload_n 1, 1) := by decide +kernel
theorem dX11_agrees_34 : decode cX11_agrees 34 = .ok (.invokevirtual 128, 3) := by decide +kernel
theorem dX11_agrees_37 : decode cX11_agrees 37 = .ok (.aload_n 0, 1) := by decide +kernel
theorem dX11_agrees_38 : decode cX11_agrees 38 = .ok (.getfield 92, 3) := by decide +kernel
theorem dX11_agrees_41 : decode cX11_agrees 41 = .ok (.if_icmp .ne 49, 3) := by decide +kernel
theorem dX11_agrees_44 : decode cX11_agrees 44 = .ok (.aload_n 1, 1) := by decide +kernel
theorem dX11_agrees_45 : decode cX11_agrees 45 = .ok (.invokevirtual 130, 3) := by decide +kernel
theorem dX11_agrees_48 : decode cX11_agrees 48 = .ok (.aload_n 0, 1) := by decide +kernel
theorem dX11_agrees_49 : decode cX11_agrees 49 = .ok (.getfield 67, 3) := by decide +kernel
theorem dX11_agrees_52 : decode cX11_agrees 52 = .ok (.if_icmp .ne 38, 3) := by decide +kernel
theorem dX11_agrees_55 : decode cX11_agrees 55 = .ok (.aload_n 1, 1) := by decide +kernel
theorem dX11_agrees_56 : decode cX11_agrees 56 = .ok (.invokevirtual 132, 3) := by decide +kernel
theorem dX11_agrees_59 : decode cX11_agrees 59 = .ok (.aload_n 0, 1) := by decide +kernel
theorem dX11_agrees_60 : decode cX11_agrees 60 = .ok (.getfield 105, 3) := by decide +kernel
theorem dX11_agrees_63 : decode cX11_agrees 63 = .ok (.if_icmp .ne 27, 3) := by decide +kernel
theorem dX11_agrees_66 : decode cX11_agrees 66 = .ok (.aload_n 1, 1) := by decide +kernel
theorem dX11_agrees_67 : decode cX11_agrees 67 = .ok (.invokevirtual 135, 3) := by decide +kernel
theorem dX11_agrees_70 : decode cX11_agrees 70 = .ok (.aload_n 0, 1) := by decide +kernel
theorem dX11_agrees_71 : decode cX11_agrees 71 = .ok (.getfield 35, 3) := by decide +kernel
theorem dX11_agrees_74 : decode cX11_agrees 74 = .ok (.arraylength, 1) := by decide +kernel
theorem dX11_agrees_75 : decode cX11_agrees 75 = .ok (.if_icmp .ne 15, 3) := by decide +kernel
theorem dX11_agrees_78 : decode cX11_agrees 78 = .ok (.aload_n 1, 1) := by decide +kernel
theorem dX11_agrees_79 : decode cX11_agrees 79 = .ok (.invokevirtual 138, 3) := by decide +kernel
theorem dX11_agrees_82 : decode cX11_agrees 82 = .ok (.aload_n 0, 1) := by decide +kernel
theorem dX11_agrees_83 : decode cX11_agrees 83 = .ok (.getfield 39, 3) := by decide +kernel
theorem dX11_agrees_86 : decode cX11_agrees 86 = .ok (.arraylength, 1) := by decide +kernel
theorem dX11_agrees_87 : decode cX11_agrees 87 = .ok (.if_icmp .eq 5, 3) := by decide +kernel
theorem dX11_agrees_90 : decode cX11_agrees 90 = .ok (.iconst 0, 1) := by decide +kernel
theorem dX11_agrees_91 : decode cX11_agrees 91 = .ok (.ireturn, 1) := by decide +kernel
theorem dX11_agrees_92 : decode cX11_agrees 92 = .ok (.iconst 0, 1) := by decide +kernel
theorem dX11_agrees_93 : decode cX11_agrees 93 = .ok (.istore_n 2, 1) := by decide +kernel
theorem dX11_agrees_94 : decode cX11_agrees 94 = .ok (.iload_n 2, 1) := by decide +kernel
theorem dX11_agrees_95 : decode cX11_agrees 95 = .ok (.iconst 3, 1) := by decide +kernel
theorem dX11_agrees_96 : decode cX11_agrees 96 = .ok (.if_icmp .ge 67, 3) := by decide +kernel
theorem dX11_agrees_99 : decode cX11_agrees 99 = .ok (.aload_n 1, 1) := by decide +kernel
theorem dX11_agrees_100 : decode cX11_agrees 100 = .ok (.iload_n 2, 1) := by decide +kernel
theorem dX11_agrees_101 : decode cX11_agrees 101 = .ok (.invokevirtual 141, 3) := by decide +kernel
theorem dX11_agrees_104 : decode cX11_agrees 104 = .ok (.aload_n 0, 1) := by decide +kernel
theorem dX11_agrees_105 : decode cX11_agrees 105 = .ok (.getfield 7, 3) := by decide +kernel
theorem dX11_agrees_108 : decode cX11_agrees 108 = .ok (.iload_n 2, 1) := by decide +kernel
theorem dX11_agrees_109 : decode cX11_agrees 109 = .ok (.iaload, 1) := by decide +kernel
theorem dX11_agrees_110 : decode cX11_agrees 110 = .ok (.if_icmp .ne 45, 3) := by decide +kernel
theorem dX11_agrees_113 : decode cX11_agrees 113 = .ok (.aload_n 1, 1) := by decide +kernel
theorem dX11_agrees_114 : decode cX11_agrees 114 = .ok (.iload_n 2, 1) := by decide +kernel
theorem dX11_agrees_115 : decode cX11_agrees 115 = .ok (.invokevirtual 144, 3) := by decide +kernel
theorem dX11_agrees_118 : decode cX11_agrees 118 = .ok (.aload_n 0, 1) := by decide +kernel
theorem dX11_agrees_119 : decode cX11_agrees 119 = .ok (.getfield 13, 3) := by decide +kernel
theorem dX11_agrees_122 : decode cX11_agrees 122 = .ok (.iload_n 2, 1) := by decide +kernel
theorem dX11_agrees_123 : decode cX11_agrees 123 = .ok (.iaload, 1) := by decide +kernel
theorem dX11_agrees_124 : decode cX11_agrees 124 = .ok (.if_icmp .ne 31, 3) := by decide +kernel
theorem dX11_agrees_127 : decode cX11_agrees 127 = .ok (.aload_n 1, 1) := by decide +kernel
theorem dX11_agrees_128 : decode cX11_agrees 128 = .ok (.iload_n 2, 1) := by decide +kernel
theorem dX11_agrees_129 : decode cX11_agrees 129 = .ok (.invokevirtual 147, 3) := by decide +kernel
theorem dX11_agrees_132 : decode cX11_agrees 132 = .ok (.aload_n 0, 1) := by decide +kernel
theorem dX11_agrees_133 : decode cX11_agrees 133 = .ok (.getfield 16, 3) := by decide +kernel
theorem dX11_agrees_136 : decode cX11_agrees 136 = .ok (.iload_n 2, 1) := by decide +kernel
theorem dX11_agrees_137 : decode cX11_agrees 137 = .ok (.iaload, 1) := by decide +kernel
theorem dX11_agrees_138 : decode cX11_agrees 138 = .ok (.if_icmp .ne 17, 3) := by decide +kernel
theorem dX11_agrees_141 : decode cX11_agrees 141 = .ok (.aload_n 1, 1) := by decide +kernel
theorem dX11_agrees_142 : decode cX11_agrees 142 = .ok (.iload_n 2, 1) := by decide +kernel
theorem dX11_agrees_143 : decode cX11_agrees 143 = .ok (.invokevirtual 150, 3) := by decide +kernel
theorem dX11_agrees_146 : decode cX11_agrees 146 = .ok (.aload_n 0, 1) := by decide +kernel
theorem dX11_agrees_147 : decode cX11_agrees 147 = .ok (.getfield 19, 3) := by decide +kernel
theorem dX11_agrees_150 : decode cX11_agrees 150 = .ok (.iload_n 2, 1) := by decide +kernel
theorem dX11_agrees_151 : decode cX11_agrees 151 = .ok (.iaload, 1) := by decide +kernel
theorem dX11_agrees_152 : decode cX11_agrees 152 = .ok (.if_icmp .eq 5, 3) := by decide +kernel
theorem dX11_agrees_155 : decode cX11_agrees 155 = .ok (.iconst 0, 1) := by decide +kernel
theorem dX11_agrees_156 : decode cX11_agrees 156 = .ok (.ireturn, 1) := by decide +kernel
theorem dX11_agrees_157 : decode cX11_agrees 157 = .ok (.iinc 2 1, 3) := by decide +kernel
theorem dX11_agrees_160 : decode cX11_agrees 160 = .ok (.goto (-66), 3) := by decide +kernel
theorem dX11_agrees_163 : decode cX11_agrees 163 = .ok (.iconst 0, 1) := by decide +kernel
theorem dX11_agrees_164 : decode cX11_agrees 164 = .ok (.istore_n 2, 1) := by decide +kernel
theorem dX11_agrees_165 : decode cX11_agrees 165 = .ok (.iload_n 2, 1) := by decide +kernel
theorem dX11_agrees_166 : decode cX11_agrees 166 = .ok (.aload_n 0, 1) := by decide +kernel
theorem dX11_agrees_167 : decode cX11_agrees 167 = .ok (.getfield 35, 3) := by decide +kernel
theorem dX11_agrees_170 : decode cX11_agrees 170 = .ok (.arraylength, 1) := by decide +kernel
theorem dX11_agrees_171 : decode cX11_agrees 171 = .ok (.if_icmp .ge 100, 3) := by decide +kernel
theorem dX11_agrees_174 : decode cX11_agrees 174 = .ok (.aload_n 0, 1) := by decide +kernel
theorem dX11_agrees_175 : decode cX11_agrees 175 = .ok (.getfield 35, 3) := by decide +kernel
theorem dX11_agrees_178 : decode cX11_agrees 178 = .ok (.iload_n 2, 1) := by decide +kernel
theorem dX11_agrees_179 : decode cX11_agrees 179 = .ok (.aaload, 1) := by decide +kernel
theorem dX11_agrees_180 : decode cX11_agrees 180 = .ok (.astore_n 3, 1) := by decide +kernel
theorem dX11_agrees_181 : decode cX11_agrees 181 = .ok (.aload_n 1, 1) := by decide +kernel
theorem dX11_agrees_182 : decode cX11_agrees 182 = .ok (.iload_n 2, 1) := by decide +kernel
theorem dX11_agrees_183 : decode cX11_agrees 183 = .ok (.invokevirtual 153, 3) := by decide +kernel
theorem dX11_agrees_186 : decode cX11_agrees 186 = .ok (.bipush 10, 2) := by decide +kernel
theorem dX11_agrees_188 : decode cX11_agrees 188 = .ok (.aload_n 3, 1) := by decide +kernel
theorem dX11_agrees_189 : decode cX11_agrees 189 = .ok (.iconst 1, 1) := by decide +kernel
theorem dX11_agrees_190 : decode cX11_agrees 190 = .ok (.iaload, 1) := by decide +kernel
theorem dX11_agrees_191 : decode cX11_agrees 191 = .ok (.imul, 1) := by decide +kernel
theorem dX11_agrees_192 : decode cX11_agrees 192 = .ok (.aload_n 3, 1) := by decide +kernel
theorem dX11_agrees_193 : decode cX11_agrees 193 = .ok (.iconst 0, 1) := by decide +kernel
theorem dX11_agrees_194 : decode cX11_agrees 194 = .ok (.iaload, 1) := by decide +kernel
theorem dX11_agrees_195 : decode cX11_agrees 195 = .ok (.iadd, 1) := by decide +kernel
theorem dX11_agrees_196 : decode cX11_agrees 196 = .ok (.if_icmp .ne 67, 3) := by decide +kernel
theorem dX11_agrees_199 : decode cX11_agrees 199 = .ok (.aload_n 1, 1) := by decide +kernel
theorem dX11_agrees_200 : decode cX11_agrees 200 = .ok (.aload_n 3, 1) := by decide +kernel
theorem dX11_agrees_201 : decode cX11_agrees 201 = .ok (.iconst 0, 1) := by decide +kernel
theorem dX11_agrees_202 : decode cX11_agrees 202 = .ok (.iaload, 1) := by decide +kernel
theorem dX11_agrees_203 : decode cX11_agrees 203 = .ok (.aload_n 3, 1) := by decide +kernel
theorem dX11_agrees_204 : decode cX11_agrees 204 = .ok (.iconst 1, 1) := by decide +kernel
theorem dX11_agrees_205 : decode cX11_agrees 205 = .ok (.iaload, 1) := by decide +kernel
theorem dX11_agrees_206 : decode cX11_agrees 206 = .ok (.invokevirtual 156, 3) := by decide +kernel
theorem dX11_agrees_209 : decode cX11_agrees 209 = .ok (.aload_n 3, 1) := by decide +kernel
theorem dX11_agrees_210 : decode cX11_agrees 210 = .ok (.iconst 2, 1) := by decide +kernel
theorem dX11_agrees_211 : decode cX11_agrees 211 = .ok (.iaload, 1) := by decide +kernel
theorem dX11_agrees_212 : decode cX11_agrees 212 = .ok (.if_icmp .ne 51, 3) := by decide +kernel
theorem dX11_agrees_215 : decode cX11_agrees 215 = .ok (.aload_n 1, 1) := by decide +kernel
theorem dX11_agrees_216 : decode cX11_agrees 216 = .ok (.aload_n 3, 1) := by decide +kernel
theorem dX11_agrees_217 : decode cX11_agrees 217 = .ok (.iconst 0, 1) := by decide +kernel
theorem dX11_agrees_218 : decode cX11_agrees 218 = .ok (.iaload, 1) := by decide +kernel
theorem dX11_agrees_219 : decode cX11_agrees 219 = .ok (.aload_n 3, 1) := by decide +kernel
theorem dX11_agrees_220 : decode cX11_agrees 220 = .ok (.iconst 1, 1) := by decide +kernel
theorem dX11_agrees_221 : decode cX11_agrees 221 = .ok (.iaload, 1) := by decide +kernel
theorem dX11_agrees_222 : decode cX11_agrees 222 = .ok (.invokevirtual 159, 3) := by decide +kernel
theorem dX11_agrees_225 : decode cX11_agrees 225 = .ok (.aload_n 3, 1) := by decide +kernel
theorem dX11_agrees_226 : decode cX11_agrees 226 = .ok (.iconst 3, 1) := by decide +kernel
theorem dX11_agrees_227 : decode cX11_agrees 227 = .ok (.iaload, 1) := by decide +kernel
theorem dX11_agrees_228 : decode cX11_agrees 228 = .ok (.if_icmp .ne 35, 3) := by decide +kernel
theorem dX11_agrees_231 : decode cX11_agrees 231 = .ok (.aload_n 1, 1) := by decide +kernel
theorem dX11_agrees_232 : decode cX11_agrees 232 = .ok (.aload_n 3, 1) := by decide +kernel
theorem dX11_agrees_233 : decode cX11_agrees 233 = .ok (.iconst 0, 1) := by decide +kernel
theorem dX11_agrees_234 : decode cX11_agrees 234 = .ok (.iaload, 1) := by decide +kernel
theorem dX11_agrees_235 : decode cX11_agrees 235 = .ok (.aload_n 3, 1) := by decide +kernel
theorem dX11_agrees_236 : decode cX11_agrees 236 = .ok (.iconst 1, 1) := by decide +kernel
theorem dX11_agrees_237 : decode cX11_agrees 237 = .ok (.iaload, 1) := by decide +kernel
theorem dX11_agrees_238 : decode cX11_agrees 238 = .ok (.invokevirtual 162, 3) := by decide +kernel
theorem dX11_agrees_241 : decode cX11_agrees 241 = .ok (.aload_n 3, 1) := by decide +kernel
theorem dX11_agrees_242 : decode cX11_agrees 242 = .ok (.iconst 4, 1) := by decide +kernel
theorem dX11_agrees_243 : decode cX11_agrees 243 = .ok (.iaload, 1) := by decide +kernel
theorem dX11_agrees_244 : decode cX11_agrees 244 = .ok (.if_icmp .ne 19, 3) := by decide +kernel
theorem dX11_agrees_247 : decode cX11_agrees 247 = .ok (.aload_n 1, 1) := by decide +kernel
theorem dX11_agrees_248 : decode cX11_agrees 248 = .ok (.aload_n 3, 1) := by decide +kernel
theorem dX11_agrees_249 : decode cX11_agrees 249 = .ok (.iconst 0, 1) := by decide +kernel
theorem dX11_agrees_250 : decode cX11_agrees 250 = .ok (.iaload, 1) := by decide +kernel
theorem dX11_agrees_251 : decode cX11_agrees 251 = .ok (.aload_n 3, 1) := by decide +kernel
theorem dX11_agrees_252 : decode cX11_agrees 252 = .ok (.iconst 1, 1) := by decide +kernel
theorem dX11_agrees_253 : decode cX11_agrees 253 = .ok (.iaload, 1) := by decide +kernel
theorem dX11_agrees_254 : decode cX11_agrees 254 = .ok (.invokevirtual 165, 3) := by decide +kernel
theorem dX11_agrees_257 : decode cX11_agrees 257 = .ok (.iload_n 2, 1) := by decide +kernel
theorem dX11_agrees_258 : decode cX11_agrees 258 = .ok (.iconst 4, 1) := by decide +kernel
theorem dX11_agrees_259 : decode cX11_agrees 259 = .ok (.idiv, 1) := by decide +kernel
theorem dX11_agrees_260 : decode cX11_agrees 260 = .ok (.if_icmp .eq 5, 3) := by decide +kernel
theorem dX11_agrees_263 : decode cX11_agrees 263 = .ok (.iconst 0, 1) := by decide +kernel
theorem dX11_agrees_264 : decode cX11_agrees 264 = .ok (.ireturn, 1) := by decide +kernel
theorem dX11_agrees_265 : decode cX11_agrees 265 = .ok (.iinc 2 1, 3) := by decide +kernel
theorem dX11_agrees_268 : decode cX11_agrees 268 = .ok (.goto (-103), 3) := by decide +kernel
theorem dX11_agrees_271 : decode cX11_agrees 271 = .ok (.iconst 0, 1) := by decide +kernel
theorem dX11_agrees_272 : decode cX11_agrees 272 = .ok (.istore_n 2, 1) := by decide +kernel
theorem dX11_agrees_273 : decode cX11_agrees 273 = .ok (.iload_n 2, 1) := by decide +kernel
theorem dX11_agrees_274 : decode cX11_agrees 274 = .ok (.aload_n 0, 1) := by decide +kernel
theorem dX11_agrees_275 : decode cX11_agrees 275 = .ok (.getfield 39, 3) := by decide +kernel
theorem dX11_agrees_278 : decode cX11_agrees 278 = .ok (.arraylength, 1) := by decide +kernel
theorem dX11_agrees_279 : decode cX11_agrees 279 = .ok (.if_icmp .ge 25, 3) := by decide +kernel
theorem dX11_agrees_282 : decode cX11_agrees 282 = .ok (.aload_n 1, 1) := by decide +kernel
theorem dX11_agrees_283 : decode cX11_agrees 283 = .ok (.iload_n 2, 1) := by decide +kernel
theorem dX11_agrees_284 : decode cX11_agrees 284 = .ok (.invokevirtual 168, 3) := by decide +kernel
theorem dX11_agrees_287 : decode cX11_agrees 287 = .ok (.aload_n 0, 1) := by decide +kernel
theorem dX11_agrees_288 : decode cX11_agrees 288 = .ok (.getfield 39, 3) := by decide +kernel
theorem dX11_agrees_291 : decode cX11_agrees 291 = .ok (.iload_n 2, 1) := by decide +kernel
theorem dX11_agrees_292 : decode cX11_agrees 292 = .ok (.iaload, 1) := by decide +kernel
theorem dX11_agrees_293 : decode cX11_agrees 293 = .ok (.if_icmp .eq 5, 3) := by decide +kernel
theorem dX11_agrees_296 : decode cX11_agrees 296 = .ok (.iconst 0, 1) := by decide +kernel
theorem dX11_agrees_297 : decode cX11_agrees 297 = .ok (.ireturn, 1) := by decide +kernel
theorem dX11_agrees_298 : decode cX11_agrees 298 = .ok (.iinc 2 1, 3) := by decide +kernel
theorem dX11_agrees_301 : decode cX11_agrees 301 = .ok (.goto (-28), 3) := by decide +kernel
theorem dX11_agrees_304 : decode cX11_agrees 304 = .ok (.iconst 1, 1) := by decide +kernel
theorem dX11_agrees_305 : decode cX11_agrees 305 = .ok (.ireturn, 1) := by decide +kernel
theorem dJ5_init_d00df_0 : decode cJ5_init_d00df 0 = .ok (.aload_n 0, 1) := by decide +kernel
theorem dJ5_init_d00df_1 : decode cJ5_init_d00df 1 = .ok (.invokespecial 3, 3) := by decide +kernel
theorem dJ5_init_d00df_4 : decode cJ5_init_d00df 4 = .ok (.getstatic 18, 3) := by decide +kernel
theorem dJ5_init_d00df_7 : decode cJ5_init_d00df 7 = .ok (.ifCond .eq 18, 3) := by decide +kernel
theorem dJ5_init_d00df_10 : decode cJ5_init_d00df 10 = .ok (.aload_n 0, 1) := by decide +kernel
theorem dJ5_init_d00df_11 : decode cJ5_init_d00df 11 = .ok (.iload_n 1, 1) := by decide +kernel
theorem dJ5_init_d00df_12 : decode cJ5_init_d00df 12 = .ok (.newarray .byte, 2) := by decide +kernel
theorem dJ5_init_d00df_14 : decode cJ5_init_d00df 14 = .ok (.putfield 15, 3) := by decide +kernel
theorem dJ5_init_d00df_17 : decode cJ5_init_d00df 17 = .ok (.aload_n 0, 1) := by decide +kernel
theorem dJ5_init_d00df_18 : decode cJ5_init_d00df 18 = .ok (.iconst 0, 1) := by decide +kernel
theorem dJ5_init_d00df_19 : decode cJ5_init_d00df 19 = .ok (.putfield 22, 3) := by decide +kernel
theorem dJ5_init_d00df_22 : decode cJ5_init_d00df 22 = .ok (.goto 16, 3) := by decide +kernel
theorem dJ5_init_d00df_25 : decode cJ5_init_d00df 25 = .ok (.aload_n 0, 1) := by decide +kernel
theorem dJ5_init_d00df_26 : decode cJ5_init_d00df 26 = .ok (.iload_n 1, 1) := by decide +kernel
theorem dJ5_init_d00df_27 : decode cJ5_init_d00df 27 = .ok (.invokestatic 26, 3) := by decide +kernel
theorem dJ5_init_d00df_30 : decode cJ5_init_d00df 30 = .ok (.putfield 15, 3) := by decide +kernel
theorem dJ5_init_d00df_33 : decode cJ5_init_d00df 33 = .ok (.aload_n 0, 1) := by decide +kernel
theorem dJ5_init_d00df_34 : decode cJ5_init_d00df 34 = .ok (.iconst 1, 1) := by decide +kernel
theorem dJ5_init_d00df_35 : decode cJ5_init_d00df 35 = .ok (.putfield 22, 3) := by decide +kernel
theorem dJ5_init_d00df_38 : decode cJ5_init_d00df 38 = .ok (.return_, 1) := by decide +kernel
theorem dJ5_init_a7421_0 : decode cJ5_init_a7421 0 = .ok (.aload_n 0, 1) := by decide +kernel
theorem dJ5_init_a7421_1 : decode cJ5_init_a7421 1 = .ok (.invokespecial 3, 3) := by decide +kernel
theorem dJ5_init_a7421_4 : decode cJ5_init_a7421 4 = .ok (.aload_n 1, 1) := by decide +kernel
theorem dJ5_init_a7421_5 : decode cJ5_init_a7421 5 = .ok (.invokevirtual 32, 3) := by decide +kernel
theorem dJ5_init_a7421_8 : decode cJ5_init_a7421 8 = .ok (.istore_n 2, 1) := by decide +kernel
theorem dJ5_init_a7421_9 : decode cJ5_init_a7421 9 = .ok (.iload_n 2, 1) := by decide +kernel
theorem dJ5_init_a7421_10 : decode cJ5_init_a7421 10 = .ok (.ldc 38, 2) := by decide +kernel
theorem dJ5_init_a7421_12 : decode cJ5_init_a7421 12 = .ok (.if_icmp .ge 10, 3) := by decide +kernel
theorem dJ5_init_a7421_15 : decode cJ5_init_a7421 15 = .ok (.iload_n 2, 1) := by decide +kernel
theorem dJ5_init_a7421_16 : decode cJ5_init_a7421 16 = .ok (.bipush 16, 2) := by decide +kernel
theorem dJ5_init_a7421_18 : decode cJ5_init_a7421 18 = .ok (.iadd, 1) := by decide +kernel
theorem dJ5_init_a7421_19 : decode cJ5_init_a7421 19 = .ok (.goto 5, 3) := by decide +kernel
theorem dJ5_init_a7421_22 : decode cJ5_init_a7421 22 = .ok (.ldc 39, 2) := by decide +kernel
theorem dJ5_init_a7421_24 : decode cJ5_init_a7421 24 = .ok (.istore_n 3, 1) := by decide +kernel
theorem dJ5_init_a7421_25 : decode cJ5_init_a7421 25 = .ok (.aload_n 1, 1) := by decide +kernel
theorem dJ5_init_a7421_26 : decode cJ5_init_a7421 26 = .ok (.invokevirtual 40, 3) := by decide +kernel
theorem dJ5_init_a7421_29 : decode cJ5_init_a7421 29 = .ok (.istore 4, 2) := by decide +kernel
theorem dJ5_init_a7421_31 : decode cJ5_init_a7421 31 = .ok (.aload_n 0, 1) := by decide +kernel
theorem dJ5_init_a7421_32 : decode cJ5_init_a7421 32 = .ok (.iload 4, 2) := by decide +kernel
theorem dJ5_init_a7421_34 : decode cJ5_init_a7421 34 = .ok (.putfield 22, 3) := by decide +kernel
theorem dJ5_init_a7421_37 : decode cJ5_init_a7421 37 = .ok (.aload_n 0, 1) := by decide +kernel
theorem dJ5_init_a7421_38 : decode cJ5_init_a7421 38 = .ok (.iload 4, 2) := by decide +kernel
theorem dJ5_init_a7421_40 : decode cJ5_init_a7421 40 = .ok (.ifCond .ne 9, 3) := by decide +kernel
theorem dJ5_init_a7421_43 : decode cJ5_init_a7421 43 = .ok (.iload_n 3, 1) := by decide +kernel
theorem dJ5_init_a7421_44 : decode cJ5_init_a7421 44 = .ok (.newarray .byte, 2) := by decide +kernel
theorem dJ5_init_a7421_46 : decode cJ5_init_a7421 46 = .ok (.goto 7, 3) := by decide +kernel
theorem dJ5_init_a7421_49 : decode cJ5_init_a7421 49 = .ok (.iload_n 3, 1) := by decide +kernel
theorem dJ5_init_a7421_50 : decode cJ5_init_a7421 50 = .ok (.invokestatic 26, 3) := by decide +kernel
theorem dJ5_init_a7421_53 : decode cJ5_init_a7421 53 = .ok (.putfield 15, 3) := by decide +kernel
theorem dJ5_init_a7421_56 : decode cJ5_init_a7421 56 = .ok (.aload_n 0, 1) := by decide +kernel
theorem dJ5_init_a7421_57 : decode cJ5_init_a7421 57 = .ok (.aload_n 1, 1) := by decide +kernel
theorem dJ5_init_a7421_58 : decode cJ5_init_a7421 58 = .ok (.invokevirtual 43, 3) := by decide +kernel
theorem dJ5_init_a7421_61 : decode cJ5_init_a7421 61 = .ok (.pop, 1) := by decide +kernel
theorem dJ5_init_a7421_62 : decode cJ5_init_a7421 62 = .ok (.return_, 1) := by decide +kernel
theorem dJ5_length_8abf5_0 : decode cJ5_length_8abf5 0 = .ok (.aload_n 0, 1) := by decide +kernel
theorem dJ5_length_8abf5_1 : decode cJ5_length_8abf5 1 = .ok (.getfield 79, 3) := by decide +kernel
theorem dJ5_length_8abf5_4 : decode cJ5_length_8abf5 4 = .ok (.ireturn, 1) := by decide +kernel
theorem dJ5_ensureCapacityInternal_d00df_0 : decode cJ5_ensureCapacityInternal_d00df 0 = .ok (.aload_n 0, 1) := by decide +kernel
theorem dJ5_ensureCapacityInternal_d00df_1 : decode cJ5_ensureCapacityInternal_d00df 1 = .ok (.getfield 15, 3) := by decide +kernel
theorem dJ5_ensureCapacityInternal_d00df_4 : decode cJ5_ensureCapacityInternal_d00df 4 = .ok (.arraylength, 1) := by decide +kernel
theorem dJ5_ensureCapacityInternal_d00df_5 : decode cJ5_ensureCapacityInternal_d00df 5 = .ok (.aload_n 0, 1) := by decide +kernel
theorem dJ5_ensureCapacityInternal_d00df_6 : decode cJ5_ensureCapacityInternal_d00df 6 = .ok (.getfield 22, 3) := by decide +kernel
theorem dJ5_ensureCapacityInternal_d00df_9 : decode cJ5_ensureCapacityInternal_d00df 9 = .ok (.ishr, 1) := by decide +kernel
theorem dJ5_ensureCapacityInternal_d00df_10 : decode cJ5_ensureCapacityInternal_d00df 10 = .ok (.istore_n 2, 1) := by decide +kernel
theorem dJ5_ensureCapacityInternal_d00df_11 : decode cJ5_ensureCapacityInternal_d00df 11 = .ok (.iload_n 1, 1) := by decide +kernel
theorem dJ5_ensureCapacityInternal_d00df_12 : decode cJ5_ensureCapacityInternal_d00df 12 = .ok (.iload_n 2, 1) := by decide +kernel
theorem dJ5_ensureCapacityInternal_d00df_13 : decode cJ5_ensureCapacityInternal_d00df 13 = .ok (.isub, 1) := by decide +kernel
theorem dJ5_ensureCapacityInternal_d00df_14 : decode cJ5_ensureCapacityInternal_d00df 14 = .ok (.ifCond .le 24, 3) := by decide +kernel
theorem dJ5_ensureCapacityInternal_d00df_17 : decode cJ5_ensureCapacityInternal_d00df 17 = .ok (.aload_n 0, 1) := by decide +kernel
theorem dJ5_ensureCapacityInternal_d00df_18 : decode cJ5_ensureCapacityInternal_d00df 18 = .ok (.aload_n 0, 1) := by decide +kernel
theorem dJ5_ensureCapacityInternal_d00df_19 : decode cJ5_ensureCapacityInternal_d00df 19 = .ok (.getfield 15, 3) := by decide +kernel
theorem dJ5_ensureCapacityInternal_d00df_22 : decode cJ5_ensureCapacityInternal_d00df 22 = .ok (.aload_n 0, 1) := by decide +kernel
theorem dJ5_ensureCapacityInternal_d00df_23 : decode cJ5_ensureCapacityInternal_d00df 23 = .ok (.iload_n 1, 1) := by decide +kernel
theorem dJ5_ensureCapacityInternal_d00df_24 : decode cJ5_ensureCapacityInternal_d00df 24 = .ok (.invokevirtual 104, 3) := by decide +kernel
theorem dJ5_ensureCapacityInternal_d00df_27 : decode cJ5_ensureCapacityInternal_d00df 27 = .ok (.aload_n 0, 1) := by decide +kernel
theorem dJ5_ensureCapacityInternal_d00df_28 : decode cJ5_ensureCapacityInternal_d00df 28 = .ok (.getfield 22, 3) := by decide +kernel
theorem dJ5_ensureCapacityInternal_d00df_31 : decode cJ5_ensureCapacityInternal_d00df 31 = .ok (.ishl, 1) := by decide +kernel
theorem dJ5_ensureCapacityInternal_d00df_32 : decode cJ5_ensureCapacityInternal_d00df 32 = .ok (.invokestatic 108, 3) := by decide +kernel
theorem dJ5_ensureCapacityInternal_d00df_35 : decode cJ5_ensureCapacityInternal_d00df 35 = .ok (.putfield 15, 3) := by decide +kernel
theorem dJ5_ensureCapacityInternal_d00df_38 : decode cJ5_ensureCapacityInternal_d00df 38 = .ok (.return_, 1) := by decide +kernel
theorem dJ5_newCapacity_0f7a4_0 : decode cJ5_newCapacity_0f7a4 0 = .ok (.aload_n 0, 1) := by decide +kernel
theorem dJ5_newCapacity_0f7a4_1 : decode cJ5_newCapacity_0f7a4 1 = .ok (.getfield 15, 3) := by decide +kernel
theorem dJ5_newCapacity_0f7a4_4 : decode cJ5_newCapacity_0f7a4 4 = .ok (.arraylength, 1) := by decide +kernel
theorem dJ5_newCapacity_0f7a4_5 : decode cJ5_newCapacity_0f7a4 5 = .ok (.istore_n 2, 1) := by decide +kernel
theorem dJ5_newCapacity_0f7a4_6 : decode cJ5_newCapacity_0f7a4 6 = .ok (.iload_n 1, 1) := by decide +kernel
theorem dJ5_newCapacity_0f7a4_7 : decode cJ5_newCapacity_0f7a4 7 = .ok (.aload_n 0, 1) := by decide +kernel
theorem dJ5_newCapacity_0f7a4_8 : decode cJ5_newCapacity_0f7a4 8 = .ok (.getfield 22, 3) := by decide +kernel
theorem dJ5_newCapacity_0f7a4_11 : decode cJ5_newCapacity_0f7a4 11 = .ok (.ishl, 1) := by decide +kernel
theorem dJ5_newCapacity_0f7a4_12 : decode cJ5_newCapacity_0f7a4 12 = .ok (.istore_n 3, 1) := by decide +kernel
theorem dJ5_newCapacity_0f7a4_13 : decode cJ5_newCapacity_0f7a4 13 = .ok (.iload_n 3, 1) := by decide +kernel
theorem dJ5_newCapacity_0f7a4_14 : decode cJ5_newCapacity_0f7a4 14 = .ok (.iload_n 2, 1) := by decide +kernel
theorem dJ5_newCapacity_0f7a4_15 : decode cJ5_newCapacity_0f7a4 15 = .ok (.isub, 1) := by decide +kernel
theorem dJ5_newCapacity_0f7a4_16 : decode cJ5_newCapacity_0f7a4 16 = .ok (.istore 4, 2) := by decide +kernel
theorem dJ5_newCapacity_0f7a4_18 : decode cJ5_newCapacity_0f7a4 18 = .ok (.iload_n 2, 1) := by decide +kernel
theorem dJ5_newCapacity_0f7a4_19 : decode cJ5_newCapacity_0f7a4 19 = .ok (.iload 4, 2) := by decide +kernel
theorem dJ5_newCapacity_0f7a4_21 : decode cJ5_newCapacity_0f7a4 21 = .ok (.iload_n 2, 1) := by decide +kernel
theorem dJ5_newCapacity_0f7a4_22 : decode cJ5_newCapacity_0f7a4 22 = .ok (.iconst 2, 1) := by decide +kernel
theorem dJ5_newCapacity_0f7a4_23 : decode cJ5_newCapacity_0f7a4 23 = .ok (.aload_n 0, 1) := by decide +kernel
theorem dJ5_newCapacity_0f7a4_24 : decode cJ5_newCapacity_0f7a4 24 = .ok (.getfield 22, 3) := by decide +kernel
theorem dJ5_newCapacity_0f7a4_27 : decode cJ5_newCapacity_0f7a4 27 = .ok (.ishl, 1) := by decide +kernel
theorem dJ5_newCapacity_0f7a4_28 : decode cJ5_newCapacity_0f7a4 28 = .ok (.iadd, 1) := by decide +kernel
theorem dJ5_newCapacity_0f7a4_29 : decode cJ5_newCapacity_0f7a4 29 = .ok (.invokestatic 114, 3) := by decide +kernel
theorem dJ5_newCapacity_0f7a4_32 : decode cJ5_newCapacity_0f7a4 32 = .ok (.istore 5, 2) := by decide +kernel
theorem dJ5_newCapacity_0f7a4_34 : decode cJ5_newCapacity_0f7a4 34 = .ok (.iload 5, 2) := by decide +kernel
theorem dJ5_newCapacity_0f7a4_36 : decode cJ5_newCapacity_0f7a4 36 = .ok (.ldc 39, 2) := by decide +kernel
theorem dJ5_newCapacity_0f7a4_38 : decode cJ5_newCapacity_0f7a4 38 = .ok (.if_icmp .ne 13, 3) := by decide +kernel
theorem dJ5_newCapacity_0f7a4_41 : decode cJ5_newCapacity_0f7a4 41 = .ok (.new 120, 3) := by decide +kernel
theorem dJ5_newCapacity_0f7a4_44 : decode cJ5_newCapacity_0f7a4 44 = .ok (.dup, 1) := by decide +kernel
theorem dJ5_newCapacity_0f7a4_45 : decode cJ5_newCapacity_0f7a4 45 = .ok (.ldc 122, 2) := by decide +kernel
theorem dJ5_newCapacity_0f7a4_47 : decode cJ5_newCapacity_0f7a4 47 = .ok (.invokespecial 124, 3) := by decide +kernel
theorem dJ5_newCapacity_0f7a4_50 : decode cJ5_newCapacity_0f7a4 50 = .ok (.athrow, 1) := by decide +kernel
theorem dJ5_newCapacity_0f7a4_51 : decode cJ5_newCapacity_0f7a4 51 = .ok (.iload 5, 2) := by decide +kernel
theorem dJ5_newCapacity_0f7a4_53 : decode cJ5_newCapacity_0f7a4 53 = .ok (.aload_n 0, 1) := by decide +kernel
theorem dJ5_newCapacity_0f7a4_54 : decode cJ5_newCapacity_0f7a4 54 = .ok (.getfield 22, 3) := by decide +kernel
theorem dJ5_newCapacity_0f7a4_57 : decode cJ5_newCapacity_0f7a4 57 = .ok (.ishr, 1) := by decide +kernel
theorem dJ5_newCapacity_0f7a4_58 : decode cJ5_newCapacity_0f7a4 58 = .ok (.ireturn, 1) := by decide +kernel
theorem dJ5_inflate_da8c8_0 : decode cJ5_inflate_da8c8 0 = .ok (.aload_n 0, 1) := by decide +kernel
theorem dJ5_inflate_da8c8_1 : decode cJ5_inflate_da8c8 1 = .ok (.invokevirtual 83, 3) := by decide +kernel
theorem dJ5_inflate_da8c8_4 : decode cJ5_inflate_da8c8 4 = .ok (.ifCond .ne 4, 3) := by decide +kernel
theorem dJ5_inflate_da8c8_7 : decode cJ5_inflate_da8c8 7 = .ok (.return_, 1) := by decide +kernel
theorem dJ5_inflate_da8c8_8 : decode cJ5_inflate_da8c8 8 = .ok (.aload_n 0, 1) := by decide +kernel
theorem dJ5_inflate_da8c8_9 : decode cJ5_inflate_da8c8 9 = .ok (.getfield 15, 3) := by decide +kernel
theorem dJ5_inflate_da8c8_12 : decode cJ5_inflate_da8c8 12 = .ok (.arraylength, 1) := by decide +kernel
theorem dJ5_inflate_da8c8_13 : decode cJ5_inflate_da8c8 13 = .ok (.invokestatic 26, 3) := by decide +kernel
theorem dJ5_inflate_da8c8_16 : decode cJ5_inflate_da8c8 16 = .ok (.astore_n 1, 1) := by decide +kernel
theorem dJ5_inflate_da8c8_17 : decode cJ5_inflate_da8c8 17 = .ok (.aload_n 0, 1) := by decide +kernel
theorem dJ5_inflate_da8c8_18 : decode cJ5_inflate_da8c8 18 = .ok (.getfield 15, 3) := by decide +kernel
theorem dJ5_inflate_da8c8_21 : decode cJ5_inflate_da8c8 21 = .ok (.iconst 0, 1) := by decide +kernel
theorem dJ5_inflate_da8c8_22 : decode cJ5_inflate_da8c8 22 = .ok (.aload_n 1, 1) := by decide +kernel
theorem dJ5_inflate_da8c8_23 : decode cJ5_inflate_da8c8 23 = .ok (.iconst 0, 1) := by decide +kernel
theorem dJ5_inflate_da8c8_24 : decode cJ5_inflate_da8c8 24 = .ok (.aload_n 0, 1) := by decide +kernel
theorem dJ5_inflate_da8c8_25 : decode cJ5_inflate_da8c8 25 = .ok (.getfield 79, 3) := by decide +kernel
theorem dJ5_inflate_da8c8_28 : decode cJ5_inflate_da8c8 28 = .ok (.invokestatic 125, 3) := by decide +kernel
theorem dJ5_inflate_da8c8_31 : decode cJ5_inflate_da8c8 31 = .ok (.aload_n 0, 1) := by decide +kernel
theorem dJ5_inflate_da8c8_32 : decode cJ5_inflate_da8c8 32 = .ok (.aload_n 1, 1) := by decide +kernel
theorem dJ5_inflate_da8c8_33 : decode cJ5_inflate_da8c8 33 = .ok (.putfield 15, 3) := by decide +kernel
theorem dJ5_inflate_da8c8_36 : decode cJ5_inflate_da8c8 36 = .ok (.aload_n 0, 1) := by decide +kernel
theorem dJ5_inflate_da8c8_37 : decode cJ5_inflate_da8c8 37 = .ok (.iconst 1, 1) := by decide +kernel
theorem dJ5_inflate_da8c8_38 : decode cJ5_inflate_da8c8 38 = .ok (.putfield 22, 3) := by decide +kernel
theorem dJ5_inflate_da8c8_41 : decode cJ5_inflate_da8c8 41 = .ok (.return_, 1) := by decide +kernel
theorem dJ5_append_cf1ce_0 : decode cJ5_append_cf1ce 0 = .ok (.aload_n 1, 1) := by decide +kernel
theorem dJ5_append_cf1ce_1 : decode cJ5_append_cf1ce 1 = .ok (.ifnonnull 8, 3) := by decide +kernel
theorem dJ5_append_cf1ce_4 : decode cJ5_append_cf1ce 4 = .ok (.aload_n 0, 1) := by decide +kernel
theorem dJ5_append_cf1ce_5 : decode cJ5_append_cf1ce 5 = .ok (.invokevirtual 204, 3) := by decide +kernel
theorem dJ5_append_cf1ce_8 : decode cJ5_append_cf1ce 8 = .ok (.areturn, 1) := by decide +kernel
theorem dJ5_append_cf1ce_9 : decode cJ5_append_cf1ce 9 = .ok (.aload_n 1, 1) := by decide +kernel
theorem dJ5_append_cf1ce_10 : decode cJ5_append_cf1ce 10 = .ok (.invokevirtual 32, 3) := by decide +kernel
theorem dJ5_append_cf1ce_13 : decode cJ5_append_cf1ce 13 = .ok (.istore_n 2, 1) := by decide +kernel
theorem dJ5_append_cf1ce_14 : decode cJ5_append_cf1ce 14 = .ok (.aload_n 0, 1) := by decide +kernel
theorem dJ5_append_cf1ce_15 : decode cJ5_append_cf1ce 15 = .ok (.aload_n 0, 1) := by decide +kernel
theorem dJ5_append_cf1ce_16 : decode cJ5_append_cf1ce 16 = .ok (.getfield 79, 3) := by decide +kernel
theorem dJ5_append_cf1ce_19 : decode cJ5_append_cf1ce 19 = .ok (.iload_n 2, 1) := by decide +kernel
theorem dJ5_append_cf1ce_20 : decode cJ5_append_cf1ce 20 = .ok (.iadd, 1) := by decide +kernel
theorem dJ5_append_cf1ce_21 : decode cJ5_append_cf1ce 21 = .ok (.invokevirtual 100, 3) := by decide +kernel
theorem dJ5_append_cf1ce_24 : decode cJ5_append_cf1ce 24 = .ok (.aload_n 0, 1) := by decide +kernel
theorem dJ5_append_cf1ce_25 : decode cJ5_append_cf1ce 25 = .ok (.aload_n 0, 1) := by decide +kernel
theorem dJ5_append_cf1ce_26 : decode cJ5_append_cf1ce 26 = .ok (.getfield 79, 3) := by decide +kernel
theorem dJ5_append_cf1ce_29 : decode cJ5_append_cf1ce 29 = .ok (.aload_n 1, 1) := by decide +kernel
theorem dJ5_append_cf1ce_30 : decode cJ5_append_cf1ce 30 = .ok (.invokevirtual 208, 3) := by decide +kernel
theorem dJ5_append_cf1ce_33 : decode cJ5_append_cf1ce 33 = .ok (.aload_n 0, 1) := by decide +kernel
theorem dJ5_append_cf1ce_34 : decode cJ5_append_cf1ce 34 = .ok (.dup, 1) := by decide +kernel
theorem dJ5_append_cf1ce_35 : decode cJ5_append_cf1ce 35 = .ok (.getfield 79, 3) := by decide +kernel
theorem dJ5_append_cf1ce_38 : decode cJ5_append_cf1ce 38 = .ok (.iload_n 2, 1) := by decide +kernel
theorem dJ5_append_cf1ce_39 : decode cJ5_append_cf1ce 39 = .ok (.iadd, 1) := by decide +kernel
theorem dJ5_append_cf1ce_40 : decode cJ5_append_cf1ce 40 = .ok (.putfield 79, 3) := by decide +kernel
theorem dJ5_append_cf1ce_43 : decode cJ5_append_cf1ce 43 = .ok (.aload_n 0, 1) := by decide +kernel
theorem dJ5_append_cf1ce_44 : decode cJ5_append_cf1ce 44 = .ok (.areturn, 1) := by decide +kernel
theorem dJ5_appendNull_278bc_0 : decode cJ5_appendNull_278bc 0 = .ok (.aload_n 0, 1) := by decide +kernel
theorem dJ5_appendNull_278bc_1 : decode cJ5_appendNull_278bc 1 = .ok (.aload_n 0, 1) := by decide +kernel
theorem dJ5_appendNull_278bc_2 : decode cJ5_appendNull_278bc 2 = .ok (.getfield 79, 3) := by decide +kernel
theorem dJ5_appendNull_278bc_5 : decode cJ5_appendNull_278bc 5 = .ok (.iconst 4, 1) := by decide +kernel
theorem dJ5_appendNull_278bc_6 : decode cJ5_appendNull_278bc 6 = .ok (.iadd, 1) := by decide +kernel
theorem dJ5_appendNull_278bc_7 : decode cJ5_appendNull_278bc 7 = .ok (.invokevirtual 100, 3) := by decide +kernel
theorem dJ5_appendNull_278bc_10 : decode cJ5_appendNull_278bc 10 = .ok (.aload_n 0, 1) := by decide +kernel
theorem dJ5_appendNull_278bc_11 : decode cJ5_appendNull_278bc 11 = .ok (.getfield 79, 3) := by decide +kernel
theorem dJ5_appendNull_278bc_14 : decode cJ5_appendNull_278bc 14 = .ok (.istore_n 1, 1) := by decide +kernel
theorem dJ5_appendNull_278bc_15 : decode cJ5_appendNull_278bc 15 = .ok (.aload_n 0, 1) := by decide +kernel
theorem dJ5_appendNull_278bc_16 : decode cJ5_appendNull_278bc 16 = .ok (.getfield 15, 3) := by decide +kernel
theorem dJ5_appendNull_278bc_19 : decode cJ5_appendNull_278bc 19 = .ok (.astore_n 2, 1) := by decide +kernel
theorem dJ5_appendNull_278bc_20 : decode cJ5_appendNull_278bc 20 = .ok (.aload_n 0, 1) := by decide +kernel
theorem dJ5_appendNull_278bc_21 : decode cJ5_appendNull_278bc 21 = .ok (.invokevirtual 83, 3) := by decide +kernel
theorem dJ5_appendNull_278bc_24 : decode cJ5_appendNull_278bc 24 = .ok (.ifCond .eq 38, 3) := by decide +kernel
theorem dJ5_appendNull_278bc_27 : decode cJ5_appendNull_278bc 27 = .ok (.aload_n 2, 1) := by decide +kernel
theorem dJ5_appendNull_278bc_28 : decode cJ5_appendNull_278bc 28 = .ok (.iload_n 1, 1) := by decide +kernel
theorem dJ5_appendNull_278bc_29 : decode cJ5_appendNull_278bc 29 = .ok (.iinc 1 1, 3) := by decide +kernel
theorem dJ5_appendNull_278bc_32 : decode cJ5_appendNull_278bc 32 = .ok (.bipush 110, 2) := by decide +kernel
theorem dJ5_appendNull_278bc_34 : decode cJ5_appendNull_278bc 34 = .ok (.bastore, 1) := by decide +kernel
theorem dJ5_appendNull_278bc_35 : decode cJ5_appendNull_278bc 35 = .ok (.aload_n 2, 1) := by decide +kernel
theorem dJ5_appendNull_278bc_36 : decode cJ5_appendNull_278bc 36 = .ok (.iload_n 1, 1) := by decide +kernel
theorem dJ5_appendNull_278bc_37 : decode cJ5_appendNull_278bc 37 = .ok (.iinc 1 1, 3) := by decide +kernel
theorem dJ5_appendNull_278bc_40 : decode cJ5_appendNull_278bc 40 = .ok (.bipush 117, 2) := by decide +kernel
theorem dJ5_appendNull_278bc_42 : decode cJ5_appendNull_278bc 42 = .ok (.bastore, 1) := by decide +kernel
theorem dJ5_appendNull_278bc_43 : decode cJ5_appendNull_278bc 43 = .ok (.aload_n 2, 1) := by decide +kernel
theorem dJ5_appendNull_278bc_44 : decode cJ5_appendNull_278bc 44 = .ok (.iload_n 1, 1) := by decide +kernel
theorem dJ5_appendNull_278bc_45 : decode cJ5_appendNull_278bc 45 = .ok (.iinc 1 1, 3) := by decide +kernel
theorem dJ5_appendNull_278bc_48 : decode cJ5_appendNull_278bc 48 = .ok (.bipush 108, 2) := by decide +kernel
theorem dJ5_appendNull_278bc_50 : decode cJ5_appendNull_278bc 50 = .ok (.bastore, 1) := by decide +kernel
theorem dJ5_appendNull_278bc_51 : decode cJ5_appendNull_278bc 51 = .ok (.aload_n 2, 1) := by decide +kernel
theorem dJ5_appendNull_278bc_52 : decode cJ5_appendNull_278bc 52 = .ok (.iload_n 1, 1) := by decide +kernel
theorem dJ5_appendNull_278bc_53 : decode cJ5_appendNull_278bc 53 = .ok (.iinc 1 1, 3) := by decide +kernel
theorem dJ5_appendNull_278bc_56 : decode cJ5_appendNull_278bc 56 = .ok (.bipush 108, 2) := by decide +kernel
theorem dJ5_appendNull_278bc_58 : decode cJ5_appendNull_278bc 58 = .ok (.bastore, 1) := by decide +kernel
theorem dJ5_appendNull_278bc_59 : decode cJ5_appendNull_278bc 59 = .ok (.goto 17, 3) := by decide +kernel
theorem dJ5_appendNull_278bc_62 : decode cJ5_appendNull_278bc 62 = .ok (.aload_n 2, 1) := by decide +kernel
theorem dJ5_appendNull_278bc_63 : decode cJ5_appendNull_278bc 63 = .ok (.iload_n 1, 1) := by decide +kernel
theorem dJ5_appendNull_278bc_64 : decode cJ5_appendNull_278bc 64 = .ok (.bipush 110, 2) := by decide +kernel
theorem dJ5_appendNull_278bc_66 : decode cJ5_appendNull_278bc 66 = .ok (.bipush 117, 2) := by decide +kernel
theorem dJ5_appendNull_278bc_68 : decode cJ5_appendNull_278bc 68 = .ok (.bipush 108, 2) := by decide +kernel
theorem dJ5_appendNull_278bc_70 : decode cJ5_appendNull_278bc 70 = .ok (.bipush 108, 2) := by decide +kernel
theorem dJ5_appendNull_278bc_72 : decode cJ5_appendNull_278bc 72 = .ok (.invokestatic 226, 3) := by decide +kernel
theorem dJ5_appendNull_278bc_75 : decode cJ5_appendNull_278bc 75 = .ok (.istore_n 1, 1) := by decide +kernel
theorem dJ5_appendNull_278bc_76 : decode cJ5_appendNull_278bc 76 = .ok (.aload_n 0, 1) := by decide +kernel
theorem dJ5_appendNull_278bc_77 : decode cJ5_appendNull_278bc 77 = .ok (.iload_n 1, 1) := by decide +kernel
theorem dJ5_appendNull_278bc_78 : decode cJ5_appendNull_278bc 78 = .ok (.putfield 79, 3) := by decide +kernel
theorem dJ5_appendNull_278bc_81 : decode cJ5_appendNull_278bc 81 = .ok (.aload_n 0, 1) := by decide +kernel
theorem dJ5_appendNull_278bc_82 : decode cJ5_appendNull_278bc 82 = .ok (.areturn, 1) := by decide +kernel
theorem dJ5_append_3fe6f_0 : decode cJ5_append_3fe6f 0 = .ok (.aload_n 0, 1) := by decide +kernel
theorem dJ5_append_3fe6f_1 : decode cJ5_append_3fe6f 1 = .ok (.aload_n 0, 1) := by decide +kernel
theorem dJ5_append_3fe6f_2 : decode cJ5_append_3fe6f 2 = .ok (.getfield 79, 3) := by decide +kernel
theorem dJ5_append_3fe6f_5 : decode cJ5_append_3fe6f 5 = .ok (.iconst 1, 1) := by decide +kernel
theorem dJ5_append_3fe6f_6 : decode cJ5_append_3fe6f 6 = .ok (.iadd, 1) := by decide +kernel
theorem dJ5_append_3fe6f_7 : decode cJ5_append_3fe6f 7 = .ok (.invokevirtual 100, 3) := by decide +kernel
theorem dJ5_append_3fe6f_10 : decode cJ5_append_3fe6f 10 = .ok (.aload_n 0, 1) := by decide +kernel
theorem dJ5_append_3fe6f_11 : decode cJ5_append_3fe6f 11 = .ok (.invokevirtual 83, 3) := by decide +kernel
theorem dJ5_append_3fe6f_14 : decode cJ5_append_3fe6f 14 = .ok (.ifCond .eq 31, 3) := by decide +kernel
theorem dJ5_append_3fe6f_17 : decode cJ5_append_3fe6f 17 = .ok (.iload_n 1, 1) := by decide +kernel
theorem dJ5_append_3fe6f_18 : decode cJ5_append_3fe6f 18 = .ok (.invokestatic 191, 3) := by decide +kernel
theorem dJ5_append_3fe6f_21 : decode cJ5_append_3fe6f 21 = .ok (.ifCond .eq 24, 3) := by decide +kernel
theorem dJ5_append_3fe6f_24 : decode cJ5_append_3fe6f 24 = .ok (.aload_n 0, 1) := by decide +kernel
theorem dJ5_append_3fe6f_25 : decode cJ5_append_3fe6f 25 = .ok (.getfield 15, 3) := by decide +kernel
theorem dJ5_append_3fe6f_28 : decode cJ5_append_3fe6f 28 = .ok (.aload_n 0, 1) := by decide +kernel
theorem dJ5_append_3fe6f_29 : decode cJ5_append_3fe6f 29 = .ok (.dup, 1) := by decide +kernel
theorem dJ5_append_3fe6f_30 : decode cJ5_append_3fe6f 30 = .ok (.getfield 79, 3) := by decide +kernel
theorem dJ5_append_3fe6f_33 : decode cJ5_append_3fe6f 33 = .ok (.dup_x1, 1) := by decide +kernel
theorem dJ5_append_3fe6f_34 : decode cJ5_append_3fe6f 34 = .ok (.iconst 1, 1) := by decide +kernel
theorem dJ5_append_3fe6f_35 : decode cJ5_append_3fe6f 35 = .ok (.iadd, 1) := by decide +kernel
theorem dJ5_append_3fe6f_36 : decode cJ5_append_3fe6f 36 = .ok (.putfield 79, 3) := by decide +kernel
theorem dJ5_append_3fe6f_39 : decode cJ5_append_3fe6f 39 = .ok (.iload_n 1, 1) := by decide +kernel
theorem dJ5_append_3fe6f_40 : decode cJ5_append_3fe6f 40 = .ok (.i2b, 1) := by decide +kernel
theorem dJ5_append_3fe6f_41 : decode cJ5_append_3fe6f 41 = .ok (.bastore, 1) := by decide +kernel
theorem dJ5_append_3fe6f_42 : decode cJ5_append_3fe6f 42 = .ok (.goto 33, 3) := by decide +kernel
theorem dJ5_append_3fe6f_45 : decode cJ5_append_3fe6f 45 = .ok (.aload_n 0, 1) := by decide +kernel
theorem dJ5_append_3fe6f_46 : decode cJ5_append_3fe6f 46 = .ok (.invokevirtual 83, 3) := by decide +kernel
theorem dJ5_append_3fe6f_49 : decode cJ5_append_3fe6f 49 = .ok (.ifCond .eq 7, 3) := by decide +kernel
theorem dJ5_append_3fe6f_52 : decode cJ5_append_3fe6f 52 = .ok (.aload_n 0, 1) := by decide +kernel
theorem dJ5_append_3fe6f_53 : decode cJ5_append_3fe6f 53 = .ok (.invokevirtual 195, 3) := by decide +kernel
theorem dJ5_append_3fe6f_56 : decode cJ5_append_3fe6f 56 = .ok (.aload_n 0, 1) := by decide +kernel
theorem dJ5_append_3fe6f_57 : decode cJ5_append_3fe6f 57 = .ok (.getfield 15, 3) := by decide +kernel
theorem dJ5_append_3fe6f_60 : decode cJ5_append_3fe6f 60 = .ok (.aload_n 0, 1) := by decide +kernel
theorem dJ5_append_3fe6f_61 : decode cJ5_append_3fe6f 61 = .ok (.dup, 1) := by decide +kernel
theorem dJ5_append_3fe6f_62 : decode cJ5_append_3fe6f 62 = .ok (.getfield 79, 3) := by decide +kernel
theorem dJ5_append_3fe6f_65 : decode cJ5_append_3fe6f 65 = .ok (.dup_x1, 1) := by decide +kernel
theorem dJ5_append_3fe6f_66 : decode cJ5_append_3fe6f 66 = .ok (.iconst 1, 1) := by decide +kernel
theorem dJ5_append_3fe6f_67 : decode cJ5_append_3fe6f 67 = .ok (.iadd, 1) := by decide +kernel
theorem dJ5_append_3fe6f_68 : decode cJ5_append_3fe6f 68 = .ok (.putfield 79, 3) := by decide +kernel
theorem dJ5_append_3fe6f_71 : decode cJ5_append_3fe6f 71 = .ok (.iload_n 1, 1) := by decide +kernel
theorem dJ5_append_3fe6f_72 : decode cJ5_append_3fe6f 72 = .ok (.invokestatic 197, 3) := by decide +kernel
theorem dJ5_append_3fe6f_75 : decode cJ5_append_3fe6f 75 = .ok (.aload_n 0, 1) := by decide +kernel
theorem dJ5_append_3fe6f_76 : decode cJ5_append_3fe6f 76 = .ok (.areturn, 1) := by decide +kernel
theorem dJ5_append_c97b9_0 : decode cJ5_append_c97b9 0 = .ok (.aload_n 0, 1) := by decide +kernel
theorem dJ5_append_c97b9_1 : decode cJ5_append_c97b9 1 = .ok (.getfield 79, 3) := by decide +kernel
theorem dJ5_append_c97b9_4 : decode cJ5_append_c97b9 4 = .ok (.istore_n 2, 1) := by decide +kernel
theorem dJ5_append_c97b9_5 : decode cJ5_append_c97b9 5 = .ok (.iload_n 2, 1) := by decide +kernel
theorem dJ5_append_c97b9_6 : decode cJ5_append_c97b9 6 = .ok (.iload_n 1, 1) := by decide +kernel
theorem dJ5_append_c97b9_7 : decode cJ5_append_c97b9 7 = .ok (.invokestatic 245, 3) := by decide +kernel
theorem dJ5_append_c97b9_10 : decode cJ5_append_c97b9 10 = .ok (.iadd, 1) := by decide +kernel
theorem dJ5_append_c97b9_11 : decode cJ5_append_c97b9 11 = .ok (.istore_n 3, 1) := by decide +kernel
theorem dJ5_append_c97b9_12 : decode cJ5_append_c97b9 12 = .ok (.aload_n 0, 1) := by decide +kernel
theorem dJ5_append_c97b9_13 : decode cJ5_append_c97b9 13 = .ok (.iload_n 3, 1) := by decide +kernel
theorem dJ5_append_c97b9_14 : decode cJ5_append_c97b9 14 = .ok (.invokevirtual 100, 3) := by decide +kernel
theorem dJ5_append_c97b9_17 : decode cJ5_append_c97b9 17 = .ok (.aload_n 0, 1) := by decide +kernel
theorem dJ5_append_c97b9_18 : decode cJ5_append_c97b9 18 = .ok (.invokevirtual 83, 3) := by decide +kernel
theorem dJ5_append_c97b9_21 : decode cJ5_append_c97b9 21 = .ok (.ifCond .eq 16, 3) := by decide +kernel
theorem dJ5_append_c97b9_24 : decode cJ5_append_c97b9 24 = .ok (.iload_n 1, 1) := by decide +kernel
theorem dJ5_append_c97b9_25 : decode cJ5_append_c97b9 25 = .ok (.iload_n 3, 1) := by decide +kernel
theorem dJ5_append_c97b9_26 : decode cJ5_append_c97b9 26 = .ok (.aload_n 0, 1) := by decide +kernel
theorem dJ5_append_c97b9_27 : decode cJ5_append_c97b9 27 = .ok (.getfield 15, 3) := by decide +kernel
theorem dJ5_append_c97b9_30 : decode cJ5_append_c97b9 30 = .ok (.invokestatic 248, 3) := by decide +kernel
theorem dJ5_append_c97b9_33 : decode cJ5_append_c97b9 33 = .ok (.pop, 1) := by decide +kernel
theorem dJ5_append_c97b9_34 : decode cJ5_append_c97b9 34 = .ok (.goto 14, 3) := by decide +kernel
theorem dJ5_append_c97b9_37 : decode cJ5_append_c97b9 37 = .ok (.iload_n 1, 1) := by decide +kernel
theorem dJ5_append_c97b9_38 : decode cJ5_append_c97b9 38 = .ok (.iload_n 2, 1) := by decide +kernel
theorem dJ5_append_c97b9_39 : decode cJ5_append_c97b9 39 = .ok (.iload_n 3, 1) := by decide +kernel
theorem dJ5_append_c97b9_40 : decode cJ5_append_c97b9 40 = .ok (.aload_n 0, 1) := by decide +kernel
theorem dJ5_append_c97b9_41 : decode cJ5_append_c97b9 41 = .ok (.getfield 15, 3) := by decide +kernel
theorem dJ5_append_c97b9_44 : decode cJ5_append_c97b9 44 = .ok (.invokestatic 251, 3) := by decide +kernel
theorem dJ5_append_c97b9_47 : decode cJ5_append_c97b9 47 = .ok (.pop, 1) := by decide +kernel
theorem dJ5_append_c97b9_48 : decode cJ5_append_c97b9 48 = .ok (.aload_n 0, 1) := by decide +kernel
theorem dJ5_append_c97b9_49 : decode cJ5_append_c97b9 49 = .ok (.iload_n 3, 1) := by decide +kernel
theorem dJ5_append_c97b9_50 : decode cJ5_append_c97b9 50 = .ok (.putfield 79, 3) := by decide +kernel
theorem dJ5_append_c97b9_53 : decode cJ5_append_c97b9 53 = .ok (.aload_n 0, 1) := by decide +kernel
theorem dJ5_append_c97b9_54 : decode cJ5_append_c97b9 54 = .ok (.areturn, 1) := by decide +kernel
theorem dJ5_getValue_6d5f1_0 : decode cJ5_getValue_6d5f1 0 = .ok (.aload_n 0, 1) := by decide +kernel
theorem dJ5_getValue_6d5f1_1 : decode cJ5_getValue_6d5f1 1 = .ok (.getfield 15, 3) := by decide +kernel
theorem dJ5_getValue_6d5f1_4 : decode cJ5_getValue_6d5f1 4 = .ok (.areturn, 1) := by decide +kernel
theorem dJ5_isLatin1_aae02_0 : decode cJ5_isLatin1_aae02 0 = .ok (.getstatic 18, 3) := by decide +kernel
theorem dJ5_isLatin1_aae02_3 : decode cJ5_isLatin1_aae02 3 = .ok (.ifCond .eq 14, 3) := by decide +kernel
theorem dJ5_isLatin1_aae02_6 : decode cJ5_isLatin1_aae02 6 = .ok (.aload_n 0, 1) := by decide +kernel
theorem dJ5_isLatin1_aae02_7 : decode cJ5_isLatin1_aae02 7 = .ok (.getfield 22, 3) := by decide +kernel
theorem dJ5_isLatin1_aae02_10 : decode cJ5_isLatin1_aae02 10 = .ok (.ifCond .ne 7, 3) := by decide +kernel
theorem dJ5_isLatin1_aae02_13 : decode cJ5_isLatin1_aae02 13 = .ok (.iconst 1, 1) := by decide +kernel
theorem dJ5_isLatin1_aae02_14 : decode cJ5_isLatin1_aae02 14 = .ok (.goto 4, 3) := by decide +kernel
theorem dJ5_isLatin1_aae02_17 : decode cJ5_isLatin1_aae02 17 = .ok (.iconst 0, 1) := by decide +kernel
theorem dJ5_isLatin1_aae02_18 : decode cJ5_isLatin1_aae02 18 = .ok (.ireturn, 1) := by decide +kernel
theorem dJ5_inflateIfNeededFor_a7421_0 : decode cJ5_inflateIfNeededFor_a7421 0 = .ok (.getstatic 18, 3) := by decide +kernel
theorem dJ5_inflateIfNeededFor_a7421_3 : decode cJ5_inflateIfNeededFor_a7421 3 = .ok (.ifCond .eq 18, 3) := by decide +kernel
theorem dJ5_inflateIfNeededFor_a7421_6 : decode cJ5_inflateIfNeededFor_a7421 6 = .ok (.aload_n 0, 1) := by decide +kernel
theorem dJ5_inflateIfNeededFor_a7421_7 : decode cJ5_inflateIfNeededFor_a7421 7 = .ok (.getfield 22, 3) := by decide +kernel
theorem dJ5_inflateIfNeededFor_a7421_10 : decode cJ5_inflateIfNeededFor_a7421 10 = .ok (.aload_n 1, 1) := by decide +kernel
theorem dJ5_inflateIfNeededFor_a7421_11 : decode cJ5_inflateIfNeededFor_a7421 11 = .ok (.invokevirtual 40, 3) := by decide +kernel
theorem dJ5_inflateIfNeededFor_a7421_14 : decode cJ5_inflateIfNeededFor_a7421 14 = .ok (.if_icmp .eq 7, 3) := by decide +kernel
theorem dJ5_inflateIfNeededFor_a7421_17 : decode cJ5_inflateIfNeededFor_a7421 17 = .ok (.aload_n 0, 1) := by decide +kernel
theorem dJ5_inflateIfNeededFor_a7421_18 : decode cJ5_inflateIfNeededFor_a7421 18 = .ok (.invokevirtual 195, 3) := by decide +kernel
theorem dJ5_inflateIfNeededFor_a7421_21 : decode cJ5_inflateIfNeededFor_a7421 21 = .ok (.return_, 1) := by decide +kernel
theorem dJ5_putStringAt_47b60_0 : decode cJ5_putStringAt_47b60 0 = .ok (.aload_n 0, 1) := by decide +kernel
theorem dJ5_putStringAt_47b60_1 : decode cJ5_putStringAt_47b60 1 = .ok (.aload_n 2, 1) := by decide +kernel
theorem dJ5_putStringAt_47b60_2 : decode cJ5_putStringAt_47b60 2 = .ok (.invokevirtual 397, 3) := by decide +kernel
theorem dJ5_putStringAt_47b60_5 : decode cJ5_putStringAt_47b60 5 = .ok (.aload_n 2, 1) := by decide +kernel
theorem dJ5_putStringAt_47b60_6 : decode cJ5_putStringAt_47b60 6 = .ok (.aload_n 0, 1) := by decide +kernel
theorem dJ5_putStringAt_47b60_7 : decode cJ5_putStringAt_47b60 7 = .ok (.getfield 15, 3) := by decide +kernel
theorem dJ5_putStringAt_47b60_10 : decode cJ5_putStringAt_47b60 10 = .ok (.iload_n 1, 1) := by decide +kernel
theorem dJ5_putStringAt_47b60_11 : decode cJ5_putStringAt_47b60 11 = .ok (.aload_n 0, 1) := by decide +kernel
theorem dJ5_putStringAt_47b60_12 : decode cJ5_putStringAt_47b60 12 = .ok (.getfield 22, 3) := by decide +kernel
theorem dJ5_putStringAt_47b60_15 : decode cJ5_putStringAt_47b60 15 = .ok (.invokevirtual 399, 3) := by decide +kernel
theorem dJ5_putStringAt_47b60_18 : decode cJ5_putStringAt_47b60 18 = .ok (.return_, 1) := by decide +kernel
theorem dJ6_getChars_ba4f3_0 : decode cJ6_getChars_ba4f3 0 = .ok (.iload_n 1, 1) := by decide +kernel
theorem dJ6_getChars_ba4f3_1 : decode cJ6_getChars_ba4f3 1 = .ok (.istore 5, 2) := by decide +kernel
theorem dJ6_getChars_ba4f3_3 : decode cJ6_getChars_ba4f3 3 = .ok (.iload_n 0, 1) := by decide +kernel
theorem dJ6_getChars_ba4f3_4 : decode cJ6_getChars_ba4f3 4 = .ok (.ifCond .ge 7, 3) := by decide +kernel
theorem dJ6_getChars_ba4f3_7 : decode cJ6_getChars_ba4f3 7 = .ok (.iconst 1, 1) := by decide +kernel
theorem dJ6_getChars_ba4f3_8 : decode cJ6_getChars_ba4f3 8 = .ok (.goto 4, 3) := by decide +kernel
theorem dJ6_getChars_ba4f3_11 : decode cJ6_getChars_ba4f3 11 = .ok (.iconst 0, 1) := by decide +kernel
theorem dJ6_getChars_ba4f3_12 : decode cJ6_getChars_ba4f3 12 = .ok (.istore 6, 2) := by decide +kernel
theorem dJ6_getChars_ba4f3_14 : decode cJ6_getChars_ba4f3 14 = .ok (.iload 6, 2) := by decide +kernel
theorem dJ6_getChars_ba4f3_16 : decode cJ6_getChars_ba4f3 16 = .ok (.ifCond .ne 6, 3) := by decide +kernel
theorem dJ6_getChars_ba4f3_19 : decode cJ6_getChars_ba4f3 19 = .ok (.iload_n 0, 1) := by decide +kernel
theorem dJ6_getChars_ba4f3_20 : decode cJ6_getChars_ba4f3 20 = .ok (.ineg, 1) := by decide +kernel
theorem dJ6_getChars_ba4f3_21 : decode cJ6_getChars_ba4f3 21 = .ok (.istore_n 0, 1) := by decide +kernel
theorem dJ6_getChars_ba4f3_22 : decode cJ6_getChars_ba4f3 22 = .ok (.iload_n 0, 1) := by decide +kernel
theorem dJ6_getChars_ba4f3_23 : decode cJ6_getChars_ba4f3 23 = .ok (.bipush (-100), 2) := by decide +kernel
theorem dJ6_getChars_ba4f3_25 : decode cJ6_getChars_ba4f3 25 = .ok (.if_icmp .gt 47, 3) := by decide +kernel
theorem dJ6_getChars_ba4f3_28 : decode cJ6_getChars_ba4f3 28 = .ok (.iload_n 0, 1) := by decide +kernel
theorem dJ6_getChars_ba4f3_29 : decode cJ6_getChars_ba4f3 29 = .ok (.bipush 100, 2) := by decide +kernel
theorem dJ6_getChars_ba4f3_31 : decode cJ6_getChars_ba4f3 31 = .ok (.idiv, 1) := by decide +kernel
theorem dJ6_getChars_ba4f3_32 : decode cJ6_getChars_ba4f3 32 = .ok (.istore_n 3, 1) := by decide +kernel
theorem dJ6_getChars_ba4f3_33 : decode cJ6_getChars_ba4f3 33 = .ok (.iload_n 3, 1) := by decide +kernel
theorem dJ6_getChars_ba4f3_34 : decode cJ6_getChars_ba4f3 34 = .ok (.bipush 100, 2) := by decide +kernel
theorem dJ6_getChars_ba4f3_36 : decode cJ6_getChars_ba4f3 36 = .ok (.imul, 1) := by decide +kernel
theorem dJ6_getChars_ba4f3_37 : decode cJ6_getChars_ba4f3 37 = .ok (.iload_n 0, 1) := by decide +kernel
theorem dJ6_getChars_ba4f3_38 : decode cJ6_getChars_ba4f3 38 = .ok (.isub, 1) := by decide +kernel
theorem dJ6_getChars_ba4f3_39 : decode cJ6_getChars_ba4f3 39 = .ok (.istore 4, 2) := by decide +kernel
theorem dJ6_getChars_ba4f3_41 : decode cJ6_getChars_ba4f3 41 = .ok (.iload_n 3, 1) := by decide +kernel
theorem dJ6_getChars_ba4f3_42 : decode cJ6_getChars_ba4f3 42 = .ok (.istore_n 0, 1) := by decide +kernel
theorem dJ6_getChars_ba4f3_43 : decode cJ6_getChars_ba4f3 43 = .ok (.aload_n 2, 1) := by decide +kernel
theorem dJ6_getChars_ba4f3_44 : decode cJ6_getChars_ba4f3 44 = .ok (.iinc 5 (-1), 3) := by decide +kernel
theorem dJ6_getChars_ba4f3_47 : decode cJ6_getChars_ba4f3 47 = .ok (.iload 5, 2) := by decide +kernel
theorem dJ6_getChars_ba4f3_49 : decode cJ6_getChars_ba4f3 49 = .ok (.getstatic 83, 3) := by decide +kernel
theorem dJ6_getChars_ba4f3_52 : decode cJ6_getChars_ba4f3 52 = .ok (.iload 4, 2) := by decide +kernel
theorem dJ6_getChars_ba4f3_54 : decode cJ6_getChars_ba4f3 54 = .ok (.baload, 1) := by decide +kernel
theorem dJ6_getChars_ba4f3_55 : decode cJ6_getChars_ba4f3 55 = .ok (.bastore, 1) := by decide +kernel
theorem dJ6_getChars_ba4f3_56 : decode cJ6_getChars_ba4f3 56 = .ok (.aload_n 2, 1) := by decide +kernel
theorem dJ6_getChars_ba4f3_57 : decode cJ6_getChars_ba4f3 57 = .ok (.iinc 5 (-1), 3) := by decide +kernel
theorem dJ6_getChars_ba4f3_60 : decode cJ6_getChars_ba4f3 60 = .ok (.iload 5, 2) := by decide +kernel
theorem dJ6_getChars_ba4f3_62 : decode cJ6_getChars_ba4f3 62 = .ok (.getstatic 87, 3) := by decide +kernel
theorem dJ6_getChars_ba4f3_65 : decode cJ6_getChars_ba4f3 65 = .ok (.iload 4, 2) := by decide +kernel
theorem dJ6_getChars_ba4f3_67 : decode cJ6_getChars_ba4f3 67 = .ok (.baload, 1) := by decide +kernel
theorem dJ6_getChars_ba4f3_68 : decode cJ6_getChars_ba4f3 68 = .ok (.bastore, 1) := by decide +kernel
theorem dJ6_getChars_ba4f3_69 : decode cJ6_getChars_ba4f3 69 = .ok (.goto (-47), 3) := by decide +kernel
theorem dJ6_getChars_ba4f3_72 : decode cJ6_getChars_ba4f3 72 = .ok (.aload_n 2, 1) := by decide +kernel
theorem dJ6_getChars_ba4f3_73 : decode cJ6_getChars_ba4f3 73 = .ok (.iinc 5 (-1), 3) := by decide +kernel
theorem dJ6_getChars_ba4f3_76 : decode cJ6_getChars_ba4f3 76 = .ok (.iload 5, 2) := by decide +kernel
theorem dJ6_getChars_ba4f3_78 : decode cJ6_getChars_ba4f3 78 = .ok (.getstatic 83, 3) := by decide +kernel
theorem dJ6_getChars_ba4f3_81 : decode cJ6_getChars_ba4f3 81 = .ok (.iload_n 0, 1) := by decide +kernel
theorem dJ6_getChars_ba4f3_82 : decode cJ6_getChars_ba4f3 82 = .ok (.ineg, 1) := by decide +kernel
theorem dJ6_getChars_ba4f3_83 : decode cJ6_getChars_ba4f3 83 = .ok (.baload, 1) := by decide +kernel
theorem dJ6_getChars_ba4f3_84 : decode cJ6_getChars_ba4f3 84 = .ok (.bastore, 1) := by decide +kernel
theorem dJ6_getChars_ba4f3_85 : decode cJ6_getChars_ba4f3 85 = .ok (.iload_n 0, 1) := by decide +kernel
theorem dJ6_getChars_ba4f3_86 : decode cJ6_getChars_ba4f3 86 = .ok (.bipush (-9), 2) := by decide +kernel
theorem dJ6_getChars_ba4f3_88 : decode cJ6_getChars_ba4f3 88 = .ok (.if_icmp .ge 16, 3) := by decide +kernel
theorem dJ6_getChars_ba4f3_91 : decode cJ6_getChars_ba4f3 91 = .ok (.aload_n 2, 1) := by decide +kernel
theorem dJ6_getChars_ba4f3_92 : decode cJ6_getChars_ba4f3 92 = .ok (.iinc 5 (-1), 3) := by decide +kernel
theorem dJ6_getChars_ba4f3_95 : decode cJ6_getChars_ba4f3 95 = .ok (.iload 5, 2) := by decide +kernel
theorem dJ6_getChars_ba4f3_97 : decode cJ6_getChars_ba4f3 97 = .ok (.getstatic 87, 3) := by decide +kernel
theorem dJ6_getChars_ba4f3_100 : decode cJ6_getChars_ba4f3 100 = .ok (.iload_n 0, 1) := by decide +kernel
theorem dJ6_getChars_ba4f3_101 : decode cJ6_getChars_ba4f3 101 = .ok (.ineg, 1) := by decide +kernel
theorem dJ6_getChars_ba4f3_102 : decode cJ6_getChars_ba4f3 102 = .ok (.baload, 1) := by decide +kernel
theorem dJ6_getChars_ba4f3_103 : decode cJ6_getChars_ba4f3 103 = .ok (.bastore, 1) := by decide +kernel
theorem dJ6_getChars_ba4f3_104 : decode cJ6_getChars_ba4f3 104 = .ok (.iload 6, 2) := by decide +kernel
theorem dJ6_getChars_ba4f3_106 : decode cJ6_getChars_ba4f3 106 = .ok (.ifCond .eq 12, 3) := by decide +kernel
theorem dJ6_getChars_ba4f3_109 : decode cJ6_getChars_ba4f3 109 = .ok (.aload_n 2, 1) := by decide +kernel
theorem dJ6_getChars_ba4f3_110 : decode cJ6_getChars_ba4f3 110 = .ok (.iinc 5 (-1), 3) := by decide +kernel
theorem dJ6_getChars_ba4f3_113 : decode cJ6_getChars_ba4f3 113 = .ok (.iload 5, 2) := by decide +kernel
theorem dJ6_getChars_ba4f3_115 : decode cJ6_getChars_ba4f3 115 = .ok (.bipush 45, 2) := by decide +kernel
theorem dJ6_getChars_ba4f3_117 : decode cJ6_getChars_ba4f3 117 = .ok (.bastore, 1) := by decide +kernel
theorem dJ6_getChars_ba4f3_118 : decode cJ6_getChars_ba4f3 118 = .ok (.iload 5, 2) := by decide +kernel
theorem dJ6_getChars_ba4f3_120 : decode cJ6_getChars_ba4f3 120 = .ok (.ireturn, 1) := by decide +kernel
theorem dJ6_stringSize_0f7a4_0 : decode cJ6_stringSize_0f7a4 0 = .ok (.iconst 1, 1) := by decide +kernel
theorem dJ6_stringSize_0f7a4_1 : decode cJ6_stringSize_0f7a4 1 = .ok (.istore_n 1, 1) := by decide +kernel
theorem dJ6_stringSize_0f7a4_2 : decode cJ6_stringSize_0f7a4 2 = .ok (.iload_n 0, 1) := by decide +kernel
theorem dJ6_stringSize_0f7a4_3 : decode cJ6_stringSize_0f7a4 3 = .ok (.ifCond .lt 8, 3) := by decide +kernel
theorem dJ6_stringSize_0f7a4_6 : decode cJ6_stringSize_0f7a4 6 = .ok (.iconst 0, 1) := by decide +kernel
theorem dJ6_stringSize_0f7a4_7 : decode cJ6_stringSize_0f7a4 7 = .ok (.istore_n 1, 1) := by decide +kernel
theorem dJ6_stringSize_0f7a4_8 : decode cJ6_stringSize_0f7a4 8 = .ok (.iload_n 0, 1) := by decide +kernel
theorem dJ6_stringSize_0f7a4_9 : decode cJ6_stringSize_0f7a4 9 = .ok (.ineg, 1) := by decide +kernel
theorem dJ6_stringSize_0f7a4_10 : decode cJ6_stringSize_0f7a4 10 = .ok (.istore_n 0, 1) := by decide +kernel
theorem dJ6_stringSize_0f7a4_11 : decode cJ6_stringSize_0f7a4 11 = .ok (.bipush (-10), 2) := by decide +kernel
theorem dJ6_stringSize_0f7a4_13 : decode cJ6_stringSize_0f7a4 13 = .ok (.istore_n 2, 1) := by decide +kernel
theorem dJ6_stringSize_0f7a4_14 : decode cJ6_stringSize_0f7a4 14 = .ok (.iconst 1, 1) := by decide +kernel
theorem dJ6_stringSize_0f7a4_15 : decode cJ6_stringSize_0f7a4 15 = .ok (.istore_n 3, 1) := by decide +kernel
theorem dJ6_stringSize_0f7a4_16 : decode cJ6_stringSize_0f7a4 16 = .ok (.iload_n 3, 1) := by decide +kernel
theorem dJ6_stringSize_0f7a4_17 : decode cJ6_stringSize_0f7a4 17 = .ok (.bipush 10, 2) := by decide +kernel
theorem dJ6_stringSize_0f7a4_19 : decode cJ6_stringSize_0f7a4 19 = .ok (.if_icmp .ge 23, 3) := by decide +kernel
theorem dJ6_stringSize_0f7a4_22 : decode cJ6_stringSize_0f7a4 22 = .ok (.iload_n 0, 1) := by decide +kernel
theorem dJ6_stringSize_0f7a4_23 : decode cJ6_stringSize_0f7a4 23 = .ok (.iload_n 2, 1) := by decide +kernel
theorem dJ6_stringSize_0f7a4_24 : decode cJ6_stringSize_0f7a4 24 = .ok (.if_icmp .le 7, 3) := by decide +kernel
theorem dJ6_stringSize_0f7a4_27 : decode cJ6_stringSize_0f7a4 27 = .ok (.iload_n 3, 1) := by decide +kernel
theorem dJ6_stringSize_0f7a4_28 : decode cJ6_stringSize_0f7a4 28 = .ok (.iload_n 1, 1) := by decide +kernel
theorem dJ6_stringSize_0f7a4_29 : decode cJ6_stringSize_0f7a4 29 = .ok (.iadd, 1) := by decide +kernel
theorem dJ6_stringSize_0f7a4_30 : decode cJ6_stringSize_0f7a4 30 = .ok (.ireturn, 1) := by decide +kernel
theorem dJ6_stringSize_0f7a4_31 : decode cJ6_stringSize_0f7a4 31 = .ok (.bipush 10, 2) := by decide +kernel
theorem dJ6_stringSize_0f7a4_33 : decode cJ6_stringSize_0f7a4 33 = .ok (.iload_n 2, 1) := by decide +kernel
theorem dJ6_stringSize_0f7a4_34 : decode cJ6_stringSize_0f7a4 34 = .ok (.imul, 1) := by decide +kernel
theorem dJ6_stringSize_0f7a4_35 : decode cJ6_stringSize_0f7a4 35 = .ok (.istore_n 2, 1) := by decide +kernel
theorem dJ6_stringSize_0f7a4_36 : decode cJ6_stringSize_0f7a4 36 = .ok (.iinc 3 1, 3) := by decide +kernel
theorem dJ6_stringSize_0f7a4_39 : decode cJ6_stringSize_0f7a4 39 = .ok (.goto (-23), 3) := by decide +kernel
theorem dJ6_stringSize_0f7a4_42 : decode cJ6_stringSize_0f7a4 42 = .ok (.bipush 10, 2) := by decide +kernel
theorem dJ6_stringSize_0f7a4_44 : decode cJ6_stringSize_0f7a4 44 = .ok (.iload_n 1, 1) := by decide +kernel
theorem dJ6_stringSize_0f7a4_45 : decode cJ6_stringSize_0f7a4 45 = .ok (.iadd, 1) := by decide +kernel
theorem dJ6_stringSize_0f7a4_46 : decode cJ6_stringSize_0f7a4 46 = .ok (.ireturn, 1) := by decide +kernel
theorem dJ9_max_7cf53_0 : decode cJ9_max_7cf53 0 = .ok (.iload_n 0, 1) := by decide +kernel
theorem dJ9_max_7cf53_1 : decode cJ9_max_7cf53 1 = .ok (.iload_n 1, 1) := by decide +kernel
theorem dJ9_max_7cf53_2 : decode cJ9_max_7cf53 2 = .ok (.if_icmp .lt 7, 3) := by decide +kernel
theorem dJ9_max_7cf53_5 : decode cJ9_max_7cf53 5 = .ok (.iload_n 0, 1) := by decide +kernel
theorem dJ9_max_7cf53_6 : decode cJ9_max_7cf53 6 = .ok (.goto 4, 3) := by decide +kernel
theorem dJ9_max_7cf53_9 : decode cJ9_max_7cf53 9 = .ok (.iload_n 1, 1) := by decide +kernel
theorem dJ9_max_7cf53_10 : decode cJ9_max_7cf53 10 = .ok (.ireturn, 1) := by decide +kernel
theorem dJ9_min_7cf53_0 : decode cJ9_min_7cf53 0 = .ok (.iload_n 0, 1) := by decide +kernel
theorem dJ9_min_7cf53_1 : decode cJ9_min_7cf53 1 = .ok (.iload_n 1, 1) := by decide +kernel
theorem dJ9_min_7cf53_2 : decode cJ9_min_7cf53 2 = .ok (.if_icmp .gt 7, 3) := by decide +kernel
theorem dJ9_min_7cf53_5 : decode cJ9_min_7cf53 5 = .ok (.iload_n 0, 1) := by decide +kernel
theorem dJ9_min_7cf53_6 : decode cJ9_min_7cf53 6 = .ok (.goto 4, 3) := by decide +kernel
theorem dJ9_min_7cf53_9 : decode cJ9_min_7cf53 9 = .ok (.iload_n 1, 1) := by decide +kernel
theorem dJ9_min_7cf53_10 : decode cJ9_min_7cf53 10 = .ok (.ireturn, 1) := by decide +kernel
theorem dJ0_init_81219_0 : decode cJ0_init_81219 0 = .ok (.aload_n 0, 1) := by decide +kernel
theorem dJ0_init_81219_1 : decode cJ0_init_81219 1 = .ok (.aload_n 1, 1) := by decide +kernel
theorem dJ0_init_81219_2 : decode cJ0_init_81219 2 = .ok (.aconst_null, 1) := by decide +kernel
theorem dJ0_init_81219_3 : decode cJ0_init_81219 3 = .ok (.invokespecial 489, 3) := by decide +kernel
theorem dJ0_init_81219_6 : decode cJ0_init_81219 6 = .ok (.return_, 1) := by decide +kernel
theorem dJ0_length_8abf5_0 : decode cJ0_length_8abf5 0 = .ok (.aload_n 0, 1) := by decide +kernel
theorem dJ0_length_8abf5_1 : decode cJ0_length_8abf5 1 = .ok (.getfield 9, 3) := by decide +kernel
theorem dJ0_length_8abf5_4 : decode cJ0_length_8abf5 4 = .ok (.arraylength, 1) := by decide +kernel
theorem dJ0_length_8abf5_5 : decode cJ0_length_8abf5 5 = .ok (.aload_n 0, 1) := by decide +kernel
theorem dJ0_length_8abf5_6 : decode cJ0_length_8abf5 6 = .ok (.invokevirtual 335, 3) := by decide +kernel
theorem dJ0_length_8abf5_9 : decode cJ0_length_8abf5 9 = .ok (.ishr, 1) := by decide +kernel
theorem dJ0_length_8abf5_10 : decode cJ0_length_8abf5 10 = .ok (.ireturn, 1) := by decide +kernel
theorem dJ0_charAt_5068e_0 : decode cJ0_charAt_5068e 0 = .ok (.aload_n 0, 1) := by decide +kernel
theorem dJ0_charAt_5068e_1 : decode cJ0_charAt_5068e 1 = .ok (.invokevirtual 492, 3) := by decide +kernel
theorem dJ0_charAt_5068e_4 : decode cJ0_charAt_5068e 4 = .ok (.ifCond .eq 12, 3) := by decide +kernel
theorem dJ0_charAt_5068e_7 : decode cJ0_charAt_5068e 7 = .ok (.aload_n 0, 1) := by decide +kernel
theorem dJ0_charAt_5068e_8 : decode cJ0_charAt_5068e 8 = .ok (.getfield 9, 3) := by decide +kernel
theorem dJ0_charAt_5068e_11 : decode cJ0_charAt_5068e 11 = .ok (.iload_n 1, 1) := by decide +kernel
theorem dJ0_charAt_5068e_12 : decode cJ0_charAt_5068e 12 = .ok (.invokestatic 495, 3) := by decide +kernel
theorem dJ0_charAt_5068e_15 : decode cJ0_charAt_5068e 15 = .ok (.ireturn, 1) := by decide +kernel
theorem dJ0_charAt_5068e_16 : decode cJ0_charAt_5068e 16 = .ok (.aload_n 0, 1) := by decide +kernel
theorem dJ0_charAt_5068e_17 : decode cJ0_charAt_5068e 17 = .ok (.getfield 9, 3) := by decide +kernel
theorem dJ0_charAt_5068e_20 : decode cJ0_charAt_5068e 20 = .ok (.iload_n 1, 1) := by decide +kernel
theorem dJ0_charAt_5068e_21 : decode cJ0_charAt_5068e 21 = .ok (.invokestatic 498, 3) := by decide +kernel
theorem dJ0_charAt_5068e_24 : decode cJ0_charAt_5068e 24 = .ok (.ireturn, 1) := by decide +kernel
theorem dJ0_getBytes_840e7_0 : decode cJ0_getBytes_840e7 0 = .ok (.aload_n 0, 1) := by decide +kernel
theorem dJ0_getBytes_840e7_1 : decode cJ0_getBytes_840e7 1 = .ok (.invokevirtual 335, 3) := by decide +kernel
theorem dJ0_getBytes_840e7_4 : decode cJ0_getBytes_840e7 4 = .ok (.iload_n 3, 1) := by decide +kernel
theorem dJ0_getBytes_840e7_5 : decode cJ0_getBytes_840e7 5 = .ok (.if_icmp .ne 23, 3) := by decide +kernel
theorem dJ0_getBytes_840e7_8 : decode cJ0_getBytes_840e7 8 = .ok (.aload_n 0, 1) := by decide +kernel
theorem dJ0_getBytes_840e7_9 : decode cJ0_getBytes_840e7 9 = .ok (.getfield 9, 3) := by decide +kernel
theorem dJ0_getBytes_840e7_12 : decode cJ0_getBytes_840e7 12 = .ok (.iconst 0, 1) := by decide +kernel
theorem dJ0_getBytes_840e7_13 : decode cJ0_getBytes_840e7 13 = .ok (.aload_n 1, 1) := by decide +kernel
theorem dJ0_getBytes_840e7_14 : decode cJ0_getBytes_840e7 14 = .ok (.iload_n 2, 1) := by decide +kernel
theorem dJ0_getBytes_840e7_15 : decode cJ0_getBytes_840e7 15 = .ok (.iload_n 3, 1) := by decide +kernel
theorem dJ0_getBytes_840e7_16 : decode cJ0_getBytes_840e7 16 = .ok (.ishl, 1) := by decide +kernel
theorem dJ0_getBytes_840e7_17 : decode cJ0_getBytes_840e7 17 = .ok (.aload_n 0, 1) := by decide +kernel
theorem dJ0_getBytes_840e7_18 : decode cJ0_getBytes_840e7 18 = .ok (.getfield 9, 3) := by decide +kernel
theorem dJ0_getBytes_840e7_21 : decode cJ0_getBytes_840e7 21 = .ok (.arraylength, 1) := by decide +kernel
theorem dJ0_getBytes_840e7_22 : decode cJ0_getBytes_840e7 22 = .ok (.invokestatic 212, 3) := by decide +kernel
theorem dJ0_getBytes_840e7_25 : decode cJ0_getBytes_840e7 25 = .ok (.goto 18, 3) := by decide +kernel
theorem dJ0_getBytes_840e7_28 : decode cJ0_getBytes_840e7 28 = .ok (.aload_n 0, 1) := by decide +kernel
theorem dJ0_getBytes_840e7_29 : decode cJ0_getBytes_840e7 29 = .ok (.getfield 9, 3) := by decide +kernel
theorem dJ0_getBytes_840e7_32 : decode cJ0_getBytes_840e7 32 = .ok (.iconst 0, 1) := by decide +kernel
theorem dJ0_getBytes_840e7_33 : decode cJ0_getBytes_840e7 33 = .ok (.aload_n 1, 1) := by decide +kernel
theorem dJ0_getBytes_840e7_34 : decode cJ0_getBytes_840e7 34 = .ok (.iload_n 2, 1) := by decide +kernel
theorem dJ0_getBytes_840e7_35 : decode cJ0_getBytes_840e7 35 = .ok (.aload_n 0, 1) := by decide +kernel
theorem dJ0_getBytes_840e7_36 : decode cJ0_getBytes_840e7 36 = .ok (.getfield 9, 3) := by decide +kernel
theorem dJ0_getBytes_840e7_39 : decode cJ0_getBytes_840e7 39 = .ok (.arraylength, 1) := by decide +kernel
theorem dJ0_getBytes_840e7_40 : decode cJ0_getBytes_840e7 40 = .ok (.invokestatic 106, 3) := by decide +kernel
theorem dJ0_getBytes_840e7_43 : decode cJ0_getBytes_840e7 43 = .ok (.return_, 1) := by decide +kernel
theorem dJ0_init_db425_0 : decode cJ0_init_db425 0 = .ok (.aload_n 0, 1) := by decide +kernel
theorem dJ0_init_db425_1 : decode cJ0_init_db425 1 = .ok (.invokespecial 1, 3) := by decide +kernel
theorem dJ0_init_db425_4 : decode cJ0_init_db425 4 = .ok (.aload_n 1, 1) := by decide +kernel
theorem dJ0_init_db425_5 : decode cJ0_init_db425 5 = .ok (.invokevirtual 552, 3) := by decide +kernel
theorem dJ0_init_db425_8 : decode cJ0_init_db425 8 = .ok (.astore_n 3, 1) := by decide +kernel
theorem dJ0_init_db425_9 : decode cJ0_init_db425 9 = .ok (.aload_n 1, 1) := by decide +kernel
theorem dJ0_init_db425_10 : decode cJ0_init_db425 10 = .ok (.invokevirtual 549, 3) := by decide +kernel
theorem dJ0_init_db425_13 : decode cJ0_init_db425 13 = .ok (.istore 4, 2) := by decide +kernel
theorem dJ0_init_db425_15 : decode cJ0_init_db425 15 = .ok (.aload_n 1, 1) := by decide +kernel
theorem dJ0_init_db425_16 : decode cJ0_init_db425 16 = .ok (.invokevirtual 1047, 3) := by decide +kernel
theorem dJ0_init_db425_19 : decode cJ0_init_db425 19 = .ok (.ifCond .eq 22, 3) := by decide +kernel
theorem dJ0_init_db425_22 : decode cJ0_init_db425 22 = .ok (.aload_n 0, 1) := by decide +kernel
theorem dJ0_init_db425_23 : decode cJ0_init_db425 23 = .ok (.iconst 0, 1) := by decide +kernel
theorem dJ0_init_db425_24 : decode cJ0_init_db425 24 = .ok (.putfield 15, 3) := by decide +kernel
theorem dJ0_init_db425_27 : decode cJ0_init_db425 27 = .ok (.aload_n 0, 1) := by decide +kernel
theorem dJ0_init_db425_28 : decode cJ0_init_db425 28 = .ok (.aload_n 3, 1) := by decide +kernel
theorem dJ0_init_db425_29 : decode cJ0_init_db425 29 = .ok (.iconst 0, 1) := by decide +kernel
theorem dJ0_init_db425_30 : decode cJ0_init_db425 30 = .ok (.iload 4, 2) := by decide +kernel
theorem dJ0_init_db425_32 : decode cJ0_init_db425 32 = .ok (.invokestatic 54, 3) := by decide +kernel
theorem dJ0_init_db425_35 : decode cJ0_init_db425 35 = .ok (.putfield 9, 3) := by decide +kernel
theorem dJ0_init_db425_38 : decode cJ0_init_db425 38 = .ok (.goto 59, 3) := by decide +kernel
theorem dJ0_init_db425_41 : decode cJ0_init_db425 41 = .ok (.getstatic 38, 3) := by decide +kernel
theorem dJ0_init_db425_44 : decode cJ0_init_db425 44 = .ok (.ifCond .eq 35, 3) := by decide +kernel
theorem dJ0_init_db425_47 : decode cJ0_init_db425 47 = .ok (.aload_n 1, 1) := by decide +kernel
theorem dJ0_init_db425_48 : decode cJ0_init_db425 48 = .ok (.getfield 1048, 3) := by decide +kernel
theorem dJ0_init_db425_51 : decode cJ0_init_db425 51 = .ok (.ifCond .eq 28, 3) := by decide +kernel
theorem dJ0_init_db425_54 : decode cJ0_init_db425 54 = .ok (.aload_n 0, 1) := by decide +kernel
theorem dJ0_init_db425_55 : decode cJ0_init_db425 55 = .ok (.aload_n 3, 1) := by decide +kernel
theorem dJ0_init_db425_56 : decode cJ0_init_db425 56 = .ok (.iconst 0, 1) := by decide +kernel
theorem dJ0_init_db425_57 : decode cJ0_init_db425 57 = .ok (.iload 4, 2) := by decide +kernel
theorem dJ0_init_db425_59 : decode cJ0_init_db425 59 = .ok (.invokestatic 1051, 3) := by decide +kernel
theorem dJ0_init_db425_62 : decode cJ0_init_db425 62 = .ok (.putfield 9, 3) := by decide +kernel
theorem dJ0_init_db425_65 : decode cJ0_init_db425 65 = .ok (.aload_n 0, 1) := by decide +kernel
theorem dJ0_init_db425_66 : decode cJ0_init_db425 66 = .ok (.aload_n 0, 1) := by decide +kernel
theorem dJ0_init_db425_67 : decode cJ0_init_db425 67 = .ok (.getfield 9, 3) := by decide +kernel
theorem dJ0_init_db425_70 : decode cJ0_init_db425 70 = .ok (.iload 4, 2) := by decide +kernel
theorem dJ0_init_db425_72 : decode cJ0_init_db425 72 = .ok (.invokestatic 47, 3) := by decide +kernel
theorem dJ0_init_db425_75 : decode cJ0_init_db425 75 = .ok (.putfield 15, 3) := by decide +kernel
theorem dJ0_init_db425_78 : decode cJ0_init_db425 78 = .ok (.return_, 1) := by decide +kernel
theorem dJ0_init_db425_79 : decode cJ0_init_db425 79 = .ok (.aload_n 0, 1) := by decide +kernel
theorem dJ0_init_db425_80 : decode cJ0_init_db425 80 = .ok (.iconst 1, 1) := by decide +kernel
theorem dJ0_init_db425_81 : decode cJ0_init_db425 81 = .ok (.putfield 15, 3) := by decide +kernel
theorem dJ0_init_db425_84 : decode cJ0_init_db425 84 = .ok (.aload_n 0, 1) := by decide +kernel
theorem dJ0_init_db425_85 : decode cJ0_init_db425 85 = .ok (.aload_n 3, 1) := by decide +kernel
theorem dJ0_init_db425_86 : decode cJ0_init_db425 86 = .ok (.iconst 0, 1) := by decide +kernel
theorem dJ0_init_db425_87 : decode cJ0_init_db425 87 = .ok (.iload 4, 2) := by decide +kernel
theorem dJ0_init_db425_89 : decode cJ0_init_db425 89 = .ok (.iconst 1, 1) := by decide +kernel
theorem dJ0_init_db425_90 : decode cJ0_init_db425 90 = .ok (.ishl, 1) := by decide +kernel
theorem dJ0_init_db425_91 : decode cJ0_init_db425 91 = .ok (.invokestatic 54, 3) := by decide +kernel
theorem dJ0_init_db425_94 : decode cJ0_init_db425 94 = .ok (.putfield 9, 3) := by decide +kernel
theorem dJ0_init_db425_97 : decode cJ0_init_db425 97 = .ok (.return_, 1) := by decide +kernel
theorem dJ0_coder_7d493_0 : decode cJ0_coder_7d493 0 = .ok (.getstatic 38, 3) := by decide +kernel
theorem dJ0_coder_7d493_3 : decode cJ0_coder_7d493 3 = .ok (.ifCond .eq 10, 3) := by decide +kernel
theorem dJ0_coder_7d493_6 : decode cJ0_coder_7d493 6 = .ok (.aload_n 0, 1) := by decide +kernel
theorem dJ0_coder_7d493_7 : decode cJ0_coder_7d493 7 = .ok (.getfield 15, 3) := by decide +kernel
theorem dJ0_coder_7d493_10 : decode cJ0_coder_7d493 10 = .ok (.goto 4, 3) := by decide +kernel
theorem dJ0_coder_7d493_13 : decode cJ0_coder_7d493 13 = .ok (.iconst 1, 1) := by decide +kernel
theorem dJ0_coder_7d493_14 : decode cJ0_coder_7d493 14 = .ok (.ireturn, 1) := by decide +kernel
theorem dJ0_isLatin1_aae02_0 : decode cJ0_isLatin1_aae02 0 = .ok (.getstatic 38, 3) := by decide +kernel
theorem dJ0_isLatin1_aae02_3 : decode cJ0_isLatin1_aae02 3 = .ok (.ifCond .eq 14, 3) := by decide +kernel
theorem dJ0_isLatin1_aae02_6 : decode cJ0_isLatin1_aae02 6 = .ok (.aload_n 0, 1) := by decide +kernel
theorem dJ0_isLatin1_aae02_7 : decode cJ0_isLatin1_aae02 7 = .ok (.getfield 15, 3) := by decide +kernel
theorem dJ0_isLatin1_aae02_10 : decode cJ0_isLatin1_aae02 10 = .ok (.ifCond .ne 7, 3) := by decide +kernel
theorem dJ0_isLatin1_aae02_13 : decode cJ0_isLatin1_aae02 13 = .ok (.iconst 1, 1) := by decide +kernel
theorem dJ0_isLatin1_aae02_14 : decode cJ0_isLatin1_aae02 14 = .ok (.goto 4, 3) := by decide +kernel
theorem dJ0_isLatin1_aae02_17 : decode cJ0_isLatin1_aae02 17 = .ok (.iconst 0, 1) := by decide +kernel
theorem dJ0_isLatin1_aae02_18 : decode cJ0_isLatin1_aae02 18 = .ok (.ireturn, 1) := by decide +kernel
theorem dJ0_checkIndex_df160_0 : decode cJ0_checkIndex_df160 0 = .ok (.iload_n 0, 1) := by decide +kernel
theorem dJ0_checkIndex_df160_1 : decode cJ0_checkIndex_df160 1 = .ok (.iload_n 1, 1) := by decide +kernel
theorem dJ0_checkIndex_df160_2 : decode cJ0_checkIndex_df160 2 = .ok (.getstatic 1053, 3) := by decide +kernel
theorem dJ0_checkIndex_df160_5 : decode cJ0_checkIndex_df160 5 = .ok (.invokestatic 1059, 3) := by decide +kernel
theorem dJ0_checkIndex_df160_8 : decode cJ0_checkIndex_df160 8 = .ok (.pop, 1) := by decide +kernel
theorem dJ0_checkIndex_df160_9 : decode cJ0_checkIndex_df160 9 = .ok (.return_, 1) := by decide +kernel
theorem dJ0_checkBoundsOffCount_cabcc_0 : decode cJ0_checkBoundsOffCount_cabcc 0 = .ok (.iload_n 0, 1) := by decide +kernel
theorem dJ0_checkBoundsOffCount_cabcc_1 : decode cJ0_checkBoundsOffCount_cabcc 1 = .ok (.iload_n 1, 1) := by decide +kernel
theorem dJ0_checkBoundsOffCount_cabcc_2 : decode cJ0_checkBoundsOffCount_cabcc 2 = .ok (.iload_n 2, 1) := by decide +kernel
theorem dJ0_checkBoundsOffCount_cabcc_3 : decode cJ0_checkBoundsOffCount_cabcc 3 = .ok (.getstatic 1053, 3) := by decide +kernel
theorem dJ0_checkBoundsOffCount_cabcc_6 : decode cJ0_checkBoundsOffCount_cabcc 6 = .ok (.invokestatic 1065, 3) := by decide +kernel
theorem dJ0_checkBoundsOffCount_cabcc_9 : decode cJ0_checkBoundsOffCount_cabcc 9 = .ok (.ireturn, 1) := by decide +kernel
theorem dJ0_checkBoundsBeginEnd_23922_0 : decode cJ0_checkBoundsBeginEnd_23922 0 = .ok (.iload_n 0, 1) := by decide +kernel
theorem dJ0_checkBoundsBeginEnd_23922_1 : decode cJ0_checkBoundsBeginEnd_23922 1 = .ok (.iload_n 1, 1) := by decide +kernel
theorem dJ0_checkBoundsBeginEnd_23922_2 : decode cJ0_checkBoundsBeginEnd_23922 2 = .ok (.iload_n 2, 1) := by decide +kernel
theorem dJ0_checkBoundsBeginEnd_23922_3 : decode cJ0_checkBoundsBeginEnd_23922 3 = .ok (.getstatic 1053, 3) := by decide +kernel
theorem dJ0_checkBoundsBeginEnd_23922_6 : decode cJ0_checkBoundsBeginEnd_23922 6 = .ok (.invokestatic 1062, 3) := by decide +kernel
theorem dJ0_checkBoundsBeginEnd_23922_9 : decode cJ0_checkBoundsBeginEnd_23922 9 = .ok (.pop, 1) := by decide +kernel
theorem dJ0_checkBoundsBeginEnd_23922_10 : decode cJ0_checkBoundsBeginEnd_23922 10 = .ok (.return_, 1) := by decide +kernel
theorem dJ4_init_da8c8_0 : decode cJ4_init_da8c8 0 = .ok (.aload_n 0, 1) := by decide +kernel
theorem dJ4_init_da8c8_1 : decode cJ4_init_da8c8 1 = .ok (.bipush 16, 2) := by decide +kernel
theorem dJ4_init_da8c8_3 : decode cJ4_init_da8c8 3 = .ok (.invokespecial 1, 3) := by decide +kernel
theorem dJ4_init_da8c8_6 : decode cJ4_init_da8c8 6 = .ok (.return_, 1) := by decide +kernel
theorem dJ4_init_a7421_0 : decode cJ4_init_a7421 0 = .ok (.aload_n 0, 1) := by decide +kernel
theorem dJ4_init_a7421_1 : decode cJ4_init_a7421 1 = .ok (.aload_n 1, 1) := by decide +kernel
theorem dJ4_init_a7421_2 : decode cJ4_init_a7421 2 = .ok (.invokespecial 7, 3) := by decide +kernel
theorem dJ4_init_a7421_5 : decode cJ4_init_a7421 5 = .ok (.return_, 1) := by decide +kernel
theorem dJ4_append_15ec4_0 : decode cJ4_append_15ec4 0 = .ok (.aload_n 0, 1) := by decide +kernel
theorem dJ4_append_15ec4_1 : decode cJ4_append_15ec4 1 = .ok (.aload_n 1, 1) := by decide +kernel
theorem dJ4_append_15ec4_2 : decode cJ4_append_15ec4 2 = .ok (.invokespecial 29, 3) := by decide +kernel
theorem dJ4_append_15ec4_5 : decode cJ4_append_15ec4 5 = .ok (.pop, 1) := by decide +kernel
theorem dJ4_append_15ec4_6 : decode cJ4_append_15ec4 6 = .ok (.aload_n 0, 1) := by decide +kernel
theorem dJ4_append_15ec4_7 : decode cJ4_append_15ec4 7 = .ok (.areturn, 1) := by decide +kernel
theorem dJ4_append_cf468_0 : decode cJ4_append_cf468 0 = .ok (.aload_n 0, 1) := by decide +kernel
theorem dJ4_append_cf468_1 : decode cJ4_append_cf468 1 = .ok (.iload_n 1, 1) := by decide +kernel
theorem dJ4_append_cf468_2 : decode cJ4_append_cf468 2 = .ok (.invokespecial 50, 3) := by decide +kernel
theorem dJ4_append_cf468_5 : decode cJ4_append_cf468 5 = .ok (.pop, 1) := by decide +kernel
theorem dJ4_append_cf468_6 : decode cJ4_append_cf468 6 = .ok (.aload_n 0, 1) := by decide +kernel
theorem dJ4_append_cf468_7 : decode cJ4_append_cf468 7 = .ok (.areturn, 1) := by decide +kernel
theorem dJ4_append_bf812_0 : decode cJ4_append_bf812 0 = .ok (.aload_n 0, 1) := by decide +kernel
theorem dJ4_append_bf812_1 : decode cJ4_append_bf812 1 = .ok (.iload_n 1, 1) := by decide +kernel
theorem dJ4_append_bf812_2 : decode cJ4_append_bf812 2 = .ok (.invokespecial 53, 3) := by decide +kernel
theorem dJ4_append_bf812_5 : decode cJ4_append_bf812 5 = .ok (.pop, 1) := by decide +kernel
theorem dJ4_append_bf812_6 : decode cJ4_append_bf812 6 = .ok (.aload_n 0, 1) := by decide +kernel
theorem dJ4_append_bf812_7 : decode cJ4_append_bf812 7 = .ok (.areturn, 1) := by decide +kernel
theorem dJ4_toString_0e30d_0 : decode cJ4_toString_0e30d 0 = .ok (.new 18, 3) := by decide +kernel
theorem dJ4_toString_0e30d_3 : decode cJ4_toString_0e30d 3 = .ok (.dup, 1) := by decide +kernel
theorem dJ4_toString_0e30d_4 : decode cJ4_toString_0e30d 4 = .ok (.aload_n 0, 1) := by decide +kernel
theorem dJ4_toString_0e30d_5 : decode cJ4_toString_0e30d 5 = .ok (.invokespecial 137, 3) := by decide +kernel
theorem dJ4_toString_0e30d_8 : decode cJ4_toString_0e30d 8 = .ok (.areturn, 1) := by decide +kernel
theorem dJ4_append_cf1ce_0 : decode cJ4_append_cf1ce 0 = .ok (.aload_n 0, 1) := by decide +kernel
theorem dJ4_append_cf1ce_1 : decode cJ4_append_cf1ce 1 = .ok (.aload_n 1, 1) := by decide +kernel
theorem dJ4_append_cf1ce_2 : decode cJ4_append_cf1ce 2 = .ok (.invokevirtual 23, 3) := by decide +kernel
theorem dJ4_append_cf1ce_5 : decode cJ4_append_cf1ce 5 = .ok (.areturn, 1) := by decide +kernel
theorem dJ4_length_8abf5_0 : decode cJ4_length_8abf5 0 = .ok (.aload_n 0, 1) := by decide +kernel
theorem dJ4_length_8abf5_1 : decode cJ4_length_8abf5 1 = .ok (.invokespecial 343, 3) := by decide +kernel
theorem dJ4_length_8abf5_4 : decode cJ4_length_8abf5 4 = .ok (.ireturn, 1) := by decide +kernel
theorem dJ1_charAt_3b067_0 : decode cJ1_charAt_3b067 0 = .ok (.iload_n 1, 1) := by decide +kernel
theorem dJ1_charAt_3b067_1 : decode cJ1_charAt_3b067 1 = .ok (.aload_n 0, 1) := by decide +kernel
theorem dJ1_charAt_3b067_2 : decode cJ1_charAt_3b067 2 = .ok (.arraylength, 1) := by decide +kernel
theorem dJ1_charAt_3b067_3 : decode cJ1_charAt_3b067 3 = .ok (.invokestatic 9, 3) := by decide +kernel
theorem dJ1_charAt_3b067_6 : decode cJ1_charAt_3b067 6 = .ok (.aload_n 0, 1) := by decide +kernel
theorem dJ1_charAt_3b067_7 : decode cJ1_charAt_3b067 7 = .ok (.iload_n 1, 1) := by decide +kernel
theorem dJ1_charAt_3b067_8 : decode cJ1_charAt_3b067 8 = .ok (.baload, 1) := by decide +kernel
theorem dJ1_charAt_3b067_9 : decode cJ1_charAt_3b067 9 = .ok (.sipush 255, 3) := by decide +kernel
theorem dJ1_charAt_3b067_12 : decode cJ1_charAt_3b067 12 = .ok (.iand, 1) := by decide +kernel
theorem dJ1_charAt_3b067_13 : decode cJ1_charAt_3b067 13 = .ok (.i2c, 1) := by decide +kernel
theorem dJ1_charAt_3b067_14 : decode cJ1_charAt_3b067 14 = .ok (.ireturn, 1) := by decide +kernel
theorem dJ1_canEncode_fc78d_0 : decode cJ1_canEncode_fc78d 0 = .ok (.iload_n 0, 1) := by decide +kernel
theorem dJ1_canEncode_fc78d_1 : decode cJ1_canEncode_fc78d 1 = .ok (.sipush 255, 3) := by decide +kernel
theorem dJ1_canEncode_fc78d_4 : decode cJ1_canEncode_fc78d 4 = .ok (.if_icmp .gt 7, 3) := by decide +kernel
theorem dJ1_canEncode_fc78d_7 : decode cJ1_canEncode_fc78d 7 = .ok (.iconst 1, 1) := by decide +kernel
theorem dJ1_canEncode_fc78d_8 : decode cJ1_canEncode_fc78d 8 = .ok (.goto 4, 3) := by decide +kernel
theorem dJ1_canEncode_fc78d_11 : decode cJ1_canEncode_fc78d 11 = .ok (.iconst 0, 1) := by decide +kernel
theorem dJ1_canEncode_fc78d_12 : decode cJ1_canEncode_fc78d 12 = .ok (.ireturn, 1) := by decide +kernel
theorem dJ1_inflate_0e8fd_0 : decode cJ1_inflate_0e8fd 0 = .ok (.aload_n 0, 1) := by decide +kernel
theorem dJ1_inflate_0e8fd_1 : decode cJ1_inflate_0e8fd 1 = .ok (.iload_n 1, 1) := by decide +kernel
theorem dJ1_inflate_0e8fd_2 : decode cJ1_inflate_0e8fd 2 = .ok (.aload_n 2, 1) := by decide +kernel
theorem dJ1_inflate_0e8fd_3 : decode cJ1_inflate_0e8fd 3 = .ok (.iload_n 3, 1) := by decide +kernel
theorem dJ1_inflate_0e8fd_4 : decode cJ1_inflate_0e8fd 4 = .ok (.iload 4, 2) := by decide +kernel
theorem dJ1_inflate_0e8fd_6 : decode cJ1_inflate_0e8fd 6 = .ok (.invokestatic 240, 3) := by decide +kernel
theorem dJ1_inflate_0e8fd_9 : decode cJ1_inflate_0e8fd 9 = .ok (.return_, 1) := by decide +kernel
theorem dJ2_newBytesFor_77867_0 : decode cJ2_newBytesFor_77867 0 = .ok (.iload_n 0, 1) := by decide +kernel
theorem dJ2_newBytesFor_77867_1 : decode cJ2_newBytesFor_77867 1 = .ok (.invokestatic 11, 3) := by decide +kernel
theorem dJ2_newBytesFor_77867_4 : decode cJ2_newBytesFor_77867 4 = .ok (.newarray .byte, 2) := by decide +kernel
theorem dJ2_newBytesFor_77867_6 : decode cJ2_newBytesFor_77867 6 = .ok (.areturn, 1) := by decide +kernel
theorem dJ2_newBytesLength_0f7a4_0 : decode cJ2_newBytesLength_0f7a4 0 = .ok (.iload_n 0, 1) := by decide +kernel
theorem dJ2_newBytesLength_0f7a4_1 : decode cJ2_newBytesLength_0f7a4 1 = .ok (.ifCond .ge 11, 3) := by decide +kernel
theorem dJ2_newBytesLength_0f7a4_4 : decode cJ2_newBytesLength_0f7a4 4 = .ok (.new 17, 3) := by decide +kernel
theorem dJ2_newBytesLength_0f7a4_7 : decode cJ2_newBytesLength_0f7a4 7 = .ok (.dup, 1) := by decide +kernel
theorem dJ2_newBytesLength_0f7a4_8 : decode cJ2_newBytesLength_0f7a4 8 = .ok (.invokespecial 19, 3) := by decide +kernel
theorem dJ2_newBytesLength_0f7a4_11 : decode cJ2_newBytesLength_0f7a4 11 = .ok (.athrow, 1) := by decide +kernel
theorem dJ2_newBytesLength_0f7a4_12 : decode cJ2_newBytesLength_0f7a4 12 = .ok (.iload_n 0, 1) := by decide +kernel
theorem dJ2_newBytesLength_0f7a4_13 : decode cJ2_newBytesLength_0f7a4 13 = .ok (.ldc 20, 2) := by decide +kernel
theorem dJ2_newBytesLength_0f7a4_15 : decode cJ2_newBytesLength_0f7a4 15 = .ok (.if_icmp .lt 40, 3) := by decide +kernel
theorem dJ2_newBytesLength_0f7a4_18 : decode cJ2_newBytesLength_0f7a4 18 = .ok (.new 21, 3) := by decide +kernel
theorem dJ2_newBytesLength_0f7a4_21 : decode cJ2_newBytesLength_0f7a4 21 = .ok (.dup, 1) := by decide +kernel
theorem dJ2_newBytesLength_0f7a4_22 : decode cJ2_newBytesLength_0f7a4 22 = .ok (.new 23, 3) := by decide +kernel
theorem dJ2_newBytesLength_0f7a4_25 : decode cJ2_newBytesLength_0f7a4 25 = .ok (.dup, 1) := by decide +kernel
theorem dJ2_newBytesLength_0f7a4_26 : decode cJ2_newBytesLength_0f7a4 26 = .ok (.invokespecial 25, 3) := by decide +kernel
theorem dJ2_newBytesLength_0f7a4_29 : decode cJ2_newBytesLength_0f7a4 29 = .ok (.ldc 26, 2) := by decide +kernel
theorem dJ2_newBytesLength_0f7a4_31 : decode cJ2_newBytesLength_0f7a4 31 = .ok (.invokevirtual 28, 3) := by decide +kernel
theorem dJ2_newBytesLength_0f7a4_34 : decode cJ2_newBytesLength_0f7a4 34 = .ok (.iload_n 0, 1) := by decide +kernel
theorem dJ2_newBytesLength_0f7a4_35 : decode cJ2_newBytesLength_0f7a4 35 = .ok (.invokevirtual 32, 3) := by decide +kernel
theorem dJ2_newBytesLength_0f7a4_38 : decode cJ2_newBytesLength_0f7a4 38 = .ok (.ldc 35, 2) := by decide +kernel
theorem dJ2_newBytesLength_0f7a4_40 : decode cJ2_newBytesLength_0f7a4 40 = .ok (.invokevirtual 28, 3) := by decide +kernel
theorem dJ2_newBytesLength_0f7a4_43 : decode cJ2_newBytesLength_0f7a4 43 = .ok (.ldc 20, 2) := by decide +kernel
theorem dJ2_newBytesLength_0f7a4_45 : decode cJ2_newBytesLength_0f7a4 45 = .ok (.invokevirtual 32, 3) := by decide +kernel
theorem dJ2_newBytesLength_0f7a4_48 : decode cJ2_newBytesLength_0f7a4 48 = .ok (.invokevirtual 37, 3) := by decide +kernel
theorem dJ2_newBytesLength_0f7a4_51 : decode cJ2_newBytesLength_0f7a4 51 = .ok (.invokespecial 41, 3) := by decide +kernel
theorem dJ2_newBytesLength_0f7a4_54 : decode cJ2_newBytesLength_0f7a4 54 = .ok (.athrow, 1) := by decide +kernel
theorem dJ2_newBytesLength_0f7a4_55 : decode cJ2_newBytesLength_0f7a4 55 = .ok (.iload_n 0, 1) := by decide +kernel
theorem dJ2_newBytesLength_0f7a4_56 : decode cJ2_newBytesLength_0f7a4 56 = .ok (.iconst 1, 1) := by decide +kernel
theorem dJ2_newBytesLength_0f7a4_57 : decode cJ2_newBytesLength_0f7a4 57 = .ok (.ishl, 1) := by decide +kernel
theorem dJ2_newBytesLength_0f7a4_58 : decode cJ2_newBytesLength_0f7a4 58 = .ok (.ireturn, 1) := by decide +kernel
theorem dJ2_putChar_b72d1_0 : decode cJ2_putChar_b72d1 0 = .ok (.getstatic 44, 3) := by decide +kernel
theorem dJ2_putChar_b72d1_3 : decode cJ2_putChar_b72d1 3 = .ok (.ifCond .ne 25, 3) := by decide +kernel
theorem dJ2_putChar_b72d1_6 : decode cJ2_putChar_b72d1 6 = .ok (.iload_n 1, 1) := by decide +kernel
theorem dJ2_putChar_b72d1_7 : decode cJ2_putChar_b72d1 7 = .ok (.ifCond .lt 11, 3) := by decide +kernel
theorem dJ2_putChar_b72d1_10 : decode cJ2_putChar_b72d1 10 = .ok (.iload_n 1, 1) := by decide +kernel
theorem dJ2_putChar_b72d1_11 : decode cJ2_putChar_b72d1 11 = .ok (.aload_n 0, 1) := by decide +kernel
theorem dJ2_putChar_b72d1_12 : decode cJ2_putChar_b72d1 12 = .ok (.invokestatic 48, 3) := by decide +kernel
theorem dJ2_putChar_b72d1_15 : decode cJ2_putChar_b72d1 15 = .ok (.if_icmp .lt 13, 3) := by decide +kernel
theorem dJ2_putChar_b72d1_18 : decode cJ2_putChar_b72d1 18 = .ok (.new 52, 3) := by decide +kernel
theorem dJ2_putChar_b72d1_21 : decode cJ2_putChar_b72d1 21 = .ok (.dup, 1) := by decide +kernel
theorem dJ2_putChar_b72d1_22 : decode cJ2_putChar_b72d1 22 = .ok (.ldc 54, 2) := by decide +kernel
theorem dJ2_putChar_b72d1_24 : decode cJ2_putChar_b72d1 24 = .ok (.invokespecial 56, 3) := by decide +kernel
theorem dJ2_putChar_b72d1_27 : decode cJ2_putChar_b72d1 27 = .ok (.athrow, 1) := by decide +kernel
theorem dJ2_putChar_b72d1_28 : decode cJ2_putChar_b72d1 28 = .ok (.iload_n 1, 1) := by decide +kernel
theorem dJ2_putChar_b72d1_29 : decode cJ2_putChar_b72d1 29 = .ok (.iconst 1, 1) := by decide +kernel
theorem dJ2_putChar_b72d1_30 : decode cJ2_putChar_b72d1 30 = .ok (.ishl, 1) := by decide +kernel
theorem dJ2_putChar_b72d1_31 : decode cJ2_putChar_b72d1 31 = .ok (.istore_n 1, 1) := by decide +kernel
theorem dJ2_putChar_b72d1_32 : decode cJ2_putChar_b72d1 32 = .ok (.aload_n 0, 1) := by decide +kernel
theorem dJ2_putChar_b72d1_33 : decode cJ2_putChar_b72d1 33 = .ok (.iload_n 1, 1) := by decide +kernel
theorem dJ2_putChar_b72d1_34 : decode cJ2_putChar_b72d1 34 = .ok (.iinc 1 1, 3) := by decide +kernel
theorem dJ2_putChar_b72d1_37 : decode cJ2_putChar_b72d1 37 = .ok (.iload_n 2, 1) := by decide +kernel
theorem dJ2_putChar_b72d1_38 : decode cJ2_putChar_b72d1 38 = .ok (.getstatic 59, 3) := by decide +kernel
theorem dJ2_putChar_b72d1_41 : decode cJ2_putChar_b72d1 41 = .ok (.ishr, 1) := by decide +kernel
theorem dJ2_putChar_b72d1_42 : decode cJ2_putChar_b72d1 42 = .ok (.i2b, 1) := by decide +kernel
theorem dJ2_putChar_b72d1_43 : decode cJ2_putChar_b72d1 43 = .ok (.bastore, 1) := by decide +kernel
theorem dJ2_putChar_b72d1_44 : decode cJ2_putChar_b72d1 44 = .ok (.aload_n 0, 1) := by decide +kernel
theorem dJ2_putChar_b72d1_45 : decode cJ2_putChar_b72d1 45 = .ok (.iload_n 1, 1) := by decide +kernel
theorem dJ2_putChar_b72d1_46 : decode cJ2_putChar_b72d1 46 = .ok (.iload_n 2, 1) := by decide +kernel
theorem dJ2_putChar_b72d1_47 : decode cJ2_putChar_b72d1 47 = .ok (.getstatic 63, 3) := by decide +kernel
theorem dJ2_putChar_b72d1_50 : decode cJ2_putChar_b72d1 50 = .ok (.ishr, 1) := by decide +kernel
theorem dJ2_putChar_b72d1_51 : decode cJ2_putChar_b72d1 51 = .ok (.i2b, 1) := by decide +kernel
theorem dJ2_putChar_b72d1_52 : decode cJ2_putChar_b72d1 52 = .ok (.bastore, 1) := by decide +kernel
theorem dJ2_putChar_b72d1_53 : decode cJ2_putChar_b72d1 53 = .ok (.return_, 1) := by decide +kernel
theorem dJ2_getChar_3b067_0 : decode cJ2_getChar_3b067 0 = .ok (.getstatic 44, 3) := by decide +kernel
theorem dJ2_getChar_3b067_3 : decode cJ2_getChar_3b067 3 = .ok (.ifCond .ne 25, 3) := by decide +kernel
theorem dJ2_getChar_3b067_6 : decode cJ2_getChar_3b067 6 = .ok (.iload_n 1, 1) := by decide +kernel
theorem dJ2_getChar_3b067_7 : decode cJ2_getChar_3b067 7 = .ok (.ifCond .lt 11, 3) := by decide +kernel
theorem dJ2_getChar_3b067_10 : decode cJ2_getChar_3b067 10 = .ok (.iload_n 1, 1) := by decide +kernel
theorem dJ2_getChar_3b067_11 : decode cJ2_getChar_3b067 11 = .ok (.aload_n 0, 1) := by decide +kernel
theorem dJ2_getChar_3b067_12 : decode cJ2_getChar_3b067 12 = .ok (.invokestatic 48, 3) := by decide +kernel
theorem dJ2_getChar_3b067_15 : decode cJ2_getChar_3b067 15 = .ok (.if_icmp .lt 13, 3) := by decide +kernel
theorem dJ2_getChar_3b067_18 : decode cJ2_getChar_3b067 18 = .ok (.new 52, 3) := by decide +kernel
theorem dJ2_getChar_3b067_21 : decode cJ2_getChar_3b067 21 = .ok (.dup, 1) := by decide +kernel
theorem dJ2_getChar_3b067_22 : decode cJ2_getChar_3b067 22 = .ok (.ldc 54, 2) := by decide +kernel
theorem dJ2_getChar_3b067_24 : decode cJ2_getChar_3b067 24 = .ok (.invokespecial 56, 3) := by decide +kernel
theorem dJ2_getChar_3b067_27 : decode cJ2_getChar_3b067 27 = .ok (.athrow, 1) := by decide +kernel
theorem dJ2_getChar_3b067_28 : decode cJ2_getChar_3b067 28 = .ok (.iload_n 1, 1) := by decide +kernel
theorem dJ2_getChar_3b067_29 : decode cJ2_getChar_3b067 29 = .ok (.iconst 1, 1) := by decide +kernel
theorem dJ2_getChar_3b067_30 : decode cJ2_getChar_3b067 30 = .ok (.ishl, 1) := by decide +kernel
theorem dJ2_getChar_3b067_31 : decode cJ2_getChar_3b067 31 = .ok (.istore_n 1, 1) := by decide +kernel
theorem dJ2_getChar_3b067_32 : decode cJ2_getChar_3b067 32 = .ok (.aload_n 0, 1) := by decide +kernel
theorem dJ2_getChar_3b067_33 : decode cJ2_getChar_3b067 33 = .ok (.iload_n 1, 1) := by decide +kernel
theorem dJ2_getChar_3b067_34 : decode cJ2_getChar_3b067 34 = .ok (.iinc 1 1, 3) := by decide +kernel
theorem dJ2_getChar_3b067_37 : decode cJ2_getChar_3b067 37 = .ok (.baload, 1) := by decide +kernel
theorem dJ2_getChar_3b067_38 : decode cJ2_getChar_3b067 38 = .ok (.sipush 255, 3) := by decide +kernel
theorem dJ2_getChar_3b067_41 : decode cJ2_getChar_3b067 41 = .ok (.iand, 1) := by decide +kernel
theorem dJ2_getChar_3b067_42 : decode cJ2_getChar_3b067 42 = .ok (.getstatic 59, 3) := by decide +kernel
theorem dJ2_getChar_3b067_45 : decode cJ2_getChar_3b067 45 = .ok (.ishl, 1) := by decide +kernel
theorem dJ2_getChar_3b067_46 : decode cJ2_getChar_3b067 46 = .ok (.aload_n 0, 1) := by decide +kernel
theorem dJ2_getChar_3b067_47 : decode cJ2_getChar_3b067 47 = .ok (.iload_n 1, 1) := by decide +kernel
theorem dJ2_getChar_3b067_48 : decode cJ2_getChar_3b067 48 = .ok (.baload, 1) := by decide +kernel
theorem dJ2_getChar_3b067_49 : decode cJ2_getChar_3b067 49 = .ok (.sipush 255, 3) := by decide +kernel
theorem dJ2_getChar_3b067_52 : decode cJ2_getChar_3b067 52 = .ok (.iand, 1) := by decide +kernel
theorem dJ2_getChar_3b067_53 : decode cJ2_getChar_3b067 53 = .ok (.getstatic 63, 3) := by decide +kernel
theorem dJ2_getChar_3b067_56 : decode cJ2_getChar_3b067 56 = .ok (.ishl, 1) := by decide +kernel
theorem dJ2_getChar_3b067_57 : decode cJ2_getChar_3b067 57 = .ok (.ior, 1) := by decide +kernel
theorem dJ2_getChar_3b067_58 : decode cJ2_getChar_3b067 58 = .ok (.i2c, 1) := by decide +kernel
theorem dJ2_getChar_3b067_59 : decode cJ2_getChar_3b067 59 = .ok (.ireturn, 1) := by decide +kernel
theorem dJ2_length_9d52b_0 : decode cJ2_length_9d52b 0 = .ok (.aload_n 0, 1) := by decide +kernel
theorem dJ2_length_9d52b_1 : decode cJ2_length_9d52b 1 = .ok (.arraylength, 1) := by decide +kernel
theorem dJ2_length_9d52b_2 : decode cJ2_length_9d52b 2 = .ok (.iconst 1, 1) := by decide +kernel
theorem dJ2_length_9d52b_3 : decode cJ2_length_9d52b 3 = .ok (.ishr, 1) := by decide +kernel
theorem dJ2_length_9d52b_4 : decode cJ2_length_9d52b 4 = .ok (.ireturn, 1) := by decide +kernel
theorem dJ2_coderFromArrayLen_85cad_0 : decode cJ2_coderFromArrayLen_85cad 0 = .ok (.iload_n 1, 1) := by decide +kernel
theorem dJ2_coderFromArrayLen_85cad_1 : decode cJ2_coderFromArrayLen_85cad 1 = .ok (.aload_n 0, 1) := by decide +kernel
theorem dJ2_coderFromArrayLen_85cad_2 : decode cJ2_coderFromArrayLen_85cad 2 = .ok (.arraylength, 1) := by decide +kernel
theorem dJ2_coderFromArrayLen_85cad_3 : decode cJ2_coderFromArrayLen_85cad 3 = .ok (.isub, 1) := by decide +kernel
theorem dJ2_coderFromArrayLen_85cad_4 : decode cJ2_coderFromArrayLen_85cad 4 = .ok (.bipush 31, 2) := by decide +kernel
theorem dJ2_coderFromArrayLen_85cad_6 : decode cJ2_coderFromArrayLen_85cad 6 = .ok (.iushr, 1) := by decide +kernel
theorem dJ2_coderFromArrayLen_85cad_7 : decode cJ2_coderFromArrayLen_85cad 7 = .ok (.i2b, 1) := by decide +kernel
theorem dJ2_coderFromArrayLen_85cad_8 : decode cJ2_coderFromArrayLen_85cad 8 = .ok (.ireturn, 1) := by decide +kernel
theorem dJ2_compress_39247_0 : decode cJ2_compress_39247 0 = .ok (.iload_n 2, 1) := by decide +kernel
theorem dJ2_compress_39247_1 : decode cJ2_compress_39247 1 = .ok (.newarray .byte, 2) := by decide +kernel
theorem dJ2_compress_39247_3 : decode cJ2_compress_39247 3 = .ok (.astore_n 3, 1) := by decide +kernel
theorem dJ2_compress_39247_4 : decode cJ2_compress_39247 4 = .ok (.aload_n 0, 1) := by decide +kernel
theorem dJ2_compress_39247_5 : decode cJ2_compress_39247 5 = .ok (.iload_n 1, 1) := by decide +kernel
theorem dJ2_compress_39247_6 : decode cJ2_compress_39247 6 = .ok (.aload_n 3, 1) := by decide +kernel
theorem dJ2_compress_39247_7 : decode cJ2_compress_39247 7 = .ok (.iconst 0, 1) := by decide +kernel
theorem dJ2_compress_39247_8 : decode cJ2_compress_39247 8 = .ok (.iload_n 2, 1) := by decide +kernel
theorem dJ2_compress_39247_9 : decode cJ2_compress_39247 9 = .ok (.invokestatic 123, 3) := by decide +kernel
theorem dJ2_compress_39247_12 : decode cJ2_compress_39247 12 = .ok (.istore 4, 2) := by decide +kernel
theorem dJ2_compress_39247_14 : decode cJ2_compress_39247 14 = .ok (.iload 4, 2) := by decide +kernel
theorem dJ2_compress_39247_16 : decode cJ2_compress_39247 16 = .ok (.iload_n 2, 1) := by decide +kernel
theorem dJ2_compress_39247_17 : decode cJ2_compress_39247 17 = .ok (.if_icmp .eq 47, 3) := by decide +kernel
theorem dJ2_compress_39247_20 : decode cJ2_compress_39247 20 = .ok (.aload_n 0, 1) := by decide +kernel
theorem dJ2_compress_39247_21 : decode cJ2_compress_39247 21 = .ok (.iload_n 1, 1) := by decide +kernel
theorem dJ2_compress_39247_22 : decode cJ2_compress_39247 22 = .ok (.iconst 1, 1) := by decide +kernel
theorem dJ2_compress_39247_23 : decode cJ2_compress_39247 23 = .ok (.ishl, 1) := by decide +kernel
theorem dJ2_compress_39247_24 : decode cJ2_compress_39247 24 = .ok (.iload_n 1, 1) := by decide +kernel
theorem dJ2_compress_39247_25 : decode cJ2_compress_39247 25 = .ok (.iload_n 2, 1) := by decide +kernel
theorem dJ2_compress_39247_26 : decode cJ2_compress_39247 26 = .ok (.iadd, 1) := by decide +kernel
theorem dJ2_compress_39247_27 : decode cJ2_compress_39247 27 = .ok (.invokestatic 11, 3) := by decide +kernel
theorem dJ2_compress_39247_30 : decode cJ2_compress_39247 30 = .ok (.invokestatic 126, 3) := by decide +kernel
theorem dJ2_compress_39247_33 : decode cJ2_compress_39247 33 = .ok (.astore 5, 2) := by decide +kernel
theorem dJ2_compress_39247_35 : decode cJ2_compress_39247 35 = .ok (.aload 5, 2) := by decide +kernel
theorem dJ2_compress_39247_37 : decode cJ2_compress_39247 37 = .ok (.iload 4, 2) := by decide +kernel
theorem dJ2_compress_39247_39 : decode cJ2_compress_39247 39 = .ok (.invokestatic 71, 3) := by decide +kernel
theorem dJ2_compress_39247_42 : decode cJ2_compress_39247 42 = .ok (.sipush 255, 3) := by decide +kernel
theorem dJ2_compress_39247_45 : decode cJ2_compress_39247 45 = .ok (.if_icmp .gt 16, 3) := by decide +kernel
theorem dJ2_compress_39247_48 : decode cJ2_compress_39247 48 = .ok (.aload 5, 2) := by decide +kernel
theorem dJ2_compress_39247_50 : decode cJ2_compress_39247 50 = .ok (.iconst 0, 1) := by decide +kernel
theorem dJ2_compress_39247_51 : decode cJ2_compress_39247 51 = .ok (.aload_n 3, 1) := by decide +kernel
theorem dJ2_compress_39247_52 : decode cJ2_compress_39247 52 = .ok (.iconst 0, 1) := by decide +kernel
theorem dJ2_compress_39247_53 : decode cJ2_compress_39247 53 = .ok (.iload_n 2, 1) := by decide +kernel
theorem dJ2_compress_39247_54 : decode cJ2_compress_39247 54 = .ok (.invokestatic 123, 3) := by decide +kernel
theorem dJ2_compress_39247_57 : decode cJ2_compress_39247 57 = .ok (.iload_n 2, 1) := by decide +kernel
theorem dJ2_compress_39247_58 : decode cJ2_compress_39247 58 = .ok (.if_icmp .eq 6, 3) := by decide +kernel
theorem dJ2_compress_39247_61 : decode cJ2_compress_39247 61 = .ok (.aload 5, 2) := by decide +kernel
theorem dJ2_compress_39247_63 : decode cJ2_compress_39247 63 = .ok (.areturn, 1) := by decide +kernel
theorem dJ2_compress_39247_64 : decode cJ2_compress_39247 64 = .ok (.aload_n 3, 1) := by decide +kernel
theorem dJ2_compress_39247_65 : decode cJ2_compress_39247 65 = .ok (.areturn, 1) := by decide +kernel
theorem dJ2_compress_5af95_0 : decode cJ2_compress_5af95 0 = .ok (.iload_n 1, 1) := by decide +kernel
theorem dJ2_compress_5af95_1 : decode cJ2_compress_5af95 1 = .ok (.iload 4, 2) := by decide +kernel
theorem dJ2_compress_5af95_3 : decode cJ2_compress_5af95 3 = .ok (.aload_n 0, 1) := by decide +kernel
theorem dJ2_compress_5af95_4 : decode cJ2_compress_5af95 4 = .ok (.invokestatic 173, 3) := by decide +kernel
theorem dJ2_compress_5af95_7 : decode cJ2_compress_5af95 7 = .ok (.iconst 0, 1) := by decide +kernel
theorem dJ2_compress_5af95_8 : decode cJ2_compress_5af95 8 = .ok (.istore 5, 2) := by decide +kernel
theorem dJ2_compress_5af95_10 : decode cJ2_compress_5af95 10 = .ok (.iload 5, 2) := by decide +kernel
theorem dJ2_compress_5af95_12 : decode cJ2_compress_5af95 12 = .ok (.iload 4, 2) := by decide +kernel
theorem dJ2_compress_5af95_14 : decode cJ2_compress_5af95 14 = .ok (.if_icmp .ge 39, 3) := by decide +kernel
theorem dJ2_compress_5af95_17 : decode cJ2_compress_5af95 17 = .ok (.aload_n 0, 1) := by decide +kernel
theorem dJ2_compress_5af95_18 : decode cJ2_compress_5af95 18 = .ok (.iload_n 1, 1) := by decide +kernel
theorem dJ2_compress_5af95_19 : decode cJ2_compress_5af95 19 = .ok (.invokestatic 71, 3) := by decide +kernel
theorem dJ2_compress_5af95_22 : decode cJ2_compress_5af95 22 = .ok (.istore 6, 2) := by decide +kernel
theorem dJ2_compress_5af95_24 : decode cJ2_compress_5af95 24 = .ok (.iload 6, 2) := by decide +kernel
theorem dJ2_compress_5af95_26 : decode cJ2_compress_5af95 26 = .ok (.sipush 255, 3) := by decide +kernel
theorem dJ2_compress_5af95_29 : decode cJ2_compress_5af95 29 = .ok (.if_icmp .le 6, 3) := by decide +kernel
theorem dJ2_compress_5af95_32 : decode cJ2_compress_5af95 32 = .ok (.iload 5, 2) := by decide +kernel
theorem dJ2_compress_5af95_34 : decode cJ2_compress_5af95 34 = .ok (.ireturn, 1) := by decide +kernel
theorem dJ2_compress_5af95_35 : decode cJ2_compress_5af95 35 = .ok (.aload_n 2, 1) := by decide +kernel
theorem dJ2_compress_5af95_36 : decode cJ2_compress_5af95 36 = .ok (.iload_n 3, 1) := by decide +kernel
theorem dJ2_compress_5af95_37 : decode cJ2_compress_5af95 37 = .ok (.iload 6, 2) := by decide +kernel
theorem dJ2_compress_5af95_39 : decode cJ2_compress_5af95 39 = .ok (.i2b, 1) := by decide +kernel
theorem dJ2_compress_5af95_40 : decode cJ2_compress_5af95 40 = .ok (.bastore, 1) := by decide +kernel
theorem dJ2_compress_5af95_41 : decode cJ2_compress_5af95 41 = .ok (.iinc 1 1, 3) := by decide +kernel
theorem dJ2_compress_5af95_44 : decode cJ2_compress_5af95 44 = .ok (.iinc 3 1, 3) := by decide +kernel
theorem dJ2_compress_5af95_47 : decode cJ2_compress_5af95 47 = .ok (.iinc 5 1, 3) := by decide +kernel
theorem dJ2_compress_5af95_50 : decode cJ2_compress_5af95 50 = .ok (.goto (-40), 3) := by decide +kernel
theorem dJ2_compress_5af95_53 : decode cJ2_compress_5af95 53 = .ok (.iload 4, 2) := by decide +kernel
theorem dJ2_compress_5af95_55 : decode cJ2_compress_5af95 55 = .ok (.ireturn, 1) := by decide +kernel
theorem dJ2_putCharSB_b72d1_0 : decode cJ2_putCharSB_b72d1 0 = .ok (.iload_n 1, 1) := by decide +kernel
theorem dJ2_putCharSB_b72d1_1 : decode cJ2_putCharSB_b72d1 1 = .ok (.aload_n 0, 1) := by decide +kernel
theorem dJ2_putCharSB_b72d1_2 : decode cJ2_putCharSB_b72d1 2 = .ok (.invokestatic 67, 3) := by decide +kernel
theorem dJ2_putCharSB_b72d1_5 : decode cJ2_putCharSB_b72d1 5 = .ok (.aload_n 0, 1) := by decide +kernel
theorem dJ2_putCharSB_b72d1_6 : decode cJ2_putCharSB_b72d1 6 = .ok (.iload_n 1, 1) := by decide +kernel
theorem dJ2_putCharSB_b72d1_7 : decode cJ2_putCharSB_b72d1 7 = .ok (.iload_n 2, 1) := by decide +kernel
theorem dJ2_putCharSB_b72d1_8 : decode cJ2_putCharSB_b72d1 8 = .ok (.invokestatic 111, 3) := by decide +kernel
theorem dJ2_putCharSB_b72d1_11 : decode cJ2_putCharSB_b72d1 11 = .ok (.return_, 1) := by decide +kernel
theorem dJ2_getChars_46870_0 : decode cJ2_getChars_46870 0 = .ok (.iload_n 1, 1) := by decide +kernel
theorem dJ2_getChars_46870_1 : decode cJ2_getChars_46870 1 = .ok (.iload_n 2, 1) := by decide +kernel
theorem dJ2_getChars_46870_2 : decode cJ2_getChars_46870 2 = .ok (.aload_n 3, 1) := by decide +kernel
theorem dJ2_getChars_46870_3 : decode cJ2_getChars_46870 3 = .ok (.invokestatic 96, 3) := by decide +kernel
theorem dJ2_getChars_46870_6 : decode cJ2_getChars_46870 6 = .ok (.iload_n 0, 1) := by decide +kernel
theorem dJ2_getChars_46870_7 : decode cJ2_getChars_46870 7 = .ok (.iload_n 2, 1) := by decide +kernel
theorem dJ2_getChars_46870_8 : decode cJ2_getChars_46870 8 = .ok (.aload_n 3, 1) := by decide +kernel
theorem dJ2_getChars_46870_9 : decode cJ2_getChars_46870 9 = .ok (.invokestatic 393, 3) := by decide +kernel
theorem dJ2_getChars_46870_12 : decode cJ2_getChars_46870 12 = .ok (.istore 4, 2) := by decide +kernel
theorem dJ2_getChars_46870_14 : decode cJ2_getChars_46870 14 = .ok (.getstatic 44, 3) := by decide +kernel
theorem dJ2_getChars_46870_17 : decode cJ2_getChars_46870 17 = .ok (.ifCond .ne 17, 3) := by decide +kernel
theorem dJ2_getChars_46870_20 : decode cJ2_getChars_46870 20 = .ok (.iload_n 1, 1) := by decide +kernel
theorem dJ2_getChars_46870_21 : decode cJ2_getChars_46870 21 = .ok (.iload 4, 2) := by decide +kernel
theorem dJ2_getChars_46870_23 : decode cJ2_getChars_46870 23 = .ok (.if_icmp .eq 11, 3) := by decide +kernel
theorem dJ2_getChars_46870_26 : decode cJ2_getChars_46870 26 = .ok (.new 52, 3) := by decide +kernel
theorem dJ2_getChars_46870_29 : decode cJ2_getChars_46870 29 = .ok (.dup, 1) := by decide +kernel
theorem dJ2_getChars_46870_30 : decode cJ2_getChars_46870 30 = .ok (.invokespecial 66, 3) := by decide +kernel
theorem dJ2_getChars_46870_33 : decode cJ2_getChars_46870 33 = .ok (.athrow, 1) := by decide +kernel
theorem dJ2_getChars_46870_34 : decode cJ2_getChars_46870 34 = .ok (.iload 4, 2) := by decide +kernel
theorem dJ2_getChars_46870_36 : decode cJ2_getChars_46870 36 = .ok (.ireturn, 1) := by decide +kernel
theorem dJ2_putCharsAt_cd4e5_0 : decode cJ2_putCharsAt_cd4e5 0 = .ok (.iload_n 1, 1) := by decide +kernel
theorem dJ2_putCharsAt_cd4e5_1 : decode cJ2_putCharsAt_cd4e5 1 = .ok (.iconst 4, 1) := by decide +kernel
theorem dJ2_putCharsAt_cd4e5_2 : decode cJ2_putCharsAt_cd4e5 2 = .ok (.iadd, 1) := by decide +kernel
theorem dJ2_putCharsAt_cd4e5_3 : decode cJ2_putCharsAt_cd4e5 3 = .ok (.istore 6, 2) := by decide +kernel
theorem dJ2_putCharsAt_cd4e5_5 : decode cJ2_putCharsAt_cd4e5 5 = .ok (.iload_n 1, 1) := by decide +kernel
theorem dJ2_putCharsAt_cd4e5_6 : decode cJ2_putCharsAt_cd4e5 6 = .ok (.iload 6, 2) := by decide +kernel
theorem dJ2_putCharsAt_cd4e5_8 : decode cJ2_putCharsAt_cd4e5 8 = .ok (.aload_n 0, 1) := by decide +kernel
theorem dJ2_putCharsAt_cd4e5_9 : decode cJ2_putCharsAt_cd4e5 9 = .ok (.invokestatic 96, 3) := by decide +kernel
theorem dJ2_putCharsAt_cd4e5_12 : decode cJ2_putCharsAt_cd4e5 12 = .ok (.aload_n 0, 1) := by decide +kernel
theorem dJ2_putCharsAt_cd4e5_13 : decode cJ2_putCharsAt_cd4e5 13 = .ok (.iload_n 1, 1) := by decide +kernel
theorem dJ2_putCharsAt_cd4e5_14 : decode cJ2_putCharsAt_cd4e5 14 = .ok (.iinc 1 1, 3) := by decide +kernel
theorem dJ2_putCharsAt_cd4e5_17 : decode cJ2_putCharsAt_cd4e5 17 = .ok (.iload_n 2, 1) := by decide +kernel
theorem dJ2_putCharsAt_cd4e5_18 : decode cJ2_putCharsAt_cd4e5 18 = .ok (.invokestatic 111, 3) := by decide +kernel
theorem dJ2_putCharsAt_cd4e5_21 : decode cJ2_putCharsAt_cd4e5 21 = .ok (.aload_n 0, 1) := by decide +kernel
theorem dJ2_putCharsAt_cd4e5_22 : decode cJ2_putCharsAt_cd4e5 22 = .ok (.iload_n 1, 1) := by decide +kernel
theorem dJ2_putCharsAt_cd4e5_23 : decode cJ2_putCharsAt_cd4e5 23 = .ok (.iinc 1 1, 3) := by decide +kernel
theorem dJ2_putCharsAt_cd4e5_26 : decode cJ2_putCharsAt_cd4e5 26 = .ok (.iload_n 3, 1) := by decide +kernel
theorem dJ2_putCharsAt_cd4e5_27 : decode cJ2_putCharsAt_cd4e5 27 = .ok (.invokestatic 111, 3) := by decide +kernel
theorem dJ2_putCharsAt_cd4e5_30 : decode cJ2_putCharsAt_cd4e5 30 = .ok (.aload_n 0, 1) := by decide +kernel
theorem dJ2_putCharsAt_cd4e5_31 : decode cJ2_putCharsAt_cd4e5 31 = .ok (.iload_n 1, 1) := by decide +kernel
theorem dJ2_putCharsAt_cd4e5_32 : decode cJ2_putCharsAt_cd4e5 32 = .ok (.iinc 1 1, 3) := by decide +kernel
theorem dJ2_putCharsAt_cd4e5_35 : decode cJ2_putCharsAt_cd4e5 35 = .ok (.iload 4, 2) := by decide +kernel
theorem dJ2_putCharsAt_cd4e5_37 : decode cJ2_putCharsAt_cd4e5 37 = .ok (.invokestatic 111, 3) := by decide +kernel
theorem dJ2_putCharsAt_cd4e5_40 : decode cJ2_putCharsAt_cd4e5 40 = .ok (.aload_n 0, 1) := by decide +kernel
theorem dJ2_putCharsAt_cd4e5_41 : decode cJ2_putCharsAt_cd4e5 41 = .ok (.iload_n 1, 1) := by decide +kernel
theorem dJ2_putCharsAt_cd4e5_42 : decode cJ2_putCharsAt_cd4e5 42 = .ok (.iinc 1 1, 3) := by decide +kernel
theorem dJ2_putCharsAt_cd4e5_45 : decode cJ2_putCharsAt_cd4e5 45 = .ok (.iload 5, 2) := by decide +kernel
theorem dJ2_putCharsAt_cd4e5_47 : decode cJ2_putCharsAt_cd4e5 47 = .ok (.invokestatic 111, 3) := by decide +kernel
theorem dJ2_putCharsAt_cd4e5_50 : decode cJ2_putCharsAt_cd4e5 50 = .ok (.getstatic 44, 3) := by decide +kernel
theorem dJ2_putCharsAt_cd4e5_53 : decode cJ2_putCharsAt_cd4e5 53 = .ok (.ifCond .ne 17, 3) := by decide +kernel
theorem dJ2_putCharsAt_cd4e5_56 : decode cJ2_putCharsAt_cd4e5 56 = .ok (.iload_n 1, 1) := by decide +kernel
theorem dJ2_putCharsAt_cd4e5_57 : decode cJ2_putCharsAt_cd4e5 57 = .ok (.iload 6, 2) := by decide +kernel
theorem dJ2_putCharsAt_cd4e5_59 : decode cJ2_putCharsAt_cd4e5 59 = .ok (.if_icmp .eq 11, 3) := by decide +kernel
theorem dJ2_putCharsAt_cd4e5_62 : decode cJ2_putCharsAt_cd4e5 62 = .ok (.new 52, 3) := by decide +kernel
theorem dJ2_putCharsAt_cd4e5_65 : decode cJ2_putCharsAt_cd4e5 65 = .ok (.dup, 1) := by decide +kernel
theorem dJ2_putCharsAt_cd4e5_66 : decode cJ2_putCharsAt_cd4e5 66 = .ok (.invokespecial 66, 3) := by decide +kernel
theorem dJ2_putCharsAt_cd4e5_69 : decode cJ2_putCharsAt_cd4e5 69 = .ok (.athrow, 1) := by decide +kernel
theorem dJ2_putCharsAt_cd4e5_70 : decode cJ2_putCharsAt_cd4e5 70 = .ok (.iload 6, 2) := by decide +kernel
theorem dJ2_putCharsAt_cd4e5_72 : decode cJ2_putCharsAt_cd4e5 72 = .ok (.ireturn, 1) := by decide +kernel
theorem dJ2_charAt_3b067_0 : decode cJ2_charAt_3b067 0 = .ok (.iload_n 1, 1) := by decide +kernel
theorem dJ2_charAt_3b067_1 : decode cJ2_charAt_3b067 1 = .ok (.aload_n 0, 1) := by decide +kernel
theorem dJ2_charAt_3b067_2 : decode cJ2_charAt_3b067 2 = .ok (.invokestatic 67, 3) := by decide +kernel
theorem dJ2_charAt_3b067_5 : decode cJ2_charAt_3b067 5 = .ok (.aload_n 0, 1) := by decide +kernel
theorem dJ2_charAt_3b067_6 : decode cJ2_charAt_3b067 6 = .ok (.iload_n 1, 1) := by decide +kernel
theorem dJ2_charAt_3b067_7 : decode cJ2_charAt_3b067 7 = .ok (.invokestatic 71, 3) := by decide +kernel
theorem dJ2_charAt_3b067_10 : decode cJ2_charAt_3b067 10 = .ok (.ireturn, 1) := by decide +kernel
theorem dJ2_inflate_0e8fd_0 : decode cJ2_inflate_0e8fd 0 = .ok (.iload_n 3, 1) := by decide +kernel
theorem dJ2_inflate_0e8fd_1 : decode cJ2_inflate_0e8fd 1 = .ok (.iload 4, 2) := by decide +kernel
theorem dJ2_inflate_0e8fd_3 : decode cJ2_inflate_0e8fd 3 = .ok (.aload_n 2, 1) := by decide +kernel
theorem dJ2_inflate_0e8fd_4 : decode cJ2_inflate_0e8fd 4 = .ok (.invokestatic 173, 3) := by decide +kernel
theorem dJ2_inflate_0e8fd_7 : decode cJ2_inflate_0e8fd 7 = .ok (.iconst 0, 1) := by decide +kernel
theorem dJ2_inflate_0e8fd_8 : decode cJ2_inflate_0e8fd 8 = .ok (.istore 5, 2) := by decide +kernel
theorem dJ2_inflate_0e8fd_10 : decode cJ2_inflate_0e8fd 10 = .ok (.iload 5, 2) := by decide +kernel
theorem dJ2_inflate_0e8fd_12 : decode cJ2_inflate_0e8fd 12 = .ok (.iload 4, 2) := by decide +kernel
theorem dJ2_inflate_0e8fd_14 : decode cJ2_inflate_0e8fd 14 = .ok (.if_icmp .ge 27, 3) := by decide +kernel
theorem dJ2_inflate_0e8fd_17 : decode cJ2_inflate_0e8fd 17 = .ok (.aload_n 2, 1) := by decide +kernel
theorem dJ2_inflate_0e8fd_18 : decode cJ2_inflate_0e8fd 18 = .ok (.iload_n 3, 1) := by decide +kernel
theorem dJ2_inflate_0e8fd_19 : decode cJ2_inflate_0e8fd 19 = .ok (.iinc 3 1, 3) := by decide +kernel
theorem dJ2_inflate_0e8fd_22 : decode cJ2_inflate_0e8fd 22 = .ok (.aload_n 0, 1) := by decide +kernel
theorem dJ2_inflate_0e8fd_23 : decode cJ2_inflate_0e8fd 23 = .ok (.iload_n 1, 1) := by decide +kernel
theorem dJ2_inflate_0e8fd_24 : decode cJ2_inflate_0e8fd 24 = .ok (.iinc 1 1, 3) := by decide +kernel
theorem dJ2_inflate_0e8fd_27 : decode cJ2_inflate_0e8fd 27 = .ok (.baload, 1) := by decide +kernel
theorem dJ2_inflate_0e8fd_28 : decode cJ2_inflate_0e8fd 28 = .ok (.sipush 255, 3) := by decide +kernel
theorem dJ2_inflate_0e8fd_31 : decode cJ2_inflate_0e8fd 31 = .ok (.iand, 1) := by decide +kernel
theorem dJ2_inflate_0e8fd_32 : decode cJ2_inflate_0e8fd 32 = .ok (.invokestatic 111, 3) := by decide +kernel
theorem dJ2_inflate_0e8fd_35 : decode cJ2_inflate_0e8fd 35 = .ok (.iinc 5 1, 3) := by decide +kernel
theorem dJ2_inflate_0e8fd_38 : decode cJ2_inflate_0e8fd 38 = .ok (.goto (-28), 3) := by decide +kernel
theorem dJ2_inflate_0e8fd_41 : decode cJ2_inflate_0e8fd 41 = .ok (.return_, 1) := by decide +kernel
theorem dJ2_getChars_ba4f3_0 : decode cJ2_getChars_ba4f3 0 = .ok (.iload_n 1, 1) := by decide +kernel
theorem dJ2_getChars_ba4f3_1 : decode cJ2_getChars_ba4f3 1 = .ok (.istore 5, 2) := by decide +kernel
theorem dJ2_getChars_ba4f3_3 : decode cJ2_getChars_ba4f3 3 = .ok (.iload_n 0, 1) := by decide +kernel
theorem dJ2_getChars_ba4f3_4 : decode cJ2_getChars_ba4f3 4 = .ok (.ifCond .ge 7, 3) := by decide +kernel
theorem dJ2_getChars_ba4f3_7 : decode cJ2_getChars_ba4f3 7 = .ok (.iconst 1, 1) := by decide +kernel
theorem dJ2_getChars_ba4f3_8 : decode cJ2_getChars_ba4f3 8 = .ok (.goto 4, 3) := by decide +kernel
theorem dJ2_getChars_ba4f3_11 : decode cJ2_getChars_ba4f3 11 = .ok (.iconst 0, 1) := by decide +kernel
theorem dJ2_getChars_ba4f3_12 : decode cJ2_getChars_ba4f3 12 = .ok (.istore 6, 2) := by decide +kernel
theorem dJ2_getChars_ba4f3_14 : decode cJ2_getChars_ba4f3 14 = .ok (.iload 6, 2) := by decide +kernel
theorem dJ2_getChars_ba4f3_16 : decode cJ2_getChars_ba4f3 16 = .ok (.ifCond .ne 6, 3) := by decide +kernel
theorem dJ2_getChars_ba4f3_19 : decode cJ2_getChars_ba4f3 19 = .ok (.iload_n 0, 1) := by decide +kernel
theorem dJ2_getChars_ba4f3_20 : decode cJ2_getChars_ba4f3 20 = .ok (.ineg, 1) := by decide +kernel
theorem dJ2_getChars_ba4f3_21 : decode cJ2_getChars_ba4f3 21 = .ok (.istore_n 0, 1) := by decide +kernel
theorem dJ2_getChars_ba4f3_22 : decode cJ2_getChars_ba4f3 22 = .ok (.iload_n 0, 1) := by decide +kernel
theorem dJ2_getChars_ba4f3_23 : decode cJ2_getChars_ba4f3 23 = .ok (.bipush (-100), 2) := by decide +kernel
theorem dJ2_getChars_ba4f3_25 : decode cJ2_getChars_ba4f3 25 = .ok (.if_icmp .gt 51, 3) := by decide +kernel
theorem dJ2_getChars_ba4f3_28 : decode cJ2_getChars_ba4f3 28 = .ok (.iload_n 0, 1) := by decide +kernel
theorem dJ2_getChars_ba4f3_29 : decode cJ2_getChars_ba4f3 29 = .ok (.bipush 100, 2) := by decide +kernel
theorem dJ2_getChars_ba4f3_31 : decode cJ2_getChars_ba4f3 31 = .ok (.idiv, 1) := by decide +kernel
theorem dJ2_getChars_ba4f3_32 : decode cJ2_getChars_ba4f3 32 = .ok (.istore_n 3, 1) := by decide +kernel
theorem dJ2_getChars_ba4f3_33 : decode cJ2_getChars_ba4f3 33 = .ok (.iload_n 3, 1) := by decide +kernel
theorem dJ2_getChars_ba4f3_34 : decode cJ2_getChars_ba4f3 34 = .ok (.bipush 100, 2) := by decide +kernel
theorem dJ2_getChars_ba4f3_36 : decode cJ2_getChars_ba4f3 36 = .ok (.imul, 1) := by decide +kernel
theorem dJ2_getChars_ba4f3_37 : decode cJ2_getChars_ba4f3 37 = .ok (.iload_n 0, 1) := by decide +kernel
theorem dJ2_getChars_ba4f3_38 : decode cJ2_getChars_ba4f3 38 = .ok (.isub, 1) := by decide +kernel
theorem dJ2_getChars_ba4f3_39 : decode cJ2_getChars_ba4f3 39 = .ok (.istore 4, 2) := by decide +kernel
theorem dJ2_getChars_ba4f3_41 : decode cJ2_getChars_ba4f3 41 = .ok (.iload_n 3, 1) := by decide +kernel
theorem dJ2_getChars_ba4f3_42 : decode cJ2_getChars_ba4f3 42 = .ok (.istore_n 0, 1) := by decide +kernel
theorem dJ2_getChars_ba4f3_43 : decode cJ2_getChars_ba4f3 43 = .ok (.aload_n 2, 1) := by decide +kernel
theorem dJ2_getChars_ba4f3_44 : decode cJ2_getChars_ba4f3 44 = .ok (.iinc 5 (-1), 3) := by decide +kernel
theorem dJ2_getChars_ba4f3_47 : decode cJ2_getChars_ba4f3 47 = .ok (.iload 5, 2) := by decide +kernel
theorem dJ2_getChars_ba4f3_49 : decode cJ2_getChars_ba4f3 49 = .ok (.getstatic 403, 3) := by decide +kernel
theorem dJ2_getChars_ba4f3_52 : decode cJ2_getChars_ba4f3 52 = .ok (.iload 4, 2) := by decide +kernel
theorem dJ2_getChars_ba4f3_54 : decode cJ2_getChars_ba4f3 54 = .ok (.baload, 1) := by decide +kernel
theorem dJ2_getChars_ba4f3_55 : decode cJ2_getChars_ba4f3 55 = .ok (.invokestatic 111, 3) := by decide +kernel
theorem dJ2_getChars_ba4f3_58 : decode cJ2_getChars_ba4f3 58 = .ok (.aload_n 2, 1) := by decide +kernel
theorem dJ2_getChars_ba4f3_59 : decode cJ2_getChars_ba4f3 59 = .ok (.iinc 5 (-1), 3) := by decide +kernel
theorem dJ2_getChars_ba4f3_62 : decode cJ2_getChars_ba4f3 62 = .ok (.iload 5, 2) := by decide +kernel
theorem dJ2_getChars_ba4f3_64 : decode cJ2_getChars_ba4f3 64 = .ok (.getstatic 407, 3) := by decide +kernel
theorem dJ2_getChars_ba4f3_67 : decode cJ2_getChars_ba4f3 67 = .ok (.iload 4, 2) := by decide +kernel
theorem dJ2_getChars_ba4f3_69 : decode cJ2_getChars_ba4f3 69 = .ok (.baload, 1) := by decide +kernel
theorem dJ2_getChars_ba4f3_70 : decode cJ2_getChars_ba4f3 70 = .ok (.invokestatic 111, 3) := by decide +kernel
theorem dJ2_getChars_ba4f3_73 : decode cJ2_getChars_ba4f3 73 = .ok (.goto (-51), 3) := by decide +kernel
theorem dJ2_getChars_ba4f3_76 : decode cJ2_getChars_ba4f3 76 = .ok (.aload_n 2, 1) := by decide +kernel
theorem dJ2_getChars_ba4f3_77 : decode cJ2_getChars_ba4f3 77 = .ok (.iinc 5 (-1), 3) := by decide +kernel
theorem dJ2_getChars_ba4f3_80 : decode cJ2_getChars_ba4f3 80 = .ok (.iload 5, 2) := by decide +kernel
theorem dJ2_getChars_ba4f3_82 : decode cJ2_getChars_ba4f3 82 = .ok (.getstatic 403, 3) := by decide +kernel
theorem dJ2_getChars_ba4f3_85 : decode cJ2_getChars_ba4f3 85 = .ok (.iload_n 0, 1) := by decide +kernel
theorem dJ2_getChars_ba4f3_86 : decode cJ2_getChars_ba4f3 86 = .ok (.ineg, 1) := by decide +kernel
theorem dJ2_getChars_ba4f3_87 : decode cJ2_getChars_ba4f3 87 = .ok (.baload, 1) := by decide +kernel
theorem dJ2_getChars_ba4f3_88 : decode cJ2_getChars_ba4f3 88 = .ok (.invokestatic 111, 3) := by decide +kernel
theorem dJ2_getChars_ba4f3_91 : decode cJ2_getChars_ba4f3 91 = .ok (.iload_n 0, 1) := by decide +kernel
theorem dJ2_getChars_ba4f3_92 : decode cJ2_getChars_ba4f3 92 = .ok (.bipush (-9), 2) := by decide +kernel
theorem dJ2_getChars_ba4f3_94 : decode cJ2_getChars_ba4f3 94 = .ok (.if_icmp .ge 18, 3) := by decide +kernel
theorem dJ2_getChars_ba4f3_97 : decode cJ2_getChars_ba4f3 97 = .ok (.aload_n 2, 1) := by decide +kernel
theorem dJ2_getChars_ba4f3_98 : decode cJ2_getChars_ba4f3 98 = .ok (.iinc 5 (-1), 3) := by decide +kernel
theorem dJ2_getChars_ba4f3_101 : decode cJ2_getChars_ba4f3 101 = .ok (.iload 5, 2) := by decide +kernel
theorem dJ2_getChars_ba4f3_103 : decode cJ2_getChars_ba4f3 103 = .ok (.getstatic 407, 3) := by decide +kernel
theorem dJ2_getChars_ba4f3_106 : decode cJ2_getChars_ba4f3 106 = .ok (.iload_n 0, 1) := by decide +kernel
theorem dJ2_getChars_ba4f3_107 : decode cJ2_getChars_ba4f3 107 = .ok (.ineg, 1) := by decide +kernel
theorem dJ2_getChars_ba4f3_108 : decode cJ2_getChars_ba4f3 108 = .ok (.baload, 1) := by decide +kernel
theorem dJ2_getChars_ba4f3_109 : decode cJ2_getChars_ba4f3 109 = .ok (.invokestatic 111, 3) := by decide +kernel
theorem dJ2_getChars_ba4f3_112 : decode cJ2_getChars_ba4f3 112 = .ok (.iload 6, 2) := by decide +kernel
theorem dJ2_getChars_ba4f3_114 : decode cJ2_getChars_ba4f3 114 = .ok (.ifCond .eq 14, 3) := by decide +kernel
theorem dJ2_getChars_ba4f3_117 : decode cJ2_getChars_ba4f3 117 = .ok (.aload_n 2, 1) := by decide +kernel
theorem dJ2_getChars_ba4f3_118 : decode cJ2_getChars_ba4f3 118 = .ok (.iinc 5 (-1), 3) := by decide +kernel
theorem dJ2_getChars_ba4f3_121 : decode cJ2_getChars_ba4f3 121 = .ok (.iload 5, 2) := by decide +kernel
theorem dJ2_getChars_ba4f3_123 : decode cJ2_getChars_ba4f3 123 = .ok (.bipush 45, 2) := by decide +kernel
theorem dJ2_getChars_ba4f3_125 : decode cJ2_getChars_ba4f3 125 = .ok (.invokestatic 111, 3) := by decide +kernel
theorem dJ2_getChars_ba4f3_128 : decode cJ2_getChars_ba4f3 128 = .ok (.iload 5, 2) := by decide +kernel
theorem dJ2_getChars_ba4f3_130 : decode cJ2_getChars_ba4f3 130 = .ok (.ireturn, 1) := by decide +kernel
theorem dJ2_checkIndex_2214a_0 : decode cJ2_checkIndex_2214a 0 = .ok (.iload_n 0, 1) := by decide +kernel
theorem dJ2_checkIndex_2214a_1 : decode cJ2_checkIndex_2214a 1 = .ok (.aload_n 1, 1) := by decide +kernel
theorem dJ2_checkIndex_2214a_2 : decode cJ2_checkIndex_2214a 2 = .ok (.invokestatic 48, 3) := by decide +kernel
theorem dJ2_checkIndex_2214a_5 : decode cJ2_checkIndex_2214a 5 = .ok (.invokestatic 414, 3) := by decide +kernel
theorem dJ2_checkIndex_2214a_8 : decode cJ2_checkIndex_2214a 8 = .ok (.return_, 1) := by decide +kernel
theorem dJ2_checkBoundsBeginEnd_d044e_0 : decode cJ2_checkBoundsBeginEnd_d044e 0 = .ok (.iload_n 0, 1) := by decide +kernel
theorem dJ2_checkBoundsBeginEnd_d044e_1 : decode cJ2_checkBoundsBeginEnd_d044e 1 = .ok (.iload_n 1, 1) := by decide +kernel
theorem dJ2_checkBoundsBeginEnd_d044e_2 : decode cJ2_checkBoundsBeginEnd_d044e 2 = .ok (.aload_n 2, 1) := by decide +kernel
theorem dJ2_checkBoundsBeginEnd_d044e_3 : decode cJ2_checkBoundsBeginEnd_d044e 3 = .ok (.invokestatic 48, 3) := by decide +kernel
theorem dJ2_checkBoundsBeginEnd_d044e_6 : decode cJ2_checkBoundsBeginEnd_d044e 6 = .ok (.invokestatic 241, 3) := by decide +kernel
theorem dJ2_checkBoundsBeginEnd_d044e_9 : decode cJ2_checkBoundsBeginEnd_d044e 9 = .ok (.return_, 1) := by decide +kernel
theorem dJ2_checkBoundsOffCount_d044e_0 : decode cJ2_checkBoundsOffCount_d044e 0 = .ok (.iload_n 0, 1) := by decide +kernel
theorem dJ2_checkBoundsOffCount_d044e_1 : decode cJ2_checkBoundsOffCount_d044e 1 = .ok (.iload_n 1, 1) := by decide +kernel
theorem dJ2_checkBoundsOffCount_d044e_2 : decode cJ2_checkBoundsOffCount_d044e 2 = .ok (.aload_n 2, 1) := by decide +kernel
theorem dJ2_checkBoundsOffCount_d044e_3 : decode cJ2_checkBoundsOffCount_d044e 3 = .ok (.invokestatic 48, 3) := by decide +kernel
theorem dJ2_checkBoundsOffCount_d044e_6 : decode cJ2_checkBoundsOffCount_d044e 6 = .ok (.invokestatic 419, 3) := by decide +kernel
theorem dJ2_checkBoundsOffCount_d044e_9 : decode cJ2_checkBoundsOffCount_d044e 9 = .ok (.pop, 1) := by decide +kernel
theorem dJ2_checkBoundsOffCount_d044e_10 : decode cJ2_checkBoundsOffCount_d044e 10 = .ok (.return_, 1) := by decide +kernel
theorem dJ7_copyOf_9075b_0 : decode cJ7_copyOf_9075b 0 = .ok (.iload_n 1, 1) := by decide +kernel
theorem dJ7_copyOf_9075b_1 : decode cJ7_copyOf_9075b 1 = .ok (.aload_n 0, 1) := by decide +kernel
theorem dJ7_copyOf_9075b_2 : decode cJ7_copyOf_9075b 2 = .ok (.arraylength, 1) := by decide +kernel
theorem dJ7_copyOf_9075b_3 : decode cJ7_copyOf_9075b 3 = .ok (.if_icmp .ne 11, 3) := by decide +kernel
theorem dJ7_copyOf_9075b_6 : decode cJ7_copyOf_9075b 6 = .ok (.aload_n 0, 1) := by decide +kernel
theorem dJ7_copyOf_9075b_7 : decode cJ7_copyOf_9075b 7 = .ok (.invokevirtual 310, 3) := by decide +kernel
theorem dJ7_copyOf_9075b_10 : decode cJ7_copyOf_9075b 10 = .ok (.checkcast 311, 3) := by decide +kernel
theorem dJ7_copyOf_9075b_13 : decode cJ7_copyOf_9075b 13 = .ok (.areturn, 1) := by decide +kernel
theorem dJ7_copyOf_9075b_14 : decode cJ7_copyOf_9075b 14 = .ok (.iload_n 1, 1) := by decide +kernel
theorem dJ7_copyOf_9075b_15 : decode cJ7_copyOf_9075b 15 = .ok (.newarray .byte, 2) := by decide +kernel
theorem dJ7_copyOf_9075b_17 : decode cJ7_copyOf_9075b 17 = .ok (.astore_n 2, 1) := by decide +kernel
theorem dJ7_copyOf_9075b_18 : decode cJ7_copyOf_9075b 18 = .ok (.aload_n 0, 1) := by decide +kernel
theorem dJ7_copyOf_9075b_19 : decode cJ7_copyOf_9075b 19 = .ok (.iconst 0, 1) := by decide +kernel
theorem dJ7_copyOf_9075b_20 : decode cJ7_copyOf_9075b 20 = .ok (.aload_n 2, 1) := by decide +kernel
theorem dJ7_copyOf_9075b_21 : decode cJ7_copyOf_9075b 21 = .ok (.iconst 0, 1) := by decide +kernel
theorem dJ7_copyOf_9075b_22 : decode cJ7_copyOf_9075b 22 = .ok (.aload_n 0, 1) := by decide +kernel
theorem dJ7_copyOf_9075b_23 : decode cJ7_copyOf_9075b 23 = .ok (.arraylength, 1) := by decide +kernel
theorem dJ7_copyOf_9075b_24 : decode cJ7_copyOf_9075b 24 = .ok (.iload_n 1, 1) := by decide +kernel
theorem dJ7_copyOf_9075b_25 : decode cJ7_copyOf_9075b 25 = .ok (.invokestatic 304, 3) := by decide +kernel
theorem dJ7_copyOf_9075b_28 : decode cJ7_copyOf_9075b 28 = .ok (.invokestatic 150, 3) := by decide +kernel
theorem dJ7_copyOf_9075b_31 : decode cJ7_copyOf_9075b 31 = .ok (.aload_n 2, 1) := by decide +kernel
theorem dJ7_copyOf_9075b_32 : decode cJ7_copyOf_9075b 32 = .ok (.areturn, 1) := by decide +kernel
theorem dJ7_checkLength_df160_0 : decode cJ7_checkLength_df160 0 = .ok (.iload_n 1, 1) := by decide +kernel
theorem dJ7_checkLength_df160_1 : decode cJ7_checkLength_df160 1 = .ok (.iload_n 0, 1) := by decide +kernel
theorem dJ7_checkLength_df160_2 : decode cJ7_checkLength_df160 2 = .ok (.if_icmp .ge 35, 3) := by decide +kernel
theorem dJ7_checkLength_df160_5 : decode cJ7_checkLength_df160 5 = .ok (.new 43, 3) := by decide +kernel
theorem dJ7_checkLength_df160_8 : decode cJ7_checkLength_df160 8 = .ok (.dup, 1) := by decide +kernel
theorem dJ7_checkLength_df160_9 : decode cJ7_checkLength_df160 9 = .ok (.new 45, 3) := by decide +kernel
theorem dJ7_checkLength_df160_12 : decode cJ7_checkLength_df160 12 = .ok (.dup, 1) := by decide +kernel
theorem dJ7_checkLength_df160_13 : decode cJ7_checkLength_df160 13 = .ok (.invokespecial 47, 3) := by decide +kernel
theorem dJ7_checkLength_df160_16 : decode cJ7_checkLength_df160 16 = .ok (.iload_n 0, 1) := by decide +kernel
theorem dJ7_checkLength_df160_17 : decode cJ7_checkLength_df160 17 = .ok (.invokevirtual 54, 3) := by decide +kernel
theorem dJ7_checkLength_df160_20 : decode cJ7_checkLength_df160 20 = .ok (.ldc_w 337, 3) := by decide +kernel
theorem dJ7_checkLength_df160_23 : decode cJ7_checkLength_df160 23 = .ok (.invokevirtual 50, 3) := by decide +kernel
theorem dJ7_checkLength_df160_26 : decode cJ7_checkLength_df160 26 = .ok (.iload_n 1, 1) := by decide +kernel
theorem dJ7_checkLength_df160_27 : decode cJ7_checkLength_df160 27 = .ok (.invokevirtual 54, 3) := by decide +kernel
theorem dJ7_checkLength_df160_30 : decode cJ7_checkLength_df160 30 = .ok (.invokevirtual 61, 3) := by decide +kernel
theorem dJ7_checkLength_df160_33 : decode cJ7_checkLength_df160 33 = .ok (.invokespecial 65, 3) := by decide +kernel
theorem dJ7_checkLength_df160_36 : decode cJ7_checkLength_df160 36 = .ok (.athrow, 1) := by decide +kernel
theorem dJ7_checkLength_df160_37 : decode cJ7_checkLength_df160 37 = .ok (.return_, 1) := by decide +kernel
theorem dJ7_copyOfRange_39247_0 : decode cJ7_copyOfRange_39247 0 = .ok (.iload_n 1, 1) := by decide +kernel
theorem dJ7_copyOfRange_39247_1 : decode cJ7_copyOfRange_39247 1 = .ok (.ifCond .ne 9, 3) := by decide +kernel
theorem dJ7_copyOfRange_39247_4 : decode cJ7_copyOfRange_39247 4 = .ok (.iload_n 2, 1) := by decide +kernel
theorem dJ7_copyOfRange_39247_5 : decode cJ7_copyOfRange_39247 5 = .ok (.aload_n 0, 1) := by decide +kernel
theorem dJ7_copyOfRange_39247_6 : decode cJ7_copyOfRange_39247 6 = .ok (.arraylength, 1) := by decide +kernel
theorem dJ7_copyOfRange_39247_7 : decode cJ7_copyOfRange_39247 7 = .ok (.if_icmp .eq 10, 3) := by decide +kernel
theorem dJ7_copyOfRange_39247_10 : decode cJ7_copyOfRange_39247 10 = .ok (.aload_n 0, 1) := by decide +kernel
theorem dJ7_copyOfRange_39247_11 : decode cJ7_copyOfRange_39247 11 = .ok (.iload_n 1, 1) := by decide +kernel
theorem dJ7_copyOfRange_39247_12 : decode cJ7_copyOfRange_39247 12 = .ok (.iload_n 2, 1) := by decide +kernel
theorem dJ7_copyOfRange_39247_13 : decode cJ7_copyOfRange_39247 13 = .ok (.invokestatic 339, 3) := by decide +kernel
theorem dJ7_copyOfRange_39247_16 : decode cJ7_copyOfRange_39247 16 = .ok (.areturn, 1) := by decide +kernel
theorem dJ7_copyOfRange_39247_17 : decode cJ7_copyOfRange_39247 17 = .ok (.aload_n 0, 1) := by decide +kernel
theorem dJ7_copyOfRange_39247_18 : decode cJ7_copyOfRange_39247 18 = .ok (.invokevirtual 310, 3) := by decide +kernel
theorem dJ7_copyOfRange_39247_21 : decode cJ7_copyOfRange_39247 21 = .ok (.checkcast 311, 3) := by decide +kernel
theorem dJ7_copyOfRange_39247_24 : decode cJ7_copyOfRange_39247 24 = .ok (.areturn, 1) := by decide +kernel
theorem dJ7_copyOfRangeByte_39247_0 : decode cJ7_copyOfRangeByte_39247 0 = .ok (.iload_n 1, 1) := by decide +kernel
theorem dJ7_copyOfRangeByte_39247_1 : decode cJ7_copyOfRangeByte_39247 1 = .ok (.iload_n 2, 1) := by decide +kernel
theorem dJ7_copyOfRangeByte_39247_2 : decode cJ7_copyOfRangeByte_39247 2 = .ok (.invokestatic 343, 3) := by decide +kernel
theorem dJ7_copyOfRangeByte_39247_5 : decode cJ7_copyOfRangeByte_39247 5 = .ok (.iload_n 2, 1) := by decide +kernel
theorem dJ7_copyOfRangeByte_39247_6 : decode cJ7_copyOfRangeByte_39247 6 = .ok (.iload_n 1, 1) := by decide +kernel
theorem dJ7_copyOfRangeByte_39247_7 : decode cJ7_copyOfRangeByte_39247 7 = .ok (.isub, 1) := by decide +kernel
theorem dJ7_copyOfRangeByte_39247_8 : decode cJ7_copyOfRangeByte_39247 8 = .ok (.istore_n 3, 1) := by decide +kernel
theorem dJ7_copyOfRangeByte_39247_9 : decode cJ7_copyOfRangeByte_39247 9 = .ok (.iload_n 3, 1) := by decide +kernel
theorem dJ7_copyOfRangeByte_39247_10 : decode cJ7_copyOfRangeByte_39247 10 = .ok (.newarray .byte, 2) := by decide +kernel
theorem dJ7_copyOfRangeByte_39247_12 : decode cJ7_copyOfRangeByte_39247 12 = .ok (.astore 4, 2) := by decide +kernel
theorem dJ7_copyOfRangeByte_39247_14 : decode cJ7_copyOfRangeByte_39247 14 = .ok (.aload_n 0, 1) := by decide +kernel
theorem dJ7_copyOfRangeByte_39247_15 : decode cJ7_copyOfRangeByte_39247 15 = .ok (.iload_n 1, 1) := by decide +kernel
theorem dJ7_copyOfRangeByte_39247_16 : decode cJ7_copyOfRangeByte_39247 16 = .ok (.aload 4, 2) := by decide +kernel
theorem dJ7_copyOfRangeByte_39247_18 : decode cJ7_copyOfRangeByte_39247 18 = .ok (.iconst 0, 1) := by decide +kernel
theorem dJ7_copyOfRangeByte_39247_19 : decode cJ7_copyOfRangeByte_39247 19 = .ok (.aload_n 0, 1) := by decide +kernel
theorem dJ7_copyOfRangeByte_39247_20 : decode cJ7_copyOfRangeByte_39247 20 = .ok (.arraylength, 1) := by decide +kernel
theorem dJ7_copyOfRangeByte_39247_21 : decode cJ7_copyOfRangeByte_39247 21 = .ok (.iload_n 1, 1) := by decide +kernel
theorem dJ7_copyOfRangeByte_39247_22 : decode cJ7_copyOfRangeByte_39247 22 = .ok (.isub, 1) := by decide +kernel
theorem dJ7_copyOfRangeByte_39247_23 : decode cJ7_copyOfRangeByte_39247 23 = .ok (.iload_n 3, 1) := by decide +kernel
theorem dJ7_copyOfRangeByte_39247_24 : decode cJ7_copyOfRangeByte_39247 24 = .ok (.invokestatic 304, 3) := by decide +kernel
theorem dJ7_copyOfRangeByte_39247_27 : decode cJ7_copyOfRangeByte_39247 27 = .ok (.invokestatic 150, 3) := by decide +kernel
theorem dJ7_copyOfRangeByte_39247_30 : decode cJ7_copyOfRangeByte_39247 30 = .ok (.aload 4, 2) := by decide +kernel
theorem dJ7_copyOfRangeByte_39247_32 : decode cJ7_copyOfRangeByte_39247 32 = .ok (.areturn, 1) := by decide +kernel
theorem dJ8_newLength_cabcc_0 : decode cJ8_newLength_cabcc 0 = .ok (.iload_n 0, 1) := by decide +kernel
theorem dJ8_newLength_cabcc_1 : decode cJ8_newLength_cabcc 1 = .ok (.iload_n 1, 1) := by decide +kernel
theorem dJ8_newLength_cabcc_2 : decode cJ8_newLength_cabcc 2 = .ok (.iload_n 2, 1) := by decide +kernel
theorem dJ8_newLength_cabcc_3 : decode cJ8_newLength_cabcc 3 = .ok (.invokestatic 194, 3) := by decide +kernel
theorem dJ8_newLength_cabcc_6 : decode cJ8_newLength_cabcc 6 = .ok (.iadd, 1) := by decide +kernel
theorem dJ8_newLength_cabcc_7 : decode cJ8_newLength_cabcc 7 = .ok (.istore_n 3, 1) := by decide +kernel
theorem dJ8_newLength_cabcc_8 : decode cJ8_newLength_cabcc 8 = .ok (.iconst 0, 1) := by decide +kernel
theorem dJ8_newLength_cabcc_9 : decode cJ8_newLength_cabcc 9 = .ok (.iload_n 3, 1) := by decide +kernel
theorem dJ8_newLength_cabcc_10 : decode cJ8_newLength_cabcc 10 = .ok (.if_icmp .ge 11, 3) := by decide +kernel
theorem dJ8_newLength_cabcc_13 : decode cJ8_newLength_cabcc 13 = .ok (.iload_n 3, 1) := by decide +kernel
theorem dJ8_newLength_cabcc_14 : decode cJ8_newLength_cabcc 14 = .ok (.ldc 200, 2) := by decide +kernel
theorem dJ8_newLength_cabcc_16 : decode cJ8_newLength_cabcc 16 = .ok (.if_icmp .gt 5, 3) := by decide +kernel
theorem dJ8_newLength_cabcc_19 : decode cJ8_newLength_cabcc 19 = .ok (.iload_n 3, 1) := by decide +kernel
theorem dJ8_newLength_cabcc_20 : decode cJ8_newLength_cabcc 20 = .ok (.ireturn, 1) := by decide +kernel
theorem dJ8_newLength_cabcc_21 : decode cJ8_newLength_cabcc 21 = .ok (.iload_n 0, 1) := by decide +kernel
theorem dJ8_newLength_cabcc_22 : decode cJ8_newLength_cabcc 22 = .ok (.iload_n 1, 1) := by decide +kernel
theorem dJ8_newLength_cabcc_23 : decode cJ8_newLength_cabcc 23 = .ok (.invokestatic 201, 3) := by decide +kernel
theorem dJ8_newLength_cabcc_26 : decode cJ8_newLength_cabcc 26 = .ok (.ireturn, 1) := by decide +kernel
theorem dJ8_hugeLength_7cf53_0 : decode cJ8_hugeLength_7cf53 0 = .ok (.iload_n 0, 1) := by decide +kernel
theorem dJ8_hugeLength_7cf53_1 : decode cJ8_hugeLength_7cf53 1 = .ok (.iload_n 1, 1) := by decide +kernel
theorem dJ8_hugeLength_7cf53_2 : decode cJ8_hugeLength_7cf53 2 = .ok (.iadd, 1) := by decide +kernel
theorem dJ8_hugeLength_7cf53_3 : decode cJ8_hugeLength_7cf53 3 = .ok (.istore_n 2, 1) := by decide +kernel
theorem dJ8_hugeLength_7cf53_4 : decode cJ8_hugeLength_7cf53 4 = .ok (.iload_n 2, 1) := by decide +kernel
theorem dJ8_hugeLength_7cf53_5 : decode cJ8_hugeLength_7cf53 5 = .ok (.ifCond .ge 44, 3) := by decide +kernel
theorem dJ8_hugeLength_7cf53_8 : decode cJ8_hugeLength_7cf53 8 = .ok (.new 204, 3) := by decide +kernel
theorem dJ8_hugeLength_7cf53_11 : decode cJ8_hugeLength_7cf53 11 = .ok (.dup, 1) := by decide +kernel
theorem dJ8_hugeLength_7cf53_12 : decode cJ8_hugeLength_7cf53 12 = .ok (.new 89, 3) := by decide +kernel
theorem dJ8_hugeLength_7cf53_15 : decode cJ8_hugeLength_7cf53 15 = .ok (.dup, 1) := by decide +kernel
theorem dJ8_hugeLength_7cf53_16 : decode cJ8_hugeLength_7cf53 16 = .ok (.invokespecial 91, 3) := by decide +kernel
theorem dJ8_hugeLength_7cf53_19 : decode cJ8_hugeLength_7cf53 19 = .ok (.ldc 206, 2) := by decide +kernel
theorem dJ8_hugeLength_7cf53_21 : decode cJ8_hugeLength_7cf53 21 = .ok (.invokevirtual 94, 3) := by decide +kernel
theorem dJ8_hugeLength_7cf53_24 : decode cJ8_hugeLength_7cf53 24 = .ok (.iload_n 0, 1) := by decide +kernel
theorem dJ8_hugeLength_7cf53_25 : decode cJ8_hugeLength_7cf53 25 = .ok (.invokevirtual 98, 3) := by decide +kernel
theorem dJ8_hugeLength_7cf53_28 : decode cJ8_hugeLength_7cf53 28 = .ok (.ldc 208, 2) := by decide +kernel
theorem dJ8_hugeLength_7cf53_30 : decode cJ8_hugeLength_7cf53 30 = .ok (.invokevirtual 94, 3) := by decide +kernel
theorem dJ8_hugeLength_7cf53_33 : decode cJ8_hugeLength_7cf53 33 = .ok (.iload_n 1, 1) := by decide +kernel
theorem dJ8_hugeLength_7cf53_34 : decode cJ8_hugeLength_7cf53 34 = .ok (.invokevirtual 98, 3) := by decide +kernel
theorem dJ8_hugeLength_7cf53_37 : decode cJ8_hugeLength_7cf53 37 = .ok (.ldc 210, 2) := by decide +kernel
theorem dJ8_hugeLength_7cf53_39 : decode cJ8_hugeLength_7cf53 39 = .ok (.invokevirtual 94, 3) := by decide +kernel
theorem dJ8_hugeLength_7cf53_42 : decode cJ8_hugeLength_7cf53 42 = .ok (.invokevirtual 101, 3) := by decide +kernel
theorem dJ8_hugeLength_7cf53_45 : decode cJ8_hugeLength_7cf53 45 = .ok (.invokespecial 212, 3) := by decide +kernel
theorem dJ8_hugeLength_7cf53_48 : decode cJ8_hugeLength_7cf53 48 = .ok (.athrow, 1) := by decide +kernel
theorem dJ8_hugeLength_7cf53_49 : decode cJ8_hugeLength_7cf53 49 = .ok (.iload_n 2, 1) := by decide +kernel
theorem dJ8_hugeLength_7cf53_50 : decode cJ8_hugeLength_7cf53 50 = .ok (.ldc 200, 2) := by decide +kernel
theorem dJ8_hugeLength_7cf53_52 : decode cJ8_hugeLength_7cf53 52 = .ok (.if_icmp .gt 6, 3) := by decide +kernel
theorem dJ8_hugeLength_7cf53_55 : decode cJ8_hugeLength_7cf53 55 = .ok (.ldc 200, 2) := by decide +kernel
theorem dJ8_hugeLength_7cf53_57 : decode cJ8_hugeLength_7cf53 57 = .ok (.ireturn, 1) := by decide +kernel
theorem dJ8_hugeLength_7cf53_58 : decode cJ8_hugeLength_7cf53 58 = .ok (.iload_n 2, 1) := by decide +kernel
theorem dJ8_hugeLength_7cf53_59 : decode cJ8_hugeLength_7cf53 59 = .ok (.ireturn, 1) := by decide +kernel
theorem dJ3_checkIndex_8e157_0 : decode cJ3_checkIndex_8e157 0 = .ok (.iload_n 0, 1) := by decide +kernel
theorem dJ3_checkIndex_8e157_1 : decode cJ3_checkIndex_8e157 1 = .ok (.ifCond .lt 8, 3) := by decide +kernel
theorem dJ3_checkIndex_8e157_4 : decode cJ3_checkIndex_8e157 4 = .ok (.iload_n 0, 1) := by decide +kernel
theorem dJ3_checkIndex_8e157_5 : decode cJ3_checkIndex_8e157 5 = .ok (.iload_n 1, 1) := by decide +kernel
theorem dJ3_checkIndex_8e157_6 : decode cJ3_checkIndex_8e157 6 = .ok (.if_icmp .lt 10, 3) := by decide +kernel
theorem dJ3_checkIndex_8e157_9 : decode cJ3_checkIndex_8e157 9 = .ok (.aload_n 2, 1) := by decide +kernel
theorem dJ3_checkIndex_8e157_10 : decode cJ3_checkIndex_8e157 10 = .ok (.iload_n 0, 1) := by decide +kernel
theorem dJ3_checkIndex_8e157_11 : decode cJ3_checkIndex_8e157 11 = .ok (.iload_n 1, 1) := by decide +kernel
theorem dJ3_checkIndex_8e157_12 : decode cJ3_checkIndex_8e157 12 = .ok (.invokestatic 95, 3) := by decide +kernel
theorem dJ3_checkIndex_8e157_15 : decode cJ3_checkIndex_8e157 15 = .ok (.athrow, 1) := by decide +kernel
theorem dJ3_checkIndex_8e157_16 : decode cJ3_checkIndex_8e157 16 = .ok (.iload_n 0, 1) := by decide +kernel
theorem dJ3_checkIndex_8e157_17 : decode cJ3_checkIndex_8e157 17 = .ok (.ireturn, 1) := by decide +kernel
theorem dJ3_checkFromToIndex_8c36e_0 : decode cJ3_checkFromToIndex_8c36e 0 = .ok (.iload_n 0, 1) := by decide +kernel
theorem dJ3_checkFromToIndex_8c36e_1 : decode cJ3_checkFromToIndex_8c36e 1 = .ok (.ifCond .lt 13, 3) := by decide +kernel
theorem dJ3_checkFromToIndex_8c36e_4 : decode cJ3_checkFromToIndex_8c36e 4 = .ok (.iload_n 0, 1) := by decide +kernel
theorem dJ3_checkFromToIndex_8c36e_5 : decode cJ3_checkFromToIndex_8c36e 5 = .ok (.iload_n 1, 1) := by decide +kernel
theorem dJ3_checkFromToIndex_8c36e_6 : decode cJ3_checkFromToIndex_8c36e 6 = .ok (.if_icmp .gt 8, 3) := by decide +kernel
theorem dJ3_checkFromToIndex_8c36e_9 : decode cJ3_checkFromToIndex_8c36e 9 = .ok (.iload_n 1, 1) := by decide +kernel
theorem dJ3_checkFromToIndex_8c36e_10 : decode cJ3_checkFromToIndex_8c36e 10 = .ok (.iload_n 2, 1) := by decide +kernel
theorem dJ3_checkFromToIndex_8c36e_11 : decode cJ3_checkFromToIndex_8c36e 11 = .ok (.if_icmp .le 11, 3) := by decide +kernel
theorem dJ3_checkFromToIndex_8c36e_14 : decode cJ3_checkFromToIndex_8c36e 14 = .ok (.aload_n 3, 1) := by decide +kernel
theorem dJ3_checkFromToIndex_8c36e_15 : decode cJ3_checkFromToIndex_8c36e 15 = .ok (.iload_n 0, 1) := by decide +kernel
theorem dJ3_checkFromToIndex_8c36e_16 : decode cJ3_checkFromToIndex_8c36e 16 = .ok (.iload_n 1, 1) := by decide +kernel
theorem dJ3_checkFromToIndex_8c36e_17 : decode cJ3_checkFromToIndex_8c36e 17 = .ok (.iload_n 2, 1) := by decide +kernel
theorem dJ3_checkFromToIndex_8c36e_18 : decode cJ3_checkFromToIndex_8c36e 18 = .ok (.invokestatic 99, 3) := by decide +kernel
theorem dJ3_checkFromToIndex_8c36e_21 : decode cJ3_checkFromToIndex_8c36e 21 = .ok (.athrow, 1) := by decide +kernel
theorem dJ3_checkFromToIndex_8c36e_22 : decode cJ3_checkFromToIndex_8c36e 22 = .ok (.iload_n 0, 1) := by decide +kernel
theorem dJ3_checkFromToIndex_8c36e_23 : decode cJ3_checkFromToIndex_8c36e 23 = .ok (.ireturn, 1) := by decide +kernel
theorem dJ3_checkFromIndexSize_8c36e_0 : decode cJ3_checkFromIndexSize_8c36e 0 = .ok (.iload_n 2, 1) := by decide +kernel
theorem dJ3_checkFromIndexSize_8c36e_1 : decode cJ3_checkFromIndexSize_8c36e 1 = .ok (.iload_n 0, 1) := by decide +kernel
theorem dJ3_checkFromIndexSize_8c36e_2 : decode cJ3_checkFromIndexSize_8c36e 2 = .ok (.ior, 1) := by decide +kernel
theorem dJ3_checkFromIndexSize_8c36e_3 : decode cJ3_checkFromIndexSize_8c36e 3 = .ok (.iload_n 1, 1) := by decide +kernel
theorem dJ3_checkFromIndexSize_8c36e_4 : decode cJ3_checkFromIndexSize_8c36e 4 = .ok (.ior, 1) := by decide +kernel
theorem dJ3_checkFromIndexSize_8c36e_5 : decode cJ3_checkFromIndexSize_8c36e 5 = .ok (.ifCond .lt 10, 3) := by decide +kernel
theorem dJ3_checkFromIndexSize_8c36e_8 : decode cJ3_checkFromIndexSize_8c36e 8 = .ok (.iload_n 1, 1) := by decide +kernel
theorem dJ3_checkFromIndexSize_8c36e_9 : decode cJ3_checkFromIndexSize_8c36e 9 = .ok (.iload_n 2, 1) := by decide +kernel
theorem dJ3_checkFromIndexSize_8c36e_10 : decode cJ3_checkFromIndexSize_8c36e 10 = .ok (.iload_n 0, 1) := by decide +kernel
theorem dJ3_checkFromIndexSize_8c36e_11 : decode cJ3_checkFromIndexSize_8c36e 11 = .ok (.isub, 1) := by decide +kernel
theorem dJ3_checkFromIndexSize_8c36e_12 : decode cJ3_checkFromIndexSize_8c36e 12 = .ok (.if_icmp .le 11, 3) := by decide +kernel
theorem dJ3_checkFromIndexSize_8c36e_15 : decode cJ3_checkFromIndexSize_8c36e 15 = .ok (.aload_n 3, 1) := by decide +kernel
theorem dJ3_checkFromIndexSize_8c36e_16 : decode cJ3_checkFromIndexSize_8c36e 16 = .ok (.iload_n 0, 1) := by decide +kernel
theorem dJ3_checkFromIndexSize_8c36e_17 : decode cJ3_checkFromIndexSize_8c36e 17 = .ok (.iload_n 1, 1) := by decide +kernel
theorem dJ3_checkFromIndexSize_8c36e_18 : decode cJ3_checkFromIndexSize_8c36e 18 = .ok (.iload_n 2, 1) := by decide +kernel
theorem dJ3_checkFromIndexSize_8c36e_19 : decode cJ3_checkFromIndexSize_8c36e 19 = .ok (.invokestatic 103, 3) := by decide +kernel
theorem dJ3_checkFromIndexSize_8c36e_22 : decode cJ3_checkFromIndexSize_8c36e 22 = .ok (.athrow, 1) := by decide +kernel
theorem dJ3_checkFromIndexSize_8c36e_23 : decode cJ3_checkFromIndexSize_8c36e 23 = .ok (.iload_n 0, 1) := by decide +kernel
theorem dJ3_checkFromIndexSize_8c36e_24 : decode cJ3_checkFromIndexSize_8c36e 24 = .ok (.ireturn, 1) := by decide +kernel
theorem dL_cell_0 : decode cL_cell 0 = .ok (.iload_n 1, 1) := by decide +kernel
theorem dL_cell_1 : decode cL_cell 1 = .ok (.aload_n 0, 1) := by decide +kernel
theorem dL_cell_2 : decode cL_cell 2 = .ok (.arraylength, 1) := by decide +kernel
theorem dL_cell_3 : decode cL_cell 3 = .ok (.if_icmp .ge 12, 3) := by decide +kernel
theorem dL_cell_6 : decode cL_cell 6 = .ok (.aload_n 0, 1) := by decide +kernel
theorem dL_cell_7 : decode cL_cell 7 = .ok (.iload_n 1, 1) := by decide +kernel
theorem dL_cell_8 : decode cL_cell 8 = .ok (.iaload, 1) := by decide +kernel
theorem dL_cell_9 : decode cL_cell 9 = .ok (.ldc 7, 2) := by decide +kernel
theorem dL_cell_11 : decode cL_cell 11 = .ok (.iand, 1) := by decide +kernel
theorem dL_cell_12 : decode cL_cell 12 = .ok (.goto 4, 3) := by decide +kernel
theorem dL_cell_15 : decode cL_cell 15 = .ok (.iconst 0, 1) := by decide +kernel
theorem dL_cell_16 : decode cL_cell 16 = .ok (.ireturn, 1) := by decide +kernel
theorem dL_says_0 : decode cL_says 0 = .ok (.iconst 0, 1) := by decide +kernel
theorem dL_says_1 : decode cL_says 1 = .ok (.istore_n 2, 1) := by decide +kernel
theorem dL_says_2 : decode cL_says 2 = .ok (.iload_n 2, 1) := by decide +kernel
theorem dL_says_3 : decode cL_says 3 = .ok (.aload_n 1, 1) := by decide +kernel
theorem dL_says_4 : decode cL_says 4 = .ok (.invokevirtual 8, 3) := by decide +kernel
theorem dL_says_7 : decode cL_says 7 = .ok (.if_icmp .ge 89, 3) := by decide +kernel
theorem dL_says_10 : decode cL_says 10 = .ok (.iconst 5, 1) := by decide +kernel
theorem dL_says_11 : decode cL_says 11 = .ok (.newarray .int, 2) := by decide +kernel
theorem dL_says_13 : decode cL_says 13 = .ok (.astore_n 3, 1) := by decide +kernel
theorem dL_says_14 : decode cL_says 14 = .ok (.iconst 0, 1) := by decide +kernel
theorem dL_says_15 : decode cL_says 15 = .ok (.istore 4, 2) := by decide +kernel
theorem dL_says_17 : decode cL_says 17 = .ok (.iload 4, 2) := by decide +kernel
theorem dL_says_19 : decode cL_says 19 = .ok (.bipush 20, 2) := by decide +kernel
theorem dL_says_21 : decode cL_says 21 = .ok (.if_icmp .ge 49, 3) := by decide +kernel
theorem dL_says_24 : decode cL_says 24 = .ok (.aload_n 3, 1) := by decide +kernel
theorem dL_says_25 : decode cL_says 25 = .ok (.iload 4, 2) := by decide +kernel
theorem dL_says_27 : decode cL_says 27 = .ok (.iconst 4, 1) := by decide +kernel
theorem dL_says_28 : decode cL_says 28 = .ok (.idiv, 1) := by decide +kernel
theorem dL_says_29 : decode cL_says 29 = .ok (.aload_n 3, 1) := by decide +kernel
theorem dL_says_30 : decode cL_says 30 = .ok (.iload 4, 2) := by decide +kernel
theorem dL_says_32 : decode cL_says 32 = .ok (.iconst 4, 1) := by decide +kernel
theorem dL_says_33 : decode cL_says 33 = .ok (.idiv, 1) := by decide +kernel
theorem dL_says_34 : decode cL_says 34 = .ok (.iaload, 1) := by decide +kernel
theorem dL_says_35 : decode cL_says 35 = .ok (.bipush 8, 2) := by decide +kernel
theorem dL_says_37 : decode cL_says 37 = .ok (.ishl, 1) := by decide +kernel
theorem dL_says_38 : decode cL_says 38 = .ok (.iload_n 2, 1) := by decide +kernel
theorem dL_says_39 : decode cL_says 39 = .ok (.iload 4, 2) := by decide +kernel
theorem dL_says_41 : decode cL_says 41 = .ok (.iadd, 1) := by decide +kernel
theorem dL_says_42 : decode cL_says 42 = .ok (.aload_n 1, 1) := by decide +kernel
theorem dL_says_43 : decode cL_says 43 = .ok (.invokevirtual 8, 3) := by decide +kernel
theorem dL_says_46 : decode cL_says 46 = .ok (.if_icmp .ge 14, 3) := by decide +kernel
theorem dL_says_49 : decode cL_says 49 = .ok (.aload_n 1, 1) := by decide +kernel
theorem dL_says_50 : decode cL_says 50 = .ok (.iload_n 2, 1) := by decide +kernel
theorem dL_says_51 : decode cL_says 51 = .ok (.iload 4, 2) := by decide +kernel
theorem dL_says_53 : decode cL_says 53 = .ok (.iadd, 1) := by decide +kernel
theorem dL_says_54 : decode cL_says 54 = .ok (.invokevirtual 14, 3) := by decide +kernel
theorem dL_says_57 : decode cL_says 57 = .ok (.goto 5, 3) := by decide +kernel
theorem dL_says_60 : decode cL_says 60 = .ok (.bipush 32, 2) := by decide +kernel
theorem dL_says_62 : decode cL_says 62 = .ok (.ior, 1) := by decide +kernel
theorem dL_says_63 : decode cL_says 63 = .ok (.iastore, 1) := by decide +kernel
theorem dL_says_64 : decode cL_says 64 = .ok (.iinc 4 1, 3) := by decide +kernel
theorem dL_says_67 : decode cL_says 67 = .ok (.goto (-50), 3) := by decide +kernel
theorem dL_says_70 : decode cL_says 70 = .ok (.aload_n 0, 1) := by decide +kernel
theorem dL_says_71 : decode cL_says 71 = .ok (.aload_n 3, 1) := by decide +kernel
theorem dL_says_72 : decode cL_says 72 = .ok (.iconst 0, 1) := by decide +kernel
theorem dL_says_73 : decode cL_says 73 = .ok (.iaload, 1) := by decide +kernel
theorem dL_says_74 : decode cL_says 74 = .ok (.aload_n 3, 1) := by decide +kernel
theorem dL_says_75 : decode cL_says 75 = .ok (.iconst 1, 1) := by decide +kernel
theorem dL_says_76 : decode cL_says 76 = .ok (.iaload, 1) := by decide +kernel
theorem dL_says_77 : decode cL_says 77 = .ok (.aload_n 3, 1) := by decide +kernel
theorem dL_says_78 : decode cL_says 78 = .ok (.iconst 2, 1) := by decide +kernel
theorem dL_says_79 : decode cL_says 79 = .ok (.iaload, 1) := by decide +kernel
theorem dL_says_80 : decode cL_says 80 = .ok (.aload_n 3, 1) := by decide +kernel
theorem dL_says_81 : decode cL_says 81 = .ok (.iconst 3, 1) := by decide +kernel
theorem dL_says_82 : decode cL_says 82 = .ok (.iaload, 1) := by decide +kernel
theorem dL_says_83 : decode cL_says 83 = .ok (.aload_n 3, 1) := by decide +kernel
theorem dL_says_84 : decode cL_says 84 = .ok (.iconst 4, 1) := by decide +kernel
theorem dL_says_85 : decode cL_says 85 = .ok (.iaload, 1) := by decide +kernel
theorem dL_says_86 : decode cL_says 86 = .ok (.invokevirtual 18, 3) := by decide +kernel
theorem dL_says_89 : decode cL_says 89 = .ok (.pop, 1) := by decide +kernel
theorem dL_says_90 : decode cL_says 90 = .ok (.iinc 2 20, 3) := by decide +kernel
theorem dL_says_93 : decode cL_says 93 = .ok (.goto (-91), 3) := by decide +kernel
theorem dL_says_96 : decode cL_says 96 = .ok (.aload_n 0, 1) := by decide +kernel
theorem dL_says_97 : decode cL_says 97 = .ok (.aload_n 1, 1) := by decide +kernel
theorem dL_says_98 : decode cL_says 98 = .ok (.invokevirtual 8, 3) := by decide +kernel
theorem dL_says_101 : decode cL_says 101 = .ok (.invokevirtual 24, 3) := by decide +kernel
theorem dL_says_104 : decode cL_says 104 = .ok (.pop, 1) := by decide +kernel
theorem dL_says_105 : decode cL_says 105 = .ok (.return_, 1) := by decide +kernel
theorem dL_loaded_0 : decode cL_loaded 0 = .ok (.aload_n 0, 1) := by decide +kernel
theorem dL_loaded_1 : decode cL_loaded 1 = .ok (.invokevirtual 28, 3) := by decide +kernel
theorem dL_loaded_4 : decode cL_loaded 4 = .ok (.ireturn, 1) := by decide +kernel
theorem dL_loaded_5 : decode cL_loaded 5 = .ok (.astore_n 1, 1) := by decide +kernel
theorem dL_loaded_6 : decode cL_loaded 6 = .ok (.bipush (-9), 2) := by decide +kernel
theorem dL_loaded_8 : decode cL_loaded 8 = .ok (.ireturn, 1) := by decide +kernel
theorem dL_odds_0 : decode cL_odds 0 = .ok (.iload_n 1, 1) := by decide +kernel
theorem dL_odds_1 : decode cL_odds 1 = .ok (.ifCond .ne 18, 3) := by decide +kernel
theorem dL_odds_4 : decode cL_odds 4 = .ok (.aload_n 0, 1) := by decide +kernel
theorem dL_odds_5 : decode cL_odds 5 = .ok (.iconst 0, 1) := by decide +kernel
theorem dL_odds_6 : decode cL_odds 6 = .ok (.invokestatic 33, 3) := by decide +kernel
theorem dL_odds_9 : decode cL_odds 9 = .ok (.sipush 1024, 3) := by decide +kernel
theorem dL_odds_12 : decode cL_odds 12 = .ok (.idiv, 1) := by decide +kernel
theorem dL_odds_13 : decode cL_odds 13 = .ok (.bipush 21, 2) := by decide +kernel
theorem dL_odds_15 : decode cL_odds 15 = .ok (.irem, 1) := by decide +kernel
theorem dL_odds_16 : decode cL_odds 16 = .ok (.goto 32, 3) := by decide +kernel
theorem dL_odds_19 : decode cL_odds 19 = .ok (.iload_n 1, 1) := by decide +kernel
theorem dL_odds_20 : decode cL_odds 20 = .ok (.iconst 1, 1) := by decide +kernel
theorem dL_odds_21 : decode cL_odds 21 = .ok (.if_icmp .ne 17, 3) := by decide +kernel
theorem dL_odds_24 : decode cL_odds 24 = .ok (.aload_n 0, 1) := by decide +kernel
theorem dL_odds_25 : decode cL_odds 25 = .ok (.iconst 0, 1) := by decide +kernel
theorem dL_odds_26 : decode cL_odds 26 = .ok (.invokestatic 33, 3) := by decide +kernel
theorem dL_odds_29 : decode cL_odds 29 = .ok (.ldc 39, 2) := by decide +kernel
theorem dL_odds_31 : decode cL_odds 31 = .ok (.idiv, 1) := by decide +kernel
theorem dL_odds_32 : decode cL_odds 32 = .ok (.bipush 21, 2) := by decide +kernel
theorem dL_odds_34 : decode cL_odds 34 = .ok (.irem, 1) := by decide +kernel
theorem dL_odds_35 : decode cL_odds 35 = .ok (.goto 13, 3) := by decide +kernel
theorem dL_odds_38 : decode cL_odds 38 = .ok (.iconst 1, 1) := by decide +kernel
theorem dL_odds_39 : decode cL_odds 39 = .ok (.aload_n 0, 1) := by decide +kernel
theorem dL_odds_40 : decode cL_odds 40 = .ok (.iconst 1, 1) := by decide +kernel
theorem dL_odds_41 : decode cL_odds 41 = .ok (.invokestatic 33, 3) := by decide +kernel
theorem dL_odds_44 : decode cL_odds 44 = .ok (.bipush 20, 2) := by decide +kernel
theorem dL_odds_46 : decode cL_odds 46 = .ok (.irem, 1) := by decide +kernel
theorem dL_odds_47 : decode cL_odds 47 = .ok (.iadd, 1) := by decide +kernel
theorem dL_odds_48 : decode cL_odds 48 = .ok (.ireturn, 1) := by decide +kernel
theorem dL_people_0 : decode cL_people 0 = .ok (.iconst 1, 1) := by decide +kernel
theorem dL_people_1 : decode cL_people 1 = .ok (.aload_n 0, 1) := by decide +kernel
theorem dL_people_2 : decode cL_people 2 = .ok (.iconst 2, 1) := by decide +kernel
theorem dL_people_3 : decode cL_people 3 = .ok (.iload_n 1, 1) := by decide +kernel
theorem dL_people_4 : decode cL_people 4 = .ok (.iadd, 1) := by decide +kernel
theorem dL_people_5 : decode cL_people 5 = .ok (.invokestatic 33, 3) := by decide +kernel
theorem dL_people_8 : decode cL_people 8 = .ok (.bipush 99, 2) := by decide +kernel
theorem dL_people_10 : decode cL_people 10 = .ok (.irem, 1) := by decide +kernel
theorem dL_people_11 : decode cL_people 11 = .ok (.iadd, 1) := by decide +kernel
theorem dL_people_12 : decode cL_people 12 = .ok (.ireturn, 1) := by decide +kernel
theorem dL_trust_0 : decode cL_trust 0 = .ok (.aload_n 0, 1) := by decide +kernel
theorem dL_trust_1 : decode cL_trust 1 = .ok (.iconst 2, 1) := by decide +kernel
theorem dL_trust_2 : decode cL_trust 2 = .ok (.iload_n 1, 1) := by decide +kernel
theorem dL_trust_3 : decode cL_trust 3 = .ok (.iadd, 1) := by decide +kernel
theorem dL_trust_4 : decode cL_trust 4 = .ok (.invokestatic 33, 3) := by decide +kernel
theorem dL_trust_7 : decode cL_trust 7 = .ok (.sipush 128, 3) := by decide +kernel
theorem dL_trust_10 : decode cL_trust 10 = .ok (.idiv, 1) := by decide +kernel
theorem dL_trust_11 : decode cL_trust 11 = .ok (.bipush 101, 2) := by decide +kernel
theorem dL_trust_13 : decode cL_trust 13 = .ok (.irem, 1) := by decide +kernel
theorem dL_trust_14 : decode cL_trust 14 = .ok (.ireturn, 1) := by decide +kernel
theorem dL_place_0 : decode cL_place 0 = .ok (.aload_n 0, 1) := by decide +kernel
theorem dL_place_1 : decode cL_place 1 = .ok (.iconst 5, 1) := by decide +kernel
theorem dL_place_2 : decode cL_place 2 = .ok (.iload_n 1, 1) := by decide +kernel
theorem dL_place_3 : decode cL_place 3 = .ok (.iadd, 1) := by decide +kernel
theorem dL_place_4 : decode cL_place 4 = .ok (.invokestatic 33, 3) := by decide +kernel
theorem dL_place_7 : decode cL_place 7 = .ok (.iconst 3, 1) := by decide +kernel
theorem dL_place_8 : decode cL_place 8 = .ok (.irem, 1) := by decide +kernel
theorem dL_place_9 : decode cL_place 9 = .ok (.ireturn, 1) := by decide +kernel
theorem dL_period_0 : decode cL_period 0 = .ok (.iconst 1, 1) := by decide +kernel
theorem dL_period_1 : decode cL_period 1 = .ok (.aload_n 0, 1) := by decide +kernel
theorem dL_period_2 : decode cL_period 2 = .ok (.iconst 5, 1) := by decide +kernel
theorem dL_period_3 : decode cL_period 3 = .ok (.iload_n 1, 1) := by decide +kernel
theorem dL_period_4 : decode cL_period 4 = .ok (.iadd, 1) := by decide +kernel
theorem dL_period_5 : decode cL_period 5 = .ok (.invokestatic 33, 3) := by decide +kernel
theorem dL_period_8 : decode cL_period 8 = .ok (.iconst 4, 1) := by decide +kernel
theorem dL_period_9 : decode cL_period 9 = .ok (.idiv, 1) := by decide +kernel
theorem dL_period_10 : decode cL_period 10 = .ok (.bipush 12, 2) := by decide +kernel
theorem dL_period_12 : decode cL_period 12 = .ok (.irem, 1) := by decide +kernel
theorem dL_period_13 : decode cL_period 13 = .ok (.iadd, 1) := by decide +kernel
theorem dL_period_14 : decode cL_period 14 = .ok (.ireturn, 1) := by decide +kernel
theorem dL_stock_0 : decode cL_stock 0 = .ok (.iconst 1, 1) := by decide +kernel
theorem dL_stock_1 : decode cL_stock 1 = .ok (.aload_n 0, 1) := by decide +kernel
theorem dL_stock_2 : decode cL_stock 2 = .ok (.iconst 5, 1) := by decide +kernel
theorem dL_stock_3 : decode cL_stock 3 = .ok (.iload_n 1, 1) := by decide +kernel
theorem dL_stock_4 : decode cL_stock 4 = .ok (.iadd, 1) := by decide +kernel
theorem dL_stock_5 : decode cL_stock 5 = .ok (.invokestatic 33, 3) := by decide +kernel
theorem dL_stock_8 : decode cL_stock 8 = .ok (.bipush 64, 2) := by decide +kernel
theorem dL_stock_10 : decode cL_stock 10 = .ok (.idiv, 1) := by decide +kernel
theorem dL_stock_11 : decode cL_stock 11 = .ok (.bipush 40, 2) := by decide +kernel
theorem dL_stock_13 : decode cL_stock 13 = .ok (.irem, 1) := by decide +kernel
theorem dL_stock_14 : decode cL_stock 14 = .ok (.iadd, 1) := by decide +kernel
theorem dL_stock_15 : decode cL_stock 15 = .ok (.ireturn, 1) := by decide +kernel
theorem dL_price_0 : decode cL_price 0 = .ok (.iconst 1, 1) := by decide +kernel
theorem dL_price_1 : decode cL_price 1 = .ok (.aload_n 0, 1) := by decide +kernel
theorem dL_price_2 : decode cL_price 2 = .ok (.iconst 5, 1) := by decide +kernel
theorem dL_price_3 : decode cL_price 3 = .ok (.iload_n 1, 1) := by decide +kernel
theorem dL_price_4 : decode cL_price 4 = .ok (.iadd, 1) := by decide +kernel
theorem dL_price_5 : decode cL_price 5 = .ok (.invokestatic 33, 3) := by decide +kernel
theorem dL_price_8 : decode cL_price 8 = .ok (.sipush 4096, 3) := by decide +kernel
theorem dL_price_11 : decode cL_price 11 = .ok (.idiv, 1) := by decide +kernel
theorem dL_price_12 : decode cL_price 12 = .ok (.bipush 20, 2) := by decide +kernel
theorem dL_price_14 : decode cL_price 14 = .ok (.irem, 1) := by decide +kernel
theorem dL_price_15 : decode cL_price 15 = .ok (.iadd, 1) := by decide +kernel
theorem dL_price_16 : decode cL_price 16 = .ok (.ireturn, 1) := by decide +kernel
theorem dL_text_0 : decode cL_text 0 = .ok (.new 40, 3) := by decide +kernel
theorem dL_text_3 : decode cL_text 3 = .ok (.dup, 1) := by decide +kernel
theorem dL_text_4 : decode cL_text 4 = .ok (.ldc 42, 2) := by decide +kernel
theorem dL_text_6 : decode cL_text 6 = .ok (.invokespecial 44, 3) := by decide +kernel
theorem dL_text_9 : decode cL_text 9 = .ok (.aload_n 0, 1) := by decide +kernel
theorem dL_text_10 : decode cL_text 10 = .ok (.iconst 0, 1) := by decide +kernel
theorem dL_text_11 : decode cL_text 11 = .ok (.invokestatic 33, 3) := by decide +kernel
theorem dL_text_14 : decode cL_text 14 = .ok (.sipush 1024, 3) := by decide +kernel
theorem dL_text_17 : decode cL_text 17 = .ok (.irem, 1) := by decide +kernel
theorem dL_text_18 : decode cL_text 18 = .ok (.invokevirtual 47, 3) := by decide +kernel
theorem dL_text_21 : decode cL_text 21 = .ok (.bipush 32, 2) := by decide +kernel
theorem dL_text_23 : decode cL_text 23 = .ok (.invokevirtual 51, 3) := by decide +kernel
theorem dL_text_26 : decode cL_text 26 = .ok (.aload_n 0, 1) := by decide +kernel
theorem dL_text_27 : decode cL_text 27 = .ok (.iconst 0, 1) := by decide +kernel
theorem dL_text_28 : decode cL_text 28 = .ok (.invokestatic 54, 3) := by decide +kernel
theorem dL_text_31 : decode cL_text 31 = .ok (.invokevirtual 47, 3) := by decide +kernel
theorem dL_text_34 : decode cL_text 34 = .ok (.bipush 32, 2) := by decide +kernel
theorem dL_text_36 : decode cL_text 36 = .ok (.invokevirtual 51, 3) := by decide +kernel
theorem dL_text_39 : decode cL_text 39 = .ok (.aload_n 0, 1) := by decide +kernel
theorem dL_text_40 : decode cL_text 40 = .ok (.iconst 1, 1) := by decide +kernel
theorem dL_text_41 : decode cL_text 41 = .ok (.invokestatic 54, 3) := by decide +kernel
theorem dL_text_44 : decode cL_text 44 = .ok (.invokevirtual 47, 3) := by decide +kernel
theorem dL_text_47 : decode cL_text 47 = .ok (.bipush 32, 2) := by decide +kernel
theorem dL_text_49 : decode cL_text 49 = .ok (.invokevirtual 51, 3) := by decide +kernel
theorem dL_text_52 : decode cL_text 52 = .ok (.aload_n 0, 1) := by decide +kernel
theorem dL_text_53 : decode cL_text 53 = .ok (.iconst 2, 1) := by decide +kernel
theorem dL_text_54 : decode cL_text 54 = .ok (.invokestatic 54, 3) := by decide +kernel
theorem dL_text_57 : decode cL_text 57 = .ok (.invokevirtual 47, 3) := by decide +kernel
theorem dL_text_60 : decode cL_text 60 = .ok (.bipush 59, 2) := by decide +kernel
theorem dL_text_62 : decode cL_text 62 = .ok (.invokevirtual 51, 3) := by decide +kernel
theorem dL_text_65 : decode cL_text 65 = .ok (.astore_n 1, 1) := by decide +kernel
theorem dL_text_66 : decode cL_text 66 = .ok (.iconst 0, 1) := by decide +kernel
theorem dL_text_67 : decode cL_text 67 = .ok (.istore_n 2, 1) := by decide +kernel
theorem dL_text_68 : decode cL_text 68 = .ok (.iload_n 2, 1) := by decide +kernel
theorem dL_text_69 : decode cL_text 69 = .ok (.iconst 3, 1) := by decide +kernel
theorem dL_text_70 : decode cL_text 70 = .ok (.if_icmp .ge 55, 3) := by decide +kernel
theorem dL_text_73 : decode cL_text 73 = .ok (.aload_n 1, 1) := by decide +kernel
theorem dL_text_74 : decode cL_text 74 = .ok (.ldc 57, 2) := by decide +kernel
theorem dL_text_76 : decode cL_text 76 = .ok (.invokevirtual 59, 3) := by decide +kernel
theorem dL_text_79 : decode cL_text 79 = .ok (.bipush 97, 2) := by decide +kernel
theorem dL_text_81 : decode cL_text 81 = .ok (.iload_n 2, 1) := by decide +kernel
theorem dL_text_82 : decode cL_text 82 = .ok (.iadd, 1) := by decide +kernel
theorem dL_text_83 : decode cL_text 83 = .ok (.i2c, 1) := by decide +kernel
theorem dL_text_84 : decode cL_text 84 = .ok (.invokevirtual 51, 3) := by decide +kernel
theorem dL_text_87 : decode cL_text 87 = .ok (.bipush 32, 2) := by decide +kernel
theorem dL_text_89 : decode cL_text 89 = .ok (.invokevirtual 51, 3) := by decide +kernel
theorem dL_text_92 : decode cL_text 92 = .ok (.aload_n 0, 1) := by decide +kernel
theorem dL_text_93 : decode cL_text 93 = .ok (.iload_n 2, 1) := by decide +kernel
theorem dL_text_94 : decode cL_text 94 = .ok (.invokestatic 62, 3) := by decide +kernel
theorem dL_text_97 : decode cL_text 97 = .ok (.invokevirtual 47, 3) := by decide +kernel
theorem dL_text_100 : decode cL_text 100 = .ok (.bipush 32, 2) := by decide +kernel
theorem dL_text_102 : decode cL_text 102 = .ok (.invokevirtual 51, 3) := by decide +kernel
theorem dL_text_105 : decode cL_text 105 = .ok (.aload_n 0, 1) := by decide +kernel
theorem dL_text_106 : decode cL_text 106 = .ok (.iload_n 2, 1) := by decide +kernel
theorem dL_text_107 : decode cL_text 107 = .ok (.invokestatic 65, 3) := by decide +kernel
theorem dL_text_110 : decode cL_text 110 = .ok (.invokevirtual 47, 3) := by decide +kernel
theorem dL_text_113 : decode cL_text 113 = .ok (.bipush 59, 2) := by decide +kernel
theorem dL_text_115 : decode cL_text 115 = .ok (.invokevirtual 51, 3) := by decide +kernel
theorem dL_text_118 : decode cL_text 118 = .ok (.pop, 1) := by decide +kernel
theorem dL_text_119 : decode cL_text 119 = .ok (.iinc 2 1, 3) := by decide +kernel
theorem dL_text_122 : decode cL_text 122 = .ok (.goto (-54), 3) := by decide +kernel
theorem dL_text_125 : decode cL_text 125 = .ok (.iconst 0, 1) := by decide +kernel
theorem dL_text_126 : decode cL_text 126 = .ok (.istore_n 2, 1) := by decide +kernel
theorem dL_text_127 : decode cL_text 127 = .ok (.iload_n 2, 1) := by decide +kernel
theorem dL_text_128 : decode cL_text 128 = .ok (.iconst 2, 1) := by decide +kernel
theorem dL_text_129 : decode cL_text 129 = .ok (.if_icmp .ge 85, 3) := by decide +kernel
theorem dL_text_132 : decode cL_text 132 = .ok (.aload_n 1, 1) := by decide +kernel
theorem dL_text_133 : decode cL_text 133 = .ok (.ldc 68, 2) := by decide +kernel
theorem dL_text_135 : decode cL_text 135 = .ok (.invokevirtual 59, 3) := by decide +kernel
theorem dL_text_138 : decode cL_text 138 = .ok (.bipush 112, 2) := by decide +kernel
theorem dL_text_140 : decode cL_text 140 = .ok (.iload_n 2, 1) := by decide +kernel
theorem dL_text_141 : decode cL_text 141 = .ok (.iadd, 1) := by decide +kernel
theorem dL_text_142 : decode cL_text 142 = .ok (.i2c, 1) := by decide +kernel
theorem dL_text_143 : decode cL_text 143 = .ok (.invokevirtual 51, 3) := by decide +kernel
theorem dL_text_146 : decode cL_text 146 = .ok (.bipush 32, 2) := by decide +kernel
theorem dL_text_148 : decode cL_text 148 = .ok (.invokevirtual 51, 3) := by decide +kernel
theorem dL_text_151 : decode cL_text 151 = .ok (.bipush 97, 2) := by decide +kernel
theorem dL_text_153 : decode cL_text 153 = .ok (.aload_n 0, 1) := by decide +kernel
theorem dL_text_154 : decode cL_text 154 = .ok (.iload_n 2, 1) := by decide +kernel
theorem dL_text_155 : decode cL_text 155 = .ok (.invokestatic 70, 3) := by decide +kernel
theorem dL_text_158 : decode cL_text 158 = .ok (.iadd, 1) := by decide +kernel
theorem dL_text_159 : decode cL_text 159 = .ok (.i2c, 1) := by decide +kernel
theorem dL_text_160 : decode cL_text 160 = .ok (.invokevirtual 51, 3) := by decide +kernel
theorem dL_text_163 : decode cL_text 163 = .ok (.bipush 32, 2) := by decide +kernel
theorem dL_text_165 : decode cL_text 165 = .ok (.invokevirtual 51, 3) := by decide +kernel
theorem dL_text_168 : decode cL_text 168 = .ok (.aload_n 0, 1) := by decide +kernel
theorem dL_text_169 : decode cL_text 169 = .ok (.iload_n 2, 1) := by decide +kernel
theorem dL_text_170 : decode cL_text 170 = .ok (.invokestatic 73, 3) := by decide +kernel
theorem dL_text_173 : decode cL_text 173 = .ok (.invokevirtual 47, 3) := by decide +kernel
theorem dL_text_176 : decode cL_text 176 = .ok (.bipush 32, 2) := by decide +kernel
theorem dL_text_178 : decode cL_text 178 = .ok (.invokevirtual 51, 3) := by decide +kernel
theorem dL_text_181 : decode cL_text 181 = .ok (.aload_n 0, 1) := by decide +kernel
theorem dL_text_182 : decode cL_text 182 = .ok (.iload_n 2, 1) := by decide +kernel
theorem dL_text_183 : decode cL_text 183 = .ok (.invokestatic 76, 3) := by decide +kernel
theorem dL_text_186 : decode cL_text 186 = .ok (.invokevirtual 47, 3) := by decide +kernel
theorem dL_text_189 : decode cL_text 189 = .ok (.bipush 32, 2) := by decide +kernel
theorem dL_text_191 : decode cL_text 191 = .ok (.invokevirtual 51, 3) := by decide +kernel
theorem dL_text_194 : decode cL_text 194 = .ok (.aload_n 0, 1) := by decide +kernel
theorem dL_text_195 : decode cL_text 195 = .ok (.iload_n 2, 1) := by decide +kernel
theorem dL_text_196 : decode cL_text 196 = .ok (.invokestatic 79, 3) := by decide +kernel
theorem dL_text_199 : decode cL_text 199 = .ok (.invokevirtual 47, 3) := by decide +kernel
theorem dL_text_202 : decode cL_text 202 = .ok (.bipush 59, 2) := by decide +kernel
theorem dL_text_204 : decode cL_text 204 = .ok (.invokevirtual 51, 3) := by decide +kernel
theorem dL_text_207 : decode cL_text 207 = .ok (.pop, 1) := by decide +kernel
theorem dL_text_208 : decode cL_text 208 = .ok (.iinc 2 1, 3) := by decide +kernel
theorem dL_text_211 : decode cL_text 211 = .ok (.goto (-84), 3) := by decide +kernel
theorem dL_text_214 : decode cL_text 214 = .ok (.aload_n 1, 1) := by decide +kernel
theorem dL_text_215 : decode cL_text 215 = .ok (.invokevirtual 82, 3) := by decide +kernel
theorem dL_text_218 : decode cL_text 218 = .ok (.areturn, 1) := by decide +kernel
theorem dL_acts_0 : decode cL_acts 0 = .ok (.iload_n 1, 1) := by decide +kernel
theorem dL_acts_1 : decode cL_acts 1 = .ok (.bipush 32, 2) := by decide +kernel
theorem dL_acts_3 : decode cL_acts 3 = .ok (.idiv, 1) := by decide +kernel
theorem dL_acts_4 : decode cL_acts 4 = .ok (.istore_n 2, 1) := by decide +kernel
theorem dL_acts_5 : decode cL_acts 5 = .ok (.iload_n 2, 1) := by decide +kernel
theorem dL_acts_6 : decode cL_acts 6 = .ok (.bipush 16, 2) := by decide +kernel
theorem dL_acts_8 : decode cL_acts 8 = .ok (.idiv, 1) := by decide +kernel
theorem dL_acts_9 : decode cL_acts 9 = .ok (.istore_n 3, 1) := by decide +kernel
theorem dL_acts_10 : decode cL_acts 10 = .ok (.iload_n 1, 1) := by decide +kernel
theorem dL_acts_11 : decode cL_acts 11 = .ok (.bipush 32, 2) := by decide +kernel
theorem dL_acts_13 : decode cL_acts 13 = .ok (.irem, 1) := by decide +kernel
theorem dL_acts_14 : decode cL_acts 14 = .ok (.bipush 12, 2) := by decide +kernel
theorem dL_acts_16 : decode cL_acts 16 = .ok (.if_icmp .lt 22, 3) := by decide +kernel
theorem dL_acts_19 : decode cL_acts 19 = .ok (.iload_n 1, 1) := by decide +kernel
theorem dL_acts_20 : decode cL_acts 20 = .ok (.bipush 32, 2) := by decide +kernel
theorem dL_acts_22 : decode cL_acts 22 = .ok (.irem, 1) := by decide +kernel
theorem dL_acts_23 : decode cL_acts 23 = .ok (.bipush 15, 2) := by decide +kernel
theorem dL_acts_25 : decode cL_acts 25 = .ok (.if_icmp .ge 13, 3) := by decide +kernel
theorem dL_acts_28 : decode cL_acts 28 = .ok (.aload_n 0, 1) := by decide +kernel
theorem dL_acts_29 : decode cL_acts 29 = .ok (.invokevirtual 86, 3) := by decide +kernel
theorem dL_acts_32 : decode cL_acts 32 = .ok (.ifCond .ne 6, 3) := by decide +kernel
theorem dL_acts_35 : decode cL_acts 35 = .ok (.bipush (-8), 2) := by decide +kernel
theorem dL_acts_37 : decode cL_acts 37 = .ok (.ireturn, 1) := by decide +kernel
theorem dL_acts_38 : decode cL_acts 38 = .ok (.iload_n 1, 1) := by decide +kernel
theorem dL_acts_39 : decode cL_acts 39 = .ok (.bipush 32, 2) := by decide +kernel
theorem dL_acts_41 : decode cL_acts 41 = .ok (.irem, 1) := by decide +kernel
theorem dL_acts_42 : decode cL_acts 42 = .ok (.tableswitch 164 0 18 #[90, 90, 90, 90, 90, 90, 90, 90, 90, 90, 90, 90, 115, 115, 115, 126, 138, 152, 152], 90) := by decide +kernel
theorem dL_acts_132 : decode cL_acts 132 = .ok (.aload_n 0, 1) := by decide +kernel
theorem dL_acts_133 : decode cL_acts 133 = .ok (.iload_n 2, 1) := by decide +kernel
theorem dL_acts_134 : decode cL_acts 134 = .ok (.iconst 3, 1) := by decide +kernel
theorem dL_acts_135 : decode cL_acts 135 = .ok (.irem, 1) := by decide +kernel
theorem dL_acts_136 : decode cL_acts 136 = .ok (.aload_n 0, 1) := by decide +kernel
theorem dL_acts_137 : decode cL_acts 137 = .ok (.invokevirtual 89, 3) := by decide +kernel
theorem dL_acts_140 : decode cL_acts 140 = .ok (.iload_n 3, 1) := by decide +kernel
theorem dL_acts_141 : decode cL_acts 141 = .ok (.bipush 36, 2) := by decide +kernel
theorem dL_acts_143 : decode cL_acts 143 = .ok (.irem, 1) := by decide +kernel
theorem dL_acts_144 : decode cL_acts 144 = .ok (.iadd, 1) := by decide +kernel
theorem dL_acts_145 : decode cL_acts 145 = .ok (.iconst 2, 1) := by decide +kernel
theorem dL_acts_146 : decode cL_acts 146 = .ok (.isub, 1) := by decide +kernel
theorem dL_acts_147 : decode cL_acts 147 = .ok (.iload_n 3, 1) := by decide +kernel
theorem dL_acts_148 : decode cL_acts 148 = .ok (.bipush 64, 2) := by decide +kernel
theorem dL_acts_150 : decode cL_acts 150 = .ok (.idiv, 1) := by decide +kernel
theorem dL_acts_151 : decode cL_acts 151 = .ok (.iconst 3, 1) := by decide +kernel
theorem dL_acts_152 : decode cL_acts 152 = .ok (.irem, 1) := by decide +kernel
theorem dL_acts_153 : decode cL_acts 153 = .ok (.invokevirtual 92, 3) := by decide +kernel
theorem dL_acts_156 : decode cL_acts 156 = .ok (.ireturn, 1) := by decide +kernel
theorem dL_acts_157 : decode cL_acts 157 = .ok (.aload_n 0, 1) := by decide +kernel
theorem dL_acts_158 : decode cL_acts 158 = .ok (.iload_n 2, 1) := by decide +kernel
theorem dL_acts_159 : decode cL_acts 159 = .ok (.aload_n 0, 1) := by decide +kernel
theorem dL_acts_160 : decode cL_acts 160 = .ok (.invokevirtual 86, 3) := by decide +kernel
theorem dL_acts_163 : decode cL_acts 163 = .ok (.irem, 1) := by decide +kernel
theorem dL_acts_164 : decode cL_acts 164 = .ok (.invokevirtual 96, 3) := by decide +kernel
theorem dL_acts_167 : decode cL_acts 167 = .ok (.ireturn, 1) := by decide +kernel
theorem dL_acts_168 : decode cL_acts 168 = .ok (.aload_n 0, 1) := by decide +kernel
theorem dL_acts_169 : decode cL_acts 169 = .ok (.iload_n 2, 1) := by decide +kernel
theorem dL_acts_170 : decode cL_acts 170 = .ok (.iconst 3, 1) := by decide +kernel
theorem dL_acts_171 : decode cL_acts 171 = .ok (.irem, 1) := by decide +kernel
theorem dL_acts_172 : decode cL_acts 172 = .ok (.iload_n 3, 1) := by decide +kernel
theorem dL_acts_173 : decode cL_acts 173 = .ok (.bipush 101, 2) := by decide +kernel
theorem dL_acts_175 : decode cL_acts 175 = .ok (.irem, 1) := by decide +kernel
theorem dL_acts_176 : decode cL_acts 176 = .ok (.invokevirtual 99, 3) := by decide +kernel
theorem dL_acts_179 : decode cL_acts 179 = .ok (.ireturn, 1) := by decide +kernel
theorem dL_acts_180 : decode cL_acts 180 = .ok (.aload_n 0, 1) := by decide +kernel
theorem dL_acts_181 : decode cL_acts 181 = .ok (.iload_n 2, 1) := by decide +kernel
theorem dL_acts_182 : decode cL_acts 182 = .ok (.iconst 3, 1) := by decide +kernel
theorem dL_acts_183 : decode cL_acts 183 = .ok (.irem, 1) := by decide +kernel
theorem dL_acts_184 : decode cL_acts 184 = .ok (.iconst 1, 1) := by decide +kernel
theorem dL_acts_185 : decode cL_acts 185 = .ok (.iload_n 3, 1) := by decide +kernel
theorem dL_acts_186 : decode cL_acts 186 = .ok (.bipush 99, 2) := by decide +kernel
theorem dL_acts_188 : decode cL_acts 188 = .ok (.irem, 1) := by decide +kernel
theorem dL_acts_189 : decode cL_acts 189 = .ok (.iadd, 1) := by decide +kernel
theorem dL_acts_190 : decode cL_acts 190 = .ok (.invokevirtual 103, 3) := by decide +kernel
theorem dL_acts_193 : decode cL_acts 193 = .ok (.ireturn, 1) := by decide +kernel
theorem dL_acts_194 : decode cL_acts 194 = .ok (.aload_n 0, 1) := by decide +kernel
theorem dL_acts_195 : decode cL_acts 195 = .ok (.iload_n 2, 1) := by decide +kernel
theorem dL_acts_196 : decode cL_acts 196 = .ok (.iconst 3, 1) := by decide +kernel
theorem dL_acts_197 : decode cL_acts 197 = .ok (.irem, 1) := by decide +kernel
theorem dL_acts_198 : decode cL_acts 198 = .ok (.iload_n 3, 1) := by decide +kernel
theorem dL_acts_199 : decode cL_acts 199 = .ok (.bipush 21, 2) := by decide +kernel
theorem dL_acts_201 : decode cL_acts 201 = .ok (.irem, 1) := by decide +kernel
theorem dL_acts_202 : decode cL_acts 202 = .ok (.invokevirtual 106, 3) := by decide +kernel
theorem dL_acts_205 : decode cL_acts 205 = .ok (.ireturn, 1) := by decide +kernel
theorem dL_acts_206 : decode cL_acts 206 = .ok (.aload_n 0, 1) := by decide +kernel
theorem dL_acts_207 : decode cL_acts 207 = .ok (.iconst 1, 1) := by decide +kernel
theorem dL_acts_208 : decode cL_acts 208 = .ok (.iload_n 3, 1) := by decide +kernel
theorem dL_acts_209 : decode cL_acts 209 = .ok (.iload_n 1, 1) := by decide +kernel
theorem dL_acts_210 : decode cL_acts 210 = .ok (.bipush 32, 2) := by decide +kernel
theorem dL_acts_212 : decode cL_acts 212 = .ok (.irem, 1) := by decide +kernel
theorem dL_acts_213 : decode cL_acts 213 = .ok (.bipush 29, 2) := by decide +kernel
theorem dL_acts_215 : decode cL_acts 215 = .ok (.if_icmp .ge 7, 3) := by decide +kernel
theorem dL_acts_218 : decode cL_acts 218 = .ok (.iconst 3, 1) := by decide +kernel
theorem dL_acts_219 : decode cL_acts 219 = .ok (.goto 5, 3) := by decide +kernel
theorem dL_acts_222 : decode cL_acts 222 = .ok (.bipush 25, 2) := by decide +kernel
theorem dL_acts_224 : decode cL_acts 224 = .ok (.irem, 1) := by decide +kernel
theorem dL_acts_225 : decode cL_acts 225 = .ok (.iadd, 1) := by decide +kernel
theorem dL_acts_226 : decode cL_acts 226 = .ok (.invokevirtual 109, 3) := by decide +kernel
theorem dL_acts_229 : decode cL_acts 229 = .ok (.ireturn, 1) := by decide +kernel
theorem dL_acts_230 : decode cL_acts 230 = .ok (.astore 4, 2) := by decide +kernel
theorem dL_acts_232 : decode cL_acts 232 = .ok (.bipush (-9), 2) := by decide +kernel
theorem dL_acts_234 : decode cL_acts 234 = .ok (.ireturn, 1) := by decide +kernel
theorem dL_law_0 : decode cL_law 0 = .ok (.new 19, 3) := by decide +kernel
theorem dL_law_3 : decode cL_law 3 = .ok (.dup, 1) := by decide +kernel
theorem dL_law_4 : decode cL_law 4 = .ok (.invokespecial 114, 3) := by decide +kernel
theorem dL_law_7 : decode cL_law 7 = .ok (.astore_n 1, 1) := by decide +kernel
theorem dL_law_8 : decode cL_law 8 = .ok (.aload_n 1, 1) := by decide +kernel
theorem dL_law_9 : decode cL_law 9 = .ok (.aload_n 0, 1) := by decide +kernel
theorem dL_law_10 : decode cL_law 10 = .ok (.invokestatic 115, 3) := by decide +kernel
theorem dL_law_13 : decode cL_law 13 = .ok (.invokestatic 119, 3) := by decide +kernel
theorem dL_law_16 : decode cL_law 16 = .ok (.aload_n 1, 1) := by decide +kernel
theorem dL_law_17 : decode cL_law 17 = .ok (.invokestatic 123, 3) := by decide +kernel
theorem dL_law_20 : decode cL_law 20 = .ok (.iconst 3, 1) := by decide +kernel
theorem dL_law_21 : decode cL_law 21 = .ok (.if_icmp .ne 34, 3) := by decide +kernel
theorem dL_law_24 : decode cL_law 24 = .ok (.aload_n 1, 1) := by decide +kernel
theorem dL_law_25 : decode cL_law 25 = .ok (.invokevirtual 127, 3) := by decide +kernel
theorem dL_law_28 : decode cL_law 28 = .ok (.ifCond .ne 27, 3) := by decide +kernel
theorem dL_law_31 : decode cL_law 31 = .ok (.aload_n 1, 1) := by decide +kernel
theorem dL_law_32 : decode cL_law 32 = .ok (.invokevirtual 130, 3) := by decide +kernel
theorem dL_law_35 : decode cL_law 35 = .ok (.iconst 2, 1) := by decide +kernel
theorem dL_law_36 : decode cL_law 36 = .ok (.if_icmp .ne 19, 3) := by decide +kernel
theorem dL_law_39 : decode cL_law 39 = .ok (.aload_n 1, 1) := by decide +kernel
theorem dL_law_40 : decode cL_law 40 = .ok (.invokevirtual 133, 3) := by decide +kernel
theorem dL_law_43 : decode cL_law 43 = .ok (.aload_n 0, 1) := by decide +kernel
theorem dL_law_44 : decode cL_law 44 = .ok (.iconst 0, 1) := by decide +kernel
theorem dL_law_45 : decode cL_law 45 = .ok (.invokestatic 33, 3) := by decide +kernel
theorem dL_law_48 : decode cL_law 48 = .ok (.sipush 1024, 3) := by decide +kernel
theorem dL_law_51 : decode cL_law 51 = .ok (.irem, 1) := by decide +kernel
theorem dL_law_52 : decode cL_law 52 = .ok (.if_icmp .eq 5, 3) := by decide +kernel
theorem dL_law_55 : decode cL_law 55 = .ok (.iconst 0, 1) := by decide +kernel
theorem dL_law_56 : decode cL_law 56 = .ok (.ireturn, 1) := by decide +kernel
theorem dL_law_57 : decode cL_law 57 = .ok (.new 136, 3) := by decide +kernel
theorem dL_law_60 : decode cL_law 60 = .ok (.dup, 1) := by decide +kernel
theorem dL_law_61 : decode cL_law 61 = .ok (.aload_n 0, 1) := by decide +kernel
theorem dL_law_62 : decode cL_law 62 = .ok (.invokespecial 138, 3) := by decide +kernel
theorem dL_law_65 : decode cL_law 65 = .ok (.astore_n 2, 1) := by decide +kernel
theorem dL_law_66 : decode cL_law 66 = .ok (.bipush 7, 2) := by decide +kernel
theorem dL_law_68 : decode cL_law 68 = .ok (.istore_n 3, 1) := by decide +kernel
theorem dL_law_69 : decode cL_law 69 = .ok (.iload_n 3, 1) := by decide +kernel
theorem dL_law_70 : decode cL_law 70 = .ok (.bipush 45, 2) := by decide +kernel
theorem dL_law_72 : decode cL_law 72 = .ok (.if_icmp .ge 66, 3) := by decide +kernel
theorem dL_law_75 : decode cL_law 75 = .ok (.aload_n 0, 1) := by decide +kernel
theorem dL_law_76 : decode cL_law 76 = .ok (.iload_n 3, 1) := by decide +kernel
theorem dL_law_77 : decode cL_law 77 = .ok (.invokestatic 33, 3) := by decide +kernel
theorem dL_law_80 : decode cL_law 80 = .ok (.istore 4, 2) := by decide +kernel
theorem dL_law_82 : decode cL_law 82 = .ok (.aload_n 2, 1) := by decide +kernel
theorem dL_law_83 : decode cL_law 83 = .ok (.iload 4, 2) := by decide +kernel
theorem dL_law_85 : decode cL_law 85 = .ok (.invokevirtual 141, 3) := by decide +kernel
theorem dL_law_88 : decode cL_law 88 = .ok (.istore 5, 2) := by decide +kernel
theorem dL_law_90 : decode cL_law 90 = .ok (.aload_n 1, 1) := by decide +kernel
theorem dL_law_91 : decode cL_law 91 = .ok (.iload 4, 2) := by decide +kernel
theorem dL_law_93 : decode cL_law 93 = .ok (.invokestatic 144, 3) := by decide +kernel
theorem dL_law_96 : decode cL_law 96 = .ok (.iload 5, 2) := by decide +kernel
theorem dL_law_98 : decode cL_law 98 = .ok (.if_icmp .ne 32, 3) := by decide +kernel
theorem dL_law_101 : decode cL_law 101 = .ok (.aload_n 2, 1) := by decide +kernel
theorem dL_law_102 : decode cL_law 102 = .ok (.aload_n 1, 1) := by decide +kernel
theorem dL_law_103 : decode cL_law 103 = .ok (.invokevirtual 147, 3) := by decide +kernel
theorem dL_law_106 : decode cL_law 106 = .ok (.ifCond .eq 24, 3) := by decide +kernel
theorem dL_law_109 : decode cL_law 109 = .ok (.aload_n 1, 1) := by decide +kernel
theorem dL_law_110 : decode cL_law 110 = .ok (.invokevirtual 151, 3) := by decide +kernel
theorem dL_law_113 : decode cL_law 113 = .ok (.ifCond .ne 17, 3) := by decide +kernel
theorem dL_law_116 : decode cL_law 116 = .ok (.aload_n 1, 1) := by decide +kernel
theorem dL_law_117 : decode cL_law 117 = .ok (.invokevirtual 154, 3) := by decide +kernel
theorem dL_law_120 : decode cL_law 120 = .ok (.ifCond .ne 10, 3) := by decide +kernel
theorem dL_law_123 : decode cL_law 123 = .ok (.aload_n 1, 1) := by decide +kernel
theorem dL_law_124 : decode cL_law 124 = .ok (.invokevirtual 157, 3) := by decide +kernel
theorem dL_law_127 : decode cL_law 127 = .ok (.ifCond .eq 5, 3) := by decide +kernel
theorem dL_law_130 : decode cL_law 130 = .ok (.iconst 0, 1) := by decide +kernel
theorem dL_law_131 : decode cL_law 131 = .ok (.ireturn, 1) := by decide +kernel
theorem dL_law_132 : decode cL_law 132 = .ok (.iinc 3 1, 3) := by decide +kernel
theorem dL_law_135 : decode cL_law 135 = .ok (.goto (-66), 3) := by decide +kernel
theorem dL_law_138 : decode cL_law 138 = .ok (.iconst 1, 1) := by decide +kernel
theorem dL_law_139 : decode cL_law 139 = .ok (.ireturn, 1) := by decide +kernel
