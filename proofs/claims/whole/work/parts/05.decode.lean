theorem dX0_init_0 : decode cX0_init 0 = .ok (.aload_n 0, 1) := by decide +kernel
theorem dX0_init_1 : decode cX0_init 1 = .ok (.invokespecial 3, 3) := by decide +kernel
theorem dX0_init_4 : decode cX0_init 4 = .ok (.aload_n 0, 1) := by decide +kernel
theorem dX0_init_5 : decode cX0_init 5 = .ok (.bipush 30, 2) := by decide +kernel
theorem dX0_init_7 : decode cX0_init 7 = .ok (.newarray .int, 2) := by decide +kernel
theorem dX0_init_9 : decode cX0_init 9 = .ok (.putfield 9, 3) := by decide +kernel
theorem dX0_init_12 : decode cX0_init 12 = .ok (.aload_n 0, 1) := by decide +kernel
theorem dX0_init_13 : decode cX0_init 13 = .ok (.bipush 30, 2) := by decide +kernel
theorem dX0_init_15 : decode cX0_init 15 = .ok (.newarray .int, 2) := by decide +kernel
theorem dX0_init_17 : decode cX0_init 17 = .ok (.putfield 15, 3) := by decide +kernel
theorem dX0_init_20 : decode cX0_init 20 = .ok (.aload_n 0, 1) := by decide +kernel
theorem dX0_init_21 : decode cX0_init 21 = .ok (.bipush 30, 2) := by decide +kernel
theorem dX0_init_23 : decode cX0_init 23 = .ok (.newarray .int, 2) := by decide +kernel
theorem dX0_init_25 : decode cX0_init 25 = .ok (.putfield 18, 3) := by decide +kernel
theorem dX0_init_28 : decode cX0_init 28 = .ok (.aload_n 0, 1) := by decide +kernel
theorem dX0_init_29 : decode cX0_init 29 = .ok (.bipush 30, 2) := by decide +kernel
theorem dX0_init_31 : decode cX0_init 31 = .ok (.newarray .int, 2) := by decide +kernel
theorem dX0_init_33 : decode cX0_init 33 = .ok (.putfield 21, 3) := by decide +kernel
theorem dX0_init_36 : decode cX0_init 36 = .ok (.aload_n 0, 1) := by decide +kernel
theorem dX0_init_37 : decode cX0_init 37 = .ok (.bipush 30, 2) := by decide +kernel
theorem dX0_init_39 : decode cX0_init 39 = .ok (.newarray .int, 2) := by decide +kernel
theorem dX0_init_41 : decode cX0_init 41 = .ok (.putfield 24, 3) := by decide +kernel
theorem dX0_init_44 : decode cX0_init 44 = .ok (.aload_n 0, 1) := by decide +kernel
theorem dX0_init_45 : decode cX0_init 45 = .ok (.iconst 0, 1) := by decide +kernel
theorem dX0_init_46 : decode cX0_init 46 = .ok (.putfield 27, 3) := by decide +kernel
theorem dX0_init_49 : decode cX0_init 49 = .ok (.return_, 1) := by decide +kernel
theorem dX0_placeOf_0 : decode cX0_placeOf 0 = .ok (.iconst 0, 1) := by decide +kernel
theorem dX0_placeOf_1 : decode cX0_placeOf 1 = .ok (.istore_n 3, 1) := by decide +kernel
theorem dX0_placeOf_2 : decode cX0_placeOf 2 = .ok (.iload_n 3, 1) := by decide +kernel
theorem dX0_placeOf_3 : decode cX0_placeOf 3 = .ok (.aload_n 0, 1) := by decide +kernel
theorem dX0_placeOf_4 : decode cX0_placeOf 4 = .ok (.getfield 27, 3) := by decide +kernel
theorem dX0_placeOf_7 : decode cX0_placeOf 7 = .ok (.if_icmp .ge 31, 3) := by decide +kernel
theorem dX0_placeOf_10 : decode cX0_placeOf 10 = .ok (.aload_n 0, 1) := by decide +kernel
theorem dX0_placeOf_11 : decode cX0_placeOf 11 = .ok (.getfield 9, 3) := by decide +kernel
theorem dX0_placeOf_14 : decode cX0_placeOf 14 = .ok (.iload_n 3, 1) := by decide +kernel
theorem dX0_placeOf_15 : decode cX0_placeOf 15 = .ok (.iaload, 1) := by decide +kernel
theorem dX0_placeOf_16 : decode cX0_placeOf 16 = .ok (.iload_n 1, 1) := by decide +kernel
theorem dX0_placeOf_17 : decode cX0_placeOf 17 = .ok (.if_icmp .ne 15, 3) := by decide +kernel
theorem dX0_placeOf_20 : decode cX0_placeOf 20 = .ok (.aload_n 0, 1) := by decide +kernel
theorem dX0_placeOf_21 : decode cX0_placeOf 21 = .ok (.getfield 15, 3) := by decide +kernel
theorem dX0_placeOf_24 : decode cX0_placeOf 24 = .ok (.iload_n 3, 1) := by decide +kernel
theorem dX0_placeOf_25 : decode cX0_placeOf 25 = .ok (.iaload, 1) := by decide +kernel
theorem dX0_placeOf_26 : decode cX0_placeOf 26 = .ok (.iload_n 2, 1) := by decide +kernel
theorem dX0_placeOf_27 : decode cX0_placeOf 27 = .ok (.if_icmp .ne 5, 3) := by decide +kernel
theorem dX0_placeOf_30 : decode cX0_placeOf 30 = .ok (.iload_n 3, 1) := by decide +kernel
theorem dX0_placeOf_31 : decode cX0_placeOf 31 = .ok (.ireturn, 1) := by decide +kernel
theorem dX0_placeOf_32 : decode cX0_placeOf 32 = .ok (.iinc 3 1, 3) := by decide +kernel
theorem dX0_placeOf_35 : decode cX0_placeOf 35 = .ok (.goto (-33), 3) := by decide +kernel
theorem dX0_placeOf_38 : decode cX0_placeOf 38 = .ok (.iconst (-1), 1) := by decide +kernel
theorem dX0_placeOf_39 : decode cX0_placeOf 39 = .ok (.ireturn, 1) := by decide +kernel
theorem dX0_labelAt_0 : decode cX0_labelAt 0 = .ok (.aload_n 0, 1) := by decide +kernel
theorem dX0_labelAt_1 : decode cX0_labelAt 1 = .ok (.getfield 9, 3) := by decide +kernel
theorem dX0_labelAt_4 : decode cX0_labelAt 4 = .ok (.iload_n 1, 1) := by decide +kernel
theorem dX0_labelAt_5 : decode cX0_labelAt 5 = .ok (.iaload, 1) := by decide +kernel
theorem dX0_labelAt_6 : decode cX0_labelAt 6 = .ok (.aload_n 0, 1) := by decide +kernel
theorem dX0_labelAt_7 : decode cX0_labelAt 7 = .ok (.getfield 15, 3) := by decide +kernel
theorem dX0_labelAt_10 : decode cX0_labelAt 10 = .ok (.iload_n 1, 1) := by decide +kernel
theorem dX0_labelAt_11 : decode cX0_labelAt 11 = .ok (.iaload, 1) := by decide +kernel
theorem dX0_labelAt_12 : decode cX0_labelAt 12 = .ok (.invokestatic 31, 3) := by decide +kernel
theorem dX0_labelAt_15 : decode cX0_labelAt 15 = .ok (.ireturn, 1) := by decide +kernel
theorem dX0_countFor_0 : decode cX0_countFor 0 = .ok (.iconst 0, 1) := by decide +kernel
theorem dX0_countFor_1 : decode cX0_countFor 1 = .ok (.istore_n 2, 1) := by decide +kernel
theorem dX0_countFor_2 : decode cX0_countFor 2 = .ok (.iconst 0, 1) := by decide +kernel
theorem dX0_countFor_3 : decode cX0_countFor 3 = .ok (.istore_n 3, 1) := by decide +kernel
theorem dX0_countFor_4 : decode cX0_countFor 4 = .ok (.iload_n 3, 1) := by decide +kernel
theorem dX0_countFor_5 : decode cX0_countFor 5 = .ok (.aload_n 0, 1) := by decide +kernel
theorem dX0_countFor_6 : decode cX0_countFor 6 = .ok (.getfield 27, 3) := by decide +kernel
theorem dX0_countFor_9 : decode cX0_countFor 9 = .ok (.if_icmp .ge 22, 3) := by decide +kernel
theorem dX0_countFor_12 : decode cX0_countFor 12 = .ok (.aload_n 0, 1) := by decide +kernel
theorem dX0_countFor_13 : decode cX0_countFor 13 = .ok (.getfield 9, 3) := by decide +kernel
theorem dX0_countFor_16 : decode cX0_countFor 16 = .ok (.iload_n 3, 1) := by decide +kernel
theorem dX0_countFor_17 : decode cX0_countFor 17 = .ok (.iaload, 1) := by decide +kernel
theorem dX0_countFor_18 : decode cX0_countFor 18 = .ok (.iload_n 1, 1) := by decide +kernel
theorem dX0_countFor_19 : decode cX0_countFor 19 = .ok (.if_icmp .ne 6, 3) := by decide +kernel
theorem dX0_countFor_22 : decode cX0_countFor 22 = .ok (.iinc 2 1, 3) := by decide +kernel
theorem dX0_countFor_25 : decode cX0_countFor 25 = .ok (.iinc 3 1, 3) := by decide +kernel
theorem dX0_countFor_28 : decode cX0_countFor 28 = .ok (.goto (-24), 3) := by decide +kernel
theorem dX0_countFor_31 : decode cX0_countFor 31 = .ok (.iload_n 2, 1) := by decide +kernel
theorem dX0_countFor_32 : decode cX0_countFor 32 = .ok (.ireturn, 1) := by decide +kernel
theorem dX0_add_0 : decode cX0_add 0 = .ok (.aload_n 0, 1) := by decide +kernel
theorem dX0_add_1 : decode cX0_add 1 = .ok (.getfield 27, 3) := by decide +kernel
theorem dX0_add_4 : decode cX0_add 4 = .ok (.bipush 30, 2) := by decide +kernel
theorem dX0_add_6 : decode cX0_add 6 = .ok (.if_icmp .lt 4, 3) := by decide +kernel
theorem dX0_add_9 : decode cX0_add 9 = .ok (.return_, 1) := by decide +kernel
theorem dX0_add_10 : decode cX0_add 10 = .ok (.aload_n 0, 1) := by decide +kernel
theorem dX0_add_11 : decode cX0_add 11 = .ok (.getfield 9, 3) := by decide +kernel
theorem dX0_add_14 : decode cX0_add 14 = .ok (.aload_n 0, 1) := by decide +kernel
theorem dX0_add_15 : decode cX0_add 15 = .ok (.getfield 27, 3) := by decide +kernel
theorem dX0_add_18 : decode cX0_add 18 = .ok (.iload_n 1, 1) := by decide +kernel
theorem dX0_add_19 : decode cX0_add 19 = .ok (.iastore, 1) := by decide +kernel
theorem dX0_add_20 : decode cX0_add 20 = .ok (.aload_n 0, 1) := by decide +kernel
theorem dX0_add_21 : decode cX0_add 21 = .ok (.getfield 15, 3) := by decide +kernel
theorem dX0_add_24 : decode cX0_add 24 = .ok (.aload_n 0, 1) := by decide +kernel
theorem dX0_add_25 : decode cX0_add 25 = .ok (.getfield 27, 3) := by decide +kernel
theorem dX0_add_28 : decode cX0_add 28 = .ok (.iload_n 2, 1) := by decide +kernel
theorem dX0_add_29 : decode cX0_add 29 = .ok (.iastore, 1) := by decide +kernel
theorem dX0_add_30 : decode cX0_add 30 = .ok (.aload_n 0, 1) := by decide +kernel
theorem dX0_add_31 : decode cX0_add 31 = .ok (.getfield 18, 3) := by decide +kernel
theorem dX0_add_34 : decode cX0_add 34 = .ok (.aload_n 0, 1) := by decide +kernel
theorem dX0_add_35 : decode cX0_add 35 = .ok (.getfield 27, 3) := by decide +kernel
theorem dX0_add_38 : decode cX0_add 38 = .ok (.iload_n 3, 1) := by decide +kernel
theorem dX0_add_39 : decode cX0_add 39 = .ok (.iastore, 1) := by decide +kernel
theorem dX0_add_40 : decode cX0_add 40 = .ok (.aload_n 0, 1) := by decide +kernel
theorem dX0_add_41 : decode cX0_add 41 = .ok (.getfield 21, 3) := by decide +kernel
theorem dX0_add_44 : decode cX0_add 44 = .ok (.aload_n 0, 1) := by decide +kernel
theorem dX0_add_45 : decode cX0_add 45 = .ok (.getfield 27, 3) := by decide +kernel
theorem dX0_add_48 : decode cX0_add 48 = .ok (.iconst 0, 1) := by decide +kernel
theorem dX0_add_49 : decode cX0_add 49 = .ok (.iastore, 1) := by decide +kernel
theorem dX0_add_50 : decode cX0_add 50 = .ok (.aload_n 0, 1) := by decide +kernel
theorem dX0_add_51 : decode cX0_add 51 = .ok (.getfield 24, 3) := by decide +kernel
theorem dX0_add_54 : decode cX0_add 54 = .ok (.aload_n 0, 1) := by decide +kernel
theorem dX0_add_55 : decode cX0_add 55 = .ok (.getfield 27, 3) := by decide +kernel
theorem dX0_add_58 : decode cX0_add 58 = .ok (.iconst 0, 1) := by decide +kernel
theorem dX0_add_59 : decode cX0_add 59 = .ok (.iastore, 1) := by decide +kernel
theorem dX0_add_60 : decode cX0_add 60 = .ok (.aload_n 0, 1) := by decide +kernel
theorem dX0_add_61 : decode cX0_add 61 = .ok (.dup, 1) := by decide +kernel
theorem dX0_add_62 : decode cX0_add 62 = .ok (.getfield 27, 3) := by decide +kernel
theorem dX0_add_65 : decode cX0_add 65 = .ok (.iconst 1, 1) := by decide +kernel
theorem dX0_add_66 : decode cX0_add 66 = .ok (.iadd, 1) := by decide +kernel
theorem dX0_add_67 : decode cX0_add 67 = .ok (.putfield 27, 3) := by decide +kernel
theorem dX0_add_70 : decode cX0_add 70 = .ok (.return_, 1) := by decide +kernel
theorem dX0_remove_0 : decode cX0_remove 0 = .ok (.iload_n 1, 1) := by decide +kernel
theorem dX0_remove_1 : decode cX0_remove 1 = .ok (.ifCond .lt 16, 3) := by decide +kernel
theorem dX0_remove_4 : decode cX0_remove 4 = .ok (.iload_n 1, 1) := by decide +kernel
theorem dX0_remove_5 : decode cX0_remove 5 = .ok (.iload_n 2, 1) := by decide +kernel
theorem dX0_remove_6 : decode cX0_remove 6 = .ok (.if_icmp .gt 11, 3) := by decide +kernel
theorem dX0_remove_9 : decode cX0_remove 9 = .ok (.iload_n 2, 1) := by decide +kernel
theorem dX0_remove_10 : decode cX0_remove 10 = .ok (.aload_n 0, 1) := by decide +kernel
theorem dX0_remove_11 : decode cX0_remove 11 = .ok (.getfield 27, 3) := by decide +kernel
theorem dX0_remove_14 : decode cX0_remove 14 = .ok (.if_icmp .le 4, 3) := by decide +kernel
theorem dX0_remove_17 : decode cX0_remove 17 = .ok (.return_, 1) := by decide +kernel
theorem dX0_remove_18 : decode cX0_remove 18 = .ok (.aload_n 0, 1) := by decide +kernel
theorem dX0_remove_19 : decode cX0_remove 19 = .ok (.getfield 27, 3) := by decide +kernel
theorem dX0_remove_22 : decode cX0_remove 22 = .ok (.iload_n 2, 1) := by decide +kernel
theorem dX0_remove_23 : decode cX0_remove 23 = .ok (.isub, 1) := by decide +kernel
theorem dX0_remove_24 : decode cX0_remove 24 = .ok (.istore_n 3, 1) := by decide +kernel
theorem dX0_remove_25 : decode cX0_remove 25 = .ok (.aload_n 0, 1) := by decide +kernel
theorem dX0_remove_26 : decode cX0_remove 26 = .ok (.getfield 9, 3) := by decide +kernel
theorem dX0_remove_29 : decode cX0_remove 29 = .ok (.iload_n 2, 1) := by decide +kernel
theorem dX0_remove_30 : decode cX0_remove 30 = .ok (.aload_n 0, 1) := by decide +kernel
theorem dX0_remove_31 : decode cX0_remove 31 = .ok (.getfield 9, 3) := by decide +kernel
theorem dX0_remove_34 : decode cX0_remove 34 = .ok (.iload_n 1, 1) := by decide +kernel
theorem dX0_remove_35 : decode cX0_remove 35 = .ok (.iload_n 3, 1) := by decide +kernel
theorem dX0_remove_36 : decode cX0_remove 36 = .ok (.invokestatic 35, 3) := by decide +kernel
theorem dX0_remove_39 : decode cX0_remove 39 = .ok (.aload_n 0, 1) := by decide +kernel
theorem dX0_remove_40 : decode cX0_remove 40 = .ok (.getfield 15, 3) := by decide +kernel
theorem dX0_remove_43 : decode cX0_remove 43 = .ok (.iload_n 2, 1) := by decide +kernel
theorem dX0_remove_44 : decode cX0_remove 44 = .ok (.aload_n 0, 1) := by decide +kernel
theorem dX0_remove_45 : decode cX0_remove 45 = .ok (.getfield 15, 3) := by decide +kernel
theorem dX0_remove_48 : decode cX0_remove 48 = .ok (.iload_n 1, 1) := by decide +kernel
theorem dX0_remove_49 : decode cX0_remove 49 = .ok (.iload_n 3, 1) := by decide +kernel
theorem dX0_remove_50 : decode cX0_remove 50 = .ok (.invokestatic 35, 3) := by decide +kernel
theorem dX0_remove_53 : decode cX0_remove 53 = .ok (.aload_n 0, 1) := by decide +kernel
theorem dX0_remove_54 : decode cX0_remove 54 = .ok (.getfield 18, 3) := by decide +kernel
theorem dX0_remove_57 : decode cX0_remove 57 = .ok (.iload_n 2, 1) := by decide +kernel
theorem dX0_remove_58 : decode cX0_remove 58 = .ok (.aload_n 0, 1) := by decide +kernel
theorem dX0_remove_59 : decode cX0_remove 59 = .ok (.getfield 18, 3) := by decide +kernel
theorem dX0_remove_62 : decode cX0_remove 62 = .ok (.iload_n 1, 1) := by decide +kernel
theorem dX0_remove_63 : decode cX0_remove 63 = .ok (.iload_n 3, 1) := by decide +kernel
theorem dX0_remove_64 : decode cX0_remove 64 = .ok (.invokestatic 35, 3) := by decide +kernel
theorem dX0_remove_67 : decode cX0_remove 67 = .ok (.aload_n 0, 1) := by decide +kernel
theorem dX0_remove_68 : decode cX0_remove 68 = .ok (.getfield 21, 3) := by decide +kernel
theorem dX0_remove_71 : decode cX0_remove 71 = .ok (.iload_n 2, 1) := by decide +kernel
theorem dX0_remove_72 : decode cX0_remove 72 = .ok (.aload_n 0, 1) := by decide +kernel
theorem dX0_remove_73 : decode cX0_remove 73 = .ok (.getfield 21, 3) := by decide +kernel
theorem dX0_remove_76 : decode cX0_remove 76 = .ok (.iload_n 1, 1) := by decide +kernel
theorem dX0_remove_77 : decode cX0_remove 77 = .ok (.iload_n 3, 1) := by decide +kernel
theorem dX0_remove_78 : decode cX0_remove 78 = .ok (.invokestatic 35, 3) := by decide +kernel
theorem dX0_remove_81 : decode cX0_remove 81 = .ok (.aload_n 0, 1) := by decide +kernel
theorem dX0_remove_82 : decode cX0_remove 82 = .ok (.getfield 24, 3) := by decide +kernel
theorem dX0_remove_85 : decode cX0_remove 85 = .ok (.iload_n 2, 1) := by decide +kernel
theorem dX0_remove_86 : decode cX0_remove 86 = .ok (.aload_n 0, 1) := by decide +kernel
theorem dX0_remove_87 : decode cX0_remove 87 = .ok (.getfield 24, 3) := by decide +kernel
theorem dX0_remove_90 : decode cX0_remove 90 = .ok (.iload_n 1, 1) := by decide +kernel
theorem dX0_remove_91 : decode cX0_remove 91 = .ok (.iload_n 3, 1) := by decide +kernel
theorem dX0_remove_92 : decode cX0_remove 92 = .ok (.invokestatic 35, 3) := by decide +kernel
theorem dX0_remove_95 : decode cX0_remove 95 = .ok (.aload_n 0, 1) := by decide +kernel
theorem dX0_remove_96 : decode cX0_remove 96 = .ok (.iload_n 1, 1) := by decide +kernel
theorem dX0_remove_97 : decode cX0_remove 97 = .ok (.iload_n 3, 1) := by decide +kernel
theorem dX0_remove_98 : decode cX0_remove 98 = .ok (.iadd, 1) := by decide +kernel
theorem dX0_remove_99 : decode cX0_remove 99 = .ok (.putfield 27, 3) := by decide +kernel
theorem dX0_remove_102 : decode cX0_remove 102 = .ok (.return_, 1) := by decide +kernel
theorem dX0_pages_0 : decode cX0_pages 0 = .ok (.aload_n 0, 1) := by decide +kernel
theorem dX0_pages_1 : decode cX0_pages 1 = .ok (.getfield 27, 3) := by decide +kernel
theorem dX0_pages_4 : decode cX0_pages 4 = .ok (.iconst 4, 1) := by decide +kernel
theorem dX0_pages_5 : decode cX0_pages 5 = .ok (.iadd, 1) := by decide +kernel
theorem dX0_pages_6 : decode cX0_pages 6 = .ok (.iconst 1, 1) := by decide +kernel
theorem dX0_pages_7 : decode cX0_pages 7 = .ok (.isub, 1) := by decide +kernel
theorem dX0_pages_8 : decode cX0_pages 8 = .ok (.iconst 4, 1) := by decide +kernel
theorem dX0_pages_9 : decode cX0_pages 9 = .ok (.idiv, 1) := by decide +kernel
theorem dX0_pages_10 : decode cX0_pages 10 = .ok (.ireturn, 1) := by decide +kernel
theorem dX0_hasPage_0 : decode cX0_hasPage 0 = .ok (.iload_n 1, 1) := by decide +kernel
theorem dX0_hasPage_1 : decode cX0_hasPage 1 = .ok (.ifCond .lt 15, 3) := by decide +kernel
theorem dX0_hasPage_4 : decode cX0_hasPage 4 = .ok (.iload_n 1, 1) := by decide +kernel
theorem dX0_hasPage_5 : decode cX0_hasPage 5 = .ok (.aload_n 0, 1) := by decide +kernel
theorem dX0_hasPage_6 : decode cX0_hasPage 6 = .ok (.invokevirtual 41, 3) := by decide +kernel
theorem dX0_hasPage_9 : decode cX0_hasPage 9 = .ok (.if_icmp .ge 7, 3) := by decide +kernel
theorem dX0_hasPage_12 : decode cX0_hasPage 12 = .ok (.iconst 1, 1) := by decide +kernel
theorem dX0_hasPage_13 : decode cX0_hasPage 13 = .ok (.goto 4, 3) := by decide +kernel
theorem dX0_hasPage_16 : decode cX0_hasPage 16 = .ok (.iconst 0, 1) := by decide +kernel
theorem dX0_hasPage_17 : decode cX0_hasPage 17 = .ok (.ireturn, 1) := by decide +kernel
theorem dX0_startOf_0 : decode cX0_startOf 0 = .ok (.iconst 4, 1) := by decide +kernel
theorem dX0_startOf_1 : decode cX0_startOf 1 = .ok (.iload_n 1, 1) := by decide +kernel
theorem dX0_startOf_2 : decode cX0_startOf 2 = .ok (.imul, 1) := by decide +kernel
theorem dX0_startOf_3 : decode cX0_startOf 3 = .ok (.ireturn, 1) := by decide +kernel
theorem dX0_endOf_0 : decode cX0_endOf 0 = .ok (.aload_n 0, 1) := by decide +kernel
theorem dX0_endOf_1 : decode cX0_endOf 1 = .ok (.getfield 27, 3) := by decide +kernel
theorem dX0_endOf_4 : decode cX0_endOf 4 = .ok (.iconst 4, 1) := by decide +kernel
theorem dX0_endOf_5 : decode cX0_endOf 5 = .ok (.iload_n 1, 1) := by decide +kernel
theorem dX0_endOf_6 : decode cX0_endOf 6 = .ok (.imul, 1) := by decide +kernel
theorem dX0_endOf_7 : decode cX0_endOf 7 = .ok (.iconst 4, 1) := by decide +kernel
theorem dX0_endOf_8 : decode cX0_endOf 8 = .ok (.iadd, 1) := by decide +kernel
theorem dX0_endOf_9 : decode cX0_endOf 9 = .ok (.invokestatic 45, 3) := by decide +kernel
theorem dX0_endOf_12 : decode cX0_endOf 12 = .ok (.ireturn, 1) := by decide +kernel
theorem dX0_paidForPage_0 : decode cX0_paidForPage 0 = .ok (.iconst 0, 1) := by decide +kernel
theorem dX0_paidForPage_1 : decode cX0_paidForPage 1 = .ok (.istore_n 2, 1) := by decide +kernel
theorem dX0_paidForPage_2 : decode cX0_paidForPage 2 = .ok (.aload_n 0, 1) := by decide +kernel
theorem dX0_paidForPage_3 : decode cX0_paidForPage 3 = .ok (.iload_n 1, 1) := by decide +kernel
theorem dX0_paidForPage_4 : decode cX0_paidForPage 4 = .ok (.invokevirtual 50, 3) := by decide +kernel
theorem dX0_paidForPage_7 : decode cX0_paidForPage 7 = .ok (.istore_n 3, 1) := by decide +kernel
theorem dX0_paidForPage_8 : decode cX0_paidForPage 8 = .ok (.iload_n 3, 1) := by decide +kernel
theorem dX0_paidForPage_9 : decode cX0_paidForPage 9 = .ok (.aload_n 0, 1) := by decide +kernel
theorem dX0_paidForPage_10 : decode cX0_paidForPage 10 = .ok (.iload_n 1, 1) := by decide +kernel
theorem dX0_paidForPage_11 : decode cX0_paidForPage 11 = .ok (.invokevirtual 54, 3) := by decide +kernel
theorem dX0_paidForPage_14 : decode cX0_paidForPage 14 = .ok (.if_icmp .ge 18, 3) := by decide +kernel
theorem dX0_paidForPage_17 : decode cX0_paidForPage 17 = .ok (.iload_n 2, 1) := by decide +kernel
theorem dX0_paidForPage_18 : decode cX0_paidForPage 18 = .ok (.aload_n 0, 1) := by decide +kernel
theorem dX0_paidForPage_19 : decode cX0_paidForPage 19 = .ok (.getfield 24, 3) := by decide +kernel
theorem dX0_paidForPage_22 : decode cX0_paidForPage 22 = .ok (.iload_n 3, 1) := by decide +kernel
theorem dX0_paidForPage_23 : decode cX0_paidForPage 23 = .ok (.iaload, 1) := by decide +kernel
theorem dX0_paidForPage_24 : decode cX0_paidForPage 24 = .ok (.iadd, 1) := by decide +kernel
theorem dX0_paidForPage_25 : decode cX0_paidForPage 25 = .ok (.istore_n 2, 1) := by decide +kernel
theorem dX0_paidForPage_26 : decode cX0_paidForPage 26 = .ok (.iinc 3 1, 3) := by decide +kernel
theorem dX0_paidForPage_29 : decode cX0_paidForPage 29 = .ok (.goto (-21), 3) := by decide +kernel
theorem dX0_paidForPage_32 : decode cX0_paidForPage 32 = .ok (.iload_n 2, 1) := by decide +kernel
theorem dX0_paidForPage_33 : decode cX0_paidForPage 33 = .ok (.ireturn, 1) := by decide +kernel
theorem dX0_copies_0 : decode cX0_copies 0 = .ok (.iconst 0, 1) := by decide +kernel
theorem dX0_copies_1 : decode cX0_copies 1 = .ok (.istore_n 1, 1) := by decide +kernel
theorem dX0_copies_2 : decode cX0_copies 2 = .ok (.iconst 0, 1) := by decide +kernel
theorem dX0_copies_3 : decode cX0_copies 3 = .ok (.istore_n 2, 1) := by decide +kernel
theorem dX0_copies_4 : decode cX0_copies 4 = .ok (.iload_n 2, 1) := by decide +kernel
theorem dX0_copies_5 : decode cX0_copies 5 = .ok (.aload_n 0, 1) := by decide +kernel
theorem dX0_copies_6 : decode cX0_copies 6 = .ok (.getfield 27, 3) := by decide +kernel
theorem dX0_copies_9 : decode cX0_copies 9 = .ok (.if_icmp .ge 18, 3) := by decide +kernel
theorem dX0_copies_12 : decode cX0_copies 12 = .ok (.iload_n 1, 1) := by decide +kernel
theorem dX0_copies_13 : decode cX0_copies 13 = .ok (.aload_n 0, 1) := by decide +kernel
theorem dX0_copies_14 : decode cX0_copies 14 = .ok (.getfield 21, 3) := by decide +kernel
theorem dX0_copies_17 : decode cX0_copies 17 = .ok (.iload_n 2, 1) := by decide +kernel
theorem dX0_copies_18 : decode cX0_copies 18 = .ok (.iaload, 1) := by decide +kernel
theorem dX0_copies_19 : decode cX0_copies 19 = .ok (.iadd, 1) := by decide +kernel
theorem dX0_copies_20 : decode cX0_copies 20 = .ok (.istore_n 1, 1) := by decide +kernel
theorem dX0_copies_21 : decode cX0_copies 21 = .ok (.iinc 2 1, 3) := by decide +kernel
theorem dX0_copies_24 : decode cX0_copies 24 = .ok (.goto (-20), 3) := by decide +kernel
theorem dX0_copies_27 : decode cX0_copies 27 = .ok (.iload_n 1, 1) := by decide +kernel
theorem dX0_copies_28 : decode cX0_copies 28 = .ok (.ireturn, 1) := by decide +kernel
theorem dX0_latestDay_0 : decode cX0_latestDay 0 = .ok (.iconst 0, 1) := by decide +kernel
theorem dX0_latestDay_1 : decode cX0_latestDay 1 = .ok (.istore_n 1, 1) := by decide +kernel
theorem dX0_latestDay_2 : decode cX0_latestDay 2 = .ok (.iconst 0, 1) := by decide +kernel
theorem dX0_latestDay_3 : decode cX0_latestDay 3 = .ok (.istore_n 2, 1) := by decide +kernel
theorem dX0_latestDay_4 : decode cX0_latestDay 4 = .ok (.iload_n 2, 1) := by decide +kernel
theorem dX0_latestDay_5 : decode cX0_latestDay 5 = .ok (.aload_n 0, 1) := by decide +kernel
theorem dX0_latestDay_6 : decode cX0_latestDay 6 = .ok (.getfield 27, 3) := by decide +kernel
theorem dX0_latestDay_9 : decode cX0_latestDay 9 = .ok (.if_icmp .ge 20, 3) := by decide +kernel
theorem dX0_latestDay_12 : decode cX0_latestDay 12 = .ok (.iload_n 1, 1) := by decide +kernel
theorem dX0_latestDay_13 : decode cX0_latestDay 13 = .ok (.aload_n 0, 1) := by decide +kernel
theorem dX0_latestDay_14 : decode cX0_latestDay 14 = .ok (.getfield 15, 3) := by decide +kernel
theorem dX0_latestDay_17 : decode cX0_latestDay 17 = .ok (.iload_n 2, 1) := by decide +kernel
theorem dX0_latestDay_18 : decode cX0_latestDay 18 = .ok (.iaload, 1) := by decide +kernel
theorem dX0_latestDay_19 : decode cX0_latestDay 19 = .ok (.invokestatic 57, 3) := by decide +kernel
theorem dX0_latestDay_22 : decode cX0_latestDay 22 = .ok (.istore_n 1, 1) := by decide +kernel
theorem dX0_latestDay_23 : decode cX0_latestDay 23 = .ok (.iinc 2 1, 3) := by decide +kernel
theorem dX0_latestDay_26 : decode cX0_latestDay 26 = .ok (.goto (-22), 3) := by decide +kernel
theorem dX0_latestDay_29 : decode cX0_latestDay 29 = .ok (.iload_n 1, 1) := by decide +kernel
theorem dX0_latestDay_30 : decode cX0_latestDay 30 = .ok (.ireturn, 1) := by decide +kernel
theorem dX0_placeOfBestSeller_0 : decode cX0_placeOfBestSeller 0 = .ok (.aload_n 0, 1) := by decide +kernel
theorem dX0_placeOfBestSeller_1 : decode cX0_placeOfBestSeller 1 = .ok (.getfield 27, 3) := by decide +kernel
theorem dX0_placeOfBestSeller_4 : decode cX0_placeOfBestSeller 4 = .ok (.ifCond .ne 7, 3) := by decide +kernel
theorem dX0_placeOfBestSeller_7 : decode cX0_placeOfBestSeller 7 = .ok (.iconst (-1), 1) := by decide +kernel
theorem dX0_placeOfBestSeller_8 : decode cX0_placeOfBestSeller 8 = .ok (.goto 4, 3) := by decide +kernel
theorem dX0_placeOfBestSeller_11 : decode cX0_placeOfBestSeller 11 = .ok (.iconst 0, 1) := by decide +kernel
theorem dX0_placeOfBestSeller_12 : decode cX0_placeOfBestSeller 12 = .ok (.istore_n 1, 1) := by decide +kernel
theorem dX0_placeOfBestSeller_13 : decode cX0_placeOfBestSeller 13 = .ok (.iconst 1, 1) := by decide +kernel
theorem dX0_placeOfBestSeller_14 : decode cX0_placeOfBestSeller 14 = .ok (.istore_n 2, 1) := by decide +kernel
theorem dX0_placeOfBestSeller_15 : decode cX0_placeOfBestSeller 15 = .ok (.iload_n 2, 1) := by decide +kernel
theorem dX0_placeOfBestSeller_16 : decode cX0_placeOfBestSeller 16 = .ok (.aload_n 0, 1) := by decide +kernel
theorem dX0_placeOfBestSeller_17 : decode cX0_placeOfBestSeller 17 = .ok (.getfield 27, 3) := by decide +kernel
theorem dX0_placeOfBestSeller_20 : decode cX0_placeOfBestSeller 20 = .ok (.if_icmp .ge 26, 3) := by decide +kernel
theorem dX0_placeOfBestSeller_23 : decode cX0_placeOfBestSeller 23 = .ok (.aload_n 0, 1) := by decide +kernel
theorem dX0_placeOfBestSeller_24 : decode cX0_placeOfBestSeller 24 = .ok (.getfield 21, 3) := by decide +kernel
theorem dX0_placeOfBestSeller_27 : decode cX0_placeOfBestSeller 27 = .ok (.iload_n 2, 1) := by decide +kernel
theorem dX0_placeOfBestSeller_28 : decode cX0_placeOfBestSeller 28 = .ok (.iaload, 1) := by decide +kernel
theorem dX0_placeOfBestSeller_29 : decode cX0_placeOfBestSeller 29 = .ok (.aload_n 0, 1) := by decide +kernel
theorem dX0_placeOfBestSeller_30 : decode cX0_placeOfBestSeller 30 = .ok (.getfield 21, 3) := by decide +kernel
theorem dX0_placeOfBestSeller_33 : decode cX0_placeOfBestSeller 33 = .ok (.iload_n 1, 1) := by decide +kernel
theorem dX0_placeOfBestSeller_34 : decode cX0_placeOfBestSeller 34 = .ok (.iaload, 1) := by decide +kernel
theorem dX0_placeOfBestSeller_35 : decode cX0_placeOfBestSeller 35 = .ok (.if_icmp .le 5, 3) := by decide +kernel
theorem dX0_placeOfBestSeller_38 : decode cX0_placeOfBestSeller 38 = .ok (.iload_n 2, 1) := by decide +kernel
theorem dX0_placeOfBestSeller_39 : decode cX0_placeOfBestSeller 39 = .ok (.istore_n 1, 1) := by decide +kernel
theorem dX0_placeOfBestSeller_40 : decode cX0_placeOfBestSeller 40 = .ok (.iinc 2 1, 3) := by decide +kernel
theorem dX0_placeOfBestSeller_43 : decode cX0_placeOfBestSeller 43 = .ok (.goto (-28), 3) := by decide +kernel
theorem dX0_placeOfBestSeller_46 : decode cX0_placeOfBestSeller 46 = .ok (.iload_n 1, 1) := by decide +kernel
theorem dX0_placeOfBestSeller_47 : decode cX0_placeOfBestSeller 47 = .ok (.ireturn, 1) := by decide +kernel
theorem dX0_errors_0 : decode cX0_errors 0 = .ok (.iconst 0, 1) := by decide +kernel
theorem dX0_errors_1 : decode cX0_errors 1 = .ok (.istore_n 1, 1) := by decide +kernel
theorem dX0_errors_2 : decode cX0_errors 2 = .ok (.iconst 0, 1) := by decide +kernel
theorem dX0_errors_3 : decode cX0_errors 3 = .ok (.istore_n 2, 1) := by decide +kernel
theorem dX0_errors_4 : decode cX0_errors 4 = .ok (.iload_n 2, 1) := by decide +kernel
theorem dX0_errors_5 : decode cX0_errors 5 = .ok (.aload_n 0, 1) := by decide +kernel
theorem dX0_errors_6 : decode cX0_errors 6 = .ok (.getfield 27, 3) := by decide +kernel
theorem dX0_errors_9 : decode cX0_errors 9 = .ok (.if_icmp .ge 32, 3) := by decide +kernel
theorem dX0_errors_12 : decode cX0_errors 12 = .ok (.aload_n 0, 1) := by decide +kernel
theorem dX0_errors_13 : decode cX0_errors 13 = .ok (.aload_n 0, 1) := by decide +kernel
theorem dX0_errors_14 : decode cX0_errors 14 = .ok (.getfield 9, 3) := by decide +kernel
theorem dX0_errors_17 : decode cX0_errors 17 = .ok (.iload_n 2, 1) := by decide +kernel
theorem dX0_errors_18 : decode cX0_errors 18 = .ok (.iaload, 1) := by decide +kernel
theorem dX0_errors_19 : decode cX0_errors 19 = .ok (.aload_n 0, 1) := by decide +kernel
theorem dX0_errors_20 : decode cX0_errors 20 = .ok (.getfield 15, 3) := by decide +kernel
theorem dX0_errors_23 : decode cX0_errors 23 = .ok (.iload_n 2, 1) := by decide +kernel
theorem dX0_errors_24 : decode cX0_errors 24 = .ok (.iaload, 1) := by decide +kernel
theorem dX0_errors_25 : decode cX0_errors 25 = .ok (.invokevirtual 60, 3) := by decide +kernel
theorem dX0_errors_28 : decode cX0_errors 28 = .ok (.iload_n 2, 1) := by decide +kernel
theorem dX0_errors_29 : decode cX0_errors 29 = .ok (.if_icmp .eq 6, 3) := by decide +kernel
theorem dX0_errors_32 : decode cX0_errors 32 = .ok (.iinc 1 1, 3) := by decide +kernel
theorem dX0_errors_35 : decode cX0_errors 35 = .ok (.iinc 2 1, 3) := by decide +kernel
theorem dX0_errors_38 : decode cX0_errors 38 = .ok (.goto (-34), 3) := by decide +kernel
theorem dX0_errors_41 : decode cX0_errors 41 = .ok (.iload_n 1, 1) := by decide +kernel
theorem dX0_errors_42 : decode cX0_errors 42 = .ok (.ireturn, 1) := by decide +kernel
theorem dX0_takeFrom_0 : decode cX0_takeFrom 0 = .ok (.aload_n 1, 1) := by decide +kernel
theorem dX0_takeFrom_1 : decode cX0_takeFrom 1 = .ok (.getfield 9, 3) := by decide +kernel
theorem dX0_takeFrom_4 : decode cX0_takeFrom 4 = .ok (.iconst 0, 1) := by decide +kernel
theorem dX0_takeFrom_5 : decode cX0_takeFrom 5 = .ok (.aload_n 0, 1) := by decide +kernel
theorem dX0_takeFrom_6 : decode cX0_takeFrom 6 = .ok (.getfield 9, 3) := by decide +kernel
theorem dX0_takeFrom_9 : decode cX0_takeFrom 9 = .ok (.iconst 0, 1) := by decide +kernel
theorem dX0_takeFrom_10 : decode cX0_takeFrom 10 = .ok (.bipush 30, 2) := by decide +kernel
theorem dX0_takeFrom_12 : decode cX0_takeFrom 12 = .ok (.invokestatic 35, 3) := by decide +kernel
theorem dX0_takeFrom_15 : decode cX0_takeFrom 15 = .ok (.aload_n 1, 1) := by decide +kernel
theorem dX0_takeFrom_16 : decode cX0_takeFrom 16 = .ok (.getfield 15, 3) := by decide +kernel
theorem dX0_takeFrom_19 : decode cX0_takeFrom 19 = .ok (.iconst 0, 1) := by decide +kernel
theorem dX0_takeFrom_20 : decode cX0_takeFrom 20 = .ok (.aload_n 0, 1) := by decide +kernel
theorem dX0_takeFrom_21 : decode cX0_takeFrom 21 = .ok (.getfield 15, 3) := by decide +kernel
theorem dX0_takeFrom_24 : decode cX0_takeFrom 24 = .ok (.iconst 0, 1) := by decide +kernel
theorem dX0_takeFrom_25 : decode cX0_takeFrom 25 = .ok (.bipush 30, 2) := by decide +kernel
theorem dX0_takeFrom_27 : decode cX0_takeFrom 27 = .ok (.invokestatic 35, 3) := by decide +kernel
theorem dX0_takeFrom_30 : decode cX0_takeFrom 30 = .ok (.aload_n 1, 1) := by decide +kernel
theorem dX0_takeFrom_31 : decode cX0_takeFrom 31 = .ok (.getfield 18, 3) := by decide +kernel
theorem dX0_takeFrom_34 : decode cX0_takeFrom 34 = .ok (.iconst 0, 1) := by decide +kernel
theorem dX0_takeFrom_35 : decode cX0_takeFrom 35 = .ok (.aload_n 0, 1) := by decide +kernel
theorem dX0_takeFrom_36 : decode cX0_takeFrom 36 = .ok (.getfield 18, 3) := by decide +kernel
theorem dX0_takeFrom_39 : decode cX0_takeFrom 39 = .ok (.iconst 0, 1) := by decide +kernel
theorem dX0_takeFrom_40 : decode cX0_takeFrom 40 = .ok (.bipush 30, 2) := by decide +kernel
theorem dX0_takeFrom_42 : decode cX0_takeFrom 42 = .ok (.invokestatic 35, 3) := by decide +kernel
theorem dX0_takeFrom_45 : decode cX0_takeFrom 45 = .ok (.aload_n 1, 1) := by decide +kernel
theorem dX0_takeFrom_46 : decode cX0_takeFrom 46 = .ok (.getfield 21, 3) := by decide +kernel
theorem dX0_takeFrom_49 : decode cX0_takeFrom 49 = .ok (.iconst 0, 1) := by decide +kernel
theorem dX0_takeFrom_50 : decode cX0_takeFrom 50 = .ok (.aload_n 0, 1) := by decide +kernel
theorem dX0_takeFrom_51 : decode cX0_takeFrom 51 = .ok (.getfield 21, 3) := by decide +kernel
theorem dX0_takeFrom_54 : decode cX0_takeFrom 54 = .ok (.iconst 0, 1) := by decide +kernel
theorem dX0_takeFrom_55 : decode cX0_takeFrom 55 = .ok (.bipush 30, 2) := by decide +kernel
theorem dX0_takeFrom_57 : decode cX0_takeFrom 57 = .ok (.invokestatic 35, 3) := by decide +kernel
theorem dX0_takeFrom_60 : decode cX0_takeFrom 60 = .ok (.aload_n 1, 1) := by decide +kernel
theorem dX0_takeFrom_61 : decode cX0_takeFrom 61 = .ok (.getfield 24, 3) := by decide +kernel
theorem dX0_takeFrom_64 : decode cX0_takeFrom 64 = .ok (.iconst 0, 1) := by decide +kernel
theorem dX0_takeFrom_65 : decode cX0_takeFrom 65 = .ok (.aload_n 0, 1) := by decide +kernel
theorem dX0_takeFrom_66 : decode cX0_takeFrom 66 = .ok (.getfield 24, 3) := by decide +kernel
theorem dX0_takeFrom_69 : decode cX0_takeFrom 69 = .ok (.iconst 0, 1) := by decide +kernel
theorem dX0_takeFrom_70 : decode cX0_takeFrom 70 = .ok (.bipush 30, 2) := by decide +kernel
theorem dX0_takeFrom_72 : decode cX0_takeFrom 72 = .ok (.invokestatic 35, 3) := by decide +kernel
theorem dX0_takeFrom_75 : decode cX0_takeFrom 75 = .ok (.aload_n 0, 1) := by decide +kernel
theorem dX0_takeFrom_76 : decode cX0_takeFrom 76 = .ok (.aload_n 1, 1) := by decide +kernel
theorem dX0_takeFrom_77 : decode cX0_takeFrom 77 = .ok (.getfield 27, 3) := by decide +kernel
theorem dX0_takeFrom_80 : decode cX0_takeFrom 80 = .ok (.putfield 27, 3) := by decide +kernel
theorem dX0_takeFrom_83 : decode cX0_takeFrom 83 = .ok (.return_, 1) := by decide +kernel
theorem dX1_init_0 : decode cX1_init 0 = .ok (.aload_n 0, 1) := by decide +kernel
theorem dX1_init_1 : decode cX1_init 1 = .ok (.invokespecial 3, 3) := by decide +kernel
theorem dX1_init_4 : decode cX1_init 4 = .ok (.aload_n 0, 1) := by decide +kernel
theorem dX1_init_5 : decode cX1_init 5 = .ok (.sipush 600, 3) := by decide +kernel
theorem dX1_init_8 : decode cX1_init 8 = .ok (.newarray .byte, 2) := by decide +kernel
theorem dX1_init_10 : decode cX1_init 10 = .ok (.putfield 11, 3) := by decide +kernel
theorem dX1_init_13 : decode cX1_init 13 = .ok (.aload_n 0, 1) := by decide +kernel
theorem dX1_init_14 : decode cX1_init 14 = .ok (.iconst 0, 1) := by decide +kernel
theorem dX1_init_15 : decode cX1_init 15 = .ok (.putfield 15, 3) := by decide +kernel
theorem dX1_init_18 : decode cX1_init 18 = .ok (.return_, 1) := by decide +kernel
theorem dX1_hasRoomFor_0 : decode cX1_hasRoomFor 0 = .ok (.aload_n 0, 1) := by decide +kernel
theorem dX1_hasRoomFor_1 : decode cX1_hasRoomFor 1 = .ok (.getfield 15, 3) := by decide +kernel
theorem dX1_hasRoomFor_4 : decode cX1_hasRoomFor 4 = .ok (.iload_n 1, 1) := by decide +kernel
theorem dX1_hasRoomFor_5 : decode cX1_hasRoomFor 5 = .ok (.iadd, 1) := by decide +kernel
theorem dX1_hasRoomFor_6 : decode cX1_hasRoomFor 6 = .ok (.sipush 600, 3) := by decide +kernel
theorem dX1_hasRoomFor_9 : decode cX1_hasRoomFor 9 = .ok (.if_icmp .gt 7, 3) := by decide +kernel
theorem dX1_hasRoomFor_12 : decode cX1_hasRoomFor 12 = .ok (.iconst 1, 1) := by decide +kernel
theorem dX1_hasRoomFor_13 : decode cX1_hasRoomFor 13 = .ok (.goto 4, 3) := by decide +kernel
theorem dX1_hasRoomFor_16 : decode cX1_hasRoomFor 16 = .ok (.iconst 0, 1) := by decide +kernel
theorem dX1_hasRoomFor_17 : decode cX1_hasRoomFor 17 = .ok (.ireturn, 1) := by decide +kernel
theorem dX1_put_0 : decode cX1_put 0 = .ok (.aload_n 0, 1) := by decide +kernel
theorem dX1_put_1 : decode cX1_put 1 = .ok (.getfield 15, 3) := by decide +kernel
theorem dX1_put_4 : decode cX1_put 4 = .ok (.sipush 600, 3) := by decide +kernel
theorem dX1_put_7 : decode cX1_put 7 = .ok (.if_icmp .lt 4, 3) := by decide +kernel
theorem dX1_put_10 : decode cX1_put 10 = .ok (.return_, 1) := by decide +kernel
theorem dX1_put_11 : decode cX1_put 11 = .ok (.aload_n 0, 1) := by decide +kernel
theorem dX1_put_12 : decode cX1_put 12 = .ok (.getfield 11, 3) := by decide +kernel
theorem dX1_put_15 : decode cX1_put 15 = .ok (.aload_n 0, 1) := by decide +kernel
theorem dX1_put_16 : decode cX1_put 16 = .ok (.getfield 15, 3) := by decide +kernel
theorem dX1_put_19 : decode cX1_put 19 = .ok (.iload_n 1, 1) := by decide +kernel
theorem dX1_put_20 : decode cX1_put 20 = .ok (.i2b, 1) := by decide +kernel
theorem dX1_put_21 : decode cX1_put 21 = .ok (.bastore, 1) := by decide +kernel
theorem dX1_put_22 : decode cX1_put 22 = .ok (.aload_n 0, 1) := by decide +kernel
theorem dX1_put_23 : decode cX1_put 23 = .ok (.dup, 1) := by decide +kernel
theorem dX1_put_24 : decode cX1_put 24 = .ok (.getfield 15, 3) := by decide +kernel
theorem dX1_put_27 : decode cX1_put 27 = .ok (.iconst 1, 1) := by decide +kernel
theorem dX1_put_28 : decode cX1_put 28 = .ok (.iadd, 1) := by decide +kernel
theorem dX1_put_29 : decode cX1_put 29 = .ok (.putfield 15, 3) := by decide +kernel
theorem dX1_put_32 : decode cX1_put 32 = .ok (.return_, 1) := by decide +kernel
theorem dX1_putFour_0 : decode cX1_putFour 0 = .ok (.bipush 24, 2) := by decide +kernel
theorem dX1_putFour_2 : decode cX1_putFour 2 = .ok (.istore_n 2, 1) := by decide +kernel
theorem dX1_putFour_3 : decode cX1_putFour 3 = .ok (.iload_n 2, 1) := by decide +kernel
theorem dX1_putFour_4 : decode cX1_putFour 4 = .ok (.ifCond .lt 16, 3) := by decide +kernel
theorem dX1_putFour_7 : decode cX1_putFour 7 = .ok (.aload_n 0, 1) := by decide +kernel
theorem dX1_putFour_8 : decode cX1_putFour 8 = .ok (.iload_n 1, 1) := by decide +kernel
theorem dX1_putFour_9 : decode cX1_putFour 9 = .ok (.iload_n 2, 1) := by decide +kernel
theorem dX1_putFour_10 : decode cX1_putFour 10 = .ok (.iushr, 1) := by decide +kernel
theorem dX1_putFour_11 : decode cX1_putFour 11 = .ok (.invokevirtual 19, 3) := by decide +kernel
theorem dX1_putFour_14 : decode cX1_putFour 14 = .ok (.iinc 2 (-8), 3) := by decide +kernel
theorem dX1_putFour_17 : decode cX1_putFour 17 = .ok (.goto (-14), 3) := by decide +kernel
theorem dX1_putFour_20 : decode cX1_putFour 20 = .ok (.return_, 1) := by decide +kernel
theorem dX1_putText_0 : decode cX1_putText 0 = .ok (.iconst 0, 1) := by decide +kernel
theorem dX1_putText_1 : decode cX1_putText 1 = .ok (.istore_n 2, 1) := by decide +kernel
theorem dX1_putText_2 : decode cX1_putText 2 = .ok (.iload_n 2, 1) := by decide +kernel
theorem dX1_putText_3 : decode cX1_putText 3 = .ok (.aload_n 1, 1) := by decide +kernel
theorem dX1_putText_4 : decode cX1_putText 4 = .ok (.invokevirtual 23, 3) := by decide +kernel
theorem dX1_putText_7 : decode cX1_putText 7 = .ok (.if_icmp .ge 18, 3) := by decide +kernel
theorem dX1_putText_10 : decode cX1_putText 10 = .ok (.aload_n 0, 1) := by decide +kernel
theorem dX1_putText_11 : decode cX1_putText 11 = .ok (.aload_n 1, 1) := by decide +kernel
theorem dX1_putText_12 : decode cX1_putText 12 = .ok (.iload_n 2, 1) := by decide +kernel
theorem dX1_putText_13 : decode cX1_putText 13 = .ok (.invokevirtual 28, 3) := by decide +kernel
theorem dX1_putText_16 : decode cX1_putText 16 = .ok (.invokevirtual 19, 3) := by decide +kernel
theorem dX1_putText_19 : decode cX1_putText 19 = .ok (.iinc 2 1, 3) := by decide +kernel
theorem dX1_putText_22 : decode cX1_putText 22 = .ok (.goto (-20), 3) := by decide +kernel
theorem dX1_putText_25 : decode cX1_putText 25 = .ok (.return_, 1) := by decide +kernel
theorem dX1_putName_0 : decode cX1_putName 0 = .ok (.bipush 24, 2) := by decide +kernel
theorem dX1_putName_2 : decode cX1_putName 2 = .ok (.istore_n 2, 1) := by decide +kernel
theorem dX1_putName_3 : decode cX1_putName 3 = .ok (.iload_n 2, 1) := by decide +kernel
theorem dX1_putName_4 : decode cX1_putName 4 = .ok (.ifCond .lt 26, 3) := by decide +kernel
theorem dX1_putName_7 : decode cX1_putName 7 = .ok (.iload_n 1, 1) := by decide +kernel
theorem dX1_putName_8 : decode cX1_putName 8 = .ok (.iload_n 2, 1) := by decide +kernel
theorem dX1_putName_9 : decode cX1_putName 9 = .ok (.iushr, 1) := by decide +kernel
theorem dX1_putName_10 : decode cX1_putName 10 = .ok (.sipush 255, 3) := by decide +kernel
theorem dX1_putName_13 : decode cX1_putName 13 = .ok (.iand, 1) := by decide +kernel
theorem dX1_putName_14 : decode cX1_putName 14 = .ok (.istore_n 3, 1) := by decide +kernel
theorem dX1_putName_15 : decode cX1_putName 15 = .ok (.iload_n 3, 1) := by decide +kernel
theorem dX1_putName_16 : decode cX1_putName 16 = .ok (.ifCond .eq 8, 3) := by decide +kernel
theorem dX1_putName_19 : decode cX1_putName 19 = .ok (.aload_n 0, 1) := by decide +kernel
theorem dX1_putName_20 : decode cX1_putName 20 = .ok (.iload_n 3, 1) := by decide +kernel
theorem dX1_putName_21 : decode cX1_putName 21 = .ok (.invokevirtual 19, 3) := by decide +kernel
theorem dX1_putName_24 : decode cX1_putName 24 = .ok (.iinc 2 (-8), 3) := by decide +kernel
theorem dX1_putName_27 : decode cX1_putName 27 = .ok (.goto (-24), 3) := by decide +kernel
theorem dX1_putName_30 : decode cX1_putName 30 = .ok (.return_, 1) := by decide +kernel
theorem dX1_putDecimal_0 : decode cX1_putDecimal 0 = .ok (.ldc 32, 2) := by decide +kernel
theorem dX1_putDecimal_2 : decode cX1_putDecimal 2 = .ok (.istore_n 2, 1) := by decide +kernel
theorem dX1_putDecimal_3 : decode cX1_putDecimal 3 = .ok (.iload_n 2, 1) := by decide +kernel
theorem dX1_putDecimal_4 : decode cX1_putDecimal 4 = .ok (.iconst 1, 1) := by decide +kernel
theorem dX1_putDecimal_5 : decode cX1_putDecimal 5 = .ok (.if_icmp .lt 34, 3) := by decide +kernel
theorem dX1_putDecimal_8 : decode cX1_putDecimal 8 = .ok (.iload_n 1, 1) := by decide +kernel
theorem dX1_putDecimal_9 : decode cX1_putDecimal 9 = .ok (.iload_n 2, 1) := by decide +kernel
theorem dX1_putDecimal_10 : decode cX1_putDecimal 10 = .ok (.if_icmp .ge 8, 3) := by decide +kernel
theorem dX1_putDecimal_13 : decode cX1_putDecimal 13 = .ok (.iload_n 2, 1) := by decide +kernel
theorem dX1_putDecimal_14 : decode cX1_putDecimal 14 = .ok (.iconst 1, 1) := by decide +kernel
theorem dX1_putDecimal_15 : decode cX1_putDecimal 15 = .ok (.if_icmp .ne 16, 3) := by decide +kernel
theorem dX1_putDecimal_18 : decode cX1_putDecimal 18 = .ok (.aload_n 0, 1) := by decide +kernel
theorem dX1_putDecimal_19 : decode cX1_putDecimal 19 = .ok (.bipush 48, 2) := by decide +kernel
theorem dX1_putDecimal_21 : decode cX1_putDecimal 21 = .ok (.iload_n 1, 1) := by decide +kernel
theorem dX1_putDecimal_22 : decode cX1_putDecimal 22 = .ok (.iload_n 2, 1) := by decide +kernel
theorem dX1_putDecimal_23 : decode cX1_putDecimal 23 = .ok (.idiv, 1) := by decide +kernel
theorem dX1_putDecimal_24 : decode cX1_putDecimal 24 = .ok (.bipush 10, 2) := by decide +kernel
theorem dX1_putDecimal_26 : decode cX1_putDecimal 26 = .ok (.irem, 1) := by decide +kernel
theorem dX1_putDecimal_27 : decode cX1_putDecimal 27 = .ok (.iadd, 1) := by decide +kernel
theorem dX1_putDecimal_28 : decode cX1_putDecimal 28 = .ok (.invokevirtual 19, 3) := by decide +kernel
theorem dX1_putDecimal_31 : decode cX1_putDecimal 31 = .ok (.iload_n 2, 1) := by decide +kernel
theorem dX1_putDecimal_32 : decode cX1_putDecimal 32 = .ok (.bipush 10, 2) := by decide +kernel
theorem dX1_putDecimal_34 : decode cX1_putDecimal 34 = .ok (.idiv, 1) := by decide +kernel
theorem dX1_putDecimal_35 : decode cX1_putDecimal 35 = .ok (.istore_n 2, 1) := by decide +kernel
theorem dX1_putDecimal_36 : decode cX1_putDecimal 36 = .ok (.goto (-33), 3) := by decide +kernel
theorem dX1_putDecimal_39 : decode cX1_putDecimal 39 = .ok (.return_, 1) := by decide +kernel
theorem dX1_at_0 : decode cX1_at 0 = .ok (.iload_n 1, 1) := by decide +kernel
theorem dX1_at_1 : decode cX1_at 1 = .ok (.ifCond .lt 24, 3) := by decide +kernel
theorem dX1_at_4 : decode cX1_at 4 = .ok (.iload_n 1, 1) := by decide +kernel
theorem dX1_at_5 : decode cX1_at 5 = .ok (.aload_n 0, 1) := by decide +kernel
theorem dX1_at_6 : decode cX1_at 6 = .ok (.getfield 15, 3) := by decide +kernel
theorem dX1_at_9 : decode cX1_at 9 = .ok (.if_icmp .ge 16, 3) := by decide +kernel
theorem dX1_at_12 : decode cX1_at 12 = .ok (.aload_n 0, 1) := by decide +kernel
theorem dX1_at_13 : decode cX1_at 13 = .ok (.getfield 11, 3) := by decide +kernel
theorem dX1_at_16 : decode cX1_at 16 = .ok (.iload_n 1, 1) := by decide +kernel
theorem dX1_at_17 : decode cX1_at 17 = .ok (.baload, 1) := by decide +kernel
theorem dX1_at_18 : decode cX1_at 18 = .ok (.sipush 255, 3) := by decide +kernel
theorem dX1_at_21 : decode cX1_at 21 = .ok (.iand, 1) := by decide +kernel
theorem dX1_at_22 : decode cX1_at 22 = .ok (.goto 4, 3) := by decide +kernel
theorem dX1_at_25 : decode cX1_at 25 = .ok (.iconst (-1), 1) := by decide +kernel
theorem dX1_at_26 : decode cX1_at 26 = .ok (.ireturn, 1) := by decide +kernel
theorem dX1_nameBetween_0 : decode cX1_nameBetween 0 = .ok (.iload_n 2, 1) := by decide +kernel
theorem dX1_nameBetween_1 : decode cX1_nameBetween 1 = .ok (.iload_n 1, 1) := by decide +kernel
theorem dX1_nameBetween_2 : decode cX1_nameBetween 2 = .ok (.isub, 1) := by decide +kernel
theorem dX1_nameBetween_3 : decode cX1_nameBetween 3 = .ok (.iconst 4, 1) := by decide +kernel
theorem dX1_nameBetween_4 : decode cX1_nameBetween 4 = .ok (.if_icmp .le 5, 3) := by decide +kernel
theorem dX1_nameBetween_7 : decode cX1_nameBetween 7 = .ok (.iconst 0, 1) := by decide +kernel
theorem dX1_nameBetween_8 : decode cX1_nameBetween 8 = .ok (.ireturn, 1) := by decide +kernel
theorem dX1_nameBetween_9 : decode cX1_nameBetween 9 = .ok (.iconst 0, 1) := by decide +kernel
theorem dX1_nameBetween_10 : decode cX1_nameBetween 10 = .ok (.istore_n 3, 1) := by decide +kernel
theorem dX1_nameBetween_11 : decode cX1_nameBetween 11 = .ok (.iload_n 1, 1) := by decide +kernel
theorem dX1_nameBetween_12 : decode cX1_nameBetween 12 = .ok (.istore 4, 2) := by decide +kernel
theorem dX1_nameBetween_14 : decode cX1_nameBetween 14 = .ok (.iload 4, 2) := by decide +kernel
theorem dX1_nameBetween_16 : decode cX1_nameBetween 16 = .ok (.iload_n 2, 1) := by decide +kernel
theorem dX1_nameBetween_17 : decode cX1_nameBetween 17 = .ok (.if_icmp .ge 35, 3) := by decide +kernel
theorem dX1_nameBetween_20 : decode cX1_nameBetween 20 = .ok (.aload_n 0, 1) := by decide +kernel
theorem dX1_nameBetween_21 : decode cX1_nameBetween 21 = .ok (.iload 4, 2) := by decide +kernel
theorem dX1_nameBetween_23 : decode cX1_nameBetween 23 = .ok (.invokevirtual 33, 3) := by decide +kernel
theorem dX1_nameBetween_26 : decode cX1_nameBetween 26 = .ok (.istore 5, 2) := by decide +kernel
theorem dX1_nameBetween_28 : decode cX1_nameBetween 28 = .ok (.iload 5, 2) := by decide +kernel
theorem dX1_nameBetween_30 : decode cX1_nameBetween 30 = .ok (.invokestatic 37, 3) := by decide +kernel
theorem dX1_nameBetween_33 : decode cX1_nameBetween 33 = .ok (.ifCond .ne 5, 3) := by decide +kernel
theorem dX1_nameBetween_36 : decode cX1_nameBetween 36 = .ok (.iconst 0, 1) := by decide +kernel
theorem dX1_nameBetween_37 : decode cX1_nameBetween 37 = .ok (.ireturn, 1) := by decide +kernel
theorem dX1_nameBetween_38 : decode cX1_nameBetween 38 = .ok (.iload_n 3, 1) := by decide +kernel
theorem dX1_nameBetween_39 : decode cX1_nameBetween 39 = .ok (.bipush 8, 2) := by decide +kernel
theorem dX1_nameBetween_41 : decode cX1_nameBetween 41 = .ok (.ishl, 1) := by decide +kernel
theorem dX1_nameBetween_42 : decode cX1_nameBetween 42 = .ok (.iload 5, 2) := by decide +kernel
theorem dX1_nameBetween_44 : decode cX1_nameBetween 44 = .ok (.ior, 1) := by decide +kernel
theorem dX1_nameBetween_45 : decode cX1_nameBetween 45 = .ok (.istore_n 3, 1) := by decide +kernel
theorem dX1_nameBetween_46 : decode cX1_nameBetween 46 = .ok (.iinc 4 1, 3) := by decide +kernel
theorem dX1_nameBetween_49 : decode cX1_nameBetween 49 = .ok (.goto (-35), 3) := by decide +kernel
theorem dX1_nameBetween_52 : decode cX1_nameBetween 52 = .ok (.iload_n 3, 1) := by decide +kernel
theorem dX1_nameBetween_53 : decode cX1_nameBetween 53 = .ok (.ireturn, 1) := by decide +kernel
theorem dX2_init_0 : decode cX2_init 0 = .ok (.aload_n 0, 1) := by decide +kernel
theorem dX2_init_1 : decode cX2_init 1 = .ok (.invokespecial 3, 3) := by decide +kernel
theorem dX2_init_4 : decode cX2_init 4 = .ok (.aload_n 0, 1) := by decide +kernel
theorem dX2_init_5 : decode cX2_init 5 = .ok (.bipush 6, 2) := by decide +kernel
theorem dX2_init_7 : decode cX2_init 7 = .ok (.newarray .int, 2) := by decide +kernel
theorem dX2_init_9 : decode cX2_init 9 = .ok (.putfield 9, 3) := by decide +kernel
theorem dX2_init_12 : decode cX2_init 12 = .ok (.aload_n 0, 1) := by decide +kernel
theorem dX2_init_13 : decode cX2_init 13 = .ok (.bipush 6, 2) := by decide +kernel
theorem dX2_init_15 : decode cX2_init 15 = .ok (.newarray .int, 2) := by decide +kernel
theorem dX2_init_17 : decode cX2_init 17 = .ok (.putfield 15, 3) := by decide +kernel
theorem dX2_init_20 : decode cX2_init 20 = .ok (.aload_n 0, 1) := by decide +kernel
theorem dX2_init_21 : decode cX2_init 21 = .ok (.bipush 6, 2) := by decide +kernel
theorem dX2_init_23 : decode cX2_init 23 = .ok (.newarray .int, 2) := by decide +kernel
theorem dX2_init_25 : decode cX2_init 25 = .ok (.putfield 18, 3) := by decide +kernel
theorem dX2_init_28 : decode cX2_init 28 = .ok (.aload_n 0, 1) := by decide +kernel
theorem dX2_init_29 : decode cX2_init 29 = .ok (.bipush 6, 2) := by decide +kernel
theorem dX2_init_31 : decode cX2_init 31 = .ok (.newarray .int, 2) := by decide +kernel
theorem dX2_init_33 : decode cX2_init 33 = .ok (.putfield 21, 3) := by decide +kernel
theorem dX2_init_36 : decode cX2_init 36 = .ok (.aload_n 0, 1) := by decide +kernel
theorem dX2_init_37 : decode cX2_init 37 = .ok (.bipush 6, 2) := by decide +kernel
theorem dX2_init_39 : decode cX2_init 39 = .ok (.newarray .int, 2) := by decide +kernel
theorem dX2_init_41 : decode cX2_init 41 = .ok (.putfield 24, 3) := by decide +kernel
theorem dX2_init_44 : decode cX2_init 44 = .ok (.aload_n 0, 1) := by decide +kernel
theorem dX2_init_45 : decode cX2_init 45 = .ok (.iconst 0, 1) := by decide +kernel
theorem dX2_init_46 : decode cX2_init 46 = .ok (.putfield 27, 3) := by decide +kernel
theorem dX2_init_49 : decode cX2_init 49 = .ok (.return_, 1) := by decide +kernel
theorem dX2_has_0 : decode cX2_has 0 = .ok (.iload_n 1, 1) := by decide +kernel
theorem dX2_has_1 : decode cX2_has 1 = .ok (.ifCond .lt 15, 3) := by decide +kernel
theorem dX2_has_4 : decode cX2_has 4 = .ok (.iload_n 1, 1) := by decide +kernel
theorem dX2_has_5 : decode cX2_has 5 = .ok (.aload_n 0, 1) := by decide +kernel
theorem dX2_has_6 : decode cX2_has 6 = .ok (.getfield 27, 3) := by decide +kernel
theorem dX2_has_9 : decode cX2_has 9 = .ok (.if_icmp .ge 7, 3) := by decide +kernel
theorem dX2_has_12 : decode cX2_has 12 = .ok (.iconst 1, 1) := by decide +kernel
theorem dX2_has_13 : decode cX2_has 13 = .ok (.goto 4, 3) := by decide +kernel
theorem dX2_has_16 : decode cX2_has 16 = .ok (.iconst 0, 1) := by decide +kernel
theorem dX2_has_17 : decode cX2_has 17 = .ok (.ireturn, 1) := by decide +kernel
theorem dX2_numberOf_0 : decode cX2_numberOf 0 = .ok (.aload_n 0, 1) := by decide +kernel
theorem dX2_numberOf_1 : decode cX2_numberOf 1 = .ok (.getfield 9, 3) := by decide +kernel
theorem dX2_numberOf_4 : decode cX2_numberOf 4 = .ok (.aload_n 0, 1) := by decide +kernel
theorem dX2_numberOf_5 : decode cX2_numberOf 5 = .ok (.getfield 27, 3) := by decide +kernel
theorem dX2_numberOf_8 : decode cX2_numberOf 8 = .ok (.iload_n 1, 1) := by decide +kernel
theorem dX2_numberOf_9 : decode cX2_numberOf 9 = .ok (.invokestatic 31, 3) := by decide +kernel
theorem dX2_numberOf_12 : decode cX2_numberOf 12 = .ok (.ireturn, 1) := by decide +kernel
theorem dX2_add_0 : decode cX2_add 0 = .ok (.aload_n 0, 1) := by decide +kernel
theorem dX2_add_1 : decode cX2_add 1 = .ok (.getfield 27, 3) := by decide +kernel
theorem dX2_add_4 : decode cX2_add 4 = .ok (.bipush 6, 2) := by decide +kernel
theorem dX2_add_6 : decode cX2_add 6 = .ok (.if_icmp .lt 4, 3) := by decide +kernel
theorem dX2_add_9 : decode cX2_add 9 = .ok (.return_, 1) := by decide +kernel
theorem dX2_add_10 : decode cX2_add 10 = .ok (.aload_n 0, 1) := by decide +kernel
theorem dX2_add_11 : decode cX2_add 11 = .ok (.getfield 9, 3) := by decide +kernel
theorem dX2_add_14 : decode cX2_add 14 = .ok (.aload_n 0, 1) := by decide +kernel
theorem dX2_add_15 : decode cX2_add 15 = .ok (.getfield 27, 3) := by decide +kernel
theorem dX2_add_18 : decode cX2_add 18 = .ok (.iload_n 1, 1) := by decide +kernel
theorem dX2_add_19 : decode cX2_add 19 = .ok (.iastore, 1) := by decide +kernel
theorem dX2_add_20 : decode cX2_add 20 = .ok (.aload_n 0, 1) := by decide +kernel
theorem dX2_add_21 : decode cX2_add 21 = .ok (.getfield 15, 3) := by decide +kernel
theorem dX2_add_24 : decode cX2_add 24 = .ok (.aload_n 0, 1) := by decide +kernel
theorem dX2_add_25 : decode cX2_add 25 = .ok (.getfield 27, 3) := by decide +kernel
theorem dX2_add_28 : decode cX2_add 28 = .ok (.iload_n 2, 1) := by decide +kernel
theorem dX2_add_29 : decode cX2_add 29 = .ok (.iastore, 1) := by decide +kernel
theorem dX2_add_30 : decode cX2_add 30 = .ok (.aload_n 0, 1) := by decide +kernel
theorem dX2_add_31 : decode cX2_add 31 = .ok (.getfield 18, 3) := by decide +kernel
theorem dX2_add_34 : decode cX2_add 34 = .ok (.aload_n 0, 1) := by decide +kernel
theorem dX2_add_35 : decode cX2_add 35 = .ok (.getfield 27, 3) := by decide +kernel
theorem dX2_add_38 : decode cX2_add 38 = .ok (.iload_n 3, 1) := by decide +kernel
theorem dX2_add_39 : decode cX2_add 39 = .ok (.iastore, 1) := by decide +kernel
theorem dX2_add_40 : decode cX2_add 40 = .ok (.aload_n 0, 1) := by decide +kernel
theorem dX2_add_41 : decode cX2_add 41 = .ok (.getfield 21, 3) := by decide +kernel
theorem dX2_add_44 : decode cX2_add 44 = .ok (.aload_n 0, 1) := by decide +kernel
theorem dX2_add_45 : decode cX2_add 45 = .ok (.getfield 27, 3) := by decide +kernel
theorem dX2_add_48 : decode cX2_add 48 = .ok (.iload 4, 2) := by decide +kernel
theorem dX2_add_50 : decode cX2_add 50 = .ok (.iastore, 1) := by decide +kernel
theorem dX2_add_51 : decode cX2_add 51 = .ok (.aload_n 0, 1) := by decide +kernel
theorem dX2_add_52 : decode cX2_add 52 = .ok (.getfield 24, 3) := by decide +kernel
theorem dX2_add_55 : decode cX2_add 55 = .ok (.aload_n 0, 1) := by decide +kernel
theorem dX2_add_56 : decode cX2_add 56 = .ok (.getfield 27, 3) := by decide +kernel
theorem dX2_add_59 : decode cX2_add 59 = .ok (.iload 5, 2) := by decide +kernel
theorem dX2_add_61 : decode cX2_add 61 = .ok (.iastore, 1) := by decide +kernel
theorem dX2_add_62 : decode cX2_add 62 = .ok (.aload_n 0, 1) := by decide +kernel
theorem dX2_add_63 : decode cX2_add 63 = .ok (.dup, 1) := by decide +kernel
theorem dX2_add_64 : decode cX2_add 64 = .ok (.getfield 27, 3) := by decide +kernel
theorem dX2_add_67 : decode cX2_add 67 = .ok (.iconst 1, 1) := by decide +kernel
theorem dX2_add_68 : decode cX2_add 68 = .ok (.iadd, 1) := by decide +kernel
theorem dX2_add_69 : decode cX2_add 69 = .ok (.putfield 27, 3) := by decide +kernel
theorem dX2_add_72 : decode cX2_add 72 = .ok (.return_, 1) := by decide +kernel
theorem dX2_daysUntil_0 : decode cX2_daysUntil 0 = .ok (.aload_n 0, 1) := by decide +kernel
theorem dX2_daysUntil_1 : decode cX2_daysUntil 1 = .ok (.getfield 18, 3) := by decide +kernel
theorem dX2_daysUntil_4 : decode cX2_daysUntil 4 = .ok (.iload_n 1, 1) := by decide +kernel
theorem dX2_daysUntil_5 : decode cX2_daysUntil 5 = .ok (.iaload, 1) := by decide +kernel
theorem dX2_daysUntil_6 : decode cX2_daysUntil 6 = .ok (.istore_n 3, 1) := by decide +kernel
theorem dX2_daysUntil_7 : decode cX2_daysUntil 7 = .ok (.iload_n 3, 1) := by decide +kernel
theorem dX2_daysUntil_8 : decode cX2_daysUntil 8 = .ok (.iconst 1, 1) := by decide +kernel
theorem dX2_daysUntil_9 : decode cX2_daysUntil 9 = .ok (.if_icmp .ge 7, 3) := by decide +kernel
theorem dX2_daysUntil_12 : decode cX2_daysUntil 12 = .ok (.iconst (-1), 1) := by decide +kernel
theorem dX2_daysUntil_13 : decode cX2_daysUntil 13 = .ok (.goto 10, 3) := by decide +kernel
theorem dX2_daysUntil_16 : decode cX2_daysUntil 16 = .ok (.iload_n 3, 1) := by decide +kernel
theorem dX2_daysUntil_17 : decode cX2_daysUntil 17 = .ok (.iload_n 2, 1) := by decide +kernel
theorem dX2_daysUntil_18 : decode cX2_daysUntil 18 = .ok (.iload_n 1, 1) := by decide +kernel
theorem dX2_daysUntil_19 : decode cX2_daysUntil 19 = .ok (.iadd, 1) := by decide +kernel
theorem dX2_daysUntil_20 : decode cX2_daysUntil 20 = .ok (.iload_n 3, 1) := by decide +kernel
theorem dX2_daysUntil_21 : decode cX2_daysUntil 21 = .ok (.irem, 1) := by decide +kernel
theorem dX2_daysUntil_22 : decode cX2_daysUntil 22 = .ok (.isub, 1) := by decide +kernel
theorem dX2_daysUntil_23 : decode cX2_daysUntil 23 = .ok (.ireturn, 1) := by decide +kernel
theorem dX2_isHeld_0 : decode cX2_isHeld 0 = .ok (.aload_n 0, 1) := by decide +kernel
theorem dX2_isHeld_1 : decode cX2_isHeld 1 = .ok (.getfield 18, 3) := by decide +kernel
theorem dX2_isHeld_4 : decode cX2_isHeld 4 = .ok (.iload_n 1, 1) := by decide +kernel
theorem dX2_isHeld_5 : decode cX2_isHeld 5 = .ok (.iaload, 1) := by decide +kernel
theorem dX2_isHeld_6 : decode cX2_isHeld 6 = .ok (.istore_n 3, 1) := by decide +kernel
theorem dX2_isHeld_7 : decode cX2_isHeld 7 = .ok (.iload_n 3, 1) := by decide +kernel
theorem dX2_isHeld_8 : decode cX2_isHeld 8 = .ok (.iconst 1, 1) := by decide +kernel
theorem dX2_isHeld_9 : decode cX2_isHeld 9 = .ok (.if_icmp .lt 15, 3) := by decide +kernel
theorem dX2_isHeld_12 : decode cX2_isHeld 12 = .ok (.iload_n 2, 1) := by decide +kernel
theorem dX2_isHeld_13 : decode cX2_isHeld 13 = .ok (.iload_n 1, 1) := by decide +kernel
theorem dX2_isHeld_14 : decode cX2_isHeld 14 = .ok (.iadd, 1) := by decide +kernel
theorem dX2_isHeld_15 : decode cX2_isHeld 15 = .ok (.iload_n 3, 1) := by decide +kernel
theorem dX2_isHeld_16 : decode cX2_isHeld 16 = .ok (.irem, 1) := by decide +kernel
theorem dX2_isHeld_17 : decode cX2_isHeld 17 = .ok (.ifCond .ne 7, 3) := by decide +kernel
theorem dX2_isHeld_20 : decode cX2_isHeld 20 = .ok (.iconst 1, 1) := by decide +kernel
theorem dX2_isHeld_21 : decode cX2_isHeld 21 = .ok (.goto 4, 3) := by decide +kernel
theorem dX2_isHeld_24 : decode cX2_isHeld 24 = .ok (.iconst 0, 1) := by decide +kernel
theorem dX2_isHeld_25 : decode cX2_isHeld 25 = .ok (.ireturn, 1) := by decide +kernel
theorem dX2_takeFrom_0 : decode cX2_takeFrom 0 = .ok (.aload_n 1, 1) := by decide +kernel
theorem dX2_takeFrom_1 : decode cX2_takeFrom 1 = .ok (.getfield 9, 3) := by decide +kernel
theorem dX2_takeFrom_4 : decode cX2_takeFrom 4 = .ok (.iconst 0, 1) := by decide +kernel
theorem dX2_takeFrom_5 : decode cX2_takeFrom 5 = .ok (.aload_n 0, 1) := by decide +kernel
theorem dX2_takeFrom_6 : decode cX2_takeFrom 6 = .ok (.getfield 9, 3) := by decide +kernel
theorem dX2_takeFrom_9 : decode cX2_takeFrom 9 = .ok (.iconst 0, 1) := by decide +kernel
theorem dX2_takeFrom_10 : decode cX2_takeFrom 10 = .ok (.bipush 6, 2) := by decide +kernel
theorem dX2_takeFrom_12 : decode cX2_takeFrom 12 = .ok (.invokestatic 35, 3) := by decide +kernel
theorem dX2_takeFrom_15 : decode cX2_takeFrom 15 = .ok (.aload_n 1, 1) := by decide +kernel
theorem dX2_takeFrom_16 : decode cX2_takeFrom 16 = .ok (.getfield 15, 3) := by decide +kernel
theorem dX2_takeFrom_19 : decode cX2_takeFrom 19 = .ok (.iconst 0, 1) := by decide +kernel
theorem dX2_takeFrom_20 : decode cX2_takeFrom 20 = .ok (.aload_n 0, 1) := by decide +kernel
theorem dX2_takeFrom_21 : decode cX2_takeFrom 21 = .ok (.getfield 15, 3) := by decide +kernel
theorem dX2_takeFrom_24 : decode cX2_takeFrom 24 = .ok (.iconst 0, 1) := by decide +kernel
theorem dX2_takeFrom_25 : decode cX2_takeFrom 25 = .ok (.bipush 6, 2) := by decide +kernel
theorem dX2_takeFrom_27 : decode cX2_takeFrom 27 = .ok (.invokestatic 35, 3) := by decide +kernel
theorem dX2_takeFrom_30 : decode cX2_takeFrom 30 = .ok (.aload_n 1, 1) := by decide +kernel
theorem dX2_takeFrom_31 : decode cX2_takeFrom 31 = .ok (.getfield 18, 3) := by decide +kernel
theorem dX2_takeFrom_34 : decode cX2_takeFrom 34 = .ok (.iconst 0, 1) := by decide +kernel
theorem dX2_takeFrom_35 : decode cX2_takeFrom 35 = .ok (.aload_n 0, 1) := by decide +kernel
theorem dX2_takeFrom_36 : decode cX2_takeFrom 36 = .ok (.getfield 18, 3) := by decide +kernel
theorem dX2_takeFrom_39 : decode cX2_takeFrom 39 = .ok (.iconst 0, 1) := by decide +kernel
theorem dX2_takeFrom_40 : decode cX2_takeFrom 40 = .ok (.bipush 6, 2) := by decide +kernel
theorem dX2_takeFrom_42 : decode cX2_takeFrom 42 = .ok (.invokestatic 35, 3) := by decide +kernel
theorem dX2_takeFrom_45 : decode cX2_takeFrom 45 = .ok (.aload_n 1, 1) := by decide +kernel
theorem dX2_takeFrom_46 : decode cX2_takeFrom 46 = .ok (.getfield 21, 3) := by decide +kernel
theorem dX2_takeFrom_49 : decode cX2_takeFrom 49 = .ok (.iconst 0, 1) := by decide +kernel
theorem dX2_takeFrom_50 : decode cX2_takeFrom 50 = .ok (.aload_n 0, 1) := by decide +kernel
theorem dX2_takeFrom_51 : decode cX2_takeFrom 51 = .ok (.getfield 21, 3) := by decide +kernel
theorem dX2_takeFrom_54 : decode cX2_takeFrom 54 = .ok (.iconst 0, 1) := by decide +kernel
theorem dX2_takeFrom_55 : decode cX2_takeFrom 55 = .ok (.bipush 6, 2) := by decide +kernel
theorem dX2_takeFrom_57 : decode cX2_takeFrom 57 = .ok (.invokestatic 35, 3) := by decide +kernel
theorem dX2_takeFrom_60 : decode cX2_takeFrom 60 = .ok (.aload_n 1, 1) := by decide +kernel
theorem dX2_takeFrom_61 : decode cX2_takeFrom 61 = .ok (.getfield 24, 3) := by decide +kernel
theorem dX2_takeFrom_64 : decode cX2_takeFrom 64 = .ok (.iconst 0, 1) := by decide +kernel
theorem dX2_takeFrom_65 : decode cX2_takeFrom 65 = .ok (.aload_n 0, 1) := by decide +kernel
theorem dX2_takeFrom_66 : decode cX2_takeFrom 66 = .ok (.getfield 24, 3) := by decide +kernel
theorem dX2_takeFrom_69 : decode cX2_takeFrom 69 = .ok (.iconst 0, 1) := by decide +kernel
theorem dX2_takeFrom_70 : decode cX2_takeFrom 70 = .ok (.bipush 6, 2) := by decide +kernel
theorem dX2_takeFrom_72 : decode cX2_takeFrom 72 = .ok (.invokestatic 35, 3) := by decide +kernel
theorem dX2_takeFrom_75 : decode cX2_takeFrom 75 = .ok (.aload_n 0, 1) := by decide +kernel
theorem dX2_takeFrom_76 : decode cX2_takeFrom 76 = .ok (.aload_n 1, 1) := by decide +kernel
theorem dX2_takeFrom_77 : decode cX2_takeFrom 77 = .ok (.getfield 27, 3) := by decide +kernel
theorem dX2_takeFrom_80 : decode cX2_takeFrom 80 = .ok (.putfield 27, 3) := by decide +kernel
theorem dX2_takeFrom_83 : decode cX2_takeFrom 83 = .ok (.return_, 1) := by decide +kernel
theorem dX3_init_0 : decode cX3_init 0 = .ok (.aload_n 0, 1) := by decide +kernel
theorem dX3_init_1 : decode cX3_init 1 = .ok (.invokespecial 1, 3) := by decide +kernel
theorem dX3_init_4 : decode cX3_init 4 = .ok (.aload_n 0, 1) := by decide +kernel
theorem dX3_init_5 : decode cX3_init 5 = .ok (.bipush 8, 2) := by decide +kernel
theorem dX3_init_7 : decode cX3_init 7 = .ok (.anewarray 9, 3) := by decide +kernel
theorem dX3_init_10 : decode cX3_init 10 = .ok (.putfield 11, 3) := by decide +kernel
theorem dX3_init_13 : decode cX3_init 13 = .ok (.aload_n 0, 1) := by decide +kernel
theorem dX3_init_14 : decode cX3_init 14 = .ok (.iconst 0, 1) := by decide +kernel
theorem dX3_init_15 : decode cX3_init 15 = .ok (.putfield 15, 3) := by decide +kernel
theorem dX3_init_18 : decode cX3_init 18 = .ok (.aload_n 0, 1) := by decide +kernel
theorem dX3_init_19 : decode cX3_init 19 = .ok (.iconst 0, 1) := by decide +kernel
theorem dX3_init_20 : decode cX3_init 20 = .ok (.putfield 19, 3) := by decide +kernel
theorem dX3_init_23 : decode cX3_init 23 = .ok (.iconst 0, 1) := by decide +kernel
theorem dX3_init_24 : decode cX3_init 24 = .ok (.istore_n 1, 1) := by decide +kernel
theorem dX3_init_25 : decode cX3_init 25 = .ok (.iload_n 1, 1) := by decide +kernel
theorem dX3_init_26 : decode cX3_init 26 = .ok (.bipush 8, 2) := by decide +kernel
theorem dX3_init_28 : decode cX3_init 28 = .ok (.if_icmp .ge 22, 3) := by decide +kernel
theorem dX3_init_31 : decode cX3_init 31 = .ok (.aload_n 0, 1) := by decide +kernel
theorem dX3_init_32 : decode cX3_init 32 = .ok (.getfield 11, 3) := by decide +kernel
theorem dX3_init_35 : decode cX3_init 35 = .ok (.iload_n 1, 1) := by decide +kernel
theorem dX3_init_36 : decode cX3_init 36 = .ok (.new 9, 3) := by decide +kernel
theorem dX3_init_39 : decode cX3_init 39 = .ok (.dup, 1) := by decide +kernel
theorem dX3_init_40 : decode cX3_init 40 = .ok (.invokespecial 22, 3) := by decide +kernel
theorem dX3_init_43 : decode cX3_init 43 = .ok (.aastore, 1) := by decide +kernel
theorem dX3_init_44 : decode cX3_init 44 = .ok (.iinc 1 1, 3) := by decide +kernel
theorem dX3_init_47 : decode cX3_init 47 = .ok (.goto (-22), 3) := by decide +kernel
theorem dX3_init_50 : decode cX3_init 50 = .ok (.return_, 1) := by decide +kernel
theorem dX3_remember_0 : decode cX3_remember 0 = .ok (.aload_n 0, 1) := by decide +kernel
theorem dX3_remember_1 : decode cX3_remember 1 = .ok (.getfield 11, 3) := by decide +kernel
theorem dX3_remember_4 : decode cX3_remember 4 = .ok (.aload_n 0, 1) := by decide +kernel
theorem dX3_remember_5 : decode cX3_remember 5 = .ok (.getfield 15, 3) := by decide +kernel
theorem dX3_remember_8 : decode cX3_remember 8 = .ok (.aaload, 1) := by decide +kernel
theorem dX3_remember_9 : decode cX3_remember 9 = .ok (.aload_n 1, 1) := by decide +kernel
theorem dX3_remember_10 : decode cX3_remember 10 = .ok (.invokevirtual 23, 3) := by decide +kernel
theorem dX3_remember_13 : decode cX3_remember 13 = .ok (.aload_n 0, 1) := by decide +kernel
theorem dX3_remember_14 : decode cX3_remember 14 = .ok (.aload_n 0, 1) := by decide +kernel
theorem dX3_remember_15 : decode cX3_remember 15 = .ok (.getfield 15, 3) := by decide +kernel
theorem dX3_remember_18 : decode cX3_remember 18 = .ok (.iconst 1, 1) := by decide +kernel
theorem dX3_remember_19 : decode cX3_remember 19 = .ok (.iadd, 1) := by decide +kernel
theorem dX3_remember_20 : decode cX3_remember 20 = .ok (.bipush 8, 2) := by decide +kernel
theorem dX3_remember_22 : decode cX3_remember 22 = .ok (.irem, 1) := by decide +kernel
theorem dX3_remember_23 : decode cX3_remember 23 = .ok (.putfield 15, 3) := by decide +kernel
theorem dX3_remember_26 : decode cX3_remember 26 = .ok (.aload_n 0, 1) := by decide +kernel
theorem dX3_remember_27 : decode cX3_remember 27 = .ok (.getfield 19, 3) := by decide +kernel
theorem dX3_remember_30 : decode cX3_remember 30 = .ok (.bipush 8, 2) := by decide +kernel
theorem dX3_remember_32 : decode cX3_remember 32 = .ok (.if_icmp .ge 13, 3) := by decide +kernel
theorem dX3_remember_35 : decode cX3_remember 35 = .ok (.aload_n 0, 1) := by decide +kernel
theorem dX3_remember_36 : decode cX3_remember 36 = .ok (.dup, 1) := by decide +kernel
theorem dX3_remember_37 : decode cX3_remember 37 = .ok (.getfield 19, 3) := by decide +kernel
theorem dX3_remember_40 : decode cX3_remember 40 = .ok (.iconst 1, 1) := by decide +kernel
theorem dX3_remember_41 : decode cX3_remember 41 = .ok (.iadd, 1) := by decide +kernel
theorem dX3_remember_42 : decode cX3_remember 42 = .ok (.putfield 19, 3) := by decide +kernel
theorem dX3_remember_45 : decode cX3_remember 45 = .ok (.return_, 1) := by decide +kernel
theorem dX3_bringBack_0 : decode cX3_bringBack 0 = .ok (.aload_n 0, 1) := by decide +kernel
theorem dX3_bringBack_1 : decode cX3_bringBack 1 = .ok (.getfield 19, 3) := by decide +kernel
theorem dX3_bringBack_4 : decode cX3_bringBack 4 = .ok (.ifCond .ne 4, 3) := by decide +kernel
theorem dX3_bringBack_7 : decode cX3_bringBack 7 = .ok (.return_, 1) := by decide +kernel
theorem dX3_bringBack_8 : decode cX3_bringBack 8 = .ok (.aload_n 0, 1) := by decide +kernel
theorem dX3_bringBack_9 : decode cX3_bringBack 9 = .ok (.aload_n 0, 1) := by decide +kernel
theorem dX3_bringBack_10 : decode cX3_bringBack 10 = .ok (.getfield 15, 3) := by decide +kernel
theorem dX3_bringBack_13 : decode cX3_bringBack 13 = .ok (.bipush 8, 2) := by decide +kernel
theorem dX3_bringBack_15 : decode cX3_bringBack 15 = .ok (.iadd, 1) := by decide +kernel
theorem dX3_bringBack_16 : decode cX3_bringBack 16 = .ok (.iconst 1, 1) := by decide +kernel
theorem dX3_bringBack_17 : decode cX3_bringBack 17 = .ok (.isub, 1) := by decide +kernel
theorem dX3_bringBack_18 : decode cX3_bringBack 18 = .ok (.bipush 8, 2) := by decide +kernel
theorem dX3_bringBack_20 : decode cX3_bringBack 20 = .ok (.irem, 1) := by decide +kernel
theorem dX3_bringBack_21 : decode cX3_bringBack 21 = .ok (.putfield 15, 3) := by decide +kernel
theorem dX3_bringBack_24 : decode cX3_bringBack 24 = .ok (.aload_n 1, 1) := by decide +kernel
theorem dX3_bringBack_25 : decode cX3_bringBack 25 = .ok (.aload_n 0, 1) := by decide +kernel
theorem dX3_bringBack_26 : decode cX3_bringBack 26 = .ok (.getfield 11, 3) := by decide +kernel
theorem dX3_bringBack_29 : decode cX3_bringBack 29 = .ok (.aload_n 0, 1) := by decide +kernel
theorem dX3_bringBack_30 : decode cX3_bringBack 30 = .ok (.getfield 15, 3) := by decide +kernel
theorem dX3_bringBack_33 : decode cX3_bringBack 33 = .ok (.aaload, 1) := by decide +kernel
theorem dX3_bringBack_34 : decode cX3_bringBack 34 = .ok (.invokevirtual 23, 3) := by decide +kernel
theorem dX3_bringBack_37 : decode cX3_bringBack 37 = .ok (.aload_n 0, 1) := by decide +kernel
theorem dX3_bringBack_38 : decode cX3_bringBack 38 = .ok (.dup, 1) := by decide +kernel
theorem dX3_bringBack_39 : decode cX3_bringBack 39 = .ok (.getfield 19, 3) := by decide +kernel
theorem dX3_bringBack_42 : decode cX3_bringBack 42 = .ok (.iconst 1, 1) := by decide +kernel
theorem dX3_bringBack_43 : decode cX3_bringBack 43 = .ok (.isub, 1) := by decide +kernel
theorem dX3_bringBack_44 : decode cX3_bringBack 44 = .ok (.putfield 19, 3) := by decide +kernel
theorem dX3_bringBack_47 : decode cX3_bringBack 47 = .ok (.return_, 1) := by decide +kernel
theorem dX4_init_0 : decode cX4_init 0 = .ok (.aload_n 0, 1) := by decide +kernel
theorem dX4_init_1 : decode cX4_init 1 = .ok (.invokespecial 1, 3) := by decide +kernel
theorem dX4_init_4 : decode cX4_init 4 = .ok (.aload_n 0, 1) := by decide +kernel
theorem dX4_init_5 : decode cX4_init 5 = .ok (.bipush 10, 2) := by decide +kernel
theorem dX4_init_7 : decode cX4_init 7 = .ok (.newarray .int, 2) := by decide +kernel
theorem dX4_init_9 : decode cX4_init 9 = .ok (.putfield 9, 3) := by decide +kernel
theorem dX4_init_12 : decode cX4_init 12 = .ok (.aload_n 0, 1) := by decide +kernel
theorem dX4_init_13 : decode cX4_init 13 = .ok (.iconst 0, 1) := by decide +kernel
theorem dX4_init_14 : decode cX4_init 14 = .ok (.putfield 13, 3) := by decide +kernel
theorem dX4_init_17 : decode cX4_init 17 = .ok (.return_, 1) := by decide +kernel
theorem dX4_add_0 : decode cX4_add 0 = .ok (.aload_n 0, 1) := by decide +kernel
theorem dX4_add_1 : decode cX4_add 1 = .ok (.getfield 13, 3) := by decide +kernel
theorem dX4_add_4 : decode cX4_add 4 = .ok (.bipush 10, 2) := by decide +kernel
theorem dX4_add_6 : decode cX4_add 6 = .ok (.if_icmp .lt 24, 3) := by decide +kernel
theorem dX4_add_9 : decode cX4_add 9 = .ok (.aload_n 0, 1) := by decide +kernel
theorem dX4_add_10 : decode cX4_add 10 = .ok (.getfield 9, 3) := by decide +kernel
theorem dX4_add_13 : decode cX4_add 13 = .ok (.iconst 1, 1) := by decide +kernel
theorem dX4_add_14 : decode cX4_add 14 = .ok (.aload_n 0, 1) := by decide +kernel
theorem dX4_add_15 : decode cX4_add 15 = .ok (.getfield 9, 3) := by decide +kernel
theorem dX4_add_18 : decode cX4_add 18 = .ok (.iconst 0, 1) := by decide +kernel
theorem dX4_add_19 : decode cX4_add 19 = .ok (.bipush 9, 2) := by decide +kernel
theorem dX4_add_21 : decode cX4_add 21 = .ok (.invokestatic 17, 3) := by decide +kernel
theorem dX4_add_24 : decode cX4_add 24 = .ok (.aload_n 0, 1) := by decide +kernel
theorem dX4_add_25 : decode cX4_add 25 = .ok (.bipush 9, 2) := by decide +kernel
theorem dX4_add_27 : decode cX4_add 27 = .ok (.putfield 13, 3) := by decide +kernel
theorem dX4_add_30 : decode cX4_add 30 = .ok (.aload_n 0, 1) := by decide +kernel
theorem dX4_add_31 : decode cX4_add 31 = .ok (.getfield 9, 3) := by decide +kernel
theorem dX4_add_34 : decode cX4_add 34 = .ok (.aload_n 0, 1) := by decide +kernel
theorem dX4_add_35 : decode cX4_add 35 = .ok (.getfield 13, 3) := by decide +kernel
theorem dX4_add_38 : decode cX4_add 38 = .ok (.iload_n 1, 1) := by decide +kernel
theorem dX4_add_39 : decode cX4_add 39 = .ok (.iload_n 2, 1) := by decide +kernel
theorem dX4_add_40 : decode cX4_add 40 = .ok (.invokestatic 23, 3) := by decide +kernel
theorem dX4_add_43 : decode cX4_add 43 = .ok (.iastore, 1) := by decide +kernel
theorem dX4_add_44 : decode cX4_add 44 = .ok (.aload_n 0, 1) := by decide +kernel
theorem dX4_add_45 : decode cX4_add 45 = .ok (.dup, 1) := by decide +kernel
theorem dX4_add_46 : decode cX4_add 46 = .ok (.getfield 13, 3) := by decide +kernel
theorem dX4_add_49 : decode cX4_add 49 = .ok (.iconst 1, 1) := by decide +kernel
theorem dX4_add_50 : decode cX4_add 50 = .ok (.iadd, 1) := by decide +kernel
theorem dX4_add_51 : decode cX4_add 51 = .ok (.putfield 13, 3) := by decide +kernel
theorem dX4_add_54 : decode cX4_add 54 = .ok (.return_, 1) := by decide +kernel
theorem dX4_takeFrom_0 : decode cX4_takeFrom 0 = .ok (.aload_n 1, 1) := by decide +kernel
theorem dX4_takeFrom_1 : decode cX4_takeFrom 1 = .ok (.getfield 9, 3) := by decide +kernel
theorem dX4_takeFrom_4 : decode cX4_takeFrom 4 = .ok (.iconst 0, 1) := by decide +kernel
theorem dX4_takeFrom_5 : decode cX4_takeFrom 5 = .ok (.aload_n 0, 1) := by decide +kernel
theorem dX4_takeFrom_6 : decode cX4_takeFrom 6 = .ok (.getfield 9, 3) := by decide +kernel
theorem dX4_takeFrom_9 : decode cX4_takeFrom 9 = .ok (.iconst 0, 1) := by decide +kernel
theorem dX4_takeFrom_10 : decode cX4_takeFrom 10 = .ok (.bipush 10, 2) := by decide +kernel
theorem dX4_takeFrom_12 : decode cX4_takeFrom 12 = .ok (.invokestatic 17, 3) := by decide +kernel
theorem dX4_takeFrom_15 : decode cX4_takeFrom 15 = .ok (.aload_n 0, 1) := by decide +kernel
theorem dX4_takeFrom_16 : decode cX4_takeFrom 16 = .ok (.aload_n 1, 1) := by decide +kernel
theorem dX4_takeFrom_17 : decode cX4_takeFrom 17 = .ok (.getfield 13, 3) := by decide +kernel
theorem dX4_takeFrom_20 : decode cX4_takeFrom 20 = .ok (.putfield 13, 3) := by decide +kernel
theorem dX4_takeFrom_23 : decode cX4_takeFrom 23 = .ok (.return_, 1) := by decide +kernel
theorem dX5_init_0 : decode cX5_init 0 = .ok (.aload_n 0, 1) := by decide +kernel
theorem dX5_init_1 : decode cX5_init 1 = .ok (.invokespecial 3, 3) := by decide +kernel
theorem dX5_init_4 : decode cX5_init 4 = .ok (.aload_n 0, 1) := by decide +kernel
theorem dX5_init_5 : decode cX5_init 5 = .ok (.iconst 0, 1) := by decide +kernel
theorem dX5_init_6 : decode cX5_init 6 = .ok (.putfield 9, 3) := by decide +kernel
theorem dX5_init_9 : decode cX5_init 9 = .ok (.aload_n 0, 1) := by decide +kernel
theorem dX5_init_10 : decode cX5_init 10 = .ok (.iconst (-1), 1) := by decide +kernel
theorem dX5_init_11 : decode cX5_init 11 = .ok (.putfield 15, 3) := by decide +kernel
theorem dX5_init_14 : decode cX5_init 14 = .ok (.aload_n 0, 1) := by decide +kernel
theorem dX5_init_15 : decode cX5_init 15 = .ok (.new 18, 3) := by decide +kernel
theorem dX5_init_18 : decode cX5_init 18 = .ok (.dup, 1) := by decide +kernel
theorem dX5_init_19 : decode cX5_init 19 = .ok (.aload_n 1, 1) := by decide +kernel
theorem dX5_init_20 : decode cX5_init 20 = .ok (.invokespecial 20, 3) := by decide +kernel
theorem dX5_init_23 : decode cX5_init 23 = .ok (.putfield 23, 3) := by decide +kernel
theorem dX5_init_26 : decode cX5_init 26 = .ok (.aload_n 0, 1) := by decide +kernel
theorem dX5_init_27 : decode cX5_init 27 = .ok (.aload_n 2, 1) := by decide +kernel
theorem dX5_init_28 : decode cX5_init 28 = .ok (.putfield 27, 3) := by decide +kernel
theorem dX5_init_31 : decode cX5_init 31 = .ok (.return_, 1) := by decide +kernel
theorem dX5_readText_0 : decode cX5_readText 0 = .ok (.aload_n 0, 1) := by decide +kernel
theorem dX5_readText_1 : decode cX5_readText 1 = .ok (.invokevirtual 31, 3) := by decide +kernel
theorem dX5_readText_4 : decode cX5_readText 4 = .ok (.ifCond .ne 5, 3) := by decide +kernel
theorem dX5_readText_7 : decode cX5_readText 7 = .ok (.iconst 0, 1) := by decide +kernel
theorem dX5_readText_8 : decode cX5_readText 8 = .ok (.ireturn, 1) := by decide +kernel
theorem dX5_readText_9 : decode cX5_readText 9 = .ok (.aload_n 0, 1) := by decide +kernel
theorem dX5_readText_10 : decode cX5_readText 10 = .ok (.getfield 23, 3) := by decide +kernel
theorem dX5_readText_13 : decode cX5_readText 13 = .ok (.invokevirtual 35, 3) := by decide +kernel
theorem dX5_readText_16 : decode cX5_readText 16 = .ok (.iconst 0, 1) := by decide +kernel
theorem dX5_readText_17 : decode cX5_readText 17 = .ok (.istore_n 1, 1) := by decide +kernel
theorem dX5_readText_18 : decode cX5_readText 18 = .ok (.iload_n 1, 1) := by decide +kernel
theorem dX5_readText_19 : decode cX5_readText 19 = .ok (.sipush 600, 3) := by decide +kernel
theorem dX5_readText_22 : decode cX5_readText 22 = .ok (.if_icmp .ge 35, 3) := by decide +kernel
theorem dX5_readText_25 : decode cX5_readText 25 = .ok (.aload_n 0, 1) := by decide +kernel
theorem dX5_readText_26 : decode cX5_readText 26 = .ok (.getfield 23, 3) := by decide +kernel
theorem dX5_readText_29 : decode cX5_readText 29 = .ok (.getfield 40, 3) := by decide +kernel
theorem dX5_readText_32 : decode cX5_readText 32 = .ok (.ifCond .eq 25, 3) := by decide +kernel
theorem dX5_readText_35 : decode cX5_readText 35 = .ok (.aload_n 0, 1) := by decide +kernel
theorem dX5_readText_36 : decode cX5_readText 36 = .ok (.invokevirtual 43, 3) := by decide +kernel
theorem dX5_readText_39 : decode cX5_readText 39 = .ok (.ifCond .ne 5, 3) := by decide +kernel
theorem dX5_readText_42 : decode cX5_readText 42 = .ok (.iconst 0, 1) := by decide +kernel
theorem dX5_readText_43 : decode cX5_readText 43 = .ok (.ireturn, 1) := by decide +kernel
theorem dX5_readText_44 : decode cX5_readText 44 = .ok (.aload_n 0, 1) := by decide +kernel
theorem dX5_readText_45 : decode cX5_readText 45 = .ok (.getfield 23, 3) := by decide +kernel
theorem dX5_readText_48 : decode cX5_readText 48 = .ok (.invokevirtual 35, 3) := by decide +kernel
theorem dX5_readText_51 : decode cX5_readText 51 = .ok (.iinc 1 1, 3) := by decide +kernel
theorem dX5_readText_54 : decode cX5_readText 54 = .ok (.goto (-36), 3) := by decide +kernel
theorem dX5_readText_57 : decode cX5_readText 57 = .ok (.iconst 1, 1) := by decide +kernel
theorem dX5_readText_58 : decode cX5_readText 58 = .ok (.ireturn, 1) := by decide +kernel
theorem dX5_readAlmanac_0 : decode cX5_readAlmanac 0 = .ok (.aload_n 0, 1) := by decide +kernel
theorem dX5_readAlmanac_1 : decode cX5_readAlmanac 1 = .ok (.getfield 23, 3) := by decide +kernel
theorem dX5_readAlmanac_4 : decode cX5_readAlmanac 4 = .ok (.invokevirtual 35, 3) := by decide +kernel
theorem dX5_readAlmanac_7 : decode cX5_readAlmanac 7 = .ok (.aload_n 0, 1) := by decide +kernel
theorem dX5_readAlmanac_8 : decode cX5_readAlmanac 8 = .ok (.getfield 23, 3) := by decide +kernel
theorem dX5_readAlmanac_11 : decode cX5_readAlmanac 11 = .ok (.ldc 46, 2) := by decide +kernel
theorem dX5_readAlmanac_13 : decode cX5_readAlmanac 13 = .ok (.invokevirtual 48, 3) := by decide +kernel
theorem dX5_readAlmanac_16 : decode cX5_readAlmanac 16 = .ok (.ifCond .ne 9, 3) := by decide +kernel
theorem dX5_readAlmanac_19 : decode cX5_readAlmanac 19 = .ok (.aload_n 0, 1) := by decide +kernel
theorem dX5_readAlmanac_20 : decode cX5_readAlmanac 20 = .ok (.iconst 1, 1) := by decide +kernel
theorem dX5_readAlmanac_21 : decode cX5_readAlmanac 21 = .ok (.invokevirtual 52, 3) := by decide +kernel
theorem dX5_readAlmanac_24 : decode cX5_readAlmanac 24 = .ok (.ireturn, 1) := by decide +kernel
theorem dX5_readAlmanac_25 : decode cX5_readAlmanac 25 = .ok (.aload_n 0, 1) := by decide +kernel
theorem dX5_readAlmanac_26 : decode cX5_readAlmanac 26 = .ok (.iconst 0, 1) := by decide +kernel
theorem dX5_readAlmanac_27 : decode cX5_readAlmanac 27 = .ok (.sipush 1023, 3) := by decide +kernel
theorem dX5_readAlmanac_30 : decode cX5_readAlmanac 30 = .ok (.invokevirtual 56, 3) := by decide +kernel
theorem dX5_readAlmanac_33 : decode cX5_readAlmanac 33 = .ok (.ifCond .ne 5, 3) := by decide +kernel
theorem dX5_readAlmanac_36 : decode cX5_readAlmanac 36 = .ok (.iconst 0, 1) := by decide +kernel
theorem dX5_readAlmanac_37 : decode cX5_readAlmanac 37 = .ok (.ireturn, 1) := by decide +kernel
theorem dX5_readAlmanac_38 : decode cX5_readAlmanac 38 = .ok (.aload_n 0, 1) := by decide +kernel
theorem dX5_readAlmanac_39 : decode cX5_readAlmanac 39 = .ok (.getfield 27, 3) := by decide +kernel
theorem dX5_readAlmanac_42 : decode cX5_readAlmanac 42 = .ok (.getfield 60, 3) := by decide +kernel
theorem dX5_readAlmanac_45 : decode cX5_readAlmanac 45 = .ok (.aload_n 0, 1) := by decide +kernel
theorem dX5_readAlmanac_46 : decode cX5_readAlmanac 46 = .ok (.getfield 23, 3) := by decide +kernel
theorem dX5_readAlmanac_49 : decode cX5_readAlmanac 49 = .ok (.getfield 66, 3) := by decide +kernel
theorem dX5_readAlmanac_52 : decode cX5_readAlmanac 52 = .ok (.putfield 69, 3) := by decide +kernel
theorem dX5_readAlmanac_55 : decode cX5_readAlmanac 55 = .ok (.iconst 0, 1) := by decide +kernel
theorem dX5_readAlmanac_56 : decode cX5_readAlmanac 56 = .ok (.istore_n 1, 1) := by decide +kernel
theorem dX5_readAlmanac_57 : decode cX5_readAlmanac 57 = .ok (.iload_n 1, 1) := by decide +kernel
theorem dX5_readAlmanac_58 : decode cX5_readAlmanac 58 = .ok (.iconst 2, 1) := by decide +kernel
theorem dX5_readAlmanac_59 : decode cX5_readAlmanac 59 = .ok (.if_icmp .gt 40, 3) := by decide +kernel
theorem dX5_readAlmanac_62 : decode cX5_readAlmanac 62 = .ok (.aload_n 0, 1) := by decide +kernel
theorem dX5_readAlmanac_63 : decode cX5_readAlmanac 63 = .ok (.iconst 0, 1) := by decide +kernel
theorem dX5_readAlmanac_64 : decode cX5_readAlmanac 64 = .ok (.bipush 20, 2) := by decide +kernel
theorem dX5_readAlmanac_66 : decode cX5_readAlmanac 66 = .ok (.invokevirtual 56, 3) := by decide +kernel
theorem dX5_readAlmanac_69 : decode cX5_readAlmanac 69 = .ok (.ifCond .ne 5, 3) := by decide +kernel
theorem dX5_readAlmanac_72 : decode cX5_readAlmanac 72 = .ok (.iconst 0, 1) := by decide +kernel
theorem dX5_readAlmanac_73 : decode cX5_readAlmanac 73 = .ok (.ireturn, 1) := by decide +kernel
theorem dX5_readAlmanac_74 : decode cX5_readAlmanac 74 = .ok (.aload_n 0, 1) := by decide +kernel
theorem dX5_readAlmanac_75 : decode cX5_readAlmanac 75 = .ok (.getfield 27, 3) := by decide +kernel
theorem dX5_readAlmanac_78 : decode cX5_readAlmanac 78 = .ok (.getfield 60, 3) := by decide +kernel
theorem dX5_readAlmanac_81 : decode cX5_readAlmanac 81 = .ok (.getfield 74, 3) := by decide +kernel
theorem dX5_readAlmanac_84 : decode cX5_readAlmanac 84 = .ok (.iload_n 1, 1) := by decide +kernel
theorem dX5_readAlmanac_85 : decode cX5_readAlmanac 85 = .ok (.aload_n 0, 1) := by decide +kernel
theorem dX5_readAlmanac_86 : decode cX5_readAlmanac 86 = .ok (.getfield 23, 3) := by decide +kernel
theorem dX5_readAlmanac_89 : decode cX5_readAlmanac 89 = .ok (.getfield 66, 3) := by decide +kernel
theorem dX5_readAlmanac_92 : decode cX5_readAlmanac 92 = .ok (.iastore, 1) := by decide +kernel
theorem dX5_readAlmanac_93 : decode cX5_readAlmanac 93 = .ok (.iinc 1 1, 3) := by decide +kernel
theorem dX5_readAlmanac_96 : decode cX5_readAlmanac 96 = .ok (.goto (-39), 3) := by decide +kernel
theorem dX5_readAlmanac_99 : decode cX5_readAlmanac 99 = .ok (.aload_n 0, 1) := by decide +kernel
theorem dX5_readAlmanac_100 : decode cX5_readAlmanac 100 = .ok (.getfield 27, 3) := by decide +kernel
theorem dX5_readAlmanac_103 : decode cX5_readAlmanac 103 = .ok (.getfield 60, 3) := by decide +kernel
theorem dX5_readAlmanac_106 : decode cX5_readAlmanac 106 = .ok (.invokevirtual 78, 3) := by decide +kernel
theorem dX5_readAlmanac_109 : decode cX5_readAlmanac 109 = .ok (.ifCond .ne 9, 3) := by decide +kernel
theorem dX5_readAlmanac_112 : decode cX5_readAlmanac 112 = .ok (.aload_n 0, 1) := by decide +kernel
theorem dX5_readAlmanac_113 : decode cX5_readAlmanac 113 = .ok (.iconst 2, 1) := by decide +kernel
theorem dX5_readAlmanac_114 : decode cX5_readAlmanac 114 = .ok (.invokevirtual 52, 3) := by decide +kernel
theorem dX5_readAlmanac_117 : decode cX5_readAlmanac 117 = .ok (.ireturn, 1) := by decide +kernel
theorem dX5_readAlmanac_118 : decode cX5_readAlmanac 118 = .ok (.aload_n 0, 1) := by decide +kernel
theorem dX5_readAlmanac_119 : decode cX5_readAlmanac 119 = .ok (.invokevirtual 82, 3) := by decide +kernel
theorem dX5_readAlmanac_122 : decode cX5_readAlmanac 122 = .ok (.ireturn, 1) := by decide +kernel
theorem dX5_readStatement_0 : decode cX5_readStatement 0 = .ok (.aload_n 0, 1) := by decide +kernel
theorem dX5_readStatement_1 : decode cX5_readStatement 1 = .ok (.getfield 23, 3) := by decide +kernel
theorem dX5_readStatement_4 : decode cX5_readStatement 4 = .ok (.ldc 85, 2) := by decide +kernel
theorem dX5_readStatement_6 : decode cX5_readStatement 6 = .ok (.invokevirtual 48, 3) := by decide +kernel
theorem dX5_readStatement_9 : decode cX5_readStatement 9 = .ok (.ifCond .eq 8, 3) := by decide +kernel
theorem dX5_readStatement_12 : decode cX5_readStatement 12 = .ok (.aload_n 0, 1) := by decide +kernel
theorem dX5_readStatement_13 : decode cX5_readStatement 13 = .ok (.invokevirtual 87, 3) := by decide +kernel
theorem dX5_readStatement_16 : decode cX5_readStatement 16 = .ok (.ireturn, 1) := by decide +kernel
theorem dX5_readStatement_17 : decode cX5_readStatement 17 = .ok (.aload_n 0, 1) := by decide +kernel
theorem dX5_readStatement_18 : decode cX5_readStatement 18 = .ok (.getfield 23, 3) := by decide +kernel
theorem dX5_readStatement_21 : decode cX5_readStatement 21 = .ok (.ldc 90, 2) := by decide +kernel
theorem dX5_readStatement_23 : decode cX5_readStatement 23 = .ok (.invokevirtual 48, 3) := by decide +kernel
theorem dX5_readStatement_26 : decode cX5_readStatement 26 = .ok (.ifCond .eq 8, 3) := by decide +kernel
theorem dX5_readStatement_29 : decode cX5_readStatement 29 = .ok (.aload_n 0, 1) := by decide +kernel
theorem dX5_readStatement_30 : decode cX5_readStatement 30 = .ok (.invokevirtual 92, 3) := by decide +kernel
theorem dX5_readStatement_33 : decode cX5_readStatement 33 = .ok (.ireturn, 1) := by decide +kernel
theorem dX5_readStatement_34 : decode cX5_readStatement 34 = .ok (.aload_n 0, 1) := by decide +kernel
theorem dX5_readStatement_35 : decode cX5_readStatement 35 = .ok (.getfield 23, 3) := by decide +kernel
theorem dX5_readStatement_38 : decode cX5_readStatement 38 = .ok (.ldc 95, 2) := by decide +kernel
theorem dX5_readStatement_40 : decode cX5_readStatement 40 = .ok (.invokevirtual 48, 3) := by decide +kernel
theorem dX5_readStatement_43 : decode cX5_readStatement 43 = .ok (.ifCond .eq 8, 3) := by decide +kernel
theorem dX5_readStatement_46 : decode cX5_readStatement 46 = .ok (.aload_n 0, 1) := by decide +kernel
theorem dX5_readStatement_47 : decode cX5_readStatement 47 = .ok (.invokevirtual 97, 3) := by decide +kernel
theorem dX5_readStatement_50 : decode cX5_readStatement 50 = .ok (.ireturn, 1) := by decide +kernel
theorem dX5_readStatement_51 : decode cX5_readStatement 51 = .ok (.aload_n 0, 1) := by decide +kernel
theorem dX5_readStatement_52 : decode cX5_readStatement 52 = .ok (.getfield 23, 3) := by decide +kernel
theorem dX5_readStatement_55 : decode cX5_readStatement 55 = .ok (.ldc 100, 2) := by decide +kernel
theorem dX5_readStatement_57 : decode cX5_readStatement 57 = .ok (.invokevirtual 48, 3) := by decide +kernel
theorem dX5_readStatement_60 : decode cX5_readStatement 60 = .ok (.ifCond .eq 8, 3) := by decide +kernel
theorem dX5_readStatement_63 : decode cX5_readStatement 63 = .ok (.aload_n 0, 1) := by decide +kernel
theorem dX5_readStatement_64 : decode cX5_readStatement 64 = .ok (.invokevirtual 102, 3) := by decide +kernel
theorem dX5_readStatement_67 : decode cX5_readStatement 67 = .ok (.ireturn, 1) := by decide +kernel
theorem dX5_readStatement_68 : decode cX5_readStatement 68 = .ok (.aload_n 0, 1) := by decide +kernel
theorem dX5_readStatement_69 : decode cX5_readStatement 69 = .ok (.getfield 23, 3) := by decide +kernel
theorem dX5_readStatement_72 : decode cX5_readStatement 72 = .ok (.ldc 105, 2) := by decide +kernel
theorem dX5_readStatement_74 : decode cX5_readStatement 74 = .ok (.invokevirtual 48, 3) := by decide +kernel
theorem dX5_readStatement_77 : decode cX5_readStatement 77 = .ok (.ifCond .eq 8, 3) := by decide +kernel
theorem dX5_readStatement_80 : decode cX5_readStatement 80 = .ok (.aload_n 0, 1) := by decide +kernel
theorem dX5_readStatement_81 : decode cX5_readStatement 81 = .ok (.invokevirtual 107, 3) := by decide +kernel
theorem dX5_readStatement_84 : decode cX5_readStatement 84 = .ok (.ireturn, 1) := by decide +kernel
theorem dX5_readStatement_85 : decode cX5_readStatement 85 = .ok (.aload_n 0, 1) := by decide +kernel
theorem dX5_readStatement_86 : decode cX5_readStatement 86 = .ok (.iconst 1, 1) := by decide +kernel
theorem dX5_readStatement_87 : decode cX5_readStatement 87 = .ok (.invokevirtual 52, 3) := by decide +kernel
theorem dX5_readStatement_90 : decode cX5_readStatement 90 = .ok (.ireturn, 1) := by decide +kernel
theorem dX5_readVillage_0 : decode cX5_readVillage 0 = .ok (.aload_n 0, 1) := by decide +kernel
theorem dX5_readVillage_1 : decode cX5_readVillage 1 = .ok (.getfield 27, 3) := by decide +kernel
theorem dX5_readVillage_4 : decode cX5_readVillage 4 = .ok (.getfield 110, 3) := by decide +kernel
theorem dX5_readVillage_7 : decode cX5_readVillage 7 = .ok (.getfield 114, 3) := by decide +kernel
theorem dX5_readVillage_10 : decode cX5_readVillage 10 = .ok (.bipush 6, 2) := by decide +kernel
theorem dX5_readVillage_12 : decode cX5_readVillage 12 = .ok (.if_icmp .lt 9, 3) := by decide +kernel
theorem dX5_readVillage_15 : decode cX5_readVillage 15 = .ok (.aload_n 0, 1) := by decide +kernel
theorem dX5_readVillage_16 : decode cX5_readVillage 16 = .ok (.iconst 5, 1) := by decide +kernel
theorem dX5_readVillage_17 : decode cX5_readVillage 17 = .ok (.invokevirtual 52, 3) := by decide +kernel
theorem dX5_readVillage_20 : decode cX5_readVillage 20 = .ok (.ireturn, 1) := by decide +kernel
theorem dX5_readVillage_21 : decode cX5_readVillage 21 = .ok (.aload_n 0, 1) := by decide +kernel
theorem dX5_readVillage_22 : decode cX5_readVillage 22 = .ok (.invokevirtual 119, 3) := by decide +kernel
theorem dX5_readVillage_25 : decode cX5_readVillage 25 = .ok (.ifCond .ne 5, 3) := by decide +kernel
theorem dX5_readVillage_28 : decode cX5_readVillage 28 = .ok (.iconst 0, 1) := by decide +kernel
theorem dX5_readVillage_29 : decode cX5_readVillage 29 = .ok (.ireturn, 1) := by decide +kernel
theorem dX5_readVillage_30 : decode cX5_readVillage 30 = .ok (.aload_n 0, 1) := by decide +kernel
theorem dX5_readVillage_31 : decode cX5_readVillage 31 = .ok (.getfield 23, 3) := by decide +kernel
theorem dX5_readVillage_34 : decode cX5_readVillage 34 = .ok (.invokevirtual 122, 3) := by decide +kernel
theorem dX5_readVillage_37 : decode cX5_readVillage 37 = .ok (.istore_n 1, 1) := by decide +kernel
theorem dX5_readVillage_38 : decode cX5_readVillage 38 = .ok (.aload_n 0, 1) := by decide +kernel
theorem dX5_readVillage_39 : decode cX5_readVillage 39 = .ok (.iconst 1, 1) := by decide +kernel
theorem dX5_readVillage_40 : decode cX5_readVillage 40 = .ok (.bipush 99, 2) := by decide +kernel
theorem dX5_readVillage_42 : decode cX5_readVillage 42 = .ok (.invokevirtual 56, 3) := by decide +kernel
theorem dX5_readVillage_45 : decode cX5_readVillage 45 = .ok (.ifCond .ne 5, 3) := by decide +kernel
theorem dX5_readVillage_48 : decode cX5_readVillage 48 = .ok (.iconst 0, 1) := by decide +kernel
theorem dX5_readVillage_49 : decode cX5_readVillage 49 = .ok (.ireturn, 1) := by decide +kernel
theorem dX5_readVillage_50 : decode cX5_readVillage 50 = .ok (.aload_n 0, 1) := by decide +kernel
theorem dX5_readVillage_51 : decode cX5_readVillage 51 = .ok (.getfield 23, 3) := by decide +kernel
theorem dX5_readVillage_54 : decode cX5_readVillage 54 = .ok (.getfield 66, 3) := by decide +kernel
theorem dX5_readVillage_57 : decode cX5_readVillage 57 = .ok (.istore_n 2, 1) := by decide +kernel
theorem dX5_readVillage_58 : decode cX5_readVillage 58 = .ok (.aload_n 0, 1) := by decide +kernel
theorem dX5_readVillage_59 : decode cX5_readVillage 59 = .ok (.iconst 0, 1) := by decide +kernel
theorem dX5_readVillage_60 : decode cX5_readVillage 60 = .ok (.bipush 100, 2) := by decide +kernel
theorem dX5_readVillage_62 : decode cX5_readVillage 62 = .ok (.invokevirtual 56, 3) := by decide +kernel
theorem dX5_readVillage_65 : decode cX5_readVillage 65 = .ok (.ifCond .ne 5, 3) := by decide +kernel
theorem dX5_readVillage_68 : decode cX5_readVillage 68 = .ok (.iconst 0, 1) := by decide +kernel
theorem dX5_readVillage_69 : decode cX5_readVillage 69 = .ok (.ireturn, 1) := by decide +kernel
theorem dX5_readVillage_70 : decode cX5_readVillage 70 = .ok (.aload_n 0, 1) := by decide +kernel
theorem dX5_readVillage_71 : decode cX5_readVillage 71 = .ok (.getfield 23, 3) := by decide +kernel
theorem dX5_readVillage_74 : decode cX5_readVillage 74 = .ok (.getfield 66, 3) := by decide +kernel
theorem dX5_readVillage_77 : decode cX5_readVillage 77 = .ok (.istore_n 3, 1) := by decide +kernel
theorem dX5_readVillage_78 : decode cX5_readVillage 78 = .ok (.aload_n 0, 1) := by decide +kernel
theorem dX5_readVillage_79 : decode cX5_readVillage 79 = .ok (.invokevirtual 82, 3) := by decide +kernel
theorem dX5_readVillage_82 : decode cX5_readVillage 82 = .ok (.ifCond .ne 5, 3) := by decide +kernel
theorem dX5_readVillage_85 : decode cX5_readVillage 85 = .ok (.iconst 0, 1) := by decide +kernel
theorem dX5_readVillage_86 : decode cX5_readVillage 86 = .ok (.ireturn, 1) := by decide +kernel
theorem dX5_readVillage_87 : decode cX5_readVillage 87 = .ok (.aload_n 0, 1) := by decide +kernel
theorem dX5_readVillage_88 : decode cX5_readVillage 88 = .ok (.getfield 27, 3) := by decide +kernel
theorem dX5_readVillage_91 : decode cX5_readVillage 91 = .ok (.getfield 110, 3) := by decide +kernel
theorem dX5_readVillage_94 : decode cX5_readVillage 94 = .ok (.iload_n 1, 1) := by decide +kernel
theorem dX5_readVillage_95 : decode cX5_readVillage 95 = .ok (.iload_n 2, 1) := by decide +kernel
theorem dX5_readVillage_96 : decode cX5_readVillage 96 = .ok (.iload_n 3, 1) := by decide +kernel
theorem dX5_readVillage_97 : decode cX5_readVillage 97 = .ok (.invokevirtual 125, 3) := by decide +kernel
theorem dX5_readVillage_100 : decode cX5_readVillage 100 = .ok (.iconst 1, 1) := by decide +kernel
theorem dX5_readVillage_101 : decode cX5_readVillage 101 = .ok (.ireturn, 1) := by decide +kernel
theorem dX5_readFair_0 : decode cX5_readFair 0 = .ok (.aload_n 0, 1) := by decide +kernel
theorem dX5_readFair_1 : decode cX5_readFair 1 = .ok (.getfield 27, 3) := by decide +kernel
theorem dX5_readFair_4 : decode cX5_readFair 4 = .ok (.getfield 129, 3) := by decide +kernel
theorem dX5_readFair_7 : decode cX5_readFair 7 = .ok (.getfield 133, 3) := by decide +kernel
theorem dX5_readFair_10 : decode cX5_readFair 10 = .ok (.bipush 6, 2) := by decide +kernel
theorem dX5_readFair_12 : decode cX5_readFair 12 = .ok (.if_icmp .lt 9, 3) := by decide +kernel
theorem dX5_readFair_15 : decode cX5_readFair 15 = .ok (.aload_n 0, 1) := by decide +kernel
theorem dX5_readFair_16 : decode cX5_readFair 16 = .ok (.iconst 5, 1) := by decide +kernel
theorem dX5_readFair_17 : decode cX5_readFair 17 = .ok (.invokevirtual 52, 3) := by decide +kernel
theorem dX5_readFair_20 : decode cX5_readFair 20 = .ok (.ireturn, 1) := by decide +kernel
theorem dX5_readFair_21 : decode cX5_readFair 21 = .ok (.aload_n 0, 1) := by decide +kernel
theorem dX5_readFair_22 : decode cX5_readFair 22 = .ok (.invokevirtual 119, 3) := by decide +kernel
theorem dX5_readFair_25 : decode cX5_readFair 25 = .ok (.ifCond .ne 5, 3) := by decide +kernel
theorem dX5_readFair_28 : decode cX5_readFair 28 = .ok (.iconst 0, 1) := by decide +kernel
theorem dX5_readFair_29 : decode cX5_readFair 29 = .ok (.ireturn, 1) := by decide +kernel
theorem dX5_readFair_30 : decode cX5_readFair 30 = .ok (.aload_n 0, 1) := by decide +kernel
theorem dX5_readFair_31 : decode cX5_readFair 31 = .ok (.getfield 23, 3) := by decide +kernel
theorem dX5_readFair_34 : decode cX5_readFair 34 = .ok (.invokevirtual 122, 3) := by decide +kernel
theorem dX5_readFair_37 : decode cX5_readFair 37 = .ok (.istore_n 1, 1) := by decide +kernel
theorem dX5_readFair_38 : decode cX5_readFair 38 = .ok (.aload_n 0, 1) := by decide +kernel
theorem dX5_readFair_39 : decode cX5_readFair 39 = .ok (.invokevirtual 136, 3) := by decide +kernel
theorem dX5_readFair_42 : decode cX5_readFair 42 = .ok (.ifCond .ne 5, 3) := by decide +kernel
theorem dX5_readFair_45 : decode cX5_readFair 45 = .ok (.iconst 0, 1) := by decide +kernel
theorem dX5_readFair_46 : decode cX5_readFair 46 = .ok (.ireturn, 1) := by decide +kernel
theorem dX5_readFair_47 : decode cX5_readFair 47 = .ok (.aload_n 0, 1) := by decide +kernel
theorem dX5_readFair_48 : decode cX5_readFair 48 = .ok (.getfield 27, 3) := by decide +kernel
theorem dX5_readFair_51 : decode cX5_readFair 51 = .ok (.getfield 110, 3) := by decide +kernel
theorem dX5_readFair_54 : decode cX5_readFair 54 = .ok (.aload_n 0, 1) := by decide +kernel
theorem dX5_readFair_55 : decode cX5_readFair 55 = .ok (.getfield 23, 3) := by decide +kernel
theorem dX5_readFair_58 : decode cX5_readFair 58 = .ok (.invokevirtual 122, 3) := by decide +kernel
theorem dX5_readFair_61 : decode cX5_readFair 61 = .ok (.invokevirtual 139, 3) := by decide +kernel
theorem dX5_readFair_64 : decode cX5_readFair 64 = .ok (.istore_n 2, 1) := by decide +kernel
theorem dX5_readFair_65 : decode cX5_readFair 65 = .ok (.aload_n 0, 1) := by decide +kernel
theorem dX5_readFair_66 : decode cX5_readFair 66 = .ok (.iconst 1, 1) := by decide +kernel
theorem dX5_readFair_67 : decode cX5_readFair 67 = .ok (.bipush 12, 2) := by decide +kernel
theorem dX5_readFair_69 : decode cX5_readFair 69 = .ok (.invokevirtual 56, 3) := by decide +kernel
theorem dX5_readFair_72 : decode cX5_readFair 72 = .ok (.ifCond .ne 5, 3) := by decide +kernel
theorem dX5_readFair_75 : decode cX5_readFair 75 = .ok (.iconst 0, 1) := by decide +kernel
theorem dX5_readFair_76 : decode cX5_readFair 76 = .ok (.ireturn, 1) := by decide +kernel
theorem dX5_readFair_77 : decode cX5_readFair 77 = .ok (.aload_n 0, 1) := by decide +kernel
theorem dX5_readFair_78 : decode cX5_readFair 78 = .ok (.getfield 23, 3) := by decide +kernel
theorem dX5_readFair_81 : decode cX5_readFair 81 = .ok (.getfield 66, 3) := by decide +kernel
theorem dX5_readFair_84 : decode cX5_readFair 84 = .ok (.istore_n 3, 1) := by decide +kernel
theorem dX5_readFair_85 : decode cX5_readFair 85 = .ok (.aload_n 0, 1) := by decide +kernel
theorem dX5_readFair_86 : decode cX5_readFair 86 = .ok (.iconst 1, 1) := by decide +kernel
theorem dX5_readFair_87 : decode cX5_readFair 87 = .ok (.bipush 99, 2) := by decide +kernel
theorem dX5_readFair_89 : decode cX5_readFair 89 = .ok (.invokevirtual 56, 3) := by decide +kernel
theorem dX5_readFair_92 : decode cX5_readFair 92 = .ok (.ifCond .ne 5, 3) := by decide +kernel
theorem dX5_readFair_95 : decode cX5_readFair 95 = .ok (.iconst 0, 1) := by decide +kernel
theorem dX5_readFair_96 : decode cX5_readFair 96 = .ok (.ireturn, 1) := by decide +kernel
theorem dX5_readFair_97 : decode cX5_readFair 97 = .ok (.aload_n 0, 1) := by decide +kernel
theorem dX5_readFair_98 : decode cX5_readFair 98 = .ok (.getfield 23, 3) := by decide +kernel
theorem dX5_readFair_101 : decode cX5_readFair 101 = .ok (.getfield 66, 3) := by decide +kernel
theorem dX5_readFair_104 : decode cX5_readFair 104 = .ok (.istore 4, 2) := by decide +kernel
theorem dX5_readFair_106 : decode cX5_readFair 106 = .ok (.aload_n 0, 1) := by decide +kernel
theorem dX5_readFair_107 : decode cX5_readFair 107 = .ok (.iconst 1, 1) := by decide +kernel
theorem dX5_readFair_108 : decode cX5_readFair 108 = .ok (.bipush 20, 2) := by decide +kernel
theorem dX5_readFair_110 : decode cX5_readFair 110 = .ok (.invokevirtual 56, 3) := by decide +kernel
theorem dX5_readFair_113 : decode cX5_readFair 113 = .ok (.ifCond .ne 5, 3) := by decide +kernel
theorem dX5_readFair_116 : decode cX5_readFair 116 = .ok (.iconst 0, 1) := by decide +kernel
theorem dX5_readFair_117 : decode cX5_readFair 117 = .ok (.ireturn, 1) := by decide +kernel
theorem dX5_readFair_118 : decode cX5_readFair 118 = .ok (.aload_n 0, 1) := by decide +kernel
theorem dX5_readFair_119 : decode cX5_readFair 119 = .ok (.getfield 23, 3) := by decide +kernel
theorem dX5_readFair_122 : decode cX5_readFair 122 = .ok (.getfield 66, 3) := by decide +kernel
theorem dX5_readFair_125 : decode cX5_readFair 125 = .ok (.istore 5, 2) := by decide +kernel
theorem dX5_readFair_127 : decode cX5_readFair 127 = .ok (.aload_n 0, 1) := by decide +kernel
theorem dX5_readFair_128 : decode cX5_readFair 128 = .ok (.invokevirtual 82, 3) := by decide +kernel
theorem dX5_readFair_131 : decode cX5_readFair 131 = .ok (.ifCond .ne 5, 3) := by decide +kernel
theorem dX5_readFair_134 : decode cX5_readFair 134 = .ok (.iconst 0, 1) := by decide +kernel
theorem dX5_readFair_135 : decode cX5_readFair 135 = .ok (.ireturn, 1) := by decide +kernel
theorem dX5_readFair_136 : decode cX5_readFair 136 = .ok (.aload_n 0, 1) := by decide +kernel
theorem dX5_readFair_137 : decode cX5_readFair 137 = .ok (.getfield 27, 3) := by decide +kernel
theorem dX5_readFair_140 : decode cX5_readFair 140 = .ok (.getfield 129, 3) := by decide +kernel
theorem dX5_readFair_143 : decode cX5_readFair 143 = .ok (.iload_n 1, 1) := by decide +kernel
theorem dX5_readFair_144 : decode cX5_readFair 144 = .ok (.iload_n 2, 1) := by decide +kernel
theorem dX5_readFair_145 : decode cX5_readFair 145 = .ok (.iload_n 3, 1) := by decide +kernel
theorem dX5_readFair_146 : decode cX5_readFair 146 = .ok (.iload 4, 2) := by decide +kernel
theorem dX5_readFair_148 : decode cX5_readFair 148 = .ok (.iload 5, 2) := by decide +kernel
theorem dX5_readFair_150 : decode cX5_readFair 150 = .ok (.invokevirtual 143, 3) := by decide +kernel
theorem dX5_readFair_153 : decode cX5_readFair 153 = .ok (.iconst 1, 1) := by decide +kernel
theorem dX5_readFair_154 : decode cX5_readFair 154 = .ok (.ireturn, 1) := by decide +kernel
theorem dX5_readSay_0 : decode cX5_readSay 0 = .ok (.aload_n 0, 1) := by decide +kernel
theorem dX5_readSay_1 : decode cX5_readSay 1 = .ok (.invokevirtual 136, 3) := by decide +kernel
theorem dX5_readSay_4 : decode cX5_readSay 4 = .ok (.ifCond .ne 5, 3) := by decide +kernel
theorem dX5_readSay_7 : decode cX5_readSay 7 = .ok (.iconst 0, 1) := by decide +kernel
theorem dX5_readSay_8 : decode cX5_readSay 8 = .ok (.ireturn, 1) := by decide +kernel
theorem dX5_readSay_9 : decode cX5_readSay 9 = .ok (.aload_n 0, 1) := by decide +kernel
theorem dX5_readSay_10 : decode cX5_readSay 10 = .ok (.getfield 27, 3) := by decide +kernel
theorem dX5_readSay_13 : decode cX5_readSay 13 = .ok (.getfield 110, 3) := by decide +kernel
theorem dX5_readSay_16 : decode cX5_readSay 16 = .ok (.aload_n 0, 1) := by decide +kernel
theorem dX5_readSay_17 : decode cX5_readSay 17 = .ok (.getfield 23, 3) := by decide +kernel
theorem dX5_readSay_20 : decode cX5_readSay 20 = .ok (.invokevirtual 122, 3) := by decide +kernel
theorem dX5_readSay_23 : decode cX5_readSay 23 = .ok (.invokevirtual 139, 3) := by decide +kernel
theorem dX5_readSay_26 : decode cX5_readSay 26 = .ok (.istore_n 1, 1) := by decide +kernel
theorem dX5_readSay_27 : decode cX5_readSay 27 = .ok (.aload_n 0, 1) := by decide +kernel
theorem dX5_readSay_28 : decode cX5_readSay 28 = .ok (.iconst 0, 1) := by decide +kernel
theorem dX5_readSay_29 : decode cX5_readSay 29 = .ok (.sipush 9999, 3) := by decide +kernel
theorem dX5_readSay_32 : decode cX5_readSay 32 = .ok (.invokevirtual 56, 3) := by decide +kernel
theorem dX5_readSay_35 : decode cX5_readSay 35 = .ok (.ifCond .ne 5, 3) := by decide +kernel
theorem dX5_readSay_38 : decode cX5_readSay 38 = .ok (.iconst 0, 1) := by decide +kernel
theorem dX5_readSay_39 : decode cX5_readSay 39 = .ok (.ireturn, 1) := by decide +kernel
theorem dX5_readSay_40 : decode cX5_readSay 40 = .ok (.aload_n 0, 1) := by decide +kernel
theorem dX5_readSay_41 : decode cX5_readSay 41 = .ok (.getfield 23, 3) := by decide +kernel
theorem dX5_readSay_44 : decode cX5_readSay 44 = .ok (.getfield 66, 3) := by decide +kernel
theorem dX5_readSay_47 : decode cX5_readSay 47 = .ok (.istore_n 2, 1) := by decide +kernel
theorem dX5_readSay_48 : decode cX5_readSay 48 = .ok (.aload_n 0, 1) := by decide +kernel
theorem dX5_readSay_49 : decode cX5_readSay 49 = .ok (.getfield 23, 3) := by decide +kernel
theorem dX5_readSay_52 : decode cX5_readSay 52 = .ok (.invokevirtual 35, 3) := by decide +kernel
theorem dX5_readSay_55 : decode cX5_readSay 55 = .ok (.aload_n 0, 1) := by decide +kernel
theorem dX5_readSay_56 : decode cX5_readSay 56 = .ok (.invokevirtual 146, 3) := by decide +kernel
theorem dX5_readSay_59 : decode cX5_readSay 59 = .ok (.istore_n 3, 1) := by decide +kernel
theorem dX5_readSay_60 : decode cX5_readSay 60 = .ok (.iload_n 3, 1) := by decide +kernel
theorem dX5_readSay_61 : decode cX5_readSay 61 = .ok (.iconst (-1), 1) := by decide +kernel
theorem dX5_readSay_62 : decode cX5_readSay 62 = .ok (.if_icmp .ne 9, 3) := by decide +kernel
theorem dX5_readSay_65 : decode cX5_readSay 65 = .ok (.aload_n 0, 1) := by decide +kernel
theorem dX5_readSay_66 : decode cX5_readSay 66 = .ok (.iconst 1, 1) := by decide +kernel
theorem dX5_readSay_67 : decode cX5_readSay 67 = .ok (.invokevirtual 52, 3) := by decide +kernel
theorem dX5_readSay_70 : decode cX5_readSay 70 = .ok (.ireturn, 1) := by decide +kernel
theorem dX5_readSay_71 : decode cX5_readSay 71 = .ok (.aload_n 0, 1) := by decide +kernel
theorem dX5_readSay_72 : decode cX5_readSay 72 = .ok (.invokevirtual 82, 3) := by decide +kernel
theorem dX5_readSay_75 : decode cX5_readSay 75 = .ok (.ifCond .ne 5, 3) := by decide +kernel
theorem dX5_readSay_78 : decode cX5_readSay 78 = .ok (.iconst 0, 1) := by decide +kernel
theorem dX5_readSay_79 : decode cX5_readSay 79 = .ok (.ireturn, 1) := by decide +kernel
theorem dX5_readSay_80 : decode cX5_readSay 80 = .ok (.aload_n 0, 1) := by decide +kernel
theorem dX5_readSay_81 : decode cX5_readSay 81 = .ok (.getfield 27, 3) := by decide +kernel
theorem dX5_readSay_84 : decode cX5_readSay 84 = .ok (.iload_n 1, 1) := by decide +kernel
theorem dX5_readSay_85 : decode cX5_readSay 85 = .ok (.iload_n 2, 1) := by decide +kernel
theorem dX5_readSay_86 : decode cX5_readSay 86 = .ok (.invokevirtual 149, 3) := by decide +kernel
theorem dX5_readSay_89 : decode cX5_readSay 89 = .ok (.ifCond .eq 10, 3) := by decide +kernel
theorem dX5_readSay_92 : decode cX5_readSay 92 = .ok (.aload_n 0, 1) := by decide +kernel
theorem dX5_readSay_93 : decode cX5_readSay 93 = .ok (.bipush 6, 2) := by decide +kernel
theorem dX5_readSay_95 : decode cX5_readSay 95 = .ok (.invokevirtual 52, 3) := by decide +kernel
theorem dX5_readSay_98 : decode cX5_readSay 98 = .ok (.ireturn, 1) := by decide +kernel
theorem dX5_readSay_99 : decode cX5_readSay 99 = .ok (.aload_n 0, 1) := by decide +kernel
theorem dX5_readSay_100 : decode cX5_readSay 100 = .ok (.getfield 27, 3) := by decide +kernel
theorem dX5_readSay_103 : decode cX5_readSay 103 = .ok (.getfield 153, 3) := by decide +kernel
theorem dX5_readSay_106 : decode cX5_readSay 106 = .ok (.iload_n 1, 1) := by decide +kernel
theorem dX5_readSay_107 : decode cX5_readSay 107 = .ok (.iload_n 2, 1) := by decide +kernel
theorem dX5_readSay_108 : decode cX5_readSay 108 = .ok (.iload_n 3, 1) := by decide +kernel
theorem dX5_readSay_109 : decode cX5_readSay 109 = .ok (.invokevirtual 157, 3) := by decide +kernel
theorem dX5_readSay_112 : decode cX5_readSay 112 = .ok (.iconst 1, 1) := by decide +kernel
theorem dX5_readSay_113 : decode cX5_readSay 113 = .ok (.ireturn, 1) := by decide +kernel
theorem dX5_readRetract_0 : decode cX5_readRetract 0 = .ok (.aload_n 0, 1) := by decide +kernel
theorem dX5_readRetract_1 : decode cX5_readRetract 1 = .ok (.getfield 23, 3) := by decide +kernel
theorem dX5_readRetract_4 : decode cX5_readRetract 4 = .ok (.invokevirtual 35, 3) := by decide +kernel
theorem dX5_readRetract_7 : decode cX5_readRetract 7 = .ok (.aload_n 0, 1) := by decide +kernel
theorem dX5_readRetract_8 : decode cX5_readRetract 8 = .ok (.getfield 23, 3) := by decide +kernel
theorem dX5_readRetract_11 : decode cX5_readRetract 11 = .ok (.getfield 40, 3) := by decide +kernel
theorem dX5_readRetract_14 : decode cX5_readRetract 14 = .ok (.iconst 2, 1) := by decide +kernel
theorem dX5_readRetract_15 : decode cX5_readRetract 15 = .ok (.if_icmp .eq 9, 3) := by decide +kernel
theorem dX5_readRetract_18 : decode cX5_readRetract 18 = .ok (.aload_n 0, 1) := by decide +kernel
theorem dX5_readRetract_19 : decode cX5_readRetract 19 = .ok (.iconst 1, 1) := by decide +kernel
theorem dX5_readRetract_20 : decode cX5_readRetract 20 = .ok (.invokevirtual 52, 3) := by decide +kernel
theorem dX5_readRetract_23 : decode cX5_readRetract 23 = .ok (.ireturn, 1) := by decide +kernel
theorem dX5_readRetract_24 : decode cX5_readRetract 24 = .ok (.aload_n 0, 1) := by decide +kernel
theorem dX5_readRetract_25 : decode cX5_readRetract 25 = .ok (.getfield 23, 3) := by decide +kernel
theorem dX5_readRetract_28 : decode cX5_readRetract 28 = .ok (.getfield 66, 3) := by decide +kernel
theorem dX5_readRetract_31 : decode cX5_readRetract 31 = .ok (.istore_n 1, 1) := by decide +kernel
theorem dX5_readRetract_32 : decode cX5_readRetract 32 = .ok (.aload_n 0, 1) := by decide +kernel
theorem dX5_readRetract_33 : decode cX5_readRetract 33 = .ok (.getfield 27, 3) := by decide +kernel
theorem dX5_readRetract_36 : decode cX5_readRetract 36 = .ok (.getfield 153, 3) := by decide +kernel
theorem dX5_readRetract_39 : decode cX5_readRetract 39 = .ok (.iload_n 1, 1) := by decide +kernel
theorem dX5_readRetract_40 : decode cX5_readRetract 40 = .ok (.invokevirtual 160, 3) := by decide +kernel
theorem dX5_readRetract_43 : decode cX5_readRetract 43 = .ok (.ifCond .ne 9, 3) := by decide +kernel
theorem dX5_readRetract_46 : decode cX5_readRetract 46 = .ok (.aload_n 0, 1) := by decide +kernel
theorem dX5_readRetract_47 : decode cX5_readRetract 47 = .ok (.iconst 4, 1) := by decide +kernel
theorem dX5_readRetract_48 : decode cX5_readRetract 48 = .ok (.invokevirtual 52, 3) := by decide +kernel
theorem dX5_readRetract_51 : decode cX5_readRetract 51 = .ok (.ireturn, 1) := by decide +kernel
theorem dX5_readRetract_52 : decode cX5_readRetract 52 = .ok (.aload_n 0, 1) := by decide +kernel
theorem dX5_readRetract_53 : decode cX5_readRetract 53 = .ok (.getfield 27, 3) := by decide +kernel
theorem dX5_readRetract_56 : decode cX5_readRetract 56 = .ok (.iload_n 1, 1) := by decide +kernel
theorem dX5_readRetract_57 : decode cX5_readRetract 57 = .ok (.invokevirtual 163, 3) := by decide +kernel
theorem dX5_readRetract_60 : decode cX5_readRetract 60 = .ok (.ifCond .ne 10, 3) := by decide +kernel
theorem dX5_readRetract_63 : decode cX5_readRetract 63 = .ok (.aload_n 0, 1) := by decide +kernel
theorem dX5_readRetract_64 : decode cX5_readRetract 64 = .ok (.bipush 6, 2) := by decide +kernel
theorem dX5_readRetract_66 : decode cX5_readRetract 66 = .ok (.invokevirtual 52, 3) := by decide +kernel
theorem dX5_readRetract_69 : decode cX5_readRetract 69 = .ok (.ireturn, 1) := by decide +kernel
theorem dX5_readRetract_70 : decode cX5_readRetract 70 = .ok (.aload_n 0, 1) := by decide +kernel
theorem dX5_readRetract_71 : decode cX5_readRetract 71 = .ok (.invokevirtual 82, 3) := by decide +kernel
theorem dX5_readRetract_74 : decode cX5_readRetract 74 = .ok (.ifCond .ne 5, 3) := by decide +kernel
theorem dX5_readRetract_77 : decode cX5_readRetract 77 = .ok (.iconst 0, 1) := by decide +kernel
theorem dX5_readRetract_78 : decode cX5_readRetract 78 = .ok (.ireturn, 1) := by decide +kernel
theorem dX5_readRetract_79 : decode cX5_readRetract 79 = .ok (.aload_n 0, 1) := by decide +kernel
theorem dX5_readRetract_80 : decode cX5_readRetract 80 = .ok (.getfield 27, 3) := by decide +kernel
theorem dX5_readRetract_83 : decode cX5_readRetract 83 = .ok (.iload_n 1, 1) := by decide +kernel
theorem dX5_readRetract_84 : decode cX5_readRetract 84 = .ok (.invokevirtual 166, 3) := by decide +kernel
theorem dX5_readRetract_87 : decode cX5_readRetract 87 = .ok (.pop, 1) := by decide +kernel
theorem dX5_readRetract_88 : decode cX5_readRetract 88 = .ok (.iconst 1, 1) := by decide +kernel
theorem dX5_readRetract_89 : decode cX5_readRetract 89 = .ok (.ireturn, 1) := by decide +kernel
theorem dX5_readPass_0 : decode cX5_readPass 0 = .ok (.aload_n 0, 1) := by decide +kernel
theorem dX5_readPass_1 : decode cX5_readPass 1 = .ok (.iconst 0, 1) := by decide +kernel
theorem dX5_readPass_2 : decode cX5_readPass 2 = .ok (.sipush 200, 3) := by decide +kernel
theorem dX5_readPass_5 : decode cX5_readPass 5 = .ok (.invokevirtual 56, 3) := by decide +kernel
theorem dX5_readPass_8 : decode cX5_readPass 8 = .ok (.ifCond .ne 5, 3) := by decide +kernel
theorem dX5_readPass_11 : decode cX5_readPass 11 = .ok (.iconst 0, 1) := by decide +kernel
theorem dX5_readPass_12 : decode cX5_readPass 12 = .ok (.ireturn, 1) := by decide +kernel
theorem dX5_readPass_13 : decode cX5_readPass 13 = .ok (.aload_n 0, 1) := by decide +kernel
theorem dX5_readPass_14 : decode cX5_readPass 14 = .ok (.getfield 23, 3) := by decide +kernel
theorem dX5_readPass_17 : decode cX5_readPass 17 = .ok (.getfield 66, 3) := by decide +kernel
theorem dX5_readPass_20 : decode cX5_readPass 20 = .ok (.istore_n 1, 1) := by decide +kernel
theorem dX5_readPass_21 : decode cX5_readPass 21 = .ok (.aload_n 0, 1) := by decide +kernel
theorem dX5_readPass_22 : decode cX5_readPass 22 = .ok (.invokevirtual 82, 3) := by decide +kernel
theorem dX5_readPass_25 : decode cX5_readPass 25 = .ok (.ifCond .ne 5, 3) := by decide +kernel
theorem dX5_readPass_28 : decode cX5_readPass 28 = .ok (.iconst 0, 1) := by decide +kernel
theorem dX5_readPass_29 : decode cX5_readPass 29 = .ok (.ireturn, 1) := by decide +kernel
theorem dX5_readPass_30 : decode cX5_readPass 30 = .ok (.aload_n 0, 1) := by decide +kernel
theorem dX5_readPass_31 : decode cX5_readPass 31 = .ok (.getfield 27, 3) := by decide +kernel
theorem dX5_readPass_34 : decode cX5_readPass 34 = .ok (.iload_n 1, 1) := by decide +kernel
theorem dX5_readPass_35 : decode cX5_readPass 35 = .ok (.invokevirtual 169, 3) := by decide +kernel
theorem dX5_readPass_38 : decode cX5_readPass 38 = .ok (.iconst 1, 1) := by decide +kernel
theorem dX5_readPass_39 : decode cX5_readPass 39 = .ok (.ireturn, 1) := by decide +kernel
theorem dX5_weatherOfToken_0 : decode cX5_weatherOfToken 0 = .ok (.aload_n 0, 1) := by decide +kernel
theorem dX5_weatherOfToken_1 : decode cX5_weatherOfToken 1 = .ok (.getfield 23, 3) := by decide +kernel
theorem dX5_weatherOfToken_4 : decode cX5_weatherOfToken 4 = .ok (.ldc 173, 2) := by decide +kernel
theorem dX5_weatherOfToken_6 : decode cX5_weatherOfToken 6 = .ok (.invokevirtual 48, 3) := by decide +kernel
theorem dX5_weatherOfToken_9 : decode cX5_weatherOfToken 9 = .ok (.ifCond .eq 5, 3) := by decide +kernel
theorem dX5_weatherOfToken_12 : decode cX5_weatherOfToken 12 = .ok (.iconst 0, 1) := by decide +kernel
theorem dX5_weatherOfToken_13 : decode cX5_weatherOfToken 13 = .ok (.ireturn, 1) := by decide +kernel
theorem dX5_weatherOfToken_14 : decode cX5_weatherOfToken 14 = .ok (.aload_n 0, 1) := by decide +kernel
theorem dX5_weatherOfToken_15 : decode cX5_weatherOfToken 15 = .ok (.getfield 23, 3) := by decide +kernel
theorem dX5_weatherOfToken_18 : decode cX5_weatherOfToken 18 = .ok (.ldc 175, 2) := by decide +kernel
theorem dX5_weatherOfToken_20 : decode cX5_weatherOfToken 20 = .ok (.invokevirtual 48, 3) := by decide +kernel
theorem dX5_weatherOfToken_23 : decode cX5_weatherOfToken 23 = .ok (.ifCond .eq 5, 3) := by decide +kernel
theorem dX5_weatherOfToken_26 : decode cX5_weatherOfToken 26 = .ok (.iconst 1, 1) := by decide +kernel
theorem dX5_weatherOfToken_27 : decode cX5_weatherOfToken 27 = .ok (.ireturn, 1) := by decide +kernel
theorem dX5_weatherOfToken_28 : decode cX5_weatherOfToken 28 = .ok (.aload_n 0, 1) := by decide +kernel
theorem dX5_weatherOfToken_29 : decode cX5_weatherOfToken 29 = .ok (.getfield 23, 3) := by decide +kernel
theorem dX5_weatherOfToken_32 : decode cX5_weatherOfToken 32 = .ok (.ldc 177, 2) := by decide +kernel
theorem dX5_weatherOfToken_34 : decode cX5_weatherOfToken 34 = .ok (.invokevirtual 48, 3) := by decide +kernel
theorem dX5_weatherOfToken_37 : decode cX5_weatherOfToken 37 = .ok (.ifCond .eq 7, 3) := by decide +kernel
theorem dX5_weatherOfToken_40 : decode cX5_weatherOfToken 40 = .ok (.iconst 2, 1) := by decide +kernel
theorem dX5_weatherOfToken_41 : decode cX5_weatherOfToken 41 = .ok (.goto 4, 3) := by decide +kernel
theorem dX5_weatherOfToken_44 : decode cX5_weatherOfToken 44 = .ok (.iconst (-1), 1) := by decide +kernel
theorem dX5_weatherOfToken_45 : decode cX5_weatherOfToken 45 = .ok (.ireturn, 1) := by decide +kernel
theorem dX5_readNewName_0 : decode cX5_readNewName 0 = .ok (.aload_n 0, 1) := by decide +kernel
theorem dX5_readNewName_1 : decode cX5_readNewName 1 = .ok (.getfield 23, 3) := by decide +kernel
theorem dX5_readNewName_4 : decode cX5_readNewName 4 = .ok (.invokevirtual 35, 3) := by decide +kernel
theorem dX5_readNewName_7 : decode cX5_readNewName 7 = .ok (.aload_n 0, 1) := by decide +kernel
theorem dX5_readNewName_8 : decode cX5_readNewName 8 = .ok (.getfield 23, 3) := by decide +kernel
theorem dX5_readNewName_11 : decode cX5_readNewName 11 = .ok (.getfield 40, 3) := by decide +kernel
theorem dX5_readNewName_14 : decode cX5_readNewName 14 = .ok (.iconst 1, 1) := by decide +kernel
theorem dX5_readNewName_15 : decode cX5_readNewName 15 = .ok (.if_icmp .eq 9, 3) := by decide +kernel
theorem dX5_readNewName_18 : decode cX5_readNewName 18 = .ok (.aload_n 0, 1) := by decide +kernel
theorem dX5_readNewName_19 : decode cX5_readNewName 19 = .ok (.iconst 1, 1) := by decide +kernel
theorem dX5_readNewName_20 : decode cX5_readNewName 20 = .ok (.invokevirtual 52, 3) := by decide +kernel
theorem dX5_readNewName_23 : decode cX5_readNewName 23 = .ok (.ireturn, 1) := by decide +kernel
theorem dX5_readNewName_24 : decode cX5_readNewName 24 = .ok (.aload_n 0, 1) := by decide +kernel
theorem dX5_readNewName_25 : decode cX5_readNewName 25 = .ok (.getfield 23, 3) := by decide +kernel
theorem dX5_readNewName_28 : decode cX5_readNewName 28 = .ok (.invokevirtual 122, 3) := by decide +kernel
theorem dX5_readNewName_31 : decode cX5_readNewName 31 = .ok (.istore_n 1, 1) := by decide +kernel
theorem dX5_readNewName_32 : decode cX5_readNewName 32 = .ok (.iload_n 1, 1) := by decide +kernel
theorem dX5_readNewName_33 : decode cX5_readNewName 33 = .ok (.ifCond .ne 9, 3) := by decide +kernel
theorem dX5_readNewName_36 : decode cX5_readNewName 36 = .ok (.aload_n 0, 1) := by decide +kernel
theorem dX5_readNewName_37 : decode cX5_readNewName 37 = .ok (.iconst 2, 1) := by decide +kernel
theorem dX5_readNewName_38 : decode cX5_readNewName 38 = .ok (.invokevirtual 52, 3) := by decide +kernel
theorem dX5_readNewName_41 : decode cX5_readNewName 41 = .ok (.ireturn, 1) := by decide +kernel
theorem dX5_readNewName_42 : decode cX5_readNewName 42 = .ok (.aload_n 0, 1) := by decide +kernel
theorem dX5_readNewName_43 : decode cX5_readNewName 43 = .ok (.getfield 27, 3) := by decide +kernel
theorem dX5_readNewName_46 : decode cX5_readNewName 46 = .ok (.getfield 110, 3) := by decide +kernel
theorem dX5_readNewName_49 : decode cX5_readNewName 49 = .ok (.iload_n 1, 1) := by decide +kernel
theorem dX5_readNewName_50 : decode cX5_readNewName 50 = .ok (.invokevirtual 139, 3) := by decide +kernel
theorem dX5_readNewName_53 : decode cX5_readNewName 53 = .ok (.iconst (-1), 1) := by decide +kernel
theorem dX5_readNewName_54 : decode cX5_readNewName 54 = .ok (.if_icmp .ne 18, 3) := by decide +kernel
theorem dX5_readNewName_57 : decode cX5_readNewName 57 = .ok (.aload_n 0, 1) := by decide +kernel
theorem dX5_readNewName_58 : decode cX5_readNewName 58 = .ok (.getfield 27, 3) := by decide +kernel
theorem dX5_readNewName_61 : decode cX5_readNewName 61 = .ok (.getfield 129, 3) := by decide +kernel
theorem dX5_readNewName_64 : decode cX5_readNewName 64 = .ok (.iload_n 1, 1) := by decide +kernel
theorem dX5_readNewName_65 : decode cX5_readNewName 65 = .ok (.invokevirtual 179, 3) := by decide +kernel
theorem dX5_readNewName_68 : decode cX5_readNewName 68 = .ok (.iconst (-1), 1) := by decide +kernel
theorem dX5_readNewName_69 : decode cX5_readNewName 69 = .ok (.if_icmp .eq 7, 3) := by decide +kernel
theorem dX5_readNewName_72 : decode cX5_readNewName 72 = .ok (.iconst 1, 1) := by decide +kernel
theorem dX5_readNewName_73 : decode cX5_readNewName 73 = .ok (.goto 4, 3) := by decide +kernel
theorem dX5_readNewName_76 : decode cX5_readNewName 76 = .ok (.iconst 0, 1) := by decide +kernel
theorem dX5_readNewName_77 : decode cX5_readNewName 77 = .ok (.istore_n 2, 1) := by decide +kernel
theorem dX5_readNewName_78 : decode cX5_readNewName 78 = .ok (.iload_n 2, 1) := by decide +kernel
theorem dX5_readNewName_79 : decode cX5_readNewName 79 = .ok (.ifCond .eq 11, 3) := by decide +kernel
theorem dX5_readNewName_82 : decode cX5_readNewName 82 = .ok (.aload_n 0, 1) := by decide +kernel
theorem dX5_readNewName_83 : decode cX5_readNewName 83 = .ok (.iconst 3, 1) := by decide +kernel
theorem dX5_readNewName_84 : decode cX5_readNewName 84 = .ok (.invokevirtual 52, 3) := by decide +kernel
theorem dX5_readNewName_87 : decode cX5_readNewName 87 = .ok (.ifCond .eq 7, 3) := by decide +kernel
theorem dX5_readNewName_90 : decode cX5_readNewName 90 = .ok (.iconst 1, 1) := by decide +kernel
theorem dX5_readNewName_91 : decode cX5_readNewName 91 = .ok (.goto 4, 3) := by decide +kernel
theorem dX5_readNewName_94 : decode cX5_readNewName 94 = .ok (.iconst 0, 1) := by decide +kernel
theorem dX5_readNewName_95 : decode cX5_readNewName 95 = .ok (.ireturn, 1) := by decide +kernel
theorem dX5_readKnownVillage_0 : decode cX5_readKnownVillage 0 = .ok (.aload_n 0, 1) := by decide +kernel
theorem dX5_readKnownVillage_1 : decode cX5_readKnownVillage 1 = .ok (.getfield 23, 3) := by decide +kernel
theorem dX5_readKnownVillage_4 : decode cX5_readKnownVillage 4 = .ok (.invokevirtual 35, 3) := by decide +kernel
theorem dX5_readKnownVillage_7 : decode cX5_readKnownVillage 7 = .ok (.aload_n 0, 1) := by decide +kernel
theorem dX5_readKnownVillage_8 : decode cX5_readKnownVillage 8 = .ok (.getfield 23, 3) := by decide +kernel
theorem dX5_readKnownVillage_11 : decode cX5_readKnownVillage 11 = .ok (.getfield 40, 3) := by decide +kernel
theorem dX5_readKnownVillage_14 : decode cX5_readKnownVillage 14 = .ok (.iconst 1, 1) := by decide +kernel
theorem dX5_readKnownVillage_15 : decode cX5_readKnownVillage 15 = .ok (.if_icmp .eq 9, 3) := by decide +kernel
theorem dX5_readKnownVillage_18 : decode cX5_readKnownVillage 18 = .ok (.aload_n 0, 1) := by decide +kernel
theorem dX5_readKnownVillage_19 : decode cX5_readKnownVillage 19 = .ok (.iconst 1, 1) := by decide +kernel
theorem dX5_readKnownVillage_20 : decode cX5_readKnownVillage 20 = .ok (.invokevirtual 52, 3) := by decide +kernel
theorem dX5_readKnownVillage_23 : decode cX5_readKnownVillage 23 = .ok (.ireturn, 1) := by decide +kernel
theorem dX5_readKnownVillage_24 : decode cX5_readKnownVillage 24 = .ok (.aload_n 0, 1) := by decide +kernel
theorem dX5_readKnownVillage_25 : decode cX5_readKnownVillage 25 = .ok (.getfield 27, 3) := by decide +kernel
theorem dX5_readKnownVillage_28 : decode cX5_readKnownVillage 28 = .ok (.getfield 110, 3) := by decide +kernel
theorem dX5_readKnownVillage_31 : decode cX5_readKnownVillage 31 = .ok (.aload_n 0, 1) := by decide +kernel
theorem dX5_readKnownVillage_32 : decode cX5_readKnownVillage 32 = .ok (.getfield 23, 3) := by decide +kernel
theorem dX5_readKnownVillage_35 : decode cX5_readKnownVillage 35 = .ok (.invokevirtual 122, 3) := by decide +kernel
theorem dX5_readKnownVillage_38 : decode cX5_readKnownVillage 38 = .ok (.invokevirtual 139, 3) := by decide +kernel
theorem dX5_readKnownVillage_41 : decode cX5_readKnownVillage 41 = .ok (.iconst (-1), 1) := by decide +kernel
theorem dX5_readKnownVillage_42 : decode cX5_readKnownVillage 42 = .ok (.if_icmp .ne 11, 3) := by decide +kernel
theorem dX5_readKnownVillage_45 : decode cX5_readKnownVillage 45 = .ok (.aload_n 0, 1) := by decide +kernel
theorem dX5_readKnownVillage_46 : decode cX5_readKnownVillage 46 = .ok (.iconst 4, 1) := by decide +kernel
theorem dX5_readKnownVillage_47 : decode cX5_readKnownVillage 47 = .ok (.invokevirtual 52, 3) := by decide +kernel
theorem dX5_readKnownVillage_50 : decode cX5_readKnownVillage 50 = .ok (.ifCond .eq 7, 3) := by decide +kernel
theorem dX5_readKnownVillage_53 : decode cX5_readKnownVillage 53 = .ok (.iconst 1, 1) := by decide +kernel
theorem dX5_readKnownVillage_54 : decode cX5_readKnownVillage 54 = .ok (.goto 4, 3) := by decide +kernel
theorem dX5_readKnownVillage_57 : decode cX5_readKnownVillage 57 = .ok (.iconst 0, 1) := by decide +kernel
theorem dX5_readKnownVillage_58 : decode cX5_readKnownVillage 58 = .ok (.ireturn, 1) := by decide +kernel
theorem dX5_readNumber_0 : decode cX5_readNumber 0 = .ok (.aload_n 0, 1) := by decide +kernel
theorem dX5_readNumber_1 : decode cX5_readNumber 1 = .ok (.getfield 23, 3) := by decide +kernel
theorem dX5_readNumber_4 : decode cX5_readNumber 4 = .ok (.invokevirtual 35, 3) := by decide +kernel
theorem dX5_readNumber_7 : decode cX5_readNumber 7 = .ok (.aload_n 0, 1) := by decide +kernel
theorem dX5_readNumber_8 : decode cX5_readNumber 8 = .ok (.getfield 23, 3) := by decide +kernel
theorem dX5_readNumber_11 : decode cX5_readNumber 11 = .ok (.getfield 40, 3) := by decide +kernel
theorem dX5_readNumber_14 : decode cX5_readNumber 14 = .ok (.iconst 2, 1) := by decide +kernel
theorem dX5_readNumber_15 : decode cX5_readNumber 15 = .ok (.if_icmp .eq 9, 3) := by decide +kernel
theorem dX5_readNumber_18 : decode cX5_readNumber 18 = .ok (.aload_n 0, 1) := by decide +kernel
theorem dX5_readNumber_19 : decode cX5_readNumber 19 = .ok (.iconst 1, 1) := by decide +kernel
theorem dX5_readNumber_20 : decode cX5_readNumber 20 = .ok (.invokevirtual 52, 3) := by decide +kernel
theorem dX5_readNumber_23 : decode cX5_readNumber 23 = .ok (.ireturn, 1) := by decide +kernel
theorem dX5_readNumber_24 : decode cX5_readNumber 24 = .ok (.aload_n 0, 1) := by decide +kernel
theorem dX5_readNumber_25 : decode cX5_readNumber 25 = .ok (.getfield 23, 3) := by decide +kernel
theorem dX5_readNumber_28 : decode cX5_readNumber 28 = .ok (.getfield 66, 3) := by decide +kernel
theorem dX5_readNumber_31 : decode cX5_readNumber 31 = .ok (.iload_n 1, 1) := by decide +kernel
theorem dX5_readNumber_32 : decode cX5_readNumber 32 = .ok (.iload_n 2, 1) := by decide +kernel
theorem dX5_readNumber_33 : decode cX5_readNumber 33 = .ok (.invokestatic 180, 3) := by decide +kernel
theorem dX5_readNumber_36 : decode cX5_readNumber 36 = .ok (.ifCond .ne 11, 3) := by decide +kernel
theorem dX5_readNumber_39 : decode cX5_readNumber 39 = .ok (.aload_n 0, 1) := by decide +kernel
theorem dX5_readNumber_40 : decode cX5_readNumber 40 = .ok (.iconst 2, 1) := by decide +kernel
theorem dX5_readNumber_41 : decode cX5_readNumber 41 = .ok (.invokevirtual 52, 3) := by decide +kernel
theorem dX5_readNumber_44 : decode cX5_readNumber 44 = .ok (.ifCond .eq 7, 3) := by decide +kernel
theorem dX5_readNumber_47 : decode cX5_readNumber 47 = .ok (.iconst 1, 1) := by decide +kernel
theorem dX5_readNumber_48 : decode cX5_readNumber 48 = .ok (.goto 4, 3) := by decide +kernel
theorem dX5_readNumber_51 : decode cX5_readNumber 51 = .ok (.iconst 0, 1) := by decide +kernel
theorem dX5_readNumber_52 : decode cX5_readNumber 52 = .ok (.ireturn, 1) := by decide +kernel
theorem dX5_readSemicolon_0 : decode cX5_readSemicolon 0 = .ok (.aload_n 0, 1) := by decide +kernel
theorem dX5_readSemicolon_1 : decode cX5_readSemicolon 1 = .ok (.getfield 23, 3) := by decide +kernel
theorem dX5_readSemicolon_4 : decode cX5_readSemicolon 4 = .ok (.invokevirtual 35, 3) := by decide +kernel
theorem dX5_readSemicolon_7 : decode cX5_readSemicolon 7 = .ok (.aload_n 0, 1) := by decide +kernel
theorem dX5_readSemicolon_8 : decode cX5_readSemicolon 8 = .ok (.getfield 23, 3) := by decide +kernel
theorem dX5_readSemicolon_11 : decode cX5_readSemicolon 11 = .ok (.invokevirtual 184, 3) := by decide +kernel
theorem dX5_readSemicolon_14 : decode cX5_readSemicolon 14 = .ok (.ifCond .ne 11, 3) := by decide +kernel
theorem dX5_readSemicolon_17 : decode cX5_readSemicolon 17 = .ok (.aload_n 0, 1) := by decide +kernel
theorem dX5_readSemicolon_18 : decode cX5_readSemicolon 18 = .ok (.iconst 1, 1) := by decide +kernel
theorem dX5_readSemicolon_19 : decode cX5_readSemicolon 19 = .ok (.invokevirtual 52, 3) := by decide +kernel
theorem dX5_readSemicolon_22 : decode cX5_readSemicolon 22 = .ok (.ifCond .eq 7, 3) := by decide +kernel
theorem dX5_readSemicolon_25 : decode cX5_readSemicolon 25 = .ok (.iconst 1, 1) := by decide +kernel
theorem dX5_readSemicolon_26 : decode cX5_readSemicolon 26 = .ok (.goto 4, 3) := by decide +kernel
theorem dX5_readSemicolon_29 : decode cX5_readSemicolon 29 = .ok (.iconst 0, 1) := by decide +kernel
theorem dX5_readSemicolon_30 : decode cX5_readSemicolon 30 = .ok (.ireturn, 1) := by decide +kernel
theorem dX5_fail_0 : decode cX5_fail 0 = .ok (.aload_n 0, 1) := by decide +kernel
theorem dX5_fail_1 : decode cX5_fail 1 = .ok (.iload_n 1, 1) := by decide +kernel
theorem dX5_fail_2 : decode cX5_fail 2 = .ok (.putfield 9, 3) := by decide +kernel
theorem dX5_fail_5 : decode cX5_fail 5 = .ok (.aload_n 0, 1) := by decide +kernel
theorem dX5_fail_6 : decode cX5_fail 6 = .ok (.aload_n 0, 1) := by decide +kernel
theorem dX5_fail_7 : decode cX5_fail 7 = .ok (.getfield 23, 3) := by decide +kernel
theorem dX5_fail_10 : decode cX5_fail 10 = .ok (.getfield 187, 3) := by decide +kernel
theorem dX5_fail_13 : decode cX5_fail 13 = .ok (.putfield 15, 3) := by decide +kernel
theorem dX5_fail_16 : decode cX5_fail 16 = .ok (.iconst 0, 1) := by decide +kernel
theorem dX5_fail_17 : decode cX5_fail 17 = .ok (.ireturn, 1) := by decide +kernel
theorem dX6_init_0 : decode cX6_init 0 = .ok (.aload_n 0, 1) := by decide +kernel
theorem dX6_init_1 : decode cX6_init 1 = .ok (.invokespecial 3, 3) := by decide +kernel
theorem dX6_init_4 : decode cX6_init 4 = .ok (.aload_n 0, 1) := by decide +kernel
theorem dX6_init_5 : decode cX6_init 5 = .ok (.iconst 0, 1) := by decide +kernel
theorem dX6_init_6 : decode cX6_init 6 = .ok (.putfield 11, 3) := by decide +kernel
theorem dX6_init_9 : decode cX6_init 9 = .ok (.aload_n 0, 1) := by decide +kernel
theorem dX6_init_10 : decode cX6_init 10 = .ok (.iconst 0, 1) := by decide +kernel
theorem dX6_init_11 : decode cX6_init 11 = .ok (.putfield 15, 3) := by decide +kernel
theorem dX6_init_14 : decode cX6_init 14 = .ok (.aload_n 0, 1) := by decide +kernel
theorem dX6_init_15 : decode cX6_init 15 = .ok (.iconst 0, 1) := by decide +kernel
theorem dX6_init_16 : decode cX6_init 16 = .ok (.putfield 18, 3) := by decide +kernel
theorem dX6_init_19 : decode cX6_init 19 = .ok (.aload_n 0, 1) := by decide +kernel
theorem dX6_init_20 : decode cX6_init 20 = .ok (.iconst 0, 1) := by decide +kernel
theorem dX6_init_21 : decode cX6_init 21 = .ok (.putfield 21, 3) := by decide +kernel
theorem dX6_init_24 : decode cX6_init 24 = .ok (.aload_n 0, 1) := by decide +kernel
theorem dX6_init_25 : decode cX6_init 25 = .ok (.aload_n 1, 1) := by decide +kernel
theorem dX6_init_26 : decode cX6_init 26 = .ok (.putfield 24, 3) := by decide +kernel
theorem dX6_init_29 : decode cX6_init 29 = .ok (.return_, 1) := by decide +kernel
theorem dX6_next_0 : decode cX6_next 0 = .ok (.aload_n 0, 1) := by decide +kernel
theorem dX6_next_1 : decode cX6_next 1 = .ok (.aload_n 0, 1) := by decide +kernel
theorem dX6_next_2 : decode cX6_next 2 = .ok (.getfield 18, 3) := by decide +kernel
theorem dX6_next_5 : decode cX6_next 5 = .ok (.putfield 15, 3) := by decide +kernel
theorem dX6_next_8 : decode cX6_next 8 = .ok (.aload_n 0, 1) := by decide +kernel
theorem dX6_next_9 : decode cX6_next 9 = .ok (.getfield 15, 3) := by decide +kernel
theorem dX6_next_12 : decode cX6_next 12 = .ok (.aload_n 0, 1) := by decide +kernel
theorem dX6_next_13 : decode cX6_next 13 = .ok (.getfield 24, 3) := by decide +kernel
theorem dX6_next_16 : decode cX6_next 16 = .ok (.getfield 28, 3) := by decide +kernel
theorem dX6_next_19 : decode cX6_next 19 = .ok (.if_icmp .ge 34, 3) := by decide +kernel
theorem dX6_next_22 : decode cX6_next 22 = .ok (.aload_n 0, 1) := by decide +kernel
theorem dX6_next_23 : decode cX6_next 23 = .ok (.aload_n 0, 1) := by decide +kernel
theorem dX6_next_24 : decode cX6_next 24 = .ok (.getfield 24, 3) := by decide +kernel
theorem dX6_next_27 : decode cX6_next 27 = .ok (.aload_n 0, 1) := by decide +kernel
theorem dX6_next_28 : decode cX6_next 28 = .ok (.getfield 15, 3) := by decide +kernel
theorem dX6_next_31 : decode cX6_next 31 = .ok (.invokevirtual 33, 3) := by decide +kernel
theorem dX6_next_34 : decode cX6_next 34 = .ok (.invokevirtual 37, 3) := by decide +kernel
theorem dX6_next_37 : decode cX6_next 37 = .ok (.ifCond .eq 16, 3) := by decide +kernel
theorem dX6_next_40 : decode cX6_next 40 = .ok (.aload_n 0, 1) := by decide +kernel
theorem dX6_next_41 : decode cX6_next 41 = .ok (.dup, 1) := by decide +kernel
theorem dX6_next_42 : decode cX6_next 42 = .ok (.getfield 15, 3) := by decide +kernel
theorem dX6_next_45 : decode cX6_next 45 = .ok (.iconst 1, 1) := by decide +kernel
theorem dX6_next_46 : decode cX6_next 46 = .ok (.iadd, 1) := by decide +kernel
theorem dX6_next_47 : decode cX6_next 47 = .ok (.putfield 15, 3) := by decide +kernel
theorem dX6_next_50 : decode cX6_next 50 = .ok (.goto (-42), 3) := by decide +kernel
theorem dX6_next_53 : decode cX6_next 53 = .ok (.aload_n 0, 1) := by decide +kernel
theorem dX6_next_54 : decode cX6_next 54 = .ok (.aload_n 0, 1) := by decide +kernel
theorem dX6_next_55 : decode cX6_next 55 = .ok (.getfield 15, 3) := by decide +kernel
theorem dX6_next_58 : decode cX6_next 58 = .ok (.putfield 18, 3) := by decide +kernel
theorem dX6_next_61 : decode cX6_next 61 = .ok (.aload_n 0, 1) := by decide +kernel
theorem dX6_next_62 : decode cX6_next 62 = .ok (.getfield 24, 3) := by decide +kernel
theorem dX6_next_65 : decode cX6_next 65 = .ok (.aload_n 0, 1) := by decide +kernel
theorem dX6_next_66 : decode cX6_next 66 = .ok (.getfield 15, 3) := by decide +kernel
theorem dX6_next_69 : decode cX6_next 69 = .ok (.invokevirtual 33, 3) := by decide +kernel
theorem dX6_next_72 : decode cX6_next 72 = .ok (.istore_n 1, 1) := by decide +kernel
theorem dX6_next_73 : decode cX6_next 73 = .ok (.iload_n 1, 1) := by decide +kernel
theorem dX6_next_74 : decode cX6_next 74 = .ok (.iconst (-1), 1) := by decide +kernel
theorem dX6_next_75 : decode cX6_next 75 = .ok (.if_icmp .ne 11, 3) := by decide +kernel
theorem dX6_next_78 : decode cX6_next 78 = .ok (.aload_n 0, 1) := by decide +kernel
theorem dX6_next_79 : decode cX6_next 79 = .ok (.iconst 0, 1) := by decide +kernel
theorem dX6_next_80 : decode cX6_next 80 = .ok (.putfield 11, 3) := by decide +kernel
theorem dX6_next_83 : decode cX6_next 83 = .ok (.goto 93, 3) := by decide +kernel
theorem dX6_next_86 : decode cX6_next 86 = .ok (.iload_n 1, 1) := by decide +kernel
theorem dX6_next_87 : decode cX6_next 87 = .ok (.invokestatic 41, 3) := by decide +kernel
theorem dX6_next_90 : decode cX6_next 90 = .ok (.ifCond .eq 52, 3) := by decide +kernel
theorem dX6_next_93 : decode cX6_next 93 = .ok (.aload_n 0, 1) := by decide +kernel
theorem dX6_next_94 : decode cX6_next 94 = .ok (.iconst 1, 1) := by decide +kernel
theorem dX6_next_95 : decode cX6_next 95 = .ok (.putfield 11, 3) := by decide +kernel
theorem dX6_next_98 : decode cX6_next 98 = .ok (.aload_n 0, 1) := by decide +kernel
theorem dX6_next_99 : decode cX6_next 99 = .ok (.getfield 18, 3) := by decide +kernel
theorem dX6_next_102 : decode cX6_next 102 = .ok (.aload_n 0, 1) := by decide +kernel
theorem dX6_next_103 : decode cX6_next 103 = .ok (.getfield 24, 3) := by decide +kernel
theorem dX6_next_106 : decode cX6_next 106 = .ok (.getfield 28, 3) := by decide +kernel
theorem dX6_next_109 : decode cX6_next 109 = .ok (.if_icmp .ge 67, 3) := by decide +kernel
theorem dX6_next_112 : decode cX6_next 112 = .ok (.aload_n 0, 1) := by decide +kernel
theorem dX6_next_113 : decode cX6_next 113 = .ok (.getfield 24, 3) := by decide +kernel
theorem dX6_next_116 : decode cX6_next 116 = .ok (.aload_n 0, 1) := by decide +kernel
theorem dX6_next_117 : decode cX6_next 117 = .ok (.getfield 18, 3) := by decide +kernel
theorem dX6_next_120 : decode cX6_next 120 = .ok (.invokevirtual 33, 3) := by decide +kernel
theorem dX6_next_123 : decode cX6_next 123 = .ok (.invokestatic 41, 3) := by decide +kernel
theorem dX6_next_126 : decode cX6_next 126 = .ok (.ifCond .eq 50, 3) := by decide +kernel
theorem dX6_next_129 : decode cX6_next 129 = .ok (.aload_n 0, 1) := by decide +kernel
theorem dX6_next_130 : decode cX6_next 130 = .ok (.dup, 1) := by decide +kernel
theorem dX6_next_131 : decode cX6_next 131 = .ok (.getfield 18, 3) := by decide +kernel
theorem dX6_next_134 : decode cX6_next 134 = .ok (.iconst 1, 1) := by decide +kernel
theorem dX6_next_135 : decode cX6_next 135 = .ok (.iadd, 1) := by decide +kernel
theorem dX6_next_136 : decode cX6_next 136 = .ok (.putfield 18, 3) := by decide +kernel
theorem dX6_next_139 : decode cX6_next 139 = .ok (.goto (-41), 3) := by decide +kernel
theorem dX6_next_142 : decode cX6_next 142 = .ok (.iload_n 1, 1) := by decide +kernel
theorem dX6_next_143 : decode cX6_next 143 = .ok (.invokestatic 44, 3) := by decide +kernel
theorem dX6_next_146 : decode cX6_next 146 = .ok (.ifCond .eq 15, 3) := by decide +kernel
theorem dX6_next_149 : decode cX6_next 149 = .ok (.aload_n 0, 1) := by decide +kernel
theorem dX6_next_150 : decode cX6_next 150 = .ok (.iconst 2, 1) := by decide +kernel
theorem dX6_next_151 : decode cX6_next 151 = .ok (.putfield 11, 3) := by decide +kernel
theorem dX6_next_154 : decode cX6_next 154 = .ok (.aload_n 0, 1) := by decide +kernel
theorem dX6_next_155 : decode cX6_next 155 = .ok (.invokevirtual 47, 3) := by decide +kernel
theorem dX6_next_158 : decode cX6_next 158 = .ok (.goto 18, 3) := by decide +kernel
theorem dX6_next_161 : decode cX6_next 161 = .ok (.aload_n 0, 1) := by decide +kernel
theorem dX6_next_162 : decode cX6_next 162 = .ok (.iconst 3, 1) := by decide +kernel
theorem dX6_next_163 : decode cX6_next 163 = .ok (.putfield 11, 3) := by decide +kernel
theorem dX6_next_166 : decode cX6_next 166 = .ok (.aload_n 0, 1) := by decide +kernel
theorem dX6_next_167 : decode cX6_next 167 = .ok (.dup, 1) := by decide +kernel
theorem dX6_next_168 : decode cX6_next 168 = .ok (.getfield 18, 3) := by decide +kernel
theorem dX6_next_171 : decode cX6_next 171 = .ok (.iconst 1, 1) := by decide +kernel
theorem dX6_next_172 : decode cX6_next 172 = .ok (.iadd, 1) := by decide +kernel
theorem dX6_next_173 : decode cX6_next 173 = .ok (.putfield 18, 3) := by decide +kernel
theorem dX6_next_176 : decode cX6_next 176 = .ok (.return_, 1) := by decide +kernel
theorem dX6_isBlank_0 : decode cX6_isBlank 0 = .ok (.iload_n 1, 1) := by decide +kernel
theorem dX6_isBlank_1 : decode cX6_isBlank 1 = .ok (.bipush 32, 2) := by decide +kernel
theorem dX6_isBlank_3 : decode cX6_isBlank 3 = .ok (.if_icmp .eq 9, 3) := by decide +kernel
theorem dX6_isBlank_6 : decode cX6_isBlank 6 = .ok (.iload_n 1, 1) := by decide +kernel
theorem dX6_isBlank_7 : decode cX6_isBlank 7 = .ok (.bipush 10, 2) := by decide +kernel
theorem dX6_isBlank_9 : decode cX6_isBlank 9 = .ok (.if_icmp .ne 7, 3) := by decide +kernel
theorem dX6_isBlank_12 : decode cX6_isBlank 12 = .ok (.iconst 1, 1) := by decide +kernel
theorem dX6_isBlank_13 : decode cX6_isBlank 13 = .ok (.goto 4, 3) := by decide +kernel
theorem dX6_isBlank_16 : decode cX6_isBlank 16 = .ok (.iconst 0, 1) := by decide +kernel
theorem dX6_isBlank_17 : decode cX6_isBlank 17 = .ok (.ireturn, 1) := by decide +kernel
theorem dX6_readDigits_0 : decode cX6_readDigits 0 = .ok (.aload_n 0, 1) := by decide +kernel
theorem dX6_readDigits_1 : decode cX6_readDigits 1 = .ok (.iconst 0, 1) := by decide +kernel
theorem dX6_readDigits_2 : decode cX6_readDigits 2 = .ok (.putfield 21, 3) := by decide +kernel
theorem dX6_readDigits_5 : decode cX6_readDigits 5 = .ok (.aload_n 0, 1) := by decide +kernel
theorem dX6_readDigits_6 : decode cX6_readDigits 6 = .ok (.getfield 18, 3) := by decide +kernel
theorem dX6_readDigits_9 : decode cX6_readDigits 9 = .ok (.aload_n 0, 1) := by decide +kernel
theorem dX6_readDigits_10 : decode cX6_readDigits 10 = .ok (.getfield 24, 3) := by decide +kernel
theorem dX6_readDigits_13 : decode cX6_readDigits 13 = .ok (.getfield 28, 3) := by decide +kernel
theorem dX6_readDigits_16 : decode cX6_readDigits 16 = .ok (.if_icmp .ge 64, 3) := by decide +kernel
theorem dX6_readDigits_19 : decode cX6_readDigits 19 = .ok (.aload_n 0, 1) := by decide +kernel
theorem dX6_readDigits_20 : decode cX6_readDigits 20 = .ok (.getfield 24, 3) := by decide +kernel
theorem dX6_readDigits_23 : decode cX6_readDigits 23 = .ok (.aload_n 0, 1) := by decide +kernel
theorem dX6_readDigits_24 : decode cX6_readDigits 24 = .ok (.getfield 18, 3) := by decide +kernel
theorem dX6_readDigits_27 : decode cX6_readDigits 27 = .ok (.invokevirtual 33, 3) := by decide +kernel
theorem dX6_readDigits_30 : decode cX6_readDigits 30 = .ok (.invokestatic 44, 3) := by decide +kernel
theorem dX6_readDigits_33 : decode cX6_readDigits 33 = .ok (.ifCond .eq 47, 3) := by decide +kernel
theorem dX6_readDigits_36 : decode cX6_readDigits 36 = .ok (.aload_n 0, 1) := by decide +kernel
theorem dX6_readDigits_37 : decode cX6_readDigits 37 = .ok (.ldc 50, 2) := by decide +kernel
theorem dX6_readDigits_39 : decode cX6_readDigits 39 = .ok (.bipush 10, 2) := by decide +kernel
theorem dX6_readDigits_41 : decode cX6_readDigits 41 = .ok (.aload_n 0, 1) := by decide +kernel
theorem dX6_readDigits_42 : decode cX6_readDigits 42 = .ok (.getfield 21, 3) := by decide +kernel
theorem dX6_readDigits_45 : decode cX6_readDigits 45 = .ok (.imul, 1) := by decide +kernel
theorem dX6_readDigits_46 : decode cX6_readDigits 46 = .ok (.aload_n 0, 1) := by decide +kernel
theorem dX6_readDigits_47 : decode cX6_readDigits 47 = .ok (.getfield 24, 3) := by decide +kernel
theorem dX6_readDigits_50 : decode cX6_readDigits 50 = .ok (.aload_n 0, 1) := by decide +kernel
theorem dX6_readDigits_51 : decode cX6_readDigits 51 = .ok (.getfield 18, 3) := by decide +kernel
theorem dX6_readDigits_54 : decode cX6_readDigits 54 = .ok (.invokevirtual 33, 3) := by decide +kernel
theorem dX6_readDigits_57 : decode cX6_readDigits 57 = .ok (.iadd, 1) := by decide +kernel
theorem dX6_readDigits_58 : decode cX6_readDigits 58 = .ok (.bipush 48, 2) := by decide +kernel
theorem dX6_readDigits_60 : decode cX6_readDigits 60 = .ok (.isub, 1) := by decide +kernel
theorem dX6_readDigits_61 : decode cX6_readDigits 61 = .ok (.invokestatic 51, 3) := by decide +kernel
theorem dX6_readDigits_64 : decode cX6_readDigits 64 = .ok (.putfield 21, 3) := by decide +kernel
theorem dX6_readDigits_67 : decode cX6_readDigits 67 = .ok (.aload_n 0, 1) := by decide +kernel
theorem dX6_readDigits_68 : decode cX6_readDigits 68 = .ok (.dup, 1) := by decide +kernel
theorem dX6_readDigits_69 : decode cX6_readDigits 69 = .ok (.getfield 18, 3) := by decide +kernel
theorem dX6_readDigits_72 : decode cX6_readDigits 72 = .ok (.iconst 1, 1) := by decide +kernel
theorem dX6_readDigits_73 : decode cX6_readDigits 73 = .ok (.iadd, 1) := by decide +kernel
theorem dX6_readDigits_74 : decode cX6_readDigits 74 = .ok (.putfield 18, 3) := by decide +kernel
theorem dX6_readDigits_77 : decode cX6_readDigits 77 = .ok (.goto (-72), 3) := by decide +kernel
theorem dX6_readDigits_80 : decode cX6_readDigits 80 = .ok (.return_, 1) := by decide +kernel
theorem dX6_isWord_0 : decode cX6_isWord 0 = .ok (.aload_n 0, 1) := by decide +kernel
theorem dX6_isWord_1 : decode cX6_isWord 1 = .ok (.getfield 11, 3) := by decide +kernel
theorem dX6_isWord_4 : decode cX6_isWord 4 = .ok (.iconst 1, 1) := by decide +kernel
theorem dX6_isWord_5 : decode cX6_isWord 5 = .ok (.if_icmp .ne 19, 3) := by decide +kernel
theorem dX6_isWord_8 : decode cX6_isWord 8 = .ok (.aload_n 0, 1) := by decide +kernel
theorem dX6_isWord_9 : decode cX6_isWord 9 = .ok (.getfield 18, 3) := by decide +kernel
theorem dX6_isWord_12 : decode cX6_isWord 12 = .ok (.aload_n 0, 1) := by decide +kernel
theorem dX6_isWord_13 : decode cX6_isWord 13 = .ok (.getfield 15, 3) := by decide +kernel
theorem dX6_isWord_16 : decode cX6_isWord 16 = .ok (.isub, 1) := by decide +kernel
theorem dX6_isWord_17 : decode cX6_isWord 17 = .ok (.aload_n 1, 1) := by decide +kernel
theorem dX6_isWord_18 : decode cX6_isWord 18 = .ok (.invokevirtual 57, 3) := by decide +kernel
theorem dX6_isWord_21 : decode cX6_isWord 21 = .ok (.if_icmp .eq 5, 3) := by decide +kernel
theorem dX6_isWord_24 : decode cX6_isWord 24 = .ok (.iconst 0, 1) := by decide +kernel
theorem dX6_isWord_25 : decode cX6_isWord 25 = .ok (.ireturn, 1) := by decide +kernel
theorem dX6_isWord_26 : decode cX6_isWord 26 = .ok (.iconst 0, 1) := by decide +kernel
theorem dX6_isWord_27 : decode cX6_isWord 27 = .ok (.istore_n 2, 1) := by decide +kernel
theorem dX6_isWord_28 : decode cX6_isWord 28 = .ok (.iload_n 2, 1) := by decide +kernel
theorem dX6_isWord_29 : decode cX6_isWord 29 = .ok (.aload_n 1, 1) := by decide +kernel
theorem dX6_isWord_30 : decode cX6_isWord 30 = .ok (.invokevirtual 57, 3) := by decide +kernel
theorem dX6_isWord_33 : decode cX6_isWord 33 = .ok (.if_icmp .ge 32, 3) := by decide +kernel
theorem dX6_isWord_36 : decode cX6_isWord 36 = .ok (.aload_n 0, 1) := by decide +kernel
theorem dX6_isWord_37 : decode cX6_isWord 37 = .ok (.getfield 24, 3) := by decide +kernel
theorem dX6_isWord_40 : decode cX6_isWord 40 = .ok (.aload_n 0, 1) := by decide +kernel
theorem dX6_isWord_41 : decode cX6_isWord 41 = .ok (.getfield 15, 3) := by decide +kernel
theorem dX6_isWord_44 : decode cX6_isWord 44 = .ok (.iload_n 2, 1) := by decide +kernel
theorem dX6_isWord_45 : decode cX6_isWord 45 = .ok (.iadd, 1) := by decide +kernel
theorem dX6_isWord_46 : decode cX6_isWord 46 = .ok (.invokevirtual 33, 3) := by decide +kernel
theorem dX6_isWord_49 : decode cX6_isWord 49 = .ok (.aload_n 1, 1) := by decide +kernel
theorem dX6_isWord_50 : decode cX6_isWord 50 = .ok (.iload_n 2, 1) := by decide +kernel
theorem dX6_isWord_51 : decode cX6_isWord 51 = .ok (.invokevirtual 62, 3) := by decide +kernel
theorem dX6_isWord_54 : decode cX6_isWord 54 = .ok (.if_icmp .eq 5, 3) := by decide +kernel
theorem dX6_isWord_57 : decode cX6_isWord 57 = .ok (.iconst 0, 1) := by decide +kernel
theorem dX6_isWord_58 : decode cX6_isWord 58 = .ok (.ireturn, 1) := by decide +kernel
theorem dX6_isWord_59 : decode cX6_isWord 59 = .ok (.iinc 2 1, 3) := by decide +kernel
theorem dX6_isWord_62 : decode cX6_isWord 62 = .ok (.goto (-34), 3) := by decide +kernel
theorem dX6_isWord_65 : decode cX6_isWord 65 = .ok (.iconst 1, 1) := by decide +kernel
theorem dX6_isWord_66 : decode cX6_isWord 66 = .ok (.ireturn, 1) := by decide +kernel
theorem dX6_isSemicolon_0 : decode cX6_isSemicolon 0 = .ok (.aload_n 0, 1) := by decide +kernel
theorem dX6_isSemicolon_1 : decode cX6_isSemicolon 1 = .ok (.getfield 11, 3) := by decide +kernel
theorem dX6_isSemicolon_4 : decode cX6_isSemicolon 4 = .ok (.iconst 3, 1) := by decide +kernel
theorem dX6_isSemicolon_5 : decode cX6_isSemicolon 5 = .ok (.if_icmp .ne 23, 3) := by decide +kernel
theorem dX6_isSemicolon_8 : decode cX6_isSemicolon 8 = .ok (.aload_n 0, 1) := by decide +kernel
theorem dX6_isSemicolon_9 : decode cX6_isSemicolon 9 = .ok (.getfield 24, 3) := by decide +kernel
theorem dX6_isSemicolon_12 : decode cX6_isSemicolon 12 = .ok (.aload_n 0, 1) := by decide +kernel
theorem dX6_isSemicolon_13 : decode cX6_isSemicolon 13 = .ok (.getfield 15, 3) := by decide +kernel
theorem dX6_isSemicolon_16 : decode cX6_isSemicolon 16 = .ok (.invokevirtual 33, 3) := by decide +kernel
theorem dX6_isSemicolon_19 : decode cX6_isSemicolon 19 = .ok (.bipush 59, 2) := by decide +kernel
theorem dX6_isSemicolon_21 : decode cX6_isSemicolon 21 = .ok (.if_icmp .ne 7, 3) := by decide +kernel
theorem dX6_isSemicolon_24 : decode cX6_isSemicolon 24 = .ok (.iconst 1, 1) := by decide +kernel
theorem dX6_isSemicolon_25 : decode cX6_isSemicolon 25 = .ok (.goto 4, 3) := by decide +kernel
theorem dX6_isSemicolon_28 : decode cX6_isSemicolon 28 = .ok (.iconst 0, 1) := by decide +kernel
theorem dX6_isSemicolon_29 : decode cX6_isSemicolon 29 = .ok (.ireturn, 1) := by decide +kernel
theorem dX6_name_0 : decode cX6_name 0 = .ok (.aload_n 0, 1) := by decide +kernel
theorem dX6_name_1 : decode cX6_name 1 = .ok (.getfield 24, 3) := by decide +kernel
theorem dX6_name_4 : decode cX6_name 4 = .ok (.aload_n 0, 1) := by decide +kernel
theorem dX6_name_5 : decode cX6_name 5 = .ok (.getfield 15, 3) := by decide +kernel
theorem dX6_name_8 : decode cX6_name 8 = .ok (.aload_n 0, 1) := by decide +kernel
theorem dX6_name_9 : decode cX6_name 9 = .ok (.getfield 18, 3) := by decide +kernel
theorem dX6_name_12 : decode cX6_name 12 = .ok (.invokevirtual 66, 3) := by decide +kernel
theorem dX6_name_15 : decode cX6_name 15 = .ok (.ireturn, 1) := by decide +kernel
theorem dX7_init_0 : decode cX7_init 0 = .ok (.aload_n 0, 1) := by decide +kernel
theorem dX7_init_1 : decode cX7_init 1 = .ok (.invokespecial 3, 3) := by decide +kernel
theorem dX7_init_4 : decode cX7_init 4 = .ok (.aload_n 0, 1) := by decide +kernel
theorem dX7_init_5 : decode cX7_init 5 = .ok (.iconst 3, 1) := by decide +kernel
theorem dX7_init_6 : decode cX7_init 6 = .ok (.newarray .int, 2) := by decide +kernel
theorem dX7_init_8 : decode cX7_init 8 = .ok (.putfield 9, 3) := by decide +kernel
theorem dX7_init_11 : decode cX7_init 11 = .ok (.aload_n 0, 1) := by decide +kernel
theorem dX7_init_12 : decode cX7_init 12 = .ok (.iconst 3, 1) := by decide +kernel
theorem dX7_init_13 : decode cX7_init 13 = .ok (.newarray .int, 2) := by decide +kernel
theorem dX7_init_15 : decode cX7_init 15 = .ok (.putfield 15, 3) := by decide +kernel
theorem dX7_init_18 : decode cX7_init 18 = .ok (.aload_n 0, 1) := by decide +kernel
theorem dX7_init_19 : decode cX7_init 19 = .ok (.iconst 0, 1) := by decide +kernel
theorem dX7_init_20 : decode cX7_init 20 = .ok (.putfield 18, 3) := by decide +kernel
theorem dX7_init_23 : decode cX7_init 23 = .ok (.return_, 1) := by decide +kernel
theorem dX7_sumOfOdds_0 : decode cX7_sumOfOdds 0 = .ok (.aload_n 0, 1) := by decide +kernel
theorem dX7_sumOfOdds_1 : decode cX7_sumOfOdds 1 = .ok (.getfield 9, 3) := by decide +kernel
theorem dX7_sumOfOdds_4 : decode cX7_sumOfOdds 4 = .ok (.iconst 0, 1) := by decide +kernel
theorem dX7_sumOfOdds_5 : decode cX7_sumOfOdds 5 = .ok (.iaload, 1) := by decide +kernel
theorem dX7_sumOfOdds_6 : decode cX7_sumOfOdds 6 = .ok (.aload_n 0, 1) := by decide +kernel
theorem dX7_sumOfOdds_7 : decode cX7_sumOfOdds 7 = .ok (.getfield 9, 3) := by decide +kernel
theorem dX7_sumOfOdds_10 : decode cX7_sumOfOdds 10 = .ok (.iconst 1, 1) := by decide +kernel
theorem dX7_sumOfOdds_11 : decode cX7_sumOfOdds 11 = .ok (.iaload, 1) := by decide +kernel
theorem dX7_sumOfOdds_12 : decode cX7_sumOfOdds 12 = .ok (.iadd, 1) := by decide +kernel
theorem dX7_sumOfOdds_13 : decode cX7_sumOfOdds 13 = .ok (.aload_n 0, 1) := by decide +kernel
theorem dX7_sumOfOdds_14 : decode cX7_sumOfOdds 14 = .ok (.getfield 9, 3) := by decide +kernel
theorem dX7_sumOfOdds_17 : decode cX7_sumOfOdds 17 = .ok (.iconst 2, 1) := by decide +kernel
theorem dX7_sumOfOdds_18 : decode cX7_sumOfOdds 18 = .ok (.iaload, 1) := by decide +kernel
theorem dX7_sumOfOdds_19 : decode cX7_sumOfOdds 19 = .ok (.iadd, 1) := by decide +kernel
theorem dX7_sumOfOdds_20 : decode cX7_sumOfOdds 20 = .ok (.ireturn, 1) := by decide +kernel
theorem dX7_seedAfter_0 : decode cX7_seedAfter 0 = .ok (.bipush 29, 2) := by decide +kernel
theorem dX7_seedAfter_2 : decode cX7_seedAfter 2 = .ok (.iload_n 0, 1) := by decide +kernel
theorem dX7_seedAfter_3 : decode cX7_seedAfter 3 = .ok (.imul, 1) := by decide +kernel
theorem dX7_seedAfter_4 : decode cX7_seedAfter 4 = .ok (.bipush 11, 2) := by decide +kernel
theorem dX7_seedAfter_6 : decode cX7_seedAfter 6 = .ok (.iadd, 1) := by decide +kernel
theorem dX7_seedAfter_7 : decode cX7_seedAfter 7 = .ok (.sipush 1024, 3) := by decide +kernel
theorem dX7_seedAfter_10 : decode cX7_seedAfter 10 = .ok (.irem, 1) := by decide +kernel
theorem dX7_seedAfter_11 : decode cX7_seedAfter 11 = .ok (.ireturn, 1) := by decide +kernel
theorem dX7_weatherFor_0 : decode cX7_weatherFor 0 = .ok (.aload_n 0, 1) := by decide +kernel
theorem dX7_weatherFor_1 : decode cX7_weatherFor 1 = .ok (.invokevirtual 22, 3) := by decide +kernel
theorem dX7_weatherFor_4 : decode cX7_weatherFor 4 = .ok (.istore_n 2, 1) := by decide +kernel
theorem dX7_weatherFor_5 : decode cX7_weatherFor 5 = .ok (.iload_n 2, 1) := by decide +kernel
theorem dX7_weatherFor_6 : decode cX7_weatherFor 6 = .ok (.iconst 1, 1) := by decide +kernel
theorem dX7_weatherFor_7 : decode cX7_weatherFor 7 = .ok (.if_icmp .ge 7, 3) := by decide +kernel
theorem dX7_weatherFor_10 : decode cX7_weatherFor 10 = .ok (.iconst 0, 1) := by decide +kernel
theorem dX7_weatherFor_11 : decode cX7_weatherFor 11 = .ok (.goto 6, 3) := by decide +kernel
theorem dX7_weatherFor_14 : decode cX7_weatherFor 14 = .ok (.iload_n 1, 1) := by decide +kernel
theorem dX7_weatherFor_15 : decode cX7_weatherFor 15 = .ok (.iload_n 2, 1) := by decide +kernel
theorem dX7_weatherFor_16 : decode cX7_weatherFor 16 = .ok (.irem, 1) := by decide +kernel
theorem dX7_weatherFor_17 : decode cX7_weatherFor 17 = .ok (.istore_n 3, 1) := by decide +kernel
theorem dX7_weatherFor_18 : decode cX7_weatherFor 18 = .ok (.iload_n 3, 1) := by decide +kernel
theorem dX7_weatherFor_19 : decode cX7_weatherFor 19 = .ok (.aload_n 0, 1) := by decide +kernel
theorem dX7_weatherFor_20 : decode cX7_weatherFor 20 = .ok (.getfield 9, 3) := by decide +kernel
theorem dX7_weatherFor_23 : decode cX7_weatherFor 23 = .ok (.iconst 0, 1) := by decide +kernel
theorem dX7_weatherFor_24 : decode cX7_weatherFor 24 = .ok (.iaload, 1) := by decide +kernel
theorem dX7_weatherFor_25 : decode cX7_weatherFor 25 = .ok (.if_icmp .ge 5, 3) := by decide +kernel
theorem dX7_weatherFor_28 : decode cX7_weatherFor 28 = .ok (.iconst 0, 1) := by decide +kernel
theorem dX7_weatherFor_29 : decode cX7_weatherFor 29 = .ok (.ireturn, 1) := by decide +kernel
theorem dX7_weatherFor_30 : decode cX7_weatherFor 30 = .ok (.iload_n 3, 1) := by decide +kernel
theorem dX7_weatherFor_31 : decode cX7_weatherFor 31 = .ok (.aload_n 0, 1) := by decide +kernel
theorem dX7_weatherFor_32 : decode cX7_weatherFor 32 = .ok (.getfield 9, 3) := by decide +kernel
theorem dX7_weatherFor_35 : decode cX7_weatherFor 35 = .ok (.iconst 0, 1) := by decide +kernel
theorem dX7_weatherFor_36 : decode cX7_weatherFor 36 = .ok (.iaload, 1) := by decide +kernel
theorem dX7_weatherFor_37 : decode cX7_weatherFor 37 = .ok (.aload_n 0, 1) := by decide +kernel
theorem dX7_weatherFor_38 : decode cX7_weatherFor 38 = .ok (.getfield 9, 3) := by decide +kernel
theorem dX7_weatherFor_41 : decode cX7_weatherFor 41 = .ok (.iconst 1, 1) := by decide +kernel
theorem dX7_weatherFor_42 : decode cX7_weatherFor 42 = .ok (.iaload, 1) := by decide +kernel
theorem dX7_weatherFor_43 : decode cX7_weatherFor 43 = .ok (.iadd, 1) := by decide +kernel
theorem dX7_weatherFor_44 : decode cX7_weatherFor 44 = .ok (.if_icmp .ge 7, 3) := by decide +kernel
theorem dX7_weatherFor_47 : decode cX7_weatherFor 47 = .ok (.iconst 1, 1) := by decide +kernel
theorem dX7_weatherFor_48 : decode cX7_weatherFor 48 = .ok (.goto 4, 3) := by decide +kernel
theorem dX7_weatherFor_51 : decode cX7_weatherFor 51 = .ok (.iconst 2, 1) := by decide +kernel
theorem dX7_weatherFor_52 : decode cX7_weatherFor 52 = .ok (.ireturn, 1) := by decide +kernel
theorem dX7_draw_0 : decode cX7_draw 0 = .ok (.aload_n 0, 1) := by decide +kernel
theorem dX7_draw_1 : decode cX7_draw 1 = .ok (.aload_n 0, 1) := by decide +kernel
theorem dX7_draw_2 : decode cX7_draw 2 = .ok (.getfield 18, 3) := by decide +kernel
theorem dX7_draw_5 : decode cX7_draw 5 = .ok (.invokestatic 26, 3) := by decide +kernel
theorem dX7_draw_8 : decode cX7_draw 8 = .ok (.putfield 18, 3) := by decide +kernel
theorem dX7_draw_11 : decode cX7_draw 11 = .ok (.aload_n 0, 1) := by decide +kernel
theorem dX7_draw_12 : decode cX7_draw 12 = .ok (.aload_n 0, 1) := by decide +kernel
theorem dX7_draw_13 : decode cX7_draw 13 = .ok (.getfield 18, 3) := by decide +kernel
theorem dX7_draw_16 : decode cX7_draw 16 = .ok (.invokevirtual 30, 3) := by decide +kernel
theorem dX7_draw_19 : decode cX7_draw 19 = .ok (.istore_n 1, 1) := by decide +kernel
theorem dX7_draw_20 : decode cX7_draw 20 = .ok (.aload_n 0, 1) := by decide +kernel
theorem dX7_draw_21 : decode cX7_draw 21 = .ok (.getfield 15, 3) := by decide +kernel
theorem dX7_draw_24 : decode cX7_draw 24 = .ok (.iload_n 1, 1) := by decide +kernel
theorem dX7_draw_25 : decode cX7_draw 25 = .ok (.dup2, 1) := by decide +kernel
theorem dX7_draw_26 : decode cX7_draw 26 = .ok (.iaload, 1) := by decide +kernel
theorem dX7_draw_27 : decode cX7_draw 27 = .ok (.iconst 1, 1) := by decide +kernel
theorem dX7_draw_28 : decode cX7_draw 28 = .ok (.iadd, 1) := by decide +kernel
theorem dX7_draw_29 : decode cX7_draw 29 = .ok (.iastore, 1) := by decide +kernel
theorem dX7_draw_30 : decode cX7_draw 30 = .ok (.iload_n 1, 1) := by decide +kernel
theorem dX7_draw_31 : decode cX7_draw 31 = .ok (.ireturn, 1) := by decide +kernel
theorem dX7_firstGreatest_0 : decode cX7_firstGreatest 0 = .ok (.iconst 0, 1) := by decide +kernel
theorem dX7_firstGreatest_1 : decode cX7_firstGreatest 1 = .ok (.istore_n 1, 1) := by decide +kernel
theorem dX7_firstGreatest_2 : decode cX7_firstGreatest 2 = .ok (.iconst 1, 1) := by decide +kernel
theorem dX7_firstGreatest_3 : decode cX7_firstGreatest 3 = .ok (.istore_n 2, 1) := by decide +kernel
theorem dX7_firstGreatest_4 : decode cX7_firstGreatest 4 = .ok (.iload_n 2, 1) := by decide +kernel
theorem dX7_firstGreatest_5 : decode cX7_firstGreatest 5 = .ok (.iconst 2, 1) := by decide +kernel
theorem dX7_firstGreatest_6 : decode cX7_firstGreatest 6 = .ok (.if_icmp .gt 20, 3) := by decide +kernel
theorem dX7_firstGreatest_9 : decode cX7_firstGreatest 9 = .ok (.aload_n 0, 1) := by decide +kernel
theorem dX7_firstGreatest_10 : decode cX7_firstGreatest 10 = .ok (.iload_n 2, 1) := by decide +kernel
theorem dX7_firstGreatest_11 : decode cX7_firstGreatest 11 = .ok (.iaload, 1) := by decide +kernel
theorem dX7_firstGreatest_12 : decode cX7_firstGreatest 12 = .ok (.aload_n 0, 1) := by decide +kernel
theorem dX7_firstGreatest_13 : decode cX7_firstGreatest 13 = .ok (.iload_n 1, 1) := by decide +kernel
theorem dX7_firstGreatest_14 : decode cX7_firstGreatest 14 = .ok (.iaload, 1) := by decide +kernel
theorem dX7_firstGreatest_15 : decode cX7_firstGreatest 15 = .ok (.if_icmp .le 5, 3) := by decide +kernel
theorem dX7_firstGreatest_18 : decode cX7_firstGreatest 18 = .ok (.iload_n 2, 1) := by decide +kernel
theorem dX7_firstGreatest_19 : decode cX7_firstGreatest 19 = .ok (.istore_n 1, 1) := by decide +kernel
theorem dX7_firstGreatest_20 : decode cX7_firstGreatest 20 = .ok (.iinc 2 1, 3) := by decide +kernel
theorem dX7_firstGreatest_23 : decode cX7_firstGreatest 23 = .ok (.goto (-19), 3) := by decide +kernel
theorem dX7_firstGreatest_26 : decode cX7_firstGreatest 26 = .ok (.iload_n 1, 1) := by decide +kernel
theorem dX7_firstGreatest_27 : decode cX7_firstGreatest 27 = .ok (.ireturn, 1) := by decide +kernel
theorem dX7_lastLeast_0 : decode cX7_lastLeast 0 = .ok (.iconst 0, 1) := by decide +kernel
theorem dX7_lastLeast_1 : decode cX7_lastLeast 1 = .ok (.istore_n 1, 1) := by decide +kernel
theorem dX7_lastLeast_2 : decode cX7_lastLeast 2 = .ok (.iconst 1, 1) := by decide +kernel
theorem dX7_lastLeast_3 : decode cX7_lastLeast 3 = .ok (.istore_n 2, 1) := by decide +kernel
theorem dX7_lastLeast_4 : decode cX7_lastLeast 4 = .ok (.iload_n 2, 1) := by decide +kernel
theorem dX7_lastLeast_5 : decode cX7_lastLeast 5 = .ok (.iconst 2, 1) := by decide +kernel
theorem dX7_lastLeast_6 : decode cX7_lastLeast 6 = .ok (.if_icmp .gt 20, 3) := by decide +kernel
theorem dX7_lastLeast_9 : decode cX7_lastLeast 9 = .ok (.aload_n 0, 1) := by decide +kernel
theorem dX7_lastLeast_10 : decode cX7_lastLeast 10 = .ok (.iload_n 2, 1) := by decide +kernel
theorem dX7_lastLeast_11 : decode cX7_lastLeast 11 = .ok (.iaload, 1) := by decide +kernel
theorem dX7_lastLeast_12 : decode cX7_lastLeast 12 = .ok (.aload_n 0, 1) := by decide +kernel
theorem dX7_lastLeast_13 : decode cX7_lastLeast 13 = .ok (.iload_n 1, 1) := by decide +kernel
theorem dX7_lastLeast_14 : decode cX7_lastLeast 14 = .ok (.iaload, 1) := by decide +kernel
theorem dX7_lastLeast_15 : decode cX7_lastLeast 15 = .ok (.if_icmp .gt 5, 3) := by decide +kernel
theorem dX7_lastLeast_18 : decode cX7_lastLeast 18 = .ok (.iload_n 2, 1) := by decide +kernel
theorem dX7_lastLeast_19 : decode cX7_lastLeast 19 = .ok (.istore_n 1, 1) := by decide +kernel
theorem dX7_lastLeast_20 : decode cX7_lastLeast 20 = .ok (.iinc 2 1, 3) := by decide +kernel
theorem dX7_lastLeast_23 : decode cX7_lastLeast 23 = .ok (.goto (-19), 3) := by decide +kernel
theorem dX7_lastLeast_26 : decode cX7_lastLeast 26 = .ok (.iload_n 1, 1) := by decide +kernel
theorem dX7_lastLeast_27 : decode cX7_lastLeast 27 = .ok (.ireturn, 1) := by decide +kernel
theorem dX7_closeYear_0 : decode cX7_closeYear 0 = .ok (.aload_n 0, 1) := by decide +kernel
theorem dX7_closeYear_1 : decode cX7_closeYear 1 = .ok (.getfield 15, 3) := by decide +kernel
theorem dX7_closeYear_4 : decode cX7_closeYear 4 = .ok (.invokestatic 33, 3) := by decide +kernel
theorem dX7_closeYear_7 : decode cX7_closeYear 7 = .ok (.istore_n 1, 1) := by decide +kernel
theorem dX7_closeYear_8 : decode cX7_closeYear 8 = .ok (.aload_n 0, 1) := by decide +kernel
theorem dX7_closeYear_9 : decode cX7_closeYear 9 = .ok (.getfield 9, 3) := by decide +kernel
theorem dX7_closeYear_12 : decode cX7_closeYear 12 = .ok (.iload_n 1, 1) := by decide +kernel
theorem dX7_closeYear_13 : decode cX7_closeYear 13 = .ok (.iaload, 1) := by decide +kernel
theorem dX7_closeYear_14 : decode cX7_closeYear 14 = .ok (.bipush 20, 2) := by decide +kernel
theorem dX7_closeYear_16 : decode cX7_closeYear 16 = .ok (.if_icmp .ge 13, 3) := by decide +kernel
theorem dX7_closeYear_19 : decode cX7_closeYear 19 = .ok (.aload_n 0, 1) := by decide +kernel
theorem dX7_closeYear_20 : decode cX7_closeYear 20 = .ok (.getfield 9, 3) := by decide +kernel
theorem dX7_closeYear_23 : decode cX7_closeYear 23 = .ok (.iload_n 1, 1) := by decide +kernel
theorem dX7_closeYear_24 : decode cX7_closeYear 24 = .ok (.dup2, 1) := by decide +kernel
theorem dX7_closeYear_25 : decode cX7_closeYear 25 = .ok (.iaload, 1) := by decide +kernel
theorem dX7_closeYear_26 : decode cX7_closeYear 26 = .ok (.iconst 1, 1) := by decide +kernel
theorem dX7_closeYear_27 : decode cX7_closeYear 27 = .ok (.iadd, 1) := by decide +kernel
theorem dX7_closeYear_28 : decode cX7_closeYear 28 = .ok (.iastore, 1) := by decide +kernel
theorem dX7_closeYear_29 : decode cX7_closeYear 29 = .ok (.aload_n 0, 1) := by decide +kernel
theorem dX7_closeYear_30 : decode cX7_closeYear 30 = .ok (.getfield 15, 3) := by decide +kernel
theorem dX7_closeYear_33 : decode cX7_closeYear 33 = .ok (.invokestatic 37, 3) := by decide +kernel
theorem dX7_closeYear_36 : decode cX7_closeYear 36 = .ok (.istore_n 2, 1) := by decide +kernel
theorem dX7_closeYear_37 : decode cX7_closeYear 37 = .ok (.aload_n 0, 1) := by decide +kernel
theorem dX7_closeYear_38 : decode cX7_closeYear 38 = .ok (.getfield 9, 3) := by decide +kernel
theorem dX7_closeYear_41 : decode cX7_closeYear 41 = .ok (.iload_n 2, 1) := by decide +kernel
theorem dX7_closeYear_42 : decode cX7_closeYear 42 = .ok (.iaload, 1) := by decide +kernel
theorem dX7_closeYear_43 : decode cX7_closeYear 43 = .ok (.ifCond .le 13, 3) := by decide +kernel
theorem dX7_closeYear_46 : decode cX7_closeYear 46 = .ok (.aload_n 0, 1) := by decide +kernel
theorem dX7_closeYear_47 : decode cX7_closeYear 47 = .ok (.getfield 9, 3) := by decide +kernel
theorem dX7_closeYear_50 : decode cX7_closeYear 50 = .ok (.iload_n 2, 1) := by decide +kernel
theorem dX7_closeYear_51 : decode cX7_closeYear 51 = .ok (.dup2, 1) := by decide +kernel
theorem dX7_closeYear_52 : decode cX7_closeYear 52 = .ok (.iaload, 1) := by decide +kernel
theorem dX7_closeYear_53 : decode cX7_closeYear 53 = .ok (.iconst 1, 1) := by decide +kernel
theorem dX7_closeYear_54 : decode cX7_closeYear 54 = .ok (.isub, 1) := by decide +kernel
theorem dX7_closeYear_55 : decode cX7_closeYear 55 = .ok (.iastore, 1) := by decide +kernel
theorem dX7_closeYear_56 : decode cX7_closeYear 56 = .ok (.iconst 0, 1) := by decide +kernel
theorem dX7_closeYear_57 : decode cX7_closeYear 57 = .ok (.istore_n 3, 1) := by decide +kernel
theorem dX7_closeYear_58 : decode cX7_closeYear 58 = .ok (.iload_n 3, 1) := by decide +kernel
theorem dX7_closeYear_59 : decode cX7_closeYear 59 = .ok (.iconst 2, 1) := by decide +kernel
theorem dX7_closeYear_60 : decode cX7_closeYear 60 = .ok (.if_icmp .gt 16, 3) := by decide +kernel
theorem dX7_closeYear_63 : decode cX7_closeYear 63 = .ok (.aload_n 0, 1) := by decide +kernel
theorem dX7_closeYear_64 : decode cX7_closeYear 64 = .ok (.getfield 15, 3) := by decide +kernel
theorem dX7_closeYear_67 : decode cX7_closeYear 67 = .ok (.iload_n 3, 1) := by decide +kernel
theorem dX7_closeYear_68 : decode cX7_closeYear 68 = .ok (.iconst 0, 1) := by decide +kernel
theorem dX7_closeYear_69 : decode cX7_closeYear 69 = .ok (.iastore, 1) := by decide +kernel
theorem dX7_closeYear_70 : decode cX7_closeYear 70 = .ok (.iinc 3 1, 3) := by decide +kernel
theorem dX7_closeYear_73 : decode cX7_closeYear 73 = .ok (.goto (-15), 3) := by decide +kernel
theorem dX7_closeYear_76 : decode cX7_closeYear 76 = .ok (.return_, 1) := by decide +kernel
theorem dX7_takeFrom_0 : decode cX7_takeFrom 0 = .ok (.aload_n 1, 1) := by decide +kernel
theorem dX7_takeFrom_1 : decode cX7_takeFrom 1 = .ok (.getfield 9, 3) := by decide +kernel
theorem dX7_takeFrom_4 : decode cX7_takeFrom 4 = .ok (.iconst 0, 1) := by decide +kernel
theorem dX7_takeFrom_5 : decode cX7_takeFrom 5 = .ok (.aload_n 0, 1) := by decide +kernel
theorem dX7_takeFrom_6 : decode cX7_takeFrom 6 = .ok (.getfield 9, 3) := by decide +kernel
theorem dX7_takeFrom_9 : decode cX7_takeFrom 9 = .ok (.iconst 0, 1) := by decide +kernel
theorem dX7_takeFrom_10 : decode cX7_takeFrom 10 = .ok (.iconst 3, 1) := by decide +kernel
theorem dX7_takeFrom_11 : decode cX7_takeFrom 11 = .ok (.invokestatic 40, 3) := by decide +kernel
theorem dX7_takeFrom_14 : decode cX7_takeFrom 14 = .ok (.aload_n 1, 1) := by decide +kernel
theorem dX7_takeFrom_15 : decode cX7_takeFrom 15 = .ok (.getfield 15, 3) := by decide +kernel
theorem dX7_takeFrom_18 : decode cX7_takeFrom 18 = .ok (.iconst 0, 1) := by decide +kernel
theorem dX7_takeFrom_19 : decode cX7_takeFrom 19 = .ok (.aload_n 0, 1) := by decide +kernel
theorem dX7_takeFrom_20 : decode cX7_takeFrom 20 = .ok (.getfield 15, 3) := by decide +kernel
theorem dX7_takeFrom_23 : decode cX7_takeFrom 23 = .ok (.iconst 0, 1) := by decide +kernel
theorem dX7_takeFrom_24 : decode cX7_takeFrom 24 = .ok (.iconst 3, 1) := by decide +kernel
theorem dX7_takeFrom_25 : decode cX7_takeFrom 25 = .ok (.invokestatic 40, 3) := by decide +kernel
theorem dX7_takeFrom_28 : decode cX7_takeFrom 28 = .ok (.aload_n 0, 1) := by decide +kernel
theorem dX7_takeFrom_29 : decode cX7_takeFrom 29 = .ok (.aload_n 1, 1) := by decide +kernel
theorem dX7_takeFrom_30 : decode cX7_takeFrom 30 = .ok (.getfield 18, 3) := by decide +kernel
theorem dX7_takeFrom_33 : decode cX7_takeFrom 33 = .ok (.putfield 18, 3) := by decide +kernel
theorem dX7_takeFrom_36 : decode cX7_takeFrom 36 = .ok (.return_, 1) := by decide +kernel
theorem dX8_init_0 : decode cX8_init 0 = .ok (.aload_n 0, 1) := by decide +kernel
theorem dX8_init_1 : decode cX8_init 1 = .ok (.invokespecial 3, 3) := by decide +kernel
theorem dX8_init_4 : decode cX8_init 4 = .ok (.aload_n 0, 1) := by decide +kernel
theorem dX8_init_5 : decode cX8_init 5 = .ok (.new 9, 3) := by decide +kernel
theorem dX8_init_8 : decode cX8_init 8 = .ok (.dup, 1) := by decide +kernel
theorem dX8_init_9 : decode cX8_init 9 = .ok (.invokespecial 11, 3) := by decide +kernel
theorem dX8_init_12 : decode cX8_init 12 = .ok (.putfield 12, 3) := by decide +kernel
theorem dX8_init_15 : decode cX8_init 15 = .ok (.aload_n 0, 1) := by decide +kernel
theorem dX8_init_16 : decode cX8_init 16 = .ok (.new 18, 3) := by decide +kernel
theorem dX8_init_19 : decode cX8_init 19 = .ok (.dup, 1) := by decide +kernel
theorem dX8_init_20 : decode cX8_init 20 = .ok (.invokespecial 20, 3) := by decide +kernel
theorem dX8_init_23 : decode cX8_init 23 = .ok (.putfield 21, 3) := by decide +kernel
theorem dX8_init_26 : decode cX8_init 26 = .ok (.aload_n 0, 1) := by decide +kernel
theorem dX8_init_27 : decode cX8_init 27 = .ok (.new 25, 3) := by decide +kernel
theorem dX8_init_30 : decode cX8_init 30 = .ok (.dup, 1) := by decide +kernel
theorem dX8_init_31 : decode cX8_init 31 = .ok (.invokespecial 27, 3) := by decide +kernel
theorem dX8_init_34 : decode cX8_init 34 = .ok (.putfield 28, 3) := by decide +kernel
theorem dX8_init_37 : decode cX8_init 37 = .ok (.aload_n 0, 1) := by decide +kernel
theorem dX8_init_38 : decode cX8_init 38 = .ok (.new 32, 3) := by decide +kernel
theorem dX8_init_41 : decode cX8_init 41 = .ok (.dup, 1) := by decide +kernel
theorem dX8_init_42 : decode cX8_init 42 = .ok (.invokespecial 34, 3) := by decide +kernel
theorem dX8_init_45 : decode cX8_init 45 = .ok (.putfield 35, 3) := by decide +kernel
theorem dX8_init_48 : decode cX8_init 48 = .ok (.aload_n 0, 1) := by decide +kernel
theorem dX8_init_49 : decode cX8_init 49 = .ok (.new 39, 3) := by decide +kernel
theorem dX8_init_52 : decode cX8_init 52 = .ok (.dup, 1) := by decide +kernel
theorem dX8_init_53 : decode cX8_init 53 = .ok (.invokespecial 41, 3) := by decide +kernel
theorem dX8_init_56 : decode cX8_init 56 = .ok (.putfield 42, 3) := by decide +kernel
theorem dX8_init_59 : decode cX8_init 59 = .ok (.aload_n 0, 1) := by decide +kernel
theorem dX8_init_60 : decode cX8_init 60 = .ok (.iconst 0, 1) := by decide +kernel
theorem dX8_init_61 : decode cX8_init 61 = .ok (.putfield 46, 3) := by decide +kernel
theorem dX8_init_64 : decode cX8_init 64 = .ok (.aload_n 0, 1) := by decide +kernel
theorem dX8_init_65 : decode cX8_init 65 = .ok (.iconst 0, 1) := by decide +kernel
theorem dX8_init_66 : decode cX8_init 66 = .ok (.putfield 50, 3) := by decide +kernel
theorem dX8_init_69 : decode cX8_init 69 = .ok (.aload_n 0, 1) := by decide +kernel
theorem dX8_init_70 : decode cX8_init 70 = .ok (.iconst 0, 1) := by decide +kernel
theorem dX8_init_71 : decode cX8_init 71 = .ok (.putfield 53, 3) := by decide +kernel
theorem dX8_init_74 : decode cX8_init 74 = .ok (.aload_n 0, 1) := by decide +kernel
theorem dX8_init_75 : decode cX8_init 75 = .ok (.iconst 0, 1) := by decide +kernel
theorem dX8_init_76 : decode cX8_init 76 = .ok (.putfield 56, 3) := by decide +kernel
theorem dX8_init_79 : decode cX8_init 79 = .ok (.aload_n 0, 1) := by decide +kernel
theorem dX8_init_80 : decode cX8_init 80 = .ok (.iconst 0, 1) := by decide +kernel
theorem dX8_init_81 : decode cX8_init 81 = .ok (.putfield 59, 3) := by decide +kernel
theorem dX8_init_84 : decode cX8_init 84 = .ok (.aload_n 0, 1) := by decide +kernel
theorem dX8_init_85 : decode cX8_init 85 = .ok (.iconst 0, 1) := by decide +kernel
theorem dX8_init_86 : decode cX8_init 86 = .ok (.putfield 62, 3) := by decide +kernel
theorem dX8_init_89 : decode cX8_init 89 = .ok (.aload_n 0, 1) := by decide +kernel
theorem dX8_init_90 : decode cX8_init 90 = .ok (.iconst 0, 1) := by decide +kernel
theorem dX8_init_91 : decode cX8_init 91 = .ok (.putfield 65, 3) := by decide +kernel
theorem dX8_init_94 : decode cX8_init 94 = .ok (.aload_n 0, 1) := by decide +kernel
theorem dX8_init_95 : decode cX8_init 95 = .ok (.iconst 0, 1) := by decide +kernel
theorem dX8_init_96 : decode cX8_init 96 = .ok (.putfield 68, 3) := by decide +kernel
theorem dX8_init_99 : decode cX8_init 99 = .ok (.aload_n 0, 1) := by decide +kernel
theorem dX8_init_100 : decode cX8_init 100 = .ok (.iconst 0, 1) := by decide +kernel
theorem dX8_init_101 : decode cX8_init 101 = .ok (.putfield 71, 3) := by decide +kernel
theorem dX8_init_104 : decode cX8_init 104 = .ok (.return_, 1) := by decide +kernel
theorem dX8_clear_0 : decode cX8_clear 0 = .ok (.aload_n 0, 1) := by decide +kernel
theorem dX8_clear_1 : decode cX8_clear 1 = .ok (.getfield 12, 3) := by decide +kernel
theorem dX8_clear_4 : decode cX8_clear 4 = .ok (.iconst 0, 1) := by decide +kernel
theorem dX8_clear_5 : decode cX8_clear 5 = .ok (.putfield 74, 3) := by decide +kernel
theorem dX8_clear_8 : decode cX8_clear 8 = .ok (.aload_n 0, 1) := by decide +kernel
theorem dX8_clear_9 : decode cX8_clear 9 = .ok (.getfield 21, 3) := by decide +kernel
theorem dX8_clear_12 : decode cX8_clear 12 = .ok (.iconst 0, 1) := by decide +kernel
theorem dX8_clear_13 : decode cX8_clear 13 = .ok (.putfield 77, 3) := by decide +kernel
theorem dX8_clear_16 : decode cX8_clear 16 = .ok (.aload_n 0, 1) := by decide +kernel
theorem dX8_clear_17 : decode cX8_clear 17 = .ok (.getfield 35, 3) := by decide +kernel
theorem dX8_clear_20 : decode cX8_clear 20 = .ok (.iconst 0, 1) := by decide +kernel
theorem dX8_clear_21 : decode cX8_clear 21 = .ok (.putfield 78, 3) := by decide +kernel
theorem dX8_clear_24 : decode cX8_clear 24 = .ok (.aload_n 0, 1) := by decide +kernel
theorem dX8_clear_25 : decode cX8_clear 25 = .ok (.getfield 42, 3) := by decide +kernel
theorem dX8_clear_28 : decode cX8_clear 28 = .ok (.iconst 0, 1) := by decide +kernel
theorem dX8_clear_29 : decode cX8_clear 29 = .ok (.putfield 79, 3) := by decide +kernel
theorem dX8_clear_32 : decode cX8_clear 32 = .ok (.iconst 0, 1) := by decide +kernel
theorem dX8_clear_33 : decode cX8_clear 33 = .ok (.istore_n 1, 1) := by decide +kernel
theorem dX8_clear_34 : decode cX8_clear 34 = .ok (.iload_n 1, 1) := by decide +kernel
theorem dX8_clear_35 : decode cX8_clear 35 = .ok (.iconst 2, 1) := by decide +kernel
theorem dX8_clear_36 : decode cX8_clear 36 = .ok (.if_icmp .gt 19, 3) := by decide +kernel
theorem dX8_clear_39 : decode cX8_clear 39 = .ok (.aload_n 0, 1) := by decide +kernel
theorem dX8_clear_40 : decode cX8_clear 40 = .ok (.getfield 28, 3) := by decide +kernel
theorem dX8_clear_43 : decode cX8_clear 43 = .ok (.getfield 80, 3) := by decide +kernel
theorem dX8_clear_46 : decode cX8_clear 46 = .ok (.iload_n 1, 1) := by decide +kernel
theorem dX8_clear_47 : decode cX8_clear 47 = .ok (.iconst 0, 1) := by decide +kernel
theorem dX8_clear_48 : decode cX8_clear 48 = .ok (.iastore, 1) := by decide +kernel
theorem dX8_clear_49 : decode cX8_clear 49 = .ok (.iinc 1 1, 3) := by decide +kernel
theorem dX8_clear_52 : decode cX8_clear 52 = .ok (.goto (-18), 3) := by decide +kernel
theorem dX8_clear_55 : decode cX8_clear 55 = .ok (.aload_n 0, 1) := by decide +kernel
theorem dX8_clear_56 : decode cX8_clear 56 = .ok (.iconst 0, 1) := by decide +kernel
theorem dX8_clear_57 : decode cX8_clear 57 = .ok (.putfield 46, 3) := by decide +kernel
theorem dX8_clear_60 : decode cX8_clear 60 = .ok (.aload_n 0, 1) := by decide +kernel
theorem dX8_clear_61 : decode cX8_clear 61 = .ok (.iconst 0, 1) := by decide +kernel
theorem dX8_clear_62 : decode cX8_clear 62 = .ok (.putfield 50, 3) := by decide +kernel
theorem dX8_clear_65 : decode cX8_clear 65 = .ok (.aload_n 0, 1) := by decide +kernel
theorem dX8_clear_66 : decode cX8_clear 66 = .ok (.iconst 0, 1) := by decide +kernel
theorem dX8_clear_67 : decode cX8_clear 67 = .ok (.putfield 53, 3) := by decide +kernel
theorem dX8_clear_70 : decode cX8_clear 70 = .ok (.aload_n 0, 1) := by decide +kernel
theorem dX8_clear_71 : decode cX8_clear 71 = .ok (.iconst 0, 1) := by decide +kernel
theorem dX8_clear_72 : decode cX8_clear 72 = .ok (.putfield 56, 3) := by decide +kernel
theorem dX8_clear_75 : decode cX8_clear 75 = .ok (.aload_n 0, 1) := by decide +kernel
theorem dX8_clear_76 : decode cX8_clear 76 = .ok (.iconst 0, 1) := by decide +kernel
theorem dX8_clear_77 : decode cX8_clear 77 = .ok (.putfield 59, 3) := by decide +kernel
theorem dX8_clear_80 : decode cX8_clear 80 = .ok (.aload_n 0, 1) := by decide +kernel
theorem dX8_clear_81 : decode cX8_clear 81 = .ok (.iconst 0, 1) := by decide +kernel
theorem dX8_clear_82 : decode cX8_clear 82 = .ok (.putfield 62, 3) := by decide +kernel
theorem dX8_clear_85 : decode cX8_clear 85 = .ok (.aload_n 0, 1) := by decide +kernel
theorem dX8_clear_86 : decode cX8_clear 86 = .ok (.iconst 0, 1) := by decide +kernel
theorem dX8_clear_87 : decode cX8_clear 87 = .ok (.putfield 65, 3) := by decide +kernel
theorem dX8_clear_90 : decode cX8_clear 90 = .ok (.aload_n 0, 1) := by decide +kernel
theorem dX8_clear_91 : decode cX8_clear 91 = .ok (.iconst 0, 1) := by decide +kernel
theorem dX8_clear_92 : decode cX8_clear 92 = .ok (.putfield 68, 3) := by decide +kernel
theorem dX8_clear_95 : decode cX8_clear 95 = .ok (.aload_n 0, 1) := by decide +kernel
theorem dX8_clear_96 : decode cX8_clear 96 = .ok (.iconst 0, 1) := by decide +kernel
theorem dX8_clear_97 : decode cX8_clear 97 = .ok (.putfield 71, 3) := by decide +kernel
theorem dX8_clear_100 : decode cX8_clear 100 = .ok (.return_, 1) := by decide +kernel
theorem dX8_takeFrom_0 : decode cX8_takeFrom 0 = .ok (.aload_n 0, 1) := by decide +kernel
theorem dX8_takeFrom_1 : decode cX8_takeFrom 1 = .ok (.getfield 12, 3) := by decide +kernel
theorem dX8_takeFrom_4 : decode cX8_takeFrom 4 = .ok (.aload_n 1, 1) := by decide +kernel
theorem dX8_takeFrom_5 : decode cX8_takeFrom 5 = .ok (.getfield 12, 3) := by decide +kernel
theorem dX8_takeFrom_8 : decode cX8_takeFrom 8 = .ok (.invokevirtual 84, 3) := by decide +kernel
theorem dX8_takeFrom_11 : decode cX8_takeFrom 11 = .ok (.aload_n 0, 1) := by decide +kernel
theorem dX8_takeFrom_12 : decode cX8_takeFrom 12 = .ok (.getfield 21, 3) := by decide +kernel
theorem dX8_takeFrom_15 : decode cX8_takeFrom 15 = .ok (.aload_n 1, 1) := by decide +kernel
theorem dX8_takeFrom_16 : decode cX8_takeFrom 16 = .ok (.getfield 21, 3) := by decide +kernel
theorem dX8_takeFrom_19 : decode cX8_takeFrom 19 = .ok (.invokevirtual 88, 3) := by decide +kernel
theorem dX8_takeFrom_22 : decode cX8_takeFrom 22 = .ok (.aload_n 0, 1) := by decide +kernel
theorem dX8_takeFrom_23 : decode cX8_takeFrom 23 = .ok (.getfield 28, 3) := by decide +kernel
theorem dX8_takeFrom_26 : decode cX8_takeFrom 26 = .ok (.aload_n 1, 1) := by decide +kernel
theorem dX8_takeFrom_27 : decode cX8_takeFrom 27 = .ok (.getfield 28, 3) := by decide +kernel
theorem dX8_takeFrom_30 : decode cX8_takeFrom 30 = .ok (.invokevirtual 91, 3) := by decide +kernel
theorem dX8_takeFrom_33 : decode cX8_takeFrom 33 = .ok (.aload_n 0, 1) := by decide +kernel
theorem dX8_takeFrom_34 : decode cX8_takeFrom 34 = .ok (.getfield 35, 3) := by decide +kernel
theorem dX8_takeFrom_37 : decode cX8_takeFrom 37 = .ok (.aload_n 1, 1) := by decide +kernel
theorem dX8_takeFrom_38 : decode cX8_takeFrom 38 = .ok (.getfield 35, 3) := by decide +kernel
theorem dX8_takeFrom_41 : decode cX8_takeFrom 41 = .ok (.invokevirtual 94, 3) := by decide +kernel
theorem dX8_takeFrom_44 : decode cX8_takeFrom 44 = .ok (.aload_n 0, 1) := by decide +kernel
theorem dX8_takeFrom_45 : decode cX8_takeFrom 45 = .ok (.getfield 42, 3) := by decide +kernel
theorem dX8_takeFrom_48 : decode cX8_takeFrom 48 = .ok (.aload_n 1, 1) := by decide +kernel
theorem dX8_takeFrom_49 : decode cX8_takeFrom 49 = .ok (.getfield 42, 3) := by decide +kernel
theorem dX8_takeFrom_52 : decode cX8_takeFrom 52 = .ok (.invokevirtual 97, 3) := by decide +kernel
theorem dX8_takeFrom_55 : decode cX8_takeFrom 55 = .ok (.aload_n 0, 1) := by decide +kernel
theorem dX8_takeFrom_56 : decode cX8_takeFrom 56 = .ok (.aload_n 1, 1) := by decide +kernel
theorem dX8_takeFrom_57 : decode cX8_takeFrom 57 = .ok (.getfield 46, 3) := by decide +kernel
theorem dX8_takeFrom_60 : decode cX8_takeFrom 60 = .ok (.putfield 46, 3) := by decide +kernel
theorem dX8_takeFrom_63 : decode cX8_takeFrom 63 = .ok (.aload_n 0, 1) := by decide +kernel
theorem dX8_takeFrom_64 : decode cX8_takeFrom 64 = .ok (.aload_n 1, 1) := by decide +kernel
theorem dX8_takeFrom_65 : decode cX8_takeFrom 65 = .ok (.getfield 50, 3) := by decide +kernel
theorem dX8_takeFrom_68 : decode cX8_takeFrom 68 = .ok (.putfield 50, 3) := by decide +kernel
theorem dX8_takeFrom_71 : decode cX8_takeFrom 71 = .ok (.aload_n 0, 1) := by decide +kernel
theorem dX8_takeFrom_72 : decode cX8_takeFrom 72 = .ok (.aload_n 1, 1) := by decide +kernel
theorem dX8_takeFrom_73 : decode cX8_takeFrom 73 = .ok (.getfield 53, 3) := by decide +kernel
theorem dX8_takeFrom_76 : decode cX8_takeFrom 76 = .ok (.putfield 53, 3) := by decide +kernel
theorem dX8_takeFrom_79 : decode cX8_takeFrom 79 = .ok (.aload_n 0, 1) := by decide +kernel
theorem dX8_takeFrom_80 : decode cX8_takeFrom 80 = .ok (.aload_n 1, 1) := by decide +kernel
theorem dX8_takeFrom_81 : decode cX8_takeFrom 81 = .ok (.getfield 56, 3) := by decide +kernel
theorem dX8_takeFrom_84 : decode cX8_takeFrom 84 = .ok (.putfield 56, 3) := by decide +kernel
theorem dX8_takeFrom_87 : decode cX8_takeFrom 87 = .ok (.aload_n 0, 1) := by decide +kernel
theorem dX8_takeFrom_88 : decode cX8_takeFrom 88 = .ok (.aload_n 1, 1) := by decide +kernel
theorem dX8_takeFrom_89 : decode cX8_takeFrom 89 = .ok (.getfield 59, 3) := by decide +kernel
theorem dX8_takeFrom_92 : decode cX8_takeFrom 92 = .ok (.putfield 59, 3) := by decide +kernel
theorem dX8_takeFrom_95 : decode cX8_takeFrom 95 = .ok (.aload_n 0, 1) := by decide +kernel
theorem dX8_takeFrom_96 : decode cX8_takeFrom 96 = .ok (.aload_n 1, 1) := by decide +kernel
theorem dX8_takeFrom_97 : decode cX8_takeFrom 97 = .ok (.getfield 62, 3) := by decide +kernel
theorem dX8_takeFrom_100 : decode cX8_takeFrom 100 = .ok (.putfield 62, 3) := by decide +kernel
theorem dX8_takeFrom_103 : decode cX8_takeFrom 103 = .ok (.aload_n 0, 1) := by decide +kernel
theorem dX8_takeFrom_104 : decode cX8_takeFrom 104 = .ok (.aload_n 1, 1) := by decide +kernel
theorem dX8_takeFrom_105 : decode cX8_takeFrom 105 = .ok (.getfield 65, 3) := by decide +kernel
theorem dX8_takeFrom_108 : decode cX8_takeFrom 108 = .ok (.putfield 65, 3) := by decide +kernel
theorem dX8_takeFrom_111 : decode cX8_takeFrom 111 = .ok (.aload_n 0, 1) := by decide +kernel
theorem dX8_takeFrom_112 : decode cX8_takeFrom 112 = .ok (.aload_n 1, 1) := by decide +kernel
theorem dX8_takeFrom_113 : decode cX8_takeFrom 113 = .ok (.getfield 68, 3) := by decide +kernel
theorem dX8_takeFrom_116 : decode cX8_takeFrom 116 = .ok (.putfield 68, 3) := by decide +kernel
theorem dX8_takeFrom_119 : decode cX8_takeFrom 119 = .ok (.aload_n 0, 1) := by decide +kernel
theorem dX8_takeFrom_120 : decode cX8_takeFrom 120 = .ok (.aload_n 1, 1) := by decide +kernel
theorem dX8_takeFrom_121 : decode cX8_takeFrom 121 = .ok (.getfield 71, 3) := by decide +kernel
theorem dX8_takeFrom_124 : decode cX8_takeFrom 124 = .ok (.putfield 71, 3) := by decide +kernel
theorem dX8_takeFrom_127 : decode cX8_takeFrom 127 = .ok (.return_, 1) := by decide +kernel
theorem dX8_refusalToPrint_0 : decode cX8_refusalToPrint 0 = .ok (.iload_n 2, 1) := by decide +kernel
theorem dX8_refusalToPrint_1 : decode cX8_refusalToPrint 1 = .ok (.aload_n 0, 1) := by decide +kernel
theorem dX8_refusalToPrint_2 : decode cX8_refusalToPrint 2 = .ok (.getfield 46, 3) := by decide +kernel
theorem dX8_refusalToPrint_5 : decode cX8_refusalToPrint 5 = .ok (.iconst 1, 1) := by decide +kernel
theorem dX8_refusalToPrint_6 : decode cX8_refusalToPrint 6 = .ok (.iadd, 1) := by decide +kernel
theorem dX8_refusalToPrint_7 : decode cX8_refusalToPrint 7 = .ok (.aload_n 0, 1) := by decide +kernel
theorem dX8_refusalToPrint_8 : decode cX8_refusalToPrint 8 = .ok (.getfield 46, 3) := by decide +kernel
theorem dX8_refusalToPrint_11 : decode cX8_refusalToPrint 11 = .ok (.bipush 30, 2) := by decide +kernel
theorem dX8_refusalToPrint_13 : decode cX8_refusalToPrint 13 = .ok (.iadd, 1) := by decide +kernel
theorem dX8_refusalToPrint_14 : decode cX8_refusalToPrint 14 = .ok (.invokestatic 100, 3) := by decide +kernel
theorem dX8_refusalToPrint_17 : decode cX8_refusalToPrint 17 = .ok (.ifCond .ne 5, 3) := by decide +kernel
theorem dX8_refusalToPrint_20 : decode cX8_refusalToPrint 20 = .ok (.iconst 1, 1) := by decide +kernel
theorem dX8_refusalToPrint_21 : decode cX8_refusalToPrint 21 = .ok (.ireturn, 1) := by decide +kernel
theorem dX8_refusalToPrint_22 : decode cX8_refusalToPrint 22 = .ok (.aload_n 0, 1) := by decide +kernel
theorem dX8_refusalToPrint_23 : decode cX8_refusalToPrint 23 = .ok (.getfield 35, 3) := by decide +kernel
theorem dX8_refusalToPrint_26 : decode cX8_refusalToPrint 26 = .ok (.iload_n 1, 1) := by decide +kernel
theorem dX8_refusalToPrint_27 : decode cX8_refusalToPrint 27 = .ok (.iload_n 2, 1) := by decide +kernel
theorem dX8_refusalToPrint_28 : decode cX8_refusalToPrint 28 = .ok (.invokevirtual 104, 3) := by decide +kernel
theorem dX8_refusalToPrint_31 : decode cX8_refusalToPrint 31 = .ok (.iconst (-1), 1) := by decide +kernel
theorem dX8_refusalToPrint_32 : decode cX8_refusalToPrint 32 = .ok (.if_icmp .eq 5, 3) := by decide +kernel
theorem dX8_refusalToPrint_35 : decode cX8_refusalToPrint 35 = .ok (.iconst 2, 1) := by decide +kernel
theorem dX8_refusalToPrint_36 : decode cX8_refusalToPrint 36 = .ok (.ireturn, 1) := by decide +kernel
theorem dX8_refusalToPrint_37 : decode cX8_refusalToPrint 37 = .ok (.aload_n 0, 1) := by decide +kernel
theorem dX8_refusalToPrint_38 : decode cX8_refusalToPrint 38 = .ok (.getfield 35, 3) := by decide +kernel
theorem dX8_refusalToPrint_41 : decode cX8_refusalToPrint 41 = .ok (.getfield 78, 3) := by decide +kernel
theorem dX8_refusalToPrint_44 : decode cX8_refusalToPrint 44 = .ok (.bipush 30, 2) := by decide +kernel
theorem dX8_refusalToPrint_46 : decode cX8_refusalToPrint 46 = .ok (.if_icmp .lt 7, 3) := by decide +kernel
theorem dX8_refusalToPrint_49 : decode cX8_refusalToPrint 49 = .ok (.iconst 3, 1) := by decide +kernel
theorem dX8_refusalToPrint_50 : decode cX8_refusalToPrint 50 = .ok (.goto 4, 3) := by decide +kernel
theorem dX8_refusalToPrint_53 : decode cX8_refusalToPrint 53 = .ok (.iconst 0, 1) := by decide +kernel
theorem dX8_refusalToPrint_54 : decode cX8_refusalToPrint 54 = .ok (.ireturn, 1) := by decide +kernel
theorem dX8_canPayBackPage_0 : decode cX8_canPayBackPage 0 = .ok (.aload_n 0, 1) := by decide +kernel
theorem dX8_canPayBackPage_1 : decode cX8_canPayBackPage 1 = .ok (.getfield 50, 3) := by decide +kernel
theorem dX8_canPayBackPage_4 : decode cX8_canPayBackPage 4 = .ok (.aload_n 0, 1) := by decide +kernel
theorem dX8_canPayBackPage_5 : decode cX8_canPayBackPage 5 = .ok (.getfield 35, 3) := by decide +kernel
theorem dX8_canPayBackPage_8 : decode cX8_canPayBackPage 8 = .ok (.iload_n 1, 1) := by decide +kernel
theorem dX8_canPayBackPage_9 : decode cX8_canPayBackPage 9 = .ok (.invokevirtual 108, 3) := by decide +kernel
theorem dX8_canPayBackPage_12 : decode cX8_canPayBackPage 12 = .ok (.if_icmp .lt 7, 3) := by decide +kernel
theorem dX8_canPayBackPage_15 : decode cX8_canPayBackPage 15 = .ok (.iconst 1, 1) := by decide +kernel
theorem dX8_canPayBackPage_16 : decode cX8_canPayBackPage 16 = .ok (.goto 4, 3) := by decide +kernel
theorem dX8_canPayBackPage_19 : decode cX8_canPayBackPage 19 = .ok (.iconst 0, 1) := by decide +kernel
theorem dX8_canPayBackPage_20 : decode cX8_canPayBackPage 20 = .ok (.ireturn, 1) := by decide +kernel
theorem dX8_takeBackPage_0 : decode cX8_takeBackPage 0 = .ok (.aload_n 0, 1) := by decide +kernel
theorem dX8_takeBackPage_1 : decode cX8_takeBackPage 1 = .ok (.getfield 35, 3) := by decide +kernel
theorem dX8_takeBackPage_4 : decode cX8_takeBackPage 4 = .ok (.iload_n 1, 1) := by decide +kernel
theorem dX8_takeBackPage_5 : decode cX8_takeBackPage 5 = .ok (.invokevirtual 108, 3) := by decide +kernel
theorem dX8_takeBackPage_8 : decode cX8_takeBackPage 8 = .ok (.istore_n 2, 1) := by decide +kernel
theorem dX8_takeBackPage_9 : decode cX8_takeBackPage 9 = .ok (.aload_n 0, 1) := by decide +kernel
theorem dX8_takeBackPage_10 : decode cX8_takeBackPage 10 = .ok (.getfield 35, 3) := by decide +kernel
theorem dX8_takeBackPage_13 : decode cX8_takeBackPage 13 = .ok (.iload_n 1, 1) := by decide +kernel
theorem dX8_takeBackPage_14 : decode cX8_takeBackPage 14 = .ok (.invokevirtual 112, 3) := by decide +kernel
theorem dX8_takeBackPage_17 : decode cX8_takeBackPage 17 = .ok (.istore_n 3, 1) := by decide +kernel
theorem dX8_takeBackPage_18 : decode cX8_takeBackPage 18 = .ok (.aload_n 0, 1) := by decide +kernel
theorem dX8_takeBackPage_19 : decode cX8_takeBackPage 19 = .ok (.getfield 35, 3) := by decide +kernel
theorem dX8_takeBackPage_22 : decode cX8_takeBackPage 22 = .ok (.iload_n 1, 1) := by decide +kernel
theorem dX8_takeBackPage_23 : decode cX8_takeBackPage 23 = .ok (.invokevirtual 115, 3) := by decide +kernel
theorem dX8_takeBackPage_26 : decode cX8_takeBackPage 26 = .ok (.istore 4, 2) := by decide +kernel
theorem dX8_takeBackPage_28 : decode cX8_takeBackPage 28 = .ok (.iload_n 3, 1) := by decide +kernel
theorem dX8_takeBackPage_29 : decode cX8_takeBackPage 29 = .ok (.istore 5, 2) := by decide +kernel
theorem dX8_takeBackPage_31 : decode cX8_takeBackPage 31 = .ok (.iload 5, 2) := by decide +kernel
theorem dX8_takeBackPage_33 : decode cX8_takeBackPage 33 = .ok (.iload 4, 2) := by decide +kernel
theorem dX8_takeBackPage_35 : decode cX8_takeBackPage 35 = .ok (.if_icmp .ge 57, 3) := by decide +kernel
theorem dX8_takeBackPage_38 : decode cX8_takeBackPage 38 = .ok (.aload_n 0, 1) := by decide +kernel
theorem dX8_takeBackPage_39 : decode cX8_takeBackPage 39 = .ok (.getfield 12, 3) := by decide +kernel
theorem dX8_takeBackPage_42 : decode cX8_takeBackPage 42 = .ok (.aload_n 0, 1) := by decide +kernel
theorem dX8_takeBackPage_43 : decode cX8_takeBackPage 43 = .ok (.getfield 35, 3) := by decide +kernel
theorem dX8_takeBackPage_46 : decode cX8_takeBackPage 46 = .ok (.getfield 118, 3) := by decide +kernel
theorem dX8_takeBackPage_49 : decode cX8_takeBackPage 49 = .ok (.iload 5, 2) := by decide +kernel
theorem dX8_takeBackPage_51 : decode cX8_takeBackPage 51 = .ok (.iaload, 1) := by decide +kernel
theorem dX8_takeBackPage_52 : decode cX8_takeBackPage 52 = .ok (.bipush (-5), 2) := by decide +kernel
theorem dX8_takeBackPage_54 : decode cX8_takeBackPage 54 = .ok (.invokevirtual 120, 3) := by decide +kernel
theorem dX8_takeBackPage_57 : decode cX8_takeBackPage 57 = .ok (.aload_n 0, 1) := by decide +kernel
theorem dX8_takeBackPage_58 : decode cX8_takeBackPage 58 = .ok (.dup, 1) := by decide +kernel
theorem dX8_takeBackPage_59 : decode cX8_takeBackPage 59 = .ok (.getfield 65, 3) := by decide +kernel
theorem dX8_takeBackPage_62 : decode cX8_takeBackPage 62 = .ok (.aload_n 0, 1) := by decide +kernel
theorem dX8_takeBackPage_63 : decode cX8_takeBackPage 63 = .ok (.getfield 35, 3) := by decide +kernel
theorem dX8_takeBackPage_66 : decode cX8_takeBackPage 66 = .ok (.getfield 124, 3) := by decide +kernel
theorem dX8_takeBackPage_69 : decode cX8_takeBackPage 69 = .ok (.iload 5, 2) := by decide +kernel
theorem dX8_takeBackPage_71 : decode cX8_takeBackPage 71 = .ok (.iaload, 1) := by decide +kernel
theorem dX8_takeBackPage_72 : decode cX8_takeBackPage 72 = .ok (.iadd, 1) := by decide +kernel
theorem dX8_takeBackPage_73 : decode cX8_takeBackPage 73 = .ok (.putfield 65, 3) := by decide +kernel
theorem dX8_takeBackPage_76 : decode cX8_takeBackPage 76 = .ok (.aload_n 0, 1) := by decide +kernel
theorem dX8_takeBackPage_77 : decode cX8_takeBackPage 77 = .ok (.dup, 1) := by decide +kernel
theorem dX8_takeBackPage_78 : decode cX8_takeBackPage 78 = .ok (.getfield 59, 3) := by decide +kernel
theorem dX8_takeBackPage_81 : decode cX8_takeBackPage 81 = .ok (.iconst 1, 1) := by decide +kernel
theorem dX8_takeBackPage_82 : decode cX8_takeBackPage 82 = .ok (.iadd, 1) := by decide +kernel
theorem dX8_takeBackPage_83 : decode cX8_takeBackPage 83 = .ok (.putfield 59, 3) := by decide +kernel
theorem dX8_takeBackPage_86 : decode cX8_takeBackPage 86 = .ok (.iinc 5 1, 3) := by decide +kernel
theorem dX8_takeBackPage_89 : decode cX8_takeBackPage 89 = .ok (.goto (-58), 3) := by decide +kernel
theorem dX8_takeBackPage_92 : decode cX8_takeBackPage 92 = .ok (.aload_n 0, 1) := by decide +kernel
theorem dX8_takeBackPage_93 : decode cX8_takeBackPage 93 = .ok (.getfield 35, 3) := by decide +kernel
theorem dX8_takeBackPage_96 : decode cX8_takeBackPage 96 = .ok (.iload_n 3, 1) := by decide +kernel
theorem dX8_takeBackPage_97 : decode cX8_takeBackPage 97 = .ok (.iload 4, 2) := by decide +kernel
theorem dX8_takeBackPage_99 : decode cX8_takeBackPage 99 = .ok (.invokevirtual 127, 3) := by decide +kernel
theorem dX8_takeBackPage_102 : decode cX8_takeBackPage 102 = .ok (.aload_n 0, 1) := by decide +kernel
theorem dX8_takeBackPage_103 : decode cX8_takeBackPage 103 = .ok (.iload_n 2, 1) := by decide +kernel
theorem dX8_takeBackPage_104 : decode cX8_takeBackPage 104 = .ok (.invokevirtual 130, 3) := by decide +kernel
theorem dX8_takeBackPage_107 : decode cX8_takeBackPage 107 = .ok (.iload_n 2, 1) := by decide +kernel
theorem dX8_takeBackPage_108 : decode cX8_takeBackPage 108 = .ok (.ireturn, 1) := by decide +kernel
theorem dX8_letDaysPass_0 : decode cX8_letDaysPass 0 = .ok (.iconst 0, 1) := by decide +kernel
theorem dX8_letDaysPass_1 : decode cX8_letDaysPass 1 = .ok (.istore_n 2, 1) := by decide +kernel
theorem dX8_letDaysPass_2 : decode cX8_letDaysPass 2 = .ok (.iload_n 2, 1) := by decide +kernel
theorem dX8_letDaysPass_3 : decode cX8_letDaysPass 3 = .ok (.iload_n 1, 1) := by decide +kernel
theorem dX8_letDaysPass_4 : decode cX8_letDaysPass 4 = .ok (.if_icmp .ge 106, 3) := by decide +kernel
theorem dX8_letDaysPass_7 : decode cX8_letDaysPass 7 = .ok (.aload_n 0, 1) := by decide +kernel
theorem dX8_letDaysPass_8 : decode cX8_letDaysPass 8 = .ok (.dup, 1) := by decide +kernel
theorem dX8_letDaysPass_9 : decode cX8_letDaysPass 9 = .ok (.getfield 46, 3) := by decide +kernel
theorem dX8_letDaysPass_12 : decode cX8_letDaysPass 12 = .ok (.iconst 1, 1) := by decide +kernel
theorem dX8_letDaysPass_13 : decode cX8_letDaysPass 13 = .ok (.iadd, 1) := by decide +kernel
theorem dX8_letDaysPass_14 : decode cX8_letDaysPass 14 = .ok (.putfield 46, 3) := by decide +kernel
theorem dX8_letDaysPass_17 : decode cX8_letDaysPass 17 = .ok (.iconst 0, 1) := by decide +kernel
theorem dX8_letDaysPass_18 : decode cX8_letDaysPass 18 = .ok (.istore_n 3, 1) := by decide +kernel
theorem dX8_letDaysPass_19 : decode cX8_letDaysPass 19 = .ok (.iload_n 3, 1) := by decide +kernel
theorem dX8_letDaysPass_20 : decode cX8_letDaysPass 20 = .ok (.aload_n 0, 1) := by decide +kernel
theorem dX8_letDaysPass_21 : decode cX8_letDaysPass 21 = .ok (.getfield 21, 3) := by decide +kernel
theorem dX8_letDaysPass_24 : decode cX8_letDaysPass 24 = .ok (.getfield 77, 3) := by decide +kernel
theorem dX8_letDaysPass_27 : decode cX8_letDaysPass 27 = .ok (.if_icmp .ge 29, 3) := by decide +kernel
theorem dX8_letDaysPass_30 : decode cX8_letDaysPass 30 = .ok (.aload_n 0, 1) := by decide +kernel
theorem dX8_letDaysPass_31 : decode cX8_letDaysPass 31 = .ok (.getfield 21, 3) := by decide +kernel
theorem dX8_letDaysPass_34 : decode cX8_letDaysPass 34 = .ok (.iload_n 3, 1) := by decide +kernel
theorem dX8_letDaysPass_35 : decode cX8_letDaysPass 35 = .ok (.aload_n 0, 1) := by decide +kernel
theorem dX8_letDaysPass_36 : decode cX8_letDaysPass 36 = .ok (.getfield 46, 3) := by decide +kernel
theorem dX8_letDaysPass_39 : decode cX8_letDaysPass 39 = .ok (.invokevirtual 134, 3) := by decide +kernel
theorem dX8_letDaysPass_42 : decode cX8_letDaysPass 42 = .ok (.ifCond .eq 8, 3) := by decide +kernel
theorem dX8_letDaysPass_45 : decode cX8_letDaysPass 45 = .ok (.aload_n 0, 1) := by decide +kernel
theorem dX8_letDaysPass_46 : decode cX8_letDaysPass 46 = .ok (.iload_n 3, 1) := by decide +kernel
theorem dX8_letDaysPass_47 : decode cX8_letDaysPass 47 = .ok (.invokevirtual 138, 3) := by decide +kernel
theorem dX8_letDaysPass_50 : decode cX8_letDaysPass 50 = .ok (.iinc 3 1, 3) := by decide +kernel
theorem dX8_letDaysPass_53 : decode cX8_letDaysPass 53 = .ok (.goto (-34), 3) := by decide +kernel
theorem dX8_letDaysPass_56 : decode cX8_letDaysPass 56 = .ok (.iconst 0, 1) := by decide +kernel
theorem dX8_letDaysPass_57 : decode cX8_letDaysPass 57 = .ok (.istore_n 3, 1) := by decide +kernel
theorem dX8_letDaysPass_58 : decode cX8_letDaysPass 58 = .ok (.iload_n 3, 1) := by decide +kernel
theorem dX8_letDaysPass_59 : decode cX8_letDaysPass 59 = .ok (.aload_n 0, 1) := by decide +kernel
theorem dX8_letDaysPass_60 : decode cX8_letDaysPass 60 = .ok (.getfield 12, 3) := by decide +kernel
theorem dX8_letDaysPass_63 : decode cX8_letDaysPass 63 = .ok (.getfield 74, 3) := by decide +kernel
theorem dX8_letDaysPass_66 : decode cX8_letDaysPass 66 = .ok (.if_icmp .ge 21, 3) := by decide +kernel
theorem dX8_letDaysPass_69 : decode cX8_letDaysPass 69 = .ok (.aload_n 0, 1) := by decide +kernel
theorem dX8_letDaysPass_70 : decode cX8_letDaysPass 70 = .ok (.iload_n 3, 1) := by decide +kernel
theorem dX8_letDaysPass_71 : decode cX8_letDaysPass 71 = .ok (.aload_n 0, 1) := by decide +kernel
theorem dX8_letDaysPass_72 : decode cX8_letDaysPass 72 = .ok (.getfield 28, 3) := by decide +kernel
theorem dX8_letDaysPass_75 : decode cX8_letDaysPass 75 = .ok (.invokevirtual 141, 3) := by decide +kernel
theorem dX8_letDaysPass_78 : decode cX8_letDaysPass 78 = .ok (.invokevirtual 145, 3) := by decide +kernel
theorem dX8_letDaysPass_81 : decode cX8_letDaysPass 81 = .ok (.iinc 3 1, 3) := by decide +kernel
theorem dX8_letDaysPass_84 : decode cX8_letDaysPass 84 = .ok (.goto (-26), 3) := by decide +kernel
theorem dX8_letDaysPass_87 : decode cX8_letDaysPass 87 = .ok (.aload_n 0, 1) := by decide +kernel
theorem dX8_letDaysPass_88 : decode cX8_letDaysPass 88 = .ok (.getfield 46, 3) := by decide +kernel
theorem dX8_letDaysPass_91 : decode cX8_letDaysPass 91 = .ok (.bipush 12, 2) := by decide +kernel
theorem dX8_letDaysPass_93 : decode cX8_letDaysPass 93 = .ok (.irem, 1) := by decide +kernel
theorem dX8_letDaysPass_94 : decode cX8_letDaysPass 94 = .ok (.ifCond .ne 10, 3) := by decide +kernel
theorem dX8_letDaysPass_97 : decode cX8_letDaysPass 97 = .ok (.aload_n 0, 1) := by decide +kernel
theorem dX8_letDaysPass_98 : decode cX8_letDaysPass 98 = .ok (.getfield 28, 3) := by decide +kernel
theorem dX8_letDaysPass_101 : decode cX8_letDaysPass 101 = .ok (.invokevirtual 148, 3) := by decide +kernel
theorem dX8_letDaysPass_104 : decode cX8_letDaysPass 104 = .ok (.iinc 2 1, 3) := by decide +kernel
theorem dX8_letDaysPass_107 : decode cX8_letDaysPass 107 = .ok (.goto (-105), 3) := by decide +kernel
theorem dX8_letDaysPass_110 : decode cX8_letDaysPass 110 = .ok (.return_, 1) := by decide +kernel
theorem dX8_sellAt_0 : decode cX8_sellAt 0 = .ok (.aload_n 0, 1) := by decide +kernel
theorem dX8_sellAt_1 : decode cX8_sellAt 1 = .ok (.getfield 21, 3) := by decide +kernel
theorem dX8_sellAt_4 : decode cX8_sellAt 4 = .ok (.getfield 151, 3) := by decide +kernel
theorem dX8_sellAt_7 : decode cX8_sellAt 7 = .ok (.iload_n 1, 1) := by decide +kernel
theorem dX8_sellAt_8 : decode cX8_sellAt 8 = .ok (.iaload, 1) := by decide +kernel
theorem dX8_sellAt_9 : decode cX8_sellAt 9 = .ok (.istore_n 2, 1) := by decide +kernel
theorem dX8_sellAt_10 : decode cX8_sellAt 10 = .ok (.aload_n 0, 1) := by decide +kernel
theorem dX8_sellAt_11 : decode cX8_sellAt 11 = .ok (.getfield 21, 3) := by decide +kernel
theorem dX8_sellAt_14 : decode cX8_sellAt 14 = .ok (.getfield 152, 3) := by decide +kernel
theorem dX8_sellAt_17 : decode cX8_sellAt 17 = .ok (.iload_n 1, 1) := by decide +kernel
theorem dX8_sellAt_18 : decode cX8_sellAt 18 = .ok (.iaload, 1) := by decide +kernel
theorem dX8_sellAt_19 : decode cX8_sellAt 19 = .ok (.istore_n 3, 1) := by decide +kernel
theorem dX8_sellAt_20 : decode cX8_sellAt 20 = .ok (.iconst 0, 1) := by decide +kernel
theorem dX8_sellAt_21 : decode cX8_sellAt 21 = .ok (.istore 4, 2) := by decide +kernel
theorem dX8_sellAt_23 : decode cX8_sellAt 23 = .ok (.iload 4, 2) := by decide +kernel
theorem dX8_sellAt_25 : decode cX8_sellAt 25 = .ok (.aload_n 0, 1) := by decide +kernel
theorem dX8_sellAt_26 : decode cX8_sellAt 26 = .ok (.getfield 35, 3) := by decide +kernel
theorem dX8_sellAt_29 : decode cX8_sellAt 29 = .ok (.getfield 78, 3) := by decide +kernel
theorem dX8_sellAt_32 : decode cX8_sellAt 32 = .ok (.if_icmp .ge 146, 3) := by decide +kernel
theorem dX8_sellAt_35 : decode cX8_sellAt 35 = .ok (.aload_n 0, 1) := by decide +kernel
theorem dX8_sellAt_36 : decode cX8_sellAt 36 = .ok (.getfield 35, 3) := by decide +kernel
theorem dX8_sellAt_39 : decode cX8_sellAt 39 = .ok (.getfield 118, 3) := by decide +kernel
theorem dX8_sellAt_42 : decode cX8_sellAt 42 = .ok (.iload 4, 2) := by decide +kernel
theorem dX8_sellAt_44 : decode cX8_sellAt 44 = .ok (.iaload, 1) := by decide +kernel
theorem dX8_sellAt_45 : decode cX8_sellAt 45 = .ok (.iload_n 2, 1) := by decide +kernel
theorem dX8_sellAt_46 : decode cX8_sellAt 46 = .ok (.if_icmp .ne 126, 3) := by decide +kernel
theorem dX8_sellAt_49 : decode cX8_sellAt 49 = .ok (.aload_n 0, 1) := by decide +kernel
theorem dX8_sellAt_50 : decode cX8_sellAt 50 = .ok (.getfield 35, 3) := by decide +kernel
theorem dX8_sellAt_53 : decode cX8_sellAt 53 = .ok (.getfield 155, 3) := by decide +kernel
theorem dX8_sellAt_56 : decode cX8_sellAt 56 = .ok (.iload 4, 2) := by decide +kernel
theorem dX8_sellAt_58 : decode cX8_sellAt 58 = .ok (.iaload, 1) := by decide +kernel
theorem dX8_sellAt_59 : decode cX8_sellAt 59 = .ok (.aload_n 0, 1) := by decide +kernel
theorem dX8_sellAt_60 : decode cX8_sellAt 60 = .ok (.getfield 46, 3) := by decide +kernel
theorem dX8_sellAt_63 : decode cX8_sellAt 63 = .ok (.if_icmp .le 109, 3) := by decide +kernel
theorem dX8_sellAt_66 : decode cX8_sellAt 66 = .ok (.iload_n 3, 1) := by decide +kernel
theorem dX8_sellAt_67 : decode cX8_sellAt 67 = .ok (.aload_n 0, 1) := by decide +kernel
theorem dX8_sellAt_68 : decode cX8_sellAt 68 = .ok (.getfield 12, 3) := by decide +kernel
theorem dX8_sellAt_71 : decode cX8_sellAt 71 = .ok (.iload_n 2, 1) := by decide +kernel
theorem dX8_sellAt_72 : decode cX8_sellAt 72 = .ok (.aload_n 0, 1) := by decide +kernel
theorem dX8_sellAt_73 : decode cX8_sellAt 73 = .ok (.getfield 35, 3) := by decide +kernel
theorem dX8_sellAt_76 : decode cX8_sellAt 76 = .ok (.getfield 124, 3) := by decide +kernel
theorem dX8_sellAt_79 : decode cX8_sellAt 79 = .ok (.iload 4, 2) := by decide +kernel
theorem dX8_sellAt_81 : decode cX8_sellAt 81 = .ok (.iaload, 1) := by decide +kernel
theorem dX8_sellAt_82 : decode cX8_sellAt 82 = .ok (.invokevirtual 158, 3) := by decide +kernel
theorem dX8_sellAt_85 : decode cX8_sellAt 85 = .ok (.invokestatic 161, 3) := by decide +kernel
theorem dX8_sellAt_88 : decode cX8_sellAt 88 = .ok (.istore 5, 2) := by decide +kernel
theorem dX8_sellAt_90 : decode cX8_sellAt 90 = .ok (.iload 5, 2) := by decide +kernel
theorem dX8_sellAt_92 : decode cX8_sellAt 92 = .ok (.aload_n 0, 1) := by decide +kernel
theorem dX8_sellAt_93 : decode cX8_sellAt 93 = .ok (.getfield 21, 3) := by decide +kernel
theorem dX8_sellAt_96 : decode cX8_sellAt 96 = .ok (.getfield 166, 3) := by decide +kernel
theorem dX8_sellAt_99 : decode cX8_sellAt 99 = .ok (.iload_n 1, 1) := by decide +kernel
theorem dX8_sellAt_100 : decode cX8_sellAt 100 = .ok (.iaload, 1) := by decide +kernel
theorem dX8_sellAt_101 : decode cX8_sellAt 101 = .ok (.imul, 1) := by decide +kernel
theorem dX8_sellAt_102 : decode cX8_sellAt 102 = .ok (.istore 6, 2) := by decide +kernel
theorem dX8_sellAt_104 : decode cX8_sellAt 104 = .ok (.iload_n 3, 1) := by decide +kernel
theorem dX8_sellAt_105 : decode cX8_sellAt 105 = .ok (.iload 5, 2) := by decide +kernel
theorem dX8_sellAt_107 : decode cX8_sellAt 107 = .ok (.isub, 1) := by decide +kernel
theorem dX8_sellAt_108 : decode cX8_sellAt 108 = .ok (.istore_n 3, 1) := by decide +kernel
theorem dX8_sellAt_109 : decode cX8_sellAt 109 = .ok (.aload_n 0, 1) := by decide +kernel
theorem dX8_sellAt_110 : decode cX8_sellAt 110 = .ok (.getfield 35, 3) := by decide +kernel
theorem dX8_sellAt_113 : decode cX8_sellAt 113 = .ok (.getfield 124, 3) := by decide +kernel
theorem dX8_sellAt_116 : decode cX8_sellAt 116 = .ok (.iload 4, 2) := by decide +kernel
theorem dX8_sellAt_118 : decode cX8_sellAt 118 = .ok (.dup2, 1) := by decide +kernel
theorem dX8_sellAt_119 : decode cX8_sellAt 119 = .ok (.iaload, 1) := by decide +kernel
theorem dX8_sellAt_120 : decode cX8_sellAt 120 = .ok (.iload 5, 2) := by decide +kernel
theorem dX8_sellAt_122 : decode cX8_sellAt 122 = .ok (.iadd, 1) := by decide +kernel
theorem dX8_sellAt_123 : decode cX8_sellAt 123 = .ok (.iastore, 1) := by decide +kernel
theorem dX8_sellAt_124 : decode cX8_sellAt 124 = .ok (.aload_n 0, 1) := by decide +kernel
theorem dX8_sellAt_125 : decode cX8_sellAt 125 = .ok (.getfield 35, 3) := by decide +kernel
theorem dX8_sellAt_128 : decode cX8_sellAt 128 = .ok (.getfield 169, 3) := by decide +kernel
theorem dX8_sellAt_131 : decode cX8_sellAt 131 = .ok (.iload 4, 2) := by decide +kernel
theorem dX8_sellAt_133 : decode cX8_sellAt 133 = .ok (.dup2, 1) := by decide +kernel
theorem dX8_sellAt_134 : decode cX8_sellAt 134 = .ok (.iaload, 1) := by decide +kernel
theorem dX8_sellAt_135 : decode cX8_sellAt 135 = .ok (.iload 6, 2) := by decide +kernel
theorem dX8_sellAt_137 : decode cX8_sellAt 137 = .ok (.iadd, 1) := by decide +kernel
theorem dX8_sellAt_138 : decode cX8_sellAt 138 = .ok (.iastore, 1) := by decide +kernel
theorem dX8_sellAt_139 : decode cX8_sellAt 139 = .ok (.aload_n 0, 1) := by decide +kernel
theorem dX8_sellAt_140 : decode cX8_sellAt 140 = .ok (.dup, 1) := by decide +kernel
theorem dX8_sellAt_141 : decode cX8_sellAt 141 = .ok (.getfield 62, 3) := by decide +kernel
theorem dX8_sellAt_144 : decode cX8_sellAt 144 = .ok (.iload 5, 2) := by decide +kernel
theorem dX8_sellAt_146 : decode cX8_sellAt 146 = .ok (.iadd, 1) := by decide +kernel
theorem dX8_sellAt_147 : decode cX8_sellAt 147 = .ok (.putfield 62, 3) := by decide +kernel
theorem dX8_sellAt_150 : decode cX8_sellAt 150 = .ok (.aload_n 0, 1) := by decide +kernel
theorem dX8_sellAt_151 : decode cX8_sellAt 151 = .ok (.dup, 1) := by decide +kernel
theorem dX8_sellAt_152 : decode cX8_sellAt 152 = .ok (.getfield 68, 3) := by decide +kernel
theorem dX8_sellAt_155 : decode cX8_sellAt 155 = .ok (.iload 6, 2) := by decide +kernel
theorem dX8_sellAt_157 : decode cX8_sellAt 157 = .ok (.iadd, 1) := by decide +kernel
theorem dX8_sellAt_158 : decode cX8_sellAt 158 = .ok (.putfield 68, 3) := by decide +kernel
theorem dX8_sellAt_161 : decode cX8_sellAt 161 = .ok (.aload_n 0, 1) := by decide +kernel
theorem dX8_sellAt_162 : decode cX8_sellAt 162 = .ok (.dup, 1) := by decide +kernel
theorem dX8_sellAt_163 : decode cX8_sellAt 163 = .ok (.getfield 50, 3) := by decide +kernel
theorem dX8_sellAt_166 : decode cX8_sellAt 166 = .ok (.iload 6, 2) := by decide +kernel
theorem dX8_sellAt_168 : decode cX8_sellAt 168 = .ok (.iadd, 1) := by decide +kernel
theorem dX8_sellAt_169 : decode cX8_sellAt 169 = .ok (.putfield 50, 3) := by decide +kernel
theorem dX8_sellAt_172 : decode cX8_sellAt 172 = .ok (.iinc 4 1, 3) := by decide +kernel
theorem dX8_sellAt_175 : decode cX8_sellAt 175 = .ok (.goto (-152), 3) := by decide +kernel
theorem dX8_sellAt_178 : decode cX8_sellAt 178 = .ok (.return_, 1) := by decide +kernel
theorem dX8_judge_0 : decode cX8_judge 0 = .ok (.aload_n 0, 1) := by decide +kernel
theorem dX8_judge_1 : decode cX8_judge 1 = .ok (.getfield 35, 3) := by decide +kernel
theorem dX8_judge_4 : decode cX8_judge 4 = .ok (.iload_n 1, 1) := by decide +kernel
theorem dX8_judge_5 : decode cX8_judge 5 = .ok (.aload_n 0, 1) := by decide +kernel
theorem dX8_judge_6 : decode cX8_judge 6 = .ok (.getfield 46, 3) := by decide +kernel
theorem dX8_judge_9 : decode cX8_judge 9 = .ok (.invokevirtual 104, 3) := by decide +kernel
theorem dX8_judge_12 : decode cX8_judge 12 = .ok (.istore_n 3, 1) := by decide +kernel
theorem dX8_judge_13 : decode cX8_judge 13 = .ok (.iload_n 3, 1) := by decide +kernel
theorem dX8_judge_14 : decode cX8_judge 14 = .ok (.iconst (-1), 1) := by decide +kernel
theorem dX8_judge_15 : decode cX8_judge 15 = .ok (.if_icmp .ne 4, 3) := by decide +kernel
theorem dX8_judge_18 : decode cX8_judge 18 = .ok (.return_, 1) := by decide +kernel
theorem dX8_judge_19 : decode cX8_judge 19 = .ok (.aload_n 0, 1) := by decide +kernel
theorem dX8_judge_20 : decode cX8_judge 20 = .ok (.getfield 35, 3) := by decide +kernel
theorem dX8_judge_23 : decode cX8_judge 23 = .ok (.getfield 169, 3) := by decide +kernel
theorem dX8_judge_26 : decode cX8_judge 26 = .ok (.iload_n 3, 1) := by decide +kernel
theorem dX8_judge_27 : decode cX8_judge 27 = .ok (.iaload, 1) := by decide +kernel
theorem dX8_judge_28 : decode cX8_judge 28 = .ok (.istore 4, 2) := by decide +kernel
theorem dX8_judge_30 : decode cX8_judge 30 = .ok (.aload_n 0, 1) := by decide +kernel
theorem dX8_judge_31 : decode cX8_judge 31 = .ok (.getfield 35, 3) := by decide +kernel
theorem dX8_judge_34 : decode cX8_judge 34 = .ok (.getfield 172, 3) := by decide +kernel
theorem dX8_judge_37 : decode cX8_judge 37 = .ok (.iload_n 3, 1) := by decide +kernel
theorem dX8_judge_38 : decode cX8_judge 38 = .ok (.iaload, 1) := by decide +kernel
theorem dX8_judge_39 : decode cX8_judge 39 = .ok (.iload_n 2, 1) := by decide +kernel
theorem dX8_judge_40 : decode cX8_judge 40 = .ok (.if_icmp .ne 25, 3) := by decide +kernel
theorem dX8_judge_43 : decode cX8_judge 43 = .ok (.aload_n 0, 1) := by decide +kernel
theorem dX8_judge_44 : decode cX8_judge 44 = .ok (.dup, 1) := by decide +kernel
theorem dX8_judge_45 : decode cX8_judge 45 = .ok (.getfield 53, 3) := by decide +kernel
theorem dX8_judge_48 : decode cX8_judge 48 = .ok (.iconst 1, 1) := by decide +kernel
theorem dX8_judge_49 : decode cX8_judge 49 = .ok (.iadd, 1) := by decide +kernel
theorem dX8_judge_50 : decode cX8_judge 50 = .ok (.putfield 53, 3) := by decide +kernel
theorem dX8_judge_53 : decode cX8_judge 53 = .ok (.aload_n 0, 1) := by decide +kernel
theorem dX8_judge_54 : decode cX8_judge 54 = .ok (.getfield 12, 3) := by decide +kernel
theorem dX8_judge_57 : decode cX8_judge 57 = .ok (.iload_n 1, 1) := by decide +kernel
theorem dX8_judge_58 : decode cX8_judge 58 = .ok (.iconst 5, 1) := by decide +kernel
theorem dX8_judge_59 : decode cX8_judge 59 = .ok (.invokevirtual 120, 3) := by decide +kernel
theorem dX8_judge_62 : decode cX8_judge 62 = .ok (.goto 66, 3) := by decide +kernel
theorem dX8_judge_65 : decode cX8_judge 65 = .ok (.aload_n 0, 1) := by decide +kernel
theorem dX8_judge_66 : decode cX8_judge 66 = .ok (.dup, 1) := by decide +kernel
theorem dX8_judge_67 : decode cX8_judge 67 = .ok (.getfield 56, 3) := by decide +kernel
theorem dX8_judge_70 : decode cX8_judge 70 = .ok (.iconst 1, 1) := by decide +kernel
theorem dX8_judge_71 : decode cX8_judge 71 = .ok (.iadd, 1) := by decide +kernel
theorem dX8_judge_72 : decode cX8_judge 72 = .ok (.putfield 56, 3) := by decide +kernel
theorem dX8_judge_75 : decode cX8_judge 75 = .ok (.aload_n 0, 1) := by decide +kernel
theorem dX8_judge_76 : decode cX8_judge 76 = .ok (.getfield 42, 3) := by decide +kernel
theorem dX8_judge_79 : decode cX8_judge 79 = .ok (.iload_n 1, 1) := by decide +kernel
theorem dX8_judge_80 : decode cX8_judge 80 = .ok (.aload_n 0, 1) := by decide +kernel
theorem dX8_judge_81 : decode cX8_judge 81 = .ok (.getfield 46, 3) := by decide +kernel
theorem dX8_judge_84 : decode cX8_judge 84 = .ok (.invokevirtual 175, 3) := by decide +kernel
theorem dX8_judge_87 : decode cX8_judge 87 = .ok (.aload_n 0, 1) := by decide +kernel
theorem dX8_judge_88 : decode cX8_judge 88 = .ok (.iload_n 2, 1) := by decide +kernel
theorem dX8_judge_89 : decode cX8_judge 89 = .ok (.iconst 2, 1) := by decide +kernel
theorem dX8_judge_90 : decode cX8_judge 90 = .ok (.if_icmp .ne 11, 3) := by decide +kernel
theorem dX8_judge_93 : decode cX8_judge 93 = .ok (.iload 4, 2) := by decide +kernel
theorem dX8_judge_95 : decode cX8_judge 95 = .ok (.bipush 10, 2) := by decide +kernel
theorem dX8_judge_97 : decode cX8_judge 97 = .ok (.iadd, 1) := by decide +kernel
theorem dX8_judge_98 : decode cX8_judge 98 = .ok (.goto 7, 3) := by decide +kernel
theorem dX8_judge_101 : decode cX8_judge 101 = .ok (.iload 4, 2) := by decide +kernel
theorem dX8_judge_103 : decode cX8_judge 103 = .ok (.iconst 2, 1) := by decide +kernel
theorem dX8_judge_104 : decode cX8_judge 104 = .ok (.idiv, 1) := by decide +kernel
theorem dX8_judge_105 : decode cX8_judge 105 = .ok (.invokevirtual 130, 3) := by decide +kernel
theorem dX8_judge_108 : decode cX8_judge 108 = .ok (.aload_n 0, 1) := by decide +kernel
theorem dX8_judge_109 : decode cX8_judge 109 = .ok (.getfield 12, 3) := by decide +kernel
theorem dX8_judge_112 : decode cX8_judge 112 = .ok (.iload_n 1, 1) := by decide +kernel
theorem dX8_judge_113 : decode cX8_judge 113 = .ok (.iload_n 2, 1) := by decide +kernel
theorem dX8_judge_114 : decode cX8_judge 114 = .ok (.iconst 2, 1) := by decide +kernel
theorem dX8_judge_115 : decode cX8_judge 115 = .ok (.if_icmp .ne 8, 3) := by decide +kernel
theorem dX8_judge_118 : decode cX8_judge 118 = .ok (.bipush (-20), 2) := by decide +kernel
theorem dX8_judge_120 : decode cX8_judge 120 = .ok (.goto 5, 3) := by decide +kernel
theorem dX8_judge_123 : decode cX8_judge 123 = .ok (.bipush (-10), 2) := by decide +kernel
theorem dX8_judge_125 : decode cX8_judge 125 = .ok (.invokevirtual 120, 3) := by decide +kernel
theorem dX8_judge_128 : decode cX8_judge 128 = .ok (.aload_n 0, 1) := by decide +kernel
theorem dX8_judge_129 : decode cX8_judge 129 = .ok (.dup, 1) := by decide +kernel
theorem dX8_judge_130 : decode cX8_judge 130 = .ok (.getfield 65, 3) := by decide +kernel
theorem dX8_judge_133 : decode cX8_judge 133 = .ok (.aload_n 0, 1) := by decide +kernel
theorem dX8_judge_134 : decode cX8_judge 134 = .ok (.getfield 35, 3) := by decide +kernel
theorem dX8_judge_137 : decode cX8_judge 137 = .ok (.getfield 124, 3) := by decide +kernel
theorem dX8_judge_140 : decode cX8_judge 140 = .ok (.iload_n 3, 1) := by decide +kernel
theorem dX8_judge_141 : decode cX8_judge 141 = .ok (.iaload, 1) := by decide +kernel
theorem dX8_judge_142 : decode cX8_judge 142 = .ok (.iadd, 1) := by decide +kernel
theorem dX8_judge_143 : decode cX8_judge 143 = .ok (.putfield 65, 3) := by decide +kernel
theorem dX8_judge_146 : decode cX8_judge 146 = .ok (.aload_n 0, 1) := by decide +kernel
theorem dX8_judge_147 : decode cX8_judge 147 = .ok (.getfield 35, 3) := by decide +kernel
theorem dX8_judge_150 : decode cX8_judge 150 = .ok (.iload_n 3, 1) := by decide +kernel
theorem dX8_judge_151 : decode cX8_judge 151 = .ok (.iload_n 3, 1) := by decide +kernel
theorem dX8_judge_152 : decode cX8_judge 152 = .ok (.iconst 1, 1) := by decide +kernel
theorem dX8_judge_153 : decode cX8_judge 153 = .ok (.iadd, 1) := by decide +kernel
theorem dX8_judge_154 : decode cX8_judge 154 = .ok (.invokevirtual 127, 3) := by decide +kernel
theorem dX8_judge_157 : decode cX8_judge 157 = .ok (.return_, 1) := by decide +kernel
theorem dX8_payBack_0 : decode cX8_payBack 0 = .ok (.aload_n 0, 1) := by decide +kernel
theorem dX8_payBack_1 : decode cX8_payBack 1 = .ok (.dup, 1) := by decide +kernel
theorem dX8_payBack_2 : decode cX8_payBack 2 = .ok (.getfield 50, 3) := by decide +kernel
theorem dX8_payBack_5 : decode cX8_payBack 5 = .ok (.iload_n 1, 1) := by decide +kernel
theorem dX8_payBack_6 : decode cX8_payBack 6 = .ok (.isub, 1) := by decide +kernel
theorem dX8_payBack_7 : decode cX8_payBack 7 = .ok (.putfield 50, 3) := by decide +kernel
theorem dX8_payBack_10 : decode cX8_payBack 10 = .ok (.aload_n 0, 1) := by decide +kernel
theorem dX8_payBack_11 : decode cX8_payBack 11 = .ok (.dup, 1) := by decide +kernel
theorem dX8_payBack_12 : decode cX8_payBack 12 = .ok (.getfield 71, 3) := by decide +kernel
theorem dX8_payBack_15 : decode cX8_payBack 15 = .ok (.iload_n 1, 1) := by decide +kernel
theorem dX8_payBack_16 : decode cX8_payBack 16 = .ok (.iadd, 1) := by decide +kernel
theorem dX8_payBack_17 : decode cX8_payBack 17 = .ok (.putfield 71, 3) := by decide +kernel
theorem dX8_payBack_20 : decode cX8_payBack 20 = .ok (.return_, 1) := by decide +kernel
theorem dX9_init_0 : decode cX9_init 0 = .ok (.aload_n 0, 1) := by decide +kernel
theorem dX9_init_1 : decode cX9_init 1 = .ok (.invokespecial 3, 3) := by decide +kernel
theorem dX9_init_4 : decode cX9_init 4 = .ok (.aload_n 0, 1) := by decide +kernel
theorem dX9_init_5 : decode cX9_init 5 = .ok (.bipush 6, 2) := by decide +kernel
theorem dX9_init_7 : decode cX9_init 7 = .ok (.newarray .int, 2) := by decide +kernel
theorem dX9_init_9 : decode cX9_init 9 = .ok (.putfield 9, 3) := by decide +kernel
theorem dX9_init_12 : decode cX9_init 12 = .ok (.aload_n 0, 1) := by decide +kernel
theorem dX9_init_13 : decode cX9_init 13 = .ok (.bipush 6, 2) := by decide +kernel
theorem dX9_init_15 : decode cX9_init 15 = .ok (.newarray .int, 2) := by decide +kernel
theorem dX9_init_17 : decode cX9_init 17 = .ok (.putfield 15, 3) := by decide +kernel
theorem dX9_init_20 : decode cX9_init 20 = .ok (.aload_n 0, 1) := by decide +kernel
theorem dX9_init_21 : decode cX9_init 21 = .ok (.bipush 6, 2) := by decide +kernel
theorem dX9_init_23 : decode cX9_init 23 = .ok (.newarray .int, 2) := by decide +kernel
theorem dX9_init_25 : decode cX9_init 25 = .ok (.putfield 18, 3) := by decide +kernel
theorem dX9_init_28 : decode cX9_init 28 = .ok (.aload_n 0, 1) := by decide +kernel
theorem dX9_init_29 : decode cX9_init 29 = .ok (.iconst 0, 1) := by decide +kernel
theorem dX9_init_30 : decode cX9_init 30 = .ok (.putfield 21, 3) := by decide +kernel
theorem dX9_init_33 : decode cX9_init 33 = .ok (.return_, 1) := by decide +kernel
theorem dX9_has_0 : decode cX9_has 0 = .ok (.iload_n 1, 1) := by decide +kernel
theorem dX9_has_1 : decode cX9_has 1 = .ok (.ifCond .lt 15, 3) := by decide +kernel
theorem dX9_has_4 : decode cX9_has 4 = .ok (.iload_n 1, 1) := by decide +kernel
theorem dX9_has_5 : decode cX9_has 5 = .ok (.aload_n 0, 1) := by decide +kernel
theorem dX9_has_6 : decode cX9_has 6 = .ok (.getfield 21, 3) := by decide +kernel
theorem dX9_has_9 : decode cX9_has 9 = .ok (.if_icmp .ge 7, 3) := by decide +kernel
theorem dX9_has_12 : decode cX9_has 12 = .ok (.iconst 1, 1) := by decide +kernel
theorem dX9_has_13 : decode cX9_has 13 = .ok (.goto 4, 3) := by decide +kernel
theorem dX9_has_16 : decode cX9_has 16 = .ok (.iconst 0, 1) := by decide +kernel
theorem dX9_has_17 : decode cX9_has 17 = .ok (.ireturn, 1) := by decide +kernel
theorem dX9_numberOf_0 : decode cX9_numberOf 0 = .ok (.aload_n 0, 1) := by decide +kernel
theorem dX9_numberOf_1 : decode cX9_numberOf 1 = .ok (.getfield 9, 3) := by decide +kernel
theorem dX9_numberOf_4 : decode cX9_numberOf 4 = .ok (.aload_n 0, 1) := by decide +kernel
theorem dX9_numberOf_5 : decode cX9_numberOf 5 = .ok (.getfield 21, 3) := by decide +kernel
theorem dX9_numberOf_8 : decode cX9_numberOf 8 = .ok (.iload_n 1, 1) := by decide +kernel
theorem dX9_numberOf_9 : decode cX9_numberOf 9 = .ok (.invokestatic 25, 3) := by decide +kernel
theorem dX9_numberOf_12 : decode cX9_numberOf 12 = .ok (.ireturn, 1) := by decide +kernel
theorem dX9_add_0 : decode cX9_add 0 = .ok (.aload_n 0, 1) := by decide +kernel
theorem dX9_add_1 : decode cX9_add 1 = .ok (.getfield 21, 3) := by decide +kernel
theorem dX9_add_4 : decode cX9_add 4 = .ok (.bipush 6, 2) := by decide +kernel
theorem dX9_add_6 : decode cX9_add 6 = .ok (.if_icmp .lt 4, 3) := by decide +kernel
theorem dX9_add_9 : decode cX9_add 9 = .ok (.return_, 1) := by decide +kernel
theorem dX9_add_10 : decode cX9_add 10 = .ok (.aload_n 0, 1) := by decide +kernel
theorem dX9_add_11 : decode cX9_add 11 = .ok (.getfield 9, 3) := by decide +kernel
theorem dX9_add_14 : decode cX9_add 14 = .ok (.aload_n 0, 1) := by decide +kernel
theorem dX9_add_15 : decode cX9_add 15 = .ok (.getfield 21, 3) := by decide +kernel
theorem dX9_add_18 : decode cX9_add 18 = .ok (.iload_n 1, 1) := by decide +kernel
theorem dX9_add_19 : decode cX9_add 19 = .ok (.iastore, 1) := by decide +kernel
theorem dX9_add_20 : decode cX9_add 20 = .ok (.aload_n 0, 1) := by decide +kernel
theorem dX9_add_21 : decode cX9_add 21 = .ok (.getfield 15, 3) := by decide +kernel
theorem dX9_add_24 : decode cX9_add 24 = .ok (.aload_n 0, 1) := by decide +kernel
theorem dX9_add_25 : decode cX9_add 25 = .ok (.getfield 21, 3) := by decide +kernel
theorem dX9_add_28 : decode cX9_add 28 = .ok (.iload_n 2, 1) := by decide +kernel
theorem dX9_add_29 : decode cX9_add 29 = .ok (.iastore, 1) := by decide +kernel
theorem dX9_add_30 : decode cX9_add 30 = .ok (.aload_n 0, 1) := by decide +kernel
theorem dX9_add_31 : decode cX9_add 31 = .ok (.getfield 18, 3) := by decide +kernel
theorem dX9_add_34 : decode cX9_add 34 = .ok (.aload_n 0, 1) := by decide +kernel
theorem dX9_add_35 : decode cX9_add 35 = .ok (.getfield 21, 3) := by decide +kernel
theorem dX9_add_38 : decode cX9_add 38 = .ok (.iload_n 3, 1) := by decide +kernel
theorem dX9_add_39 : decode cX9_add 39 = .ok (.iastore, 1) := by decide +kernel
theorem dX9_add_40 : decode cX9_add 40 = .ok (.aload_n 0, 1) := by decide +kernel
theorem dX9_add_41 : decode cX9_add 41 = .ok (.dup, 1) := by decide +kernel
theorem dX9_add_42 : decode cX9_add 42 = .ok (.getfield 21, 3) := by decide +kernel
theorem dX9_add_45 : decode cX9_add 45 = .ok (.iconst 1, 1) := by decide +kernel
theorem dX9_add_46 : decode cX9_add 46 = .ok (.iadd, 1) := by decide +kernel
theorem dX9_add_47 : decode cX9_add 47 = .ok (.putfield 21, 3) := by decide +kernel
theorem dX9_add_50 : decode cX9_add 50 = .ok (.return_, 1) := by decide +kernel
theorem dX9_changeTrust_0 : decode cX9_changeTrust 0 = .ok (.aload_n 0, 1) := by decide +kernel
theorem dX9_changeTrust_1 : decode cX9_changeTrust 1 = .ok (.iload_n 1, 1) := by decide +kernel
theorem dX9_changeTrust_2 : decode cX9_changeTrust 2 = .ok (.invokevirtual 29, 3) := by decide +kernel
theorem dX9_changeTrust_5 : decode cX9_changeTrust 5 = .ok (.ifCond .ne 4, 3) := by decide +kernel
theorem dX9_changeTrust_8 : decode cX9_changeTrust 8 = .ok (.return_, 1) := by decide +kernel
theorem dX9_changeTrust_9 : decode cX9_changeTrust 9 = .ok (.aload_n 0, 1) := by decide +kernel
theorem dX9_changeTrust_10 : decode cX9_changeTrust 10 = .ok (.getfield 18, 3) := by decide +kernel
theorem dX9_changeTrust_13 : decode cX9_changeTrust 13 = .ok (.iload_n 1, 1) := by decide +kernel
theorem dX9_changeTrust_14 : decode cX9_changeTrust 14 = .ok (.iaload, 1) := by decide +kernel
theorem dX9_changeTrust_15 : decode cX9_changeTrust 15 = .ok (.iload_n 2, 1) := by decide +kernel
theorem dX9_changeTrust_16 : decode cX9_changeTrust 16 = .ok (.iadd, 1) := by decide +kernel
theorem dX9_changeTrust_17 : decode cX9_changeTrust 17 = .ok (.istore_n 3, 1) := by decide +kernel
theorem dX9_changeTrust_18 : decode cX9_changeTrust 18 = .ok (.aload_n 0, 1) := by decide +kernel
theorem dX9_changeTrust_19 : decode cX9_changeTrust 19 = .ok (.getfield 18, 3) := by decide +kernel
theorem dX9_changeTrust_22 : decode cX9_changeTrust 22 = .ok (.iload_n 1, 1) := by decide +kernel
theorem dX9_changeTrust_23 : decode cX9_changeTrust 23 = .ok (.iload_n 3, 1) := by decide +kernel
theorem dX9_changeTrust_24 : decode cX9_changeTrust 24 = .ok (.ifCond .ge 7, 3) := by decide +kernel
theorem dX9_changeTrust_27 : decode cX9_changeTrust 27 = .ok (.iconst 0, 1) := by decide +kernel
theorem dX9_changeTrust_28 : decode cX9_changeTrust 28 = .ok (.goto 15, 3) := by decide +kernel
theorem dX9_changeTrust_31 : decode cX9_changeTrust 31 = .ok (.iload_n 3, 1) := by decide +kernel
theorem dX9_changeTrust_32 : decode cX9_changeTrust 32 = .ok (.bipush 100, 2) := by decide +kernel
theorem dX9_changeTrust_34 : decode cX9_changeTrust 34 = .ok (.if_icmp .le 8, 3) := by decide +kernel
theorem dX9_changeTrust_37 : decode cX9_changeTrust 37 = .ok (.bipush 100, 2) := by decide +kernel
theorem dX9_changeTrust_39 : decode cX9_changeTrust 39 = .ok (.goto 4, 3) := by decide +kernel
theorem dX9_changeTrust_42 : decode cX9_changeTrust 42 = .ok (.iload_n 3, 1) := by decide +kernel
theorem dX9_changeTrust_43 : decode cX9_changeTrust 43 = .ok (.iastore, 1) := by decide +kernel
theorem dX9_changeTrust_44 : decode cX9_changeTrust 44 = .ok (.return_, 1) := by decide +kernel
theorem dX9_wish_0 : decode cX9_wish 0 = .ok (.aload_n 0, 1) := by decide +kernel
theorem dX9_wish_1 : decode cX9_wish 1 = .ok (.iload_n 1, 1) := by decide +kernel
theorem dX9_wish_2 : decode cX9_wish 2 = .ok (.invokevirtual 29, 3) := by decide +kernel
theorem dX9_wish_5 : decode cX9_wish 5 = .ok (.ifCond .eq 13, 3) := by decide +kernel
theorem dX9_wish_8 : decode cX9_wish 8 = .ok (.aload_n 0, 1) := by decide +kernel
theorem dX9_wish_9 : decode cX9_wish 9 = .ok (.getfield 15, 3) := by decide +kernel
theorem dX9_wish_12 : decode cX9_wish 12 = .ok (.iload_n 1, 1) := by decide +kernel
theorem dX9_wish_13 : decode cX9_wish 13 = .ok (.iaload, 1) := by decide +kernel
theorem dX9_wish_14 : decode cX9_wish 14 = .ok (.iload_n 2, 1) := by decide +kernel
theorem dX9_wish_15 : decode cX9_wish 15 = .ok (.if_icmp .gt 5, 3) := by decide +kernel
theorem dX9_wish_18 : decode cX9_wish 18 = .ok (.iconst 0, 1) := by decide +kernel
theorem dX9_wish_19 : decode cX9_wish 19 = .ok (.ireturn, 1) := by decide +kernel
theorem dX9_wish_20 : decode cX9_wish 20 = .ok (.aload_n 0, 1) := by decide +kernel
theorem dX9_wish_21 : decode cX9_wish 21 = .ok (.getfield 15, 3) := by decide +kernel
theorem dX9_wish_24 : decode cX9_wish 24 = .ok (.iload_n 1, 1) := by decide +kernel
theorem dX9_wish_25 : decode cX9_wish 25 = .ok (.iaload, 1) := by decide +kernel
theorem dX9_wish_26 : decode cX9_wish 26 = .ok (.iload_n 2, 1) := by decide +kernel
theorem dX9_wish_27 : decode cX9_wish 27 = .ok (.isub, 1) := by decide +kernel
theorem dX9_wish_28 : decode cX9_wish 28 = .ok (.aload_n 0, 1) := by decide +kernel
theorem dX9_wish_29 : decode cX9_wish 29 = .ok (.getfield 18, 3) := by decide +kernel
theorem dX9_wish_32 : decode cX9_wish 32 = .ok (.iload_n 1, 1) := by decide +kernel
theorem dX9_wish_33 : decode cX9_wish 33 = .ok (.iaload, 1) := by decide +kernel
theorem dX9_wish_34 : decode cX9_wish 34 = .ok (.imul, 1) := by decide +kernel
theorem dX9_wish_35 : decode cX9_wish 35 = .ok (.bipush 100, 2) := by decide +kernel
theorem dX9_wish_37 : decode cX9_wish 37 = .ok (.idiv, 1) := by decide +kernel
theorem dX9_wish_38 : decode cX9_wish 38 = .ok (.ireturn, 1) := by decide +kernel
theorem dX9_sumOfTrusts_0 : decode cX9_sumOfTrusts 0 = .ok (.iconst 0, 1) := by decide +kernel
theorem dX9_sumOfTrusts_1 : decode cX9_sumOfTrusts 1 = .ok (.istore_n 1, 1) := by decide +kernel
theorem dX9_sumOfTrusts_2 : decode cX9_sumOfTrusts 2 = .ok (.iconst 0, 1) := by decide +kernel
theorem dX9_sumOfTrusts_3 : decode cX9_sumOfTrusts 3 = .ok (.istore_n 2, 1) := by decide +kernel
theorem dX9_sumOfTrusts_4 : decode cX9_sumOfTrusts 4 = .ok (.iload_n 2, 1) := by decide +kernel
theorem dX9_sumOfTrusts_5 : decode cX9_sumOfTrusts 5 = .ok (.aload_n 0, 1) := by decide +kernel
theorem dX9_sumOfTrusts_6 : decode cX9_sumOfTrusts 6 = .ok (.getfield 21, 3) := by decide +kernel
theorem dX9_sumOfTrusts_9 : decode cX9_sumOfTrusts 9 = .ok (.if_icmp .ge 18, 3) := by decide +kernel
theorem dX9_sumOfTrusts_12 : decode cX9_sumOfTrusts 12 = .ok (.iload_n 1, 1) := by decide +kernel
theorem dX9_sumOfTrusts_13 : decode cX9_sumOfTrusts 13 = .ok (.aload_n 0, 1) := by decide +kernel
theorem dX9_sumOfTrusts_14 : decode cX9_sumOfTrusts 14 = .ok (.getfield 18, 3) := by decide +kernel
theorem dX9_sumOfTrusts_17 : decode cX9_sumOfTrusts 17 = .ok (.iload_n 2, 1) := by decide +kernel
theorem dX9_sumOfTrusts_18 : decode cX9_sumOfTrusts 18 = .ok (.iaload, 1) := by decide +kernel
theorem dX9_sumOfTrusts_19 : decode cX9_sumOfTrusts 19 = .ok (.iadd, 1) := by decide +kernel
theorem dX9_sumOfTrusts_20 : decode cX9_sumOfTrusts 20 = .ok (.istore_n 1, 1) := by decide +kernel
theorem dX9_sumOfTrusts_21 : decode cX9_sumOfTrusts 21 = .ok (.iinc 2 1, 3) := by decide +kernel
theorem dX9_sumOfTrusts_24 : decode cX9_sumOfTrusts 24 = .ok (.goto (-20), 3) := by decide +kernel
theorem dX9_sumOfTrusts_27 : decode cX9_sumOfTrusts 27 = .ok (.iload_n 1, 1) := by decide +kernel
theorem dX9_sumOfTrusts_28 : decode cX9_sumOfTrusts 28 = .ok (.ireturn, 1) := by decide +kernel
theorem dX9_takeFrom_0 : decode cX9_takeFrom 0 = .ok (.aload_n 1, 1) := by decide +kernel
theorem dX9_takeFrom_1 : decode cX9_takeFrom 1 = .ok (.getfield 9, 3) := by decide +kernel
theorem dX9_takeFrom_4 : decode cX9_takeFrom 4 = .ok (.iconst 0, 1) := by decide +kernel
theorem dX9_takeFrom_5 : decode cX9_takeFrom 5 = .ok (.aload_n 0, 1) := by decide +kernel
theorem dX9_takeFrom_6 : decode cX9_takeFrom 6 = .ok (.getfield 9, 3) := by decide +kernel
theorem dX9_takeFrom_9 : decode cX9_takeFrom 9 = .ok (.iconst 0, 1) := by decide +kernel
theorem dX9_takeFrom_10 : decode cX9_takeFrom 10 = .ok (.bipush 6, 2) := by decide +kernel
theorem dX9_takeFrom_12 : decode cX9_takeFrom 12 = .ok (.invokestatic 33, 3) := by decide +kernel
theorem dX9_takeFrom_15 : decode cX9_takeFrom 15 = .ok (.aload_n 1, 1) := by decide +kernel
theorem dX9_takeFrom_16 : decode cX9_takeFrom 16 = .ok (.getfield 15, 3) := by decide +kernel
theorem dX9_takeFrom_19 : decode cX9_takeFrom 19 = .ok (.iconst 0, 1) := by decide +kernel
theorem dX9_takeFrom_20 : decode cX9_takeFrom 20 = .ok (.aload_n 0, 1) := by decide +kernel
theorem dX9_takeFrom_21 : decode cX9_takeFrom 21 = .ok (.getfield 15, 3) := by decide +kernel
theorem dX9_takeFrom_24 : decode cX9_takeFrom 24 = .ok (.iconst 0, 1) := by decide +kernel
theorem dX9_takeFrom_25 : decode cX9_takeFrom 25 = .ok (.bipush 6, 2) := by decide +kernel
theorem dX9_takeFrom_27 : decode cX9_takeFrom 27 = .ok (.invokestatic 33, 3) := by decide +kernel
theorem dX9_takeFrom_30 : decode cX9_takeFrom 30 = .ok (.aload_n 1, 1) := by decide +kernel
theorem dX9_takeFrom_31 : decode cX9_takeFrom 31 = .ok (.getfield 18, 3) := by decide +kernel
theorem dX9_takeFrom_34 : decode cX9_takeFrom 34 = .ok (.iconst 0, 1) := by decide +kernel
theorem dX9_takeFrom_35 : decode cX9_takeFrom 35 = .ok (.aload_n 0, 1) := by decide +kernel
theorem dX9_takeFrom_36 : decode cX9_takeFrom 36 = .ok (.getfield 18, 3) := by decide +kernel
theorem dX9_takeFrom_39 : decode cX9_takeFrom 39 = .ok (.iconst 0, 1) := by decide +kernel
theorem dX9_takeFrom_40 : decode cX9_takeFrom 40 = .ok (.bipush 6, 2) := by decide +kernel
theorem dX9_takeFrom_42 : decode cX9_takeFrom 42 = .ok (.invokestatic 33, 3) := by decide +kernel
theorem dX9_takeFrom_45 : decode cX9_takeFrom 45 = .ok (.aload_n 0, 1) := by decide +kernel
theorem dX9_takeFrom_46 : decode cX9_takeFrom 46 = .ok (.aload_n 1, 1) := by decide +kernel
theorem dX9_takeFrom_47 : decode cX9_takeFrom 47 = .ok (.getfield 21, 3) := by decide +kernel
theorem dX9_takeFrom_50 : decode cX9_takeFrom 50 = .ok (.putfield 21, 3) := by decide +kernel
theorem dX9_takeFrom_53 : decode cX9_takeFrom 53 = .ok (.return_, 1) := by decide +kernel
theorem dX10_init_0 : decode cX10_init 0 = .ok (.aload_n 0, 1) := by decide +kernel
theorem dX10_init_1 : decode cX10_init 1 = .ok (.invokespecial 1, 3) := by decide +kernel
theorem dX10_init_4 : decode cX10_init 4 = .ok (.aload_n 0, 1) := by decide +kernel
theorem dX10_init_5 : decode cX10_init 5 = .ok (.new 7, 3) := by decide +kernel
theorem dX10_init_8 : decode cX10_init 8 = .ok (.dup, 1) := by decide +kernel
theorem dX10_init_9 : decode cX10_init 9 = .ok (.invokespecial 9, 3) := by decide +kernel
theorem dX10_init_12 : decode cX10_init 12 = .ok (.putfield 10, 3) := by decide +kernel
theorem dX10_init_15 : decode cX10_init 15 = .ok (.aload_n 0, 1) := by decide +kernel
theorem dX10_init_16 : decode cX10_init 16 = .ok (.new 7, 3) := by decide +kernel
theorem dX10_init_19 : decode cX10_init 19 = .ok (.dup, 1) := by decide +kernel
theorem dX10_init_20 : decode cX10_init 20 = .ok (.invokespecial 9, 3) := by decide +kernel
theorem dX10_init_23 : decode cX10_init 23 = .ok (.putfield 16, 3) := by decide +kernel
theorem dX10_init_26 : decode cX10_init 26 = .ok (.aload_n 0, 1) := by decide +kernel
theorem dX10_init_27 : decode cX10_init 27 = .ok (.new 19, 3) := by decide +kernel
theorem dX10_init_30 : decode cX10_init 30 = .ok (.dup, 1) := by decide +kernel
theorem dX10_init_31 : decode cX10_init 31 = .ok (.invokespecial 21, 3) := by decide +kernel
theorem dX10_init_34 : decode cX10_init 34 = .ok (.putfield 22, 3) := by decide +kernel
theorem dX10_init_37 : decode cX10_init 37 = .ok (.aload_n 0, 1) := by decide +kernel
theorem dX10_init_38 : decode cX10_init 38 = .ok (.new 19, 3) := by decide +kernel
theorem dX10_init_41 : decode cX10_init 41 = .ok (.dup, 1) := by decide +kernel
theorem dX10_init_42 : decode cX10_init 42 = .ok (.invokespecial 21, 3) := by decide +kernel
theorem dX10_init_45 : decode cX10_init 45 = .ok (.putfield 26, 3) := by decide +kernel
theorem dX10_init_48 : decode cX10_init 48 = .ok (.aload_n 0, 1) := by decide +kernel
theorem dX10_init_49 : decode cX10_init 49 = .ok (.new 29, 3) := by decide +kernel
theorem dX10_init_52 : decode cX10_init 52 = .ok (.dup, 1) := by decide +kernel
theorem dX10_init_53 : decode cX10_init 53 = .ok (.invokespecial 31, 3) := by decide +kernel
theorem dX10_init_56 : decode cX10_init 56 = .ok (.putfield 32, 3) := by decide +kernel
theorem dX10_init_59 : decode cX10_init 59 = .ok (.aload_n 0, 1) := by decide +kernel
theorem dX10_init_60 : decode cX10_init 60 = .ok (.iconst 2, 1) := by decide +kernel
theorem dX10_init_61 : decode cX10_init 61 = .ok (.anewarray 19, 3) := by decide +kernel
theorem dX10_init_64 : decode cX10_init 64 = .ok (.dup, 1) := by decide +kernel
theorem dX10_init_65 : decode cX10_init 65 = .ok (.iconst 0, 1) := by decide +kernel
theorem dX10_init_66 : decode cX10_init 66 = .ok (.new 19, 3) := by decide +kernel
theorem dX10_init_69 : decode cX10_init 69 = .ok (.dup, 1) := by decide +kernel
theorem dX10_init_70 : decode cX10_init 70 = .ok (.invokespecial 21, 3) := by decide +kernel
theorem dX10_init_73 : decode cX10_init 73 = .ok (.aastore, 1) := by decide +kernel
theorem dX10_init_74 : decode cX10_init 74 = .ok (.dup, 1) := by decide +kernel
theorem dX10_init_75 : decode cX10_init 75 = .ok (.iconst 1, 1) := by decide +kernel
theorem dX10_init_76 : decode cX10_init 76 = .ok (.new 19, 3) := by decide +kernel
theorem dX10_init_79 : decode cX10_init 79 = .ok (.dup, 1) := by decide +kernel
theorem dX10_init_80 : decode cX10_init 80 = .ok (.invokespecial 21, 3) := by decide +kernel
theorem dX10_init_83 : decode cX10_init 83 = .ok (.aastore, 1) := by decide +kernel
theorem dX10_init_84 : decode cX10_init 84 = .ok (.putfield 36, 3) := by decide +kernel
theorem dX10_init_87 : decode cX10_init 87 = .ok (.aload_n 0, 1) := by decide +kernel
theorem dX10_init_88 : decode cX10_init 88 = .ok (.iconst 2, 1) := by decide +kernel
theorem dX10_init_89 : decode cX10_init 89 = .ok (.newarray .boolean, 2) := by decide +kernel
theorem dX10_init_91 : decode cX10_init 91 = .ok (.putfield 40, 3) := by decide +kernel
theorem dX10_init_94 : decode cX10_init 94 = .ok (.aload_n 0, 1) := by decide +kernel
theorem dX10_init_95 : decode cX10_init 95 = .ok (.iconst 0, 1) := by decide +kernel
theorem dX10_init_96 : decode cX10_init 96 = .ok (.putfield 44, 3) := by decide +kernel
theorem dX10_init_99 : decode cX10_init 99 = .ok (.aload_n 0, 1) := by decide +kernel
theorem dX10_init_100 : decode cX10_init 100 = .ok (.iconst (-1), 1) := by decide +kernel
theorem dX10_init_101 : decode cX10_init 101 = .ok (.putfield 48, 3) := by decide +kernel
theorem dX10_init_104 : decode cX10_init 104 = .ok (.new 7, 3) := by decide +kernel
theorem dX10_init_107 : decode cX10_init 107 = .ok (.dup, 1) := by decide +kernel
theorem dX10_init_108 : decode cX10_init 108 = .ok (.invokespecial 9, 3) := by decide +kernel
theorem dX10_init_111 : decode cX10_init 111 = .ok (.astore_n 1, 1) := by decide +kernel
theorem dX10_init_112 : decode cX10_init 112 = .ok (.aload_n 1, 1) := by decide +kernel
theorem dX10_init_113 : decode cX10_init 113 = .ok (.ldc 51, 2) := by decide +kernel
theorem dX10_init_115 : decode cX10_init 115 = .ok (.invokevirtual 53, 3) := by decide +kernel
theorem dX10_init_118 : decode cX10_init 118 = .ok (.new 19, 3) := by decide +kernel
theorem dX10_init_121 : decode cX10_init 121 = .ok (.dup, 1) := by decide +kernel
theorem dX10_init_122 : decode cX10_init 122 = .ok (.invokespecial 21, 3) := by decide +kernel
theorem dX10_init_125 : decode cX10_init 125 = .ok (.astore_n 2, 1) := by decide +kernel
theorem dX10_init_126 : decode cX10_init 126 = .ok (.new 57, 3) := by decide +kernel
theorem dX10_init_129 : decode cX10_init 129 = .ok (.dup, 1) := by decide +kernel
theorem dX10_init_130 : decode cX10_init 130 = .ok (.aload_n 1, 1) := by decide +kernel
theorem dX10_init_131 : decode cX10_init 131 = .ok (.aload_n 2, 1) := by decide +kernel
theorem dX10_init_132 : decode cX10_init 132 = .ok (.invokespecial 59, 3) := by decide +kernel
theorem dX10_init_135 : decode cX10_init 135 = .ok (.invokevirtual 62, 3) := by decide +kernel
theorem dX10_init_138 : decode cX10_init 138 = .ok (.pop, 1) := by decide +kernel
theorem dX10_init_139 : decode cX10_init 139 = .ok (.aload_n 0, 1) := by decide +kernel
theorem dX10_init_140 : decode cX10_init 140 = .ok (.getfield 22, 3) := by decide +kernel
theorem dX10_init_143 : decode cX10_init 143 = .ok (.aload_n 2, 1) := by decide +kernel
theorem dX10_init_144 : decode cX10_init 144 = .ok (.invokevirtual 66, 3) := by decide +kernel
theorem dX10_init_147 : decode cX10_init 147 = .ok (.return_, 1) := by decide +kernel
theorem dX10_appendInput_0 : decode cX10_appendInput 0 = .ok (.aload_n 0, 1) := by decide +kernel
theorem dX10_appendInput_1 : decode cX10_appendInput 1 = .ok (.getfield 10, 3) := by decide +kernel
theorem dX10_appendInput_4 : decode cX10_appendInput 4 = .ok (.bipush 20, 2) := by decide +kernel
theorem dX10_appendInput_6 : decode cX10_appendInput 6 = .ok (.invokevirtual 70, 3) := by decide +kernel
theorem dX10_appendInput_9 : decode cX10_appendInput 9 = .ok (.ifCond .ne 11, 3) := by decide +kernel
theorem dX10_appendInput_12 : decode cX10_appendInput 12 = .ok (.new 74, 3) := by decide +kernel
theorem dX10_appendInput_15 : decode cX10_appendInput 15 = .ok (.dup, 1) := by decide +kernel
theorem dX10_appendInput_16 : decode cX10_appendInput 16 = .ok (.invokespecial 76, 3) := by decide +kernel
theorem dX10_appendInput_19 : decode cX10_appendInput 19 = .ok (.athrow, 1) := by decide +kernel
theorem dX10_appendInput_20 : decode cX10_appendInput 20 = .ok (.aload_n 0, 1) := by decide +kernel
theorem dX10_appendInput_21 : decode cX10_appendInput 21 = .ok (.getfield 10, 3) := by decide +kernel
theorem dX10_appendInput_24 : decode cX10_appendInput 24 = .ok (.iload_n 1, 1) := by decide +kernel
theorem dX10_appendInput_25 : decode cX10_appendInput 25 = .ok (.invokevirtual 77, 3) := by decide +kernel
theorem dX10_appendInput_28 : decode cX10_appendInput 28 = .ok (.aload_n 0, 1) := by decide +kernel
theorem dX10_appendInput_29 : decode cX10_appendInput 29 = .ok (.getfield 10, 3) := by decide +kernel
theorem dX10_appendInput_32 : decode cX10_appendInput 32 = .ok (.iload_n 2, 1) := by decide +kernel
theorem dX10_appendInput_33 : decode cX10_appendInput 33 = .ok (.invokevirtual 77, 3) := by decide +kernel
theorem dX10_appendInput_36 : decode cX10_appendInput 36 = .ok (.aload_n 0, 1) := by decide +kernel
theorem dX10_appendInput_37 : decode cX10_appendInput 37 = .ok (.getfield 10, 3) := by decide +kernel
theorem dX10_appendInput_40 : decode cX10_appendInput 40 = .ok (.iload_n 3, 1) := by decide +kernel
theorem dX10_appendInput_41 : decode cX10_appendInput 41 = .ok (.invokevirtual 77, 3) := by decide +kernel
theorem dX10_appendInput_44 : decode cX10_appendInput 44 = .ok (.aload_n 0, 1) := by decide +kernel
theorem dX10_appendInput_45 : decode cX10_appendInput 45 = .ok (.getfield 10, 3) := by decide +kernel
theorem dX10_appendInput_48 : decode cX10_appendInput 48 = .ok (.iload 4, 2) := by decide +kernel
theorem dX10_appendInput_50 : decode cX10_appendInput 50 = .ok (.invokevirtual 77, 3) := by decide +kernel
theorem dX10_appendInput_53 : decode cX10_appendInput 53 = .ok (.aload_n 0, 1) := by decide +kernel
theorem dX10_appendInput_54 : decode cX10_appendInput 54 = .ok (.getfield 10, 3) := by decide +kernel
theorem dX10_appendInput_57 : decode cX10_appendInput 57 = .ok (.iload 5, 2) := by decide +kernel
theorem dX10_appendInput_59 : decode cX10_appendInput 59 = .ok (.invokevirtual 77, 3) := by decide +kernel
theorem dX10_appendInput_62 : decode cX10_appendInput 62 = .ok (.aload_n 0, 1) := by decide +kernel
theorem dX10_appendInput_63 : decode cX10_appendInput 63 = .ok (.getfield 10, 3) := by decide +kernel
theorem dX10_appendInput_66 : decode cX10_appendInput 66 = .ok (.getfield 81, 3) := by decide +kernel
theorem dX10_appendInput_69 : decode cX10_appendInput 69 = .ok (.ireturn, 1) := by decide +kernel
theorem dX10_truncateInput_0 : decode cX10_truncateInput 0 = .ok (.aload_n 0, 1) := by decide +kernel
theorem dX10_truncateInput_1 : decode cX10_truncateInput 1 = .ok (.iload_n 1, 1) := by decide +kernel
theorem dX10_truncateInput_2 : decode cX10_truncateInput 2 = .ok (.iconst 0, 1) := by decide +kernel
theorem dX10_truncateInput_3 : decode cX10_truncateInput 3 = .ok (.aload_n 0, 1) := by decide +kernel
theorem dX10_truncateInput_4 : decode cX10_truncateInput 4 = .ok (.getfield 10, 3) := by decide +kernel
theorem dX10_truncateInput_7 : decode cX10_truncateInput 7 = .ok (.getfield 81, 3) := by decide +kernel
theorem dX10_truncateInput_10 : decode cX10_truncateInput 10 = .ok (.invokevirtual 84, 3) := by decide +kernel
theorem dX10_truncateInput_13 : decode cX10_truncateInput 13 = .ok (.aload_n 0, 1) := by decide +kernel
theorem dX10_truncateInput_14 : decode cX10_truncateInput 14 = .ok (.getfield 10, 3) := by decide +kernel
theorem dX10_truncateInput_17 : decode cX10_truncateInput 17 = .ok (.iload_n 1, 1) := by decide +kernel
theorem dX10_truncateInput_18 : decode cX10_truncateInput 18 = .ok (.putfield 81, 3) := by decide +kernel
theorem dX10_truncateInput_21 : decode cX10_truncateInput 21 = .ok (.iload_n 1, 1) := by decide +kernel
theorem dX10_truncateInput_22 : decode cX10_truncateInput 22 = .ok (.ireturn, 1) := by decide +kernel
theorem dX10_load_0 : decode cX10_load 0 = .ok (.aload_n 0, 1) := by decide +kernel
theorem dX10_load_1 : decode cX10_load 1 = .ok (.getfield 26, 3) := by decide +kernel
theorem dX10_load_4 : decode cX10_load 4 = .ok (.invokevirtual 88, 3) := by decide +kernel
theorem dX10_load_7 : decode cX10_load 7 = .ok (.new 57, 3) := by decide +kernel
theorem dX10_load_10 : decode cX10_load 10 = .ok (.dup, 1) := by decide +kernel
theorem dX10_load_11 : decode cX10_load 11 = .ok (.aload_n 0, 1) := by decide +kernel
theorem dX10_load_12 : decode cX10_load 12 = .ok (.getfield 10, 3) := by decide +kernel
theorem dX10_load_15 : decode cX10_load 15 = .ok (.aload_n 0, 1) := by decide +kernel
theorem dX10_load_16 : decode cX10_load 16 = .ok (.getfield 26, 3) := by decide +kernel
theorem dX10_load_19 : decode cX10_load 19 = .ok (.invokespecial 59, 3) := by decide +kernel
theorem dX10_load_22 : decode cX10_load 22 = .ok (.astore_n 1, 1) := by decide +kernel
theorem dX10_load_23 : decode cX10_load 23 = .ok (.aload_n 1, 1) := by decide +kernel
theorem dX10_load_24 : decode cX10_load 24 = .ok (.invokevirtual 62, 3) := by decide +kernel
theorem dX10_load_27 : decode cX10_load 27 = .ok (.istore_n 2, 1) := by decide +kernel
theorem dX10_load_28 : decode cX10_load 28 = .ok (.aload_n 0, 1) := by decide +kernel
theorem dX10_load_29 : decode cX10_load 29 = .ok (.getfield 10, 3) := by decide +kernel
theorem dX10_load_32 : decode cX10_load 32 = .ok (.iconst 0, 1) := by decide +kernel
theorem dX10_load_33 : decode cX10_load 33 = .ok (.putfield 81, 3) := by decide +kernel
theorem dX10_load_36 : decode cX10_load 36 = .ok (.aload_n 0, 1) := by decide +kernel
theorem dX10_load_37 : decode cX10_load 37 = .ok (.aload_n 1, 1) := by decide +kernel
theorem dX10_load_38 : decode cX10_load 38 = .ok (.getfield 91, 3) := by decide +kernel
theorem dX10_load_41 : decode cX10_load 41 = .ok (.putfield 44, 3) := by decide +kernel
theorem dX10_load_44 : decode cX10_load 44 = .ok (.aload_n 0, 1) := by decide +kernel
theorem dX10_load_45 : decode cX10_load 45 = .ok (.aload_n 1, 1) := by decide +kernel
theorem dX10_load_46 : decode cX10_load 46 = .ok (.getfield 92, 3) := by decide +kernel
theorem dX10_load_49 : decode cX10_load 49 = .ok (.putfield 48, 3) := by decide +kernel
theorem dX10_load_52 : decode cX10_load 52 = .ok (.iload_n 2, 1) := by decide +kernel
theorem dX10_load_53 : decode cX10_load 53 = .ok (.ifCond .ne 11, 3) := by decide +kernel
theorem dX10_load_56 : decode cX10_load 56 = .ok (.new 93, 3) := by decide +kernel
theorem dX10_load_59 : decode cX10_load 59 = .ok (.dup, 1) := by decide +kernel
theorem dX10_load_60 : decode cX10_load 60 = .ok (.invokespecial 95, 3) := by decide +kernel
theorem dX10_load_63 : decode cX10_load 63 = .ok (.athrow, 1) := by decide +kernel
theorem dX10_load_64 : decode cX10_load 64 = .ok (.aload_n 0, 1) := by decide +kernel
theorem dX10_load_65 : decode cX10_load 65 = .ok (.getfield 32, 3) := by decide +kernel
theorem dX10_load_68 : decode cX10_load 68 = .ok (.aload_n 0, 1) := by decide +kernel
theorem dX10_load_69 : decode cX10_load 69 = .ok (.getfield 22, 3) := by decide +kernel
theorem dX10_load_72 : decode cX10_load 72 = .ok (.invokevirtual 96, 3) := by decide +kernel
theorem dX10_load_75 : decode cX10_load 75 = .ok (.aload_n 0, 1) := by decide +kernel
theorem dX10_load_76 : decode cX10_load 76 = .ok (.getfield 22, 3) := by decide +kernel
theorem dX10_load_79 : decode cX10_load 79 = .ok (.aload_n 0, 1) := by decide +kernel
theorem dX10_load_80 : decode cX10_load 80 = .ok (.getfield 26, 3) := by decide +kernel
theorem dX10_load_83 : decode cX10_load 83 = .ok (.invokevirtual 66, 3) := by decide +kernel
theorem dX10_load_86 : decode cX10_load 86 = .ok (.aload_n 0, 1) := by decide +kernel
theorem dX10_load_87 : decode cX10_load 87 = .ok (.getfield 22, 3) := by decide +kernel
theorem dX10_load_90 : decode cX10_load 90 = .ok (.getfield 99, 3) := by decide +kernel
theorem dX10_load_93 : decode cX10_load 93 = .ok (.getfield 103, 3) := by decide +kernel
theorem dX10_load_96 : decode cX10_load 96 = .ok (.ireturn, 1) := by decide +kernel
theorem dX10_errorCode_0 : decode cX10_errorCode 0 = .ok (.aload_n 0, 1) := by decide +kernel
theorem dX10_errorCode_1 : decode cX10_errorCode 1 = .ok (.getfield 44, 3) := by decide +kernel
theorem dX10_errorCode_4 : decode cX10_errorCode 4 = .ok (.ireturn, 1) := by decide +kernel
theorem dX10_errorPosition_0 : decode cX10_errorPosition 0 = .ok (.aload_n 0, 1) := by decide +kernel
theorem dX10_errorPosition_1 : decode cX10_errorPosition 1 = .ok (.getfield 48, 3) := by decide +kernel
theorem dX10_errorPosition_4 : decode cX10_errorPosition 4 = .ok (.ireturn, 1) := by decide +kernel
theorem dX10_day_0 : decode cX10_day 0 = .ok (.aload_n 0, 1) := by decide +kernel
theorem dX10_day_1 : decode cX10_day 1 = .ok (.getfield 22, 3) := by decide +kernel
theorem dX10_day_4 : decode cX10_day 4 = .ok (.getfield 108, 3) := by decide +kernel
theorem dX10_day_7 : decode cX10_day 7 = .ok (.ireturn, 1) := by decide +kernel
theorem dX10_seed_0 : decode cX10_seed 0 = .ok (.aload_n 0, 1) := by decide +kernel
theorem dX10_seed_1 : decode cX10_seed 1 = .ok (.getfield 22, 3) := by decide +kernel
theorem dX10_seed_4 : decode cX10_seed 4 = .ok (.getfield 111, 3) := by decide +kernel
theorem dX10_seed_7 : decode cX10_seed 7 = .ok (.getfield 115, 3) := by decide +kernel
theorem dX10_seed_10 : decode cX10_seed 10 = .ok (.ireturn, 1) := by decide +kernel
theorem dX10_coins_0 : decode cX10_coins 0 = .ok (.aload_n 0, 1) := by decide +kernel
theorem dX10_coins_1 : decode cX10_coins 1 = .ok (.getfield 22, 3) := by decide +kernel
theorem dX10_coins_4 : decode cX10_coins 4 = .ok (.getfield 120, 3) := by decide +kernel
theorem dX10_coins_7 : decode cX10_coins 7 = .ok (.ireturn, 1) := by decide +kernel
theorem dX10_villageCount_0 : decode cX10_villageCount 0 = .ok (.aload_n 0, 1) := by decide +kernel
theorem dX10_villageCount_1 : decode cX10_villageCount 1 = .ok (.getfield 22, 3) := by decide +kernel
theorem dX10_villageCount_4 : decode cX10_villageCount 4 = .ok (.getfield 99, 3) := by decide +kernel
theorem dX10_villageCount_7 : decode cX10_villageCount 7 = .ok (.getfield 103, 3) := by decide +kernel
theorem dX10_villageCount_10 : decode cX10_villageCount 10 = .ok (.ireturn, 1) := by decide +kernel
theorem dX10_fairCount_0 : decode cX10_fairCount 0 = .ok (.aload_n 0, 1) := by decide +kernel
theorem dX10_fairCount_1 : decode cX10_fairCount 1 = .ok (.getfield 22, 3) := by decide +kernel
theorem dX10_fairCount_4 : decode cX10_fairCount 4 = .ok (.getfield 123, 3) := by decide +kernel
theorem dX10_fairCount_7 : decode cX10_fairCount 7 = .ok (.getfield 127, 3) := by decide +kernel
theorem dX10_fairCount_10 : decode cX10_fairCount 10 = .ok (.ireturn, 1) := by decide +kernel
theorem dX10_findName_0 : decode cX10_findName 0 = .ok (.aload_n 0, 1) := by decide +kernel
theorem dX10_findName_1 : decode cX10_findName 1 = .ok (.getfield 10, 3) := by decide +kernel
theorem dX10_findName_4 : decode cX10_findName 4 = .ok (.iconst 0, 1) := by decide +kernel
theorem dX10_findName_5 : decode cX10_findName 5 = .ok (.aload_n 0, 1) := by decide +kernel
theorem dX10_findName_6 : decode cX10_findName 6 = .ok (.getfield 10, 3) := by decide +kernel
theorem dX10_findName_9 : decode cX10_findName 9 = .ok (.getfield 81, 3) := by decide +kernel
theorem dX10_findName_12 : decode cX10_findName 12 = .ok (.invokevirtual 130, 3) := by decide +kernel
theorem dX10_findName_15 : decode cX10_findName 15 = .ok (.istore_n 1, 1) := by decide +kernel
theorem dX10_findName_16 : decode cX10_findName 16 = .ok (.aload_n 0, 1) := by decide +kernel
theorem dX10_findName_17 : decode cX10_findName 17 = .ok (.getfield 22, 3) := by decide +kernel
theorem dX10_findName_20 : decode cX10_findName 20 = .ok (.getfield 99, 3) := by decide +kernel
theorem dX10_findName_23 : decode cX10_findName 23 = .ok (.iload_n 1, 1) := by decide +kernel
theorem dX10_findName_24 : decode cX10_findName 24 = .ok (.invokevirtual 134, 3) := by decide +kernel
theorem dX10_findName_27 : decode cX10_findName 27 = .ok (.istore_n 2, 1) := by decide +kernel
theorem dX10_findName_28 : decode cX10_findName 28 = .ok (.iload_n 2, 1) := by decide +kernel
theorem dX10_findName_29 : decode cX10_findName 29 = .ok (.iconst (-1), 1) := by decide +kernel
theorem dX10_findName_30 : decode cX10_findName 30 = .ok (.if_icmp .eq 5, 3) := by decide +kernel
theorem dX10_findName_33 : decode cX10_findName 33 = .ok (.iload_n 2, 1) := by decide +kernel
theorem dX10_findName_34 : decode cX10_findName 34 = .ok (.ireturn, 1) := by decide +kernel
theorem dX10_findName_35 : decode cX10_findName 35 = .ok (.aload_n 0, 1) := by decide +kernel
theorem dX10_findName_36 : decode cX10_findName 36 = .ok (.getfield 22, 3) := by decide +kernel
theorem dX10_findName_39 : decode cX10_findName 39 = .ok (.getfield 123, 3) := by decide +kernel
theorem dX10_findName_42 : decode cX10_findName 42 = .ok (.iload_n 1, 1) := by decide +kernel
theorem dX10_findName_43 : decode cX10_findName 43 = .ok (.invokevirtual 138, 3) := by decide +kernel
theorem dX10_findName_46 : decode cX10_findName 46 = .ok (.istore_n 3, 1) := by decide +kernel
theorem dX10_findName_47 : decode cX10_findName 47 = .ok (.iload_n 3, 1) := by decide +kernel
theorem dX10_findName_48 : decode cX10_findName 48 = .ok (.iconst (-1), 1) := by decide +kernel
theorem dX10_findName_49 : decode cX10_findName 49 = .ok (.if_icmp .ne 7, 3) := by decide +kernel
theorem dX10_findName_52 : decode cX10_findName 52 = .ok (.iconst (-1), 1) := by decide +kernel
theorem dX10_findName_53 : decode cX10_findName 53 = .ok (.goto 7, 3) := by decide +kernel
theorem dX10_findName_56 : decode cX10_findName 56 = .ok (.bipush 100, 2) := by decide +kernel
theorem dX10_findName_58 : decode cX10_findName 58 = .ok (.iload_n 3, 1) := by decide +kernel
theorem dX10_findName_59 : decode cX10_findName 59 = .ok (.iadd, 1) := by decide +kernel
theorem dX10_findName_60 : decode cX10_findName 60 = .ok (.ireturn, 1) := by decide +kernel
theorem dX10_peopleOf_0 : decode cX10_peopleOf 0 = .ok (.aload_n 0, 1) := by decide +kernel
theorem dX10_peopleOf_1 : decode cX10_peopleOf 1 = .ok (.iload_n 1, 1) := by decide +kernel
theorem dX10_peopleOf_2 : decode cX10_peopleOf 2 = .ok (.invokevirtual 139, 3) := by decide +kernel
theorem dX10_peopleOf_5 : decode cX10_peopleOf 5 = .ok (.aload_n 0, 1) := by decide +kernel
theorem dX10_peopleOf_6 : decode cX10_peopleOf 6 = .ok (.getfield 22, 3) := by decide +kernel
theorem dX10_peopleOf_9 : decode cX10_peopleOf 9 = .ok (.getfield 99, 3) := by decide +kernel
theorem dX10_peopleOf_12 : decode cX10_peopleOf 12 = .ok (.getfield 142, 3) := by decide +kernel
theorem dX10_peopleOf_15 : decode cX10_peopleOf 15 = .ok (.iload_n 1, 1) := by decide +kernel
theorem dX10_peopleOf_16 : decode cX10_peopleOf 16 = .ok (.iaload, 1) := by decide +kernel
theorem dX10_peopleOf_17 : decode cX10_peopleOf 17 = .ok (.ireturn, 1) := by decide +kernel
theorem dX10_trustOf_0 : decode cX10_trustOf 0 = .ok (.aload_n 0, 1) := by decide +kernel
theorem dX10_trustOf_1 : decode cX10_trustOf 1 = .ok (.iload_n 1, 1) := by decide +kernel
theorem dX10_trustOf_2 : decode cX10_trustOf 2 = .ok (.invokevirtual 139, 3) := by decide +kernel
theorem dX10_trustOf_5 : decode cX10_trustOf 5 = .ok (.aload_n 0, 1) := by decide +kernel
theorem dX10_trustOf_6 : decode cX10_trustOf 6 = .ok (.getfield 22, 3) := by decide +kernel
theorem dX10_trustOf_9 : decode cX10_trustOf 9 = .ok (.getfield 99, 3) := by decide +kernel
theorem dX10_trustOf_12 : decode cX10_trustOf 12 = .ok (.getfield 146, 3) := by decide +kernel
theorem dX10_trustOf_15 : decode cX10_trustOf 15 = .ok (.iload_n 1, 1) := by decide +kernel
theorem dX10_trustOf_16 : decode cX10_trustOf 16 = .ok (.iaload, 1) := by decide +kernel
theorem dX10_trustOf_17 : decode cX10_trustOf 17 = .ok (.ireturn, 1) := by decide +kernel
theorem dX10_forecastsFor_0 : decode cX10_forecastsFor 0 = .ok (.aload_n 0, 1) := by decide +kernel
theorem dX10_forecastsFor_1 : decode cX10_forecastsFor 1 = .ok (.iload_n 1, 1) := by decide +kernel
theorem dX10_forecastsFor_2 : decode cX10_forecastsFor 2 = .ok (.invokevirtual 139, 3) := by decide +kernel
theorem dX10_forecastsFor_5 : decode cX10_forecastsFor 5 = .ok (.aload_n 0, 1) := by decide +kernel
theorem dX10_forecastsFor_6 : decode cX10_forecastsFor 6 = .ok (.getfield 22, 3) := by decide +kernel
theorem dX10_forecastsFor_9 : decode cX10_forecastsFor 9 = .ok (.getfield 149, 3) := by decide +kernel
theorem dX10_forecastsFor_12 : decode cX10_forecastsFor 12 = .ok (.iload_n 1, 1) := by decide +kernel
theorem dX10_forecastsFor_13 : decode cX10_forecastsFor 13 = .ok (.invokevirtual 153, 3) := by decide +kernel
theorem dX10_forecastsFor_16 : decode cX10_forecastsFor 16 = .ok (.ireturn, 1) := by decide +kernel
theorem dX10_fairVillage_0 : decode cX10_fairVillage 0 = .ok (.aload_n 0, 1) := by decide +kernel
theorem dX10_fairVillage_1 : decode cX10_fairVillage 1 = .ok (.iload_n 1, 1) := by decide +kernel
theorem dX10_fairVillage_2 : decode cX10_fairVillage 2 = .ok (.invokevirtual 158, 3) := by decide +kernel
theorem dX10_fairVillage_5 : decode cX10_fairVillage 5 = .ok (.aload_n 0, 1) := by decide +kernel
theorem dX10_fairVillage_6 : decode cX10_fairVillage 6 = .ok (.getfield 22, 3) := by decide +kernel
theorem dX10_fairVillage_9 : decode cX10_fairVillage 9 = .ok (.getfield 123, 3) := by decide +kernel
theorem dX10_fairVillage_12 : decode cX10_fairVillage 12 = .ok (.getfield 161, 3) := by decide +kernel
theorem dX10_fairVillage_15 : decode cX10_fairVillage 15 = .ok (.iload_n 1, 1) := by decide +kernel
theorem dX10_fairVillage_16 : decode cX10_fairVillage 16 = .ok (.iaload, 1) := by decide +kernel
theorem dX10_fairVillage_17 : decode cX10_fairVillage 17 = .ok (.ireturn, 1) := by decide +kernel
theorem dX10_periodOf_0 : decode cX10_periodOf 0 = .ok (.aload_n 0, 1) := by decide +kernel
theorem dX10_periodOf_1 : decode cX10_periodOf 1 = .ok (.iload_n 1, 1) := by decide +kernel
theorem dX10_periodOf_2 : decode cX10_periodOf 2 = .ok (.invokevirtual 158, 3) := by decide +kernel
theorem dX10_periodOf_5 : decode cX10_periodOf 5 = .ok (.aload_n 0, 1) := by decide +kernel
theorem dX10_periodOf_6 : decode cX10_periodOf 6 = .ok (.getfield 22, 3) := by decide +kernel
theorem dX10_periodOf_9 : decode cX10_periodOf 9 = .ok (.getfield 123, 3) := by decide +kernel
theorem dX10_periodOf_12 : decode cX10_periodOf 12 = .ok (.getfield 163, 3) := by decide +kernel
theorem dX10_periodOf_15 : decode cX10_periodOf 15 = .ok (.iload_n 1, 1) := by decide +kernel
theorem dX10_periodOf_16 : decode cX10_periodOf 16 = .ok (.iaload, 1) := by decide +kernel
theorem dX10_periodOf_17 : decode cX10_periodOf 17 = .ok (.ireturn, 1) := by decide +kernel
theorem dX10_stockOf_0 : decode cX10_stockOf 0 = .ok (.aload_n 0, 1) := by decide +kernel
theorem dX10_stockOf_1 : decode cX10_stockOf 1 = .ok (.iload_n 1, 1) := by decide +kernel
theorem dX10_stockOf_2 : decode cX10_stockOf 2 = .ok (.invokevirtual 158, 3) := by decide +kernel
theorem dX10_stockOf_5 : decode cX10_stockOf 5 = .ok (.aload_n 0, 1) := by decide +kernel
theorem dX10_stockOf_6 : decode cX10_stockOf 6 = .ok (.getfield 22, 3) := by decide +kernel
theorem dX10_stockOf_9 : decode cX10_stockOf 9 = .ok (.getfield 123, 3) := by decide +kernel
theorem dX10_stockOf_12 : decode cX10_stockOf 12 = .ok (.getfield 166, 3) := by decide +kernel
theorem dX10_stockOf_15 : decode cX10_stockOf 15 = .ok (.iload_n 1, 1) := by decide +kernel
theorem dX10_stockOf_16 : decode cX10_stockOf 16 = .ok (.iaload, 1) := by decide +kernel
theorem dX10_stockOf_17 : decode cX10_stockOf 17 = .ok (.ireturn, 1) := by decide +kernel
theorem dX10_priceOf_0 : decode cX10_priceOf 0 = .ok (.aload_n 0, 1) := by decide +kernel
theorem dX10_priceOf_1 : decode cX10_priceOf 1 = .ok (.iload_n 1, 1) := by decide +kernel
theorem dX10_priceOf_2 : decode cX10_priceOf 2 = .ok (.invokevirtual 158, 3) := by decide +kernel
theorem dX10_priceOf_5 : decode cX10_priceOf 5 = .ok (.aload_n 0, 1) := by decide +kernel
theorem dX10_priceOf_6 : decode cX10_priceOf 6 = .ok (.getfield 22, 3) := by decide +kernel
theorem dX10_priceOf_9 : decode cX10_priceOf 9 = .ok (.getfield 123, 3) := by decide +kernel
theorem dX10_priceOf_12 : decode cX10_priceOf 12 = .ok (.getfield 169, 3) := by decide +kernel
theorem dX10_priceOf_15 : decode cX10_priceOf 15 = .ok (.iload_n 1, 1) := by decide +kernel
theorem dX10_priceOf_16 : decode cX10_priceOf 16 = .ok (.iaload, 1) := by decide +kernel
theorem dX10_priceOf_17 : decode cX10_priceOf 17 = .ok (.ireturn, 1) := by decide +kernel
theorem dX10_daysUntilFair_0 : decode cX10_daysUntilFair 0 = .ok (.aload_n 0, 1) := by decide +kernel
theorem dX10_daysUntilFair_1 : decode cX10_daysUntilFair 1 = .ok (.iload_n 1, 1) := by decide +kernel
theorem dX10_daysUntilFair_2 : decode cX10_daysUntilFair 2 = .ok (.invokevirtual 158, 3) := by decide +kernel
theorem dX10_daysUntilFair_5 : decode cX10_daysUntilFair 5 = .ok (.aload_n 0, 1) := by decide +kernel
theorem dX10_daysUntilFair_6 : decode cX10_daysUntilFair 6 = .ok (.getfield 22, 3) := by decide +kernel
theorem dX10_daysUntilFair_9 : decode cX10_daysUntilFair 9 = .ok (.getfield 123, 3) := by decide +kernel
theorem dX10_daysUntilFair_12 : decode cX10_daysUntilFair 12 = .ok (.iload_n 1, 1) := by decide +kernel
theorem dX10_daysUntilFair_13 : decode cX10_daysUntilFair 13 = .ok (.aload_n 0, 1) := by decide +kernel
theorem dX10_daysUntilFair_14 : decode cX10_daysUntilFair 14 = .ok (.getfield 22, 3) := by decide +kernel
theorem dX10_daysUntilFair_17 : decode cX10_daysUntilFair 17 = .ok (.getfield 108, 3) := by decide +kernel
theorem dX10_daysUntilFair_20 : decode cX10_daysUntilFair 20 = .ok (.invokevirtual 172, 3) := by decide +kernel
theorem dX10_daysUntilFair_23 : decode cX10_daysUntilFair 23 = .ok (.ireturn, 1) := by decide +kernel
theorem dX10_oddsOf_0 : decode cX10_oddsOf 0 = .ok (.aload_n 0, 1) := by decide +kernel
theorem dX10_oddsOf_1 : decode cX10_oddsOf 1 = .ok (.iload_n 1, 1) := by decide +kernel
theorem dX10_oddsOf_2 : decode cX10_oddsOf 2 = .ok (.iconst 0, 1) := by decide +kernel
theorem dX10_oddsOf_3 : decode cX10_oddsOf 3 = .ok (.iconst 2, 1) := by decide +kernel
theorem dX10_oddsOf_4 : decode cX10_oddsOf 4 = .ok (.invokevirtual 84, 3) := by decide +kernel
theorem dX10_oddsOf_7 : decode cX10_oddsOf 7 = .ok (.aload_n 0, 1) := by decide +kernel
theorem dX10_oddsOf_8 : decode cX10_oddsOf 8 = .ok (.getfield 22, 3) := by decide +kernel
theorem dX10_oddsOf_11 : decode cX10_oddsOf 11 = .ok (.getfield 111, 3) := by decide +kernel
theorem dX10_oddsOf_14 : decode cX10_oddsOf 14 = .ok (.getfield 175, 3) := by decide +kernel
theorem dX10_oddsOf_17 : decode cX10_oddsOf 17 = .ok (.iload_n 1, 1) := by decide +kernel
theorem dX10_oddsOf_18 : decode cX10_oddsOf 18 = .ok (.iaload, 1) := by decide +kernel
theorem dX10_oddsOf_19 : decode cX10_oddsOf 19 = .ok (.ireturn, 1) := by decide +kernel
theorem dX10_chanceOf_0 : decode cX10_chanceOf 0 = .ok (.aload_n 0, 1) := by decide +kernel
theorem dX10_chanceOf_1 : decode cX10_chanceOf 1 = .ok (.iload_n 1, 1) := by decide +kernel
theorem dX10_chanceOf_2 : decode cX10_chanceOf 2 = .ok (.iconst 0, 1) := by decide +kernel
theorem dX10_chanceOf_3 : decode cX10_chanceOf 3 = .ok (.iconst 2, 1) := by decide +kernel
theorem dX10_chanceOf_4 : decode cX10_chanceOf 4 = .ok (.invokevirtual 84, 3) := by decide +kernel
theorem dX10_chanceOf_7 : decode cX10_chanceOf 7 = .ok (.aload_n 0, 1) := by decide +kernel
theorem dX10_chanceOf_8 : decode cX10_chanceOf 8 = .ok (.getfield 22, 3) := by decide +kernel
theorem dX10_chanceOf_11 : decode cX10_chanceOf 11 = .ok (.getfield 111, 3) := by decide +kernel
theorem dX10_chanceOf_14 : decode cX10_chanceOf 14 = .ok (.invokevirtual 178, 3) := by decide +kernel
theorem dX10_chanceOf_17 : decode cX10_chanceOf 17 = .ok (.istore_n 2, 1) := by decide +kernel
theorem dX10_chanceOf_18 : decode cX10_chanceOf 18 = .ok (.iload_n 2, 1) := by decide +kernel
theorem dX10_chanceOf_19 : decode cX10_chanceOf 19 = .ok (.ifCond .ne 7, 3) := by decide +kernel
theorem dX10_chanceOf_22 : decode cX10_chanceOf 22 = .ok (.dconst 0, 1) := by decide +kernel
theorem dX10_chanceOf_23 : decode cX10_chanceOf 23 = .ok (.goto 19, 3) := by decide +kernel
theorem dX10_chanceOf_26 : decode cX10_chanceOf 26 = .ok (.aload_n 0, 1) := by decide +kernel
theorem dX10_chanceOf_27 : decode cX10_chanceOf 27 = .ok (.getfield 22, 3) := by decide +kernel
theorem dX10_chanceOf_30 : decode cX10_chanceOf 30 = .ok (.getfield 111, 3) := by decide +kernel
theorem dX10_chanceOf_33 : decode cX10_chanceOf 33 = .ok (.getfield 175, 3) := by decide +kernel
theorem dX10_chanceOf_36 : decode cX10_chanceOf 36 = .ok (.iload_n 1, 1) := by decide +kernel
theorem dX10_chanceOf_37 : decode cX10_chanceOf 37 = .ok (.iaload, 1) := by decide +kernel
theorem dX10_chanceOf_38 : decode cX10_chanceOf 38 = .ok (.i2d, 1) := by decide +kernel
theorem dX10_chanceOf_39 : decode cX10_chanceOf 39 = .ok (.iload_n 2, 1) := by decide +kernel
theorem dX10_chanceOf_40 : decode cX10_chanceOf 40 = .ok (.i2d, 1) := by decide +kernel
theorem dX10_chanceOf_41 : decode cX10_chanceOf 41 = .ok (.ddiv, 1) := by decide +kernel
theorem dX10_chanceOf_42 : decode cX10_chanceOf 42 = .ok (.dreturn, 1) := by decide +kernel
theorem dX10_drawnThisYear_0 : decode cX10_drawnThisYear 0 = .ok (.aload_n 0, 1) := by decide +kernel
theorem dX10_drawnThisYear_1 : decode cX10_drawnThisYear 1 = .ok (.iload_n 1, 1) := by decide +kernel
theorem dX10_drawnThisYear_2 : decode cX10_drawnThisYear 2 = .ok (.iconst 0, 1) := by decide +kernel
theorem dX10_drawnThisYear_3 : decode cX10_drawnThisYear 3 = .ok (.iconst 2, 1) := by decide +kernel
theorem dX10_drawnThisYear_4 : decode cX10_drawnThisYear 4 = .ok (.invokevirtual 84, 3) := by decide +kernel
theorem dX10_drawnThisYear_7 : decode cX10_drawnThisYear 7 = .ok (.aload_n 0, 1) := by decide +kernel
theorem dX10_drawnThisYear_8 : decode cX10_drawnThisYear 8 = .ok (.getfield 22, 3) := by decide +kernel
theorem dX10_drawnThisYear_11 : decode cX10_drawnThisYear 11 = .ok (.getfield 111, 3) := by decide +kernel
theorem dX10_drawnThisYear_14 : decode cX10_drawnThisYear 14 = .ok (.getfield 182, 3) := by decide +kernel
theorem dX10_drawnThisYear_17 : decode cX10_drawnThisYear 17 = .ok (.iload_n 1, 1) := by decide +kernel
theorem dX10_drawnThisYear_18 : decode cX10_drawnThisYear 18 = .ok (.iaload, 1) := by decide +kernel
theorem dX10_drawnThisYear_19 : decode cX10_drawnThisYear 19 = .ok (.ireturn, 1) := by decide +kernel
theorem dX10_forecastCount_0 : decode cX10_forecastCount 0 = .ok (.aload_n 0, 1) := by decide +kernel
theorem dX10_forecastCount_1 : decode cX10_forecastCount 1 = .ok (.getfield 22, 3) := by decide +kernel
theorem dX10_forecastCount_4 : decode cX10_forecastCount 4 = .ok (.getfield 149, 3) := by decide +kernel
theorem dX10_forecastCount_7 : decode cX10_forecastCount 7 = .ok (.getfield 185, 3) := by decide +kernel
theorem dX10_forecastCount_10 : decode cX10_forecastCount 10 = .ok (.ireturn, 1) := by decide +kernel
theorem dX10_hasForecast_0 : decode cX10_hasForecast 0 = .ok (.aload_n 0, 1) := by decide +kernel
theorem dX10_hasForecast_1 : decode cX10_hasForecast 1 = .ok (.iload_n 1, 1) := by decide +kernel
theorem dX10_hasForecast_2 : decode cX10_hasForecast 2 = .ok (.invokevirtual 139, 3) := by decide +kernel
theorem dX10_hasForecast_5 : decode cX10_hasForecast 5 = .ok (.aload_n 0, 1) := by decide +kernel
theorem dX10_hasForecast_6 : decode cX10_hasForecast 6 = .ok (.getfield 22, 3) := by decide +kernel
theorem dX10_hasForecast_9 : decode cX10_hasForecast 9 = .ok (.getfield 149, 3) := by decide +kernel
theorem dX10_hasForecast_12 : decode cX10_hasForecast 12 = .ok (.iload_n 1, 1) := by decide +kernel
theorem dX10_hasForecast_13 : decode cX10_hasForecast 13 = .ok (.iload_n 2, 1) := by decide +kernel
theorem dX10_hasForecast_14 : decode cX10_hasForecast 14 = .ok (.invokevirtual 186, 3) := by decide +kernel
theorem dX10_hasForecast_17 : decode cX10_hasForecast 17 = .ok (.iconst (-1), 1) := by decide +kernel
theorem dX10_hasForecast_18 : decode cX10_hasForecast 18 = .ok (.if_icmp .eq 7, 3) := by decide +kernel
theorem dX10_hasForecast_21 : decode cX10_hasForecast 21 = .ok (.iconst 1, 1) := by decide +kernel
theorem dX10_hasForecast_22 : decode cX10_hasForecast 22 = .ok (.goto 4, 3) := by decide +kernel
theorem dX10_hasForecast_25 : decode cX10_hasForecast 25 = .ok (.iconst 0, 1) := by decide +kernel
theorem dX10_hasForecast_26 : decode cX10_hasForecast 26 = .ok (.ireturn, 1) := by decide +kernel
theorem dX10_weatherOf_0 : decode cX10_weatherOf 0 = .ok (.aload_n 0, 1) := by decide +kernel
theorem dX10_weatherOf_1 : decode cX10_weatherOf 1 = .ok (.getfield 22, 3) := by decide +kernel
theorem dX10_weatherOf_4 : decode cX10_weatherOf 4 = .ok (.getfield 149, 3) := by decide +kernel
theorem dX10_weatherOf_7 : decode cX10_weatherOf 7 = .ok (.getfield 189, 3) := by decide +kernel
theorem dX10_weatherOf_10 : decode cX10_weatherOf 10 = .ok (.aload_n 0, 1) := by decide +kernel
theorem dX10_weatherOf_11 : decode cX10_weatherOf 11 = .ok (.iload_n 1, 1) := by decide +kernel
theorem dX10_weatherOf_12 : decode cX10_weatherOf 12 = .ok (.iload_n 2, 1) := by decide +kernel
theorem dX10_weatherOf_13 : decode cX10_weatherOf 13 = .ok (.invokevirtual 192, 3) := by decide +kernel
theorem dX10_weatherOf_16 : decode cX10_weatherOf 16 = .ok (.iaload, 1) := by decide +kernel
theorem dX10_weatherOf_17 : decode cX10_weatherOf 17 = .ok (.ireturn, 1) := by decide +kernel
theorem dX10_soldOf_0 : decode cX10_soldOf 0 = .ok (.aload_n 0, 1) := by decide +kernel
theorem dX10_soldOf_1 : decode cX10_soldOf 1 = .ok (.getfield 22, 3) := by decide +kernel
theorem dX10_soldOf_4 : decode cX10_soldOf 4 = .ok (.getfield 149, 3) := by decide +kernel
theorem dX10_soldOf_7 : decode cX10_soldOf 7 = .ok (.getfield 195, 3) := by decide +kernel
theorem dX10_soldOf_10 : decode cX10_soldOf 10 = .ok (.aload_n 0, 1) := by decide +kernel
theorem dX10_soldOf_11 : decode cX10_soldOf 11 = .ok (.iload_n 1, 1) := by decide +kernel
theorem dX10_soldOf_12 : decode cX10_soldOf 12 = .ok (.iload_n 2, 1) := by decide +kernel
theorem dX10_soldOf_13 : decode cX10_soldOf 13 = .ok (.invokevirtual 192, 3) := by decide +kernel
theorem dX10_soldOf_16 : decode cX10_soldOf 16 = .ok (.iaload, 1) := by decide +kernel
theorem dX10_soldOf_17 : decode cX10_soldOf 17 = .ok (.ireturn, 1) := by decide +kernel
theorem dX10_paidOf_0 : decode cX10_paidOf 0 = .ok (.aload_n 0, 1) := by decide +kernel
theorem dX10_paidOf_1 : decode cX10_paidOf 1 = .ok (.getfield 22, 3) := by decide +kernel
theorem dX10_paidOf_4 : decode cX10_paidOf 4 = .ok (.getfield 149, 3) := by decide +kernel
theorem dX10_paidOf_7 : decode cX10_paidOf 7 = .ok (.getfield 198, 3) := by decide +kernel
theorem dX10_paidOf_10 : decode cX10_paidOf 10 = .ok (.aload_n 0, 1) := by decide +kernel
theorem dX10_paidOf_11 : decode cX10_paidOf 11 = .ok (.iload_n 1, 1) := by decide +kernel
theorem dX10_paidOf_12 : decode cX10_paidOf 12 = .ok (.iload_n 2, 1) := by decide +kernel
theorem dX10_paidOf_13 : decode cX10_paidOf 13 = .ok (.invokevirtual 192, 3) := by decide +kernel
theorem dX10_paidOf_16 : decode cX10_paidOf 16 = .ok (.iaload, 1) := by decide +kernel
theorem dX10_paidOf_17 : decode cX10_paidOf 17 = .ok (.ireturn, 1) := by decide +kernel
theorem dX10_pageOf_0 : decode cX10_pageOf 0 = .ok (.aload_n 0, 1) := by decide +kernel
theorem dX10_pageOf_1 : decode cX10_pageOf 1 = .ok (.iload_n 1, 1) := by decide +kernel
theorem dX10_pageOf_2 : decode cX10_pageOf 2 = .ok (.iload_n 2, 1) := by decide +kernel
theorem dX10_pageOf_3 : decode cX10_pageOf 3 = .ok (.invokevirtual 192, 3) := by decide +kernel
theorem dX10_pageOf_6 : decode cX10_pageOf 6 = .ok (.iconst 4, 1) := by decide +kernel
theorem dX10_pageOf_7 : decode cX10_pageOf 7 = .ok (.idiv, 1) := by decide +kernel
theorem dX10_pageOf_8 : decode cX10_pageOf 8 = .ok (.ireturn, 1) := by decide +kernel
theorem dX10_forecastAt_0 : decode cX10_forecastAt 0 = .ok (.iload_n 1, 1) := by decide +kernel
theorem dX10_forecastAt_1 : decode cX10_forecastAt 1 = .ok (.iconst 0, 1) := by decide +kernel
theorem dX10_forecastAt_2 : decode cX10_forecastAt 2 = .ok (.aload_n 0, 1) := by decide +kernel
theorem dX10_forecastAt_3 : decode cX10_forecastAt 3 = .ok (.getfield 22, 3) := by decide +kernel
theorem dX10_forecastAt_6 : decode cX10_forecastAt 6 = .ok (.getfield 149, 3) := by decide +kernel
theorem dX10_forecastAt_9 : decode cX10_forecastAt 9 = .ok (.getfield 185, 3) := by decide +kernel
theorem dX10_forecastAt_12 : decode cX10_forecastAt 12 = .ok (.iconst 1, 1) := by decide +kernel
theorem dX10_forecastAt_13 : decode cX10_forecastAt 13 = .ok (.isub, 1) := by decide +kernel
theorem dX10_forecastAt_14 : decode cX10_forecastAt 14 = .ok (.invokestatic 201, 3) := by decide +kernel
theorem dX10_forecastAt_17 : decode cX10_forecastAt 17 = .ok (.ifCond .ne 11, 3) := by decide +kernel
theorem dX10_forecastAt_20 : decode cX10_forecastAt 20 = .ok (.new 205, 3) := by decide +kernel
theorem dX10_forecastAt_23 : decode cX10_forecastAt 23 = .ok (.dup, 1) := by decide +kernel
theorem dX10_forecastAt_24 : decode cX10_forecastAt 24 = .ok (.invokespecial 207, 3) := by decide +kernel
theorem dX10_forecastAt_27 : decode cX10_forecastAt 27 = .ok (.athrow, 1) := by decide +kernel
theorem dX10_forecastAt_28 : decode cX10_forecastAt 28 = .ok (.aload_n 0, 1) := by decide +kernel
theorem dX10_forecastAt_29 : decode cX10_forecastAt 29 = .ok (.getfield 22, 3) := by decide +kernel
theorem dX10_forecastAt_32 : decode cX10_forecastAt 32 = .ok (.getfield 149, 3) := by decide +kernel
theorem dX10_forecastAt_35 : decode cX10_forecastAt 35 = .ok (.iload_n 1, 1) := by decide +kernel
theorem dX10_forecastAt_36 : decode cX10_forecastAt 36 = .ok (.invokevirtual 208, 3) := by decide +kernel
theorem dX10_forecastAt_39 : decode cX10_forecastAt 39 = .ok (.ireturn, 1) := by decide +kernel
theorem dX10_pageCount_0 : decode cX10_pageCount 0 = .ok (.aload_n 0, 1) := by decide +kernel
theorem dX10_pageCount_1 : decode cX10_pageCount 1 = .ok (.getfield 22, 3) := by decide +kernel
theorem dX10_pageCount_4 : decode cX10_pageCount 4 = .ok (.getfield 149, 3) := by decide +kernel
theorem dX10_pageCount_7 : decode cX10_pageCount 7 = .ok (.invokevirtual 211, 3) := by decide +kernel
theorem dX10_pageCount_10 : decode cX10_pageCount 10 = .ok (.ireturn, 1) := by decide +kernel
theorem dX10_refundOf_0 : decode cX10_refundOf 0 = .ok (.aload_n 0, 1) := by decide +kernel
theorem dX10_refundOf_1 : decode cX10_refundOf 1 = .ok (.iload_n 1, 1) := by decide +kernel
theorem dX10_refundOf_2 : decode cX10_refundOf 2 = .ok (.invokevirtual 214, 3) := by decide +kernel
theorem dX10_refundOf_5 : decode cX10_refundOf 5 = .ok (.aload_n 0, 1) := by decide +kernel
theorem dX10_refundOf_6 : decode cX10_refundOf 6 = .ok (.getfield 22, 3) := by decide +kernel
theorem dX10_refundOf_9 : decode cX10_refundOf 9 = .ok (.getfield 149, 3) := by decide +kernel
theorem dX10_refundOf_12 : decode cX10_refundOf 12 = .ok (.iload_n 1, 1) := by decide +kernel
theorem dX10_refundOf_13 : decode cX10_refundOf 13 = .ok (.invokevirtual 217, 3) := by decide +kernel
theorem dX10_refundOf_16 : decode cX10_refundOf 16 = .ok (.ireturn, 1) := by decide +kernel
theorem dX10_canRetract_0 : decode cX10_canRetract 0 = .ok (.aload_n 0, 1) := by decide +kernel
theorem dX10_canRetract_1 : decode cX10_canRetract 1 = .ok (.iload_n 1, 1) := by decide +kernel
theorem dX10_canRetract_2 : decode cX10_canRetract 2 = .ok (.invokevirtual 214, 3) := by decide +kernel
theorem dX10_canRetract_5 : decode cX10_canRetract 5 = .ok (.aload_n 0, 1) := by decide +kernel
theorem dX10_canRetract_6 : decode cX10_canRetract 6 = .ok (.getfield 22, 3) := by decide +kernel
theorem dX10_canRetract_9 : decode cX10_canRetract 9 = .ok (.iload_n 1, 1) := by decide +kernel
theorem dX10_canRetract_10 : decode cX10_canRetract 10 = .ok (.invokevirtual 220, 3) := by decide +kernel
theorem dX10_canRetract_13 : decode cX10_canRetract 13 = .ok (.ireturn, 1) := by decide +kernel
theorem dX10_printRefusal_0 : decode cX10_printRefusal 0 = .ok (.aload_n 0, 1) := by decide +kernel
theorem dX10_printRefusal_1 : decode cX10_printRefusal 1 = .ok (.iload_n 1, 1) := by decide +kernel
theorem dX10_printRefusal_2 : decode cX10_printRefusal 2 = .ok (.invokevirtual 139, 3) := by decide +kernel
theorem dX10_printRefusal_5 : decode cX10_printRefusal 5 = .ok (.aload_n 0, 1) := by decide +kernel
theorem dX10_printRefusal_6 : decode cX10_printRefusal 6 = .ok (.getfield 22, 3) := by decide +kernel
theorem dX10_printRefusal_9 : decode cX10_printRefusal 9 = .ok (.iload_n 1, 1) := by decide +kernel
theorem dX10_printRefusal_10 : decode cX10_printRefusal 10 = .ok (.iload_n 2, 1) := by decide +kernel
theorem dX10_printRefusal_11 : decode cX10_printRefusal 11 = .ok (.invokevirtual 223, 3) := by decide +kernel
theorem dX10_printRefusal_14 : decode cX10_printRefusal 14 = .ok (.ireturn, 1) := by decide +kernel
theorem dX10_likeliestWeather_0 : decode cX10_likeliestWeather 0 = .ok (.aload_n 0, 1) := by decide +kernel
theorem dX10_likeliestWeather_1 : decode cX10_likeliestWeather 1 = .ok (.getfield 22, 3) := by decide +kernel
theorem dX10_likeliestWeather_4 : decode cX10_likeliestWeather 4 = .ok (.getfield 111, 3) := by decide +kernel
theorem dX10_likeliestWeather_7 : decode cX10_likeliestWeather 7 = .ok (.getfield 175, 3) := by decide +kernel
theorem dX10_likeliestWeather_10 : decode cX10_likeliestWeather 10 = .ok (.invokestatic 226, 3) := by decide +kernel
theorem dX10_likeliestWeather_13 : decode cX10_likeliestWeather 13 = .ok (.ireturn, 1) := by decide +kernel
theorem dX10_tomorrowIn_0 : decode cX10_tomorrowIn 0 = .ok (.aload_n 0, 1) := by decide +kernel
theorem dX10_tomorrowIn_1 : decode cX10_tomorrowIn 1 = .ok (.iload_n 1, 1) := by decide +kernel
theorem dX10_tomorrowIn_2 : decode cX10_tomorrowIn 2 = .ok (.invokevirtual 139, 3) := by decide +kernel
theorem dX10_tomorrowIn_5 : decode cX10_tomorrowIn 5 = .ok (.aload_n 0, 1) := by decide +kernel
theorem dX10_tomorrowIn_6 : decode cX10_tomorrowIn 6 = .ok (.getfield 22, 3) := by decide +kernel
theorem dX10_tomorrowIn_9 : decode cX10_tomorrowIn 9 = .ok (.getfield 111, 3) := by decide +kernel
theorem dX10_tomorrowIn_12 : decode cX10_tomorrowIn 12 = .ok (.getfield 115, 3) := by decide +kernel
theorem dX10_tomorrowIn_15 : decode cX10_tomorrowIn 15 = .ok (.istore_n 2, 1) := by decide +kernel
theorem dX10_tomorrowIn_16 : decode cX10_tomorrowIn 16 = .ok (.iconst 0, 1) := by decide +kernel
theorem dX10_tomorrowIn_17 : decode cX10_tomorrowIn 17 = .ok (.istore_n 3, 1) := by decide +kernel
theorem dX10_tomorrowIn_18 : decode cX10_tomorrowIn 18 = .ok (.iload_n 3, 1) := by decide +kernel
theorem dX10_tomorrowIn_19 : decode cX10_tomorrowIn 19 = .ok (.iload_n 1, 1) := by decide +kernel
theorem dX10_tomorrowIn_20 : decode cX10_tomorrowIn 20 = .ok (.if_icmp .gt 14, 3) := by decide +kernel
theorem dX10_tomorrowIn_23 : decode cX10_tomorrowIn 23 = .ok (.iload_n 2, 1) := by decide +kernel
theorem dX10_tomorrowIn_24 : decode cX10_tomorrowIn 24 = .ok (.invokestatic 230, 3) := by decide +kernel
theorem dX10_tomorrowIn_27 : decode cX10_tomorrowIn 27 = .ok (.istore_n 2, 1) := by decide +kernel
theorem dX10_tomorrowIn_28 : decode cX10_tomorrowIn 28 = .ok (.iinc 3 1, 3) := by decide +kernel
theorem dX10_tomorrowIn_31 : decode cX10_tomorrowIn 31 = .ok (.goto (-13), 3) := by decide +kernel
theorem dX10_tomorrowIn_34 : decode cX10_tomorrowIn 34 = .ok (.aload_n 0, 1) := by decide +kernel
theorem dX10_tomorrowIn_35 : decode cX10_tomorrowIn 35 = .ok (.getfield 22, 3) := by decide +kernel
theorem dX10_tomorrowIn_38 : decode cX10_tomorrowIn 38 = .ok (.getfield 111, 3) := by decide +kernel
theorem dX10_tomorrowIn_41 : decode cX10_tomorrowIn 41 = .ok (.iload_n 2, 1) := by decide +kernel
theorem dX10_tomorrowIn_42 : decode cX10_tomorrowIn 42 = .ok (.invokevirtual 233, 3) := by decide +kernel
theorem dX10_tomorrowIn_45 : decode cX10_tomorrowIn 45 = .ok (.ireturn, 1) := by decide +kernel
theorem dX10_regretCount_0 : decode cX10_regretCount 0 = .ok (.aload_n 0, 1) := by decide +kernel
theorem dX10_regretCount_1 : decode cX10_regretCount 1 = .ok (.getfield 22, 3) := by decide +kernel
theorem dX10_regretCount_4 : decode cX10_regretCount 4 = .ok (.getfield 236, 3) := by decide +kernel
theorem dX10_regretCount_7 : decode cX10_regretCount 7 = .ok (.getfield 240, 3) := by decide +kernel
theorem dX10_regretCount_10 : decode cX10_regretCount 10 = .ok (.ireturn, 1) := by decide +kernel
theorem dX10_regretAt_0 : decode cX10_regretAt 0 = .ok (.iload_n 1, 1) := by decide +kernel
theorem dX10_regretAt_1 : decode cX10_regretAt 1 = .ok (.iconst 0, 1) := by decide +kernel
theorem dX10_regretAt_2 : decode cX10_regretAt 2 = .ok (.aload_n 0, 1) := by decide +kernel
theorem dX10_regretAt_3 : decode cX10_regretAt 3 = .ok (.getfield 22, 3) := by decide +kernel
theorem dX10_regretAt_6 : decode cX10_regretAt 6 = .ok (.getfield 236, 3) := by decide +kernel
theorem dX10_regretAt_9 : decode cX10_regretAt 9 = .ok (.getfield 240, 3) := by decide +kernel
theorem dX10_regretAt_12 : decode cX10_regretAt 12 = .ok (.iconst 1, 1) := by decide +kernel
theorem dX10_regretAt_13 : decode cX10_regretAt 13 = .ok (.isub, 1) := by decide +kernel
theorem dX10_regretAt_14 : decode cX10_regretAt 14 = .ok (.invokestatic 201, 3) := by decide +kernel
theorem dX10_regretAt_17 : decode cX10_regretAt 17 = .ok (.ifCond .ne 11, 3) := by decide +kernel
theorem dX10_regretAt_20 : decode cX10_regretAt 20 = .ok (.new 243, 3) := by decide +kernel
theorem dX10_regretAt_23 : decode cX10_regretAt 23 = .ok (.dup, 1) := by decide +kernel
theorem dX10_regretAt_24 : decode cX10_regretAt 24 = .ok (.invokespecial 245, 3) := by decide +kernel
theorem dX10_regretAt_27 : decode cX10_regretAt 27 = .ok (.athrow, 1) := by decide +kernel
theorem dX10_regretAt_28 : decode cX10_regretAt 28 = .ok (.aload_n 0, 1) := by decide +kernel
theorem dX10_regretAt_29 : decode cX10_regretAt 29 = .ok (.getfield 22, 3) := by decide +kernel
theorem dX10_regretAt_32 : decode cX10_regretAt 32 = .ok (.getfield 236, 3) := by decide +kernel
theorem dX10_regretAt_35 : decode cX10_regretAt 35 = .ok (.getfield 246, 3) := by decide +kernel
theorem dX10_regretAt_38 : decode cX10_regretAt 38 = .ok (.iload_n 1, 1) := by decide +kernel
theorem dX10_regretAt_39 : decode cX10_regretAt 39 = .ok (.iaload, 1) := by decide +kernel
theorem dX10_regretAt_40 : decode cX10_regretAt 40 = .ok (.ireturn, 1) := by decide +kernel
theorem dX10_hits_0 : decode cX10_hits 0 = .ok (.aload_n 0, 1) := by decide +kernel
theorem dX10_hits_1 : decode cX10_hits 1 = .ok (.getfield 22, 3) := by decide +kernel
theorem dX10_hits_4 : decode cX10_hits 4 = .ok (.getfield 249, 3) := by decide +kernel
theorem dX10_hits_7 : decode cX10_hits 7 = .ok (.ireturn, 1) := by decide +kernel
theorem dX10_regrets_0 : decode cX10_regrets 0 = .ok (.aload_n 0, 1) := by decide +kernel
theorem dX10_regrets_1 : decode cX10_regrets 1 = .ok (.getfield 22, 3) := by decide +kernel
theorem dX10_regrets_4 : decode cX10_regrets 4 = .ok (.getfield 252, 3) := by decide +kernel
theorem dX10_regrets_7 : decode cX10_regrets 7 = .ok (.ireturn, 1) := by decide +kernel
theorem dX10_retractions_0 : decode cX10_retractions 0 = .ok (.aload_n 0, 1) := by decide +kernel
theorem dX10_retractions_1 : decode cX10_retractions 1 = .ok (.getfield 22, 3) := by decide +kernel
theorem dX10_retractions_4 : decode cX10_retractions 4 = .ok (.getfield 255, 3) := by decide +kernel
theorem dX10_retractions_7 : decode cX10_retractions 7 = .ok (.ireturn, 1) := by decide +kernel
theorem dX10_coinsAfter_0 : decode cX10_coinsAfter 0 = .ok (.aload_n 0, 1) := by decide +kernel
theorem dX10_coinsAfter_1 : decode cX10_coinsAfter 1 = .ok (.iload_n 1, 1) := by decide +kernel
theorem dX10_coinsAfter_2 : decode cX10_coinsAfter 2 = .ok (.iconst 0, 1) := by decide +kernel
theorem dX10_coinsAfter_3 : decode cX10_coinsAfter 3 = .ok (.sipush 200, 3) := by decide +kernel
theorem dX10_coinsAfter_6 : decode cX10_coinsAfter 6 = .ok (.invokevirtual 84, 3) := by decide +kernel
theorem dX10_coinsAfter_9 : decode cX10_coinsAfter 9 = .ok (.aload_n 0, 1) := by decide +kernel
theorem dX10_coinsAfter_10 : decode cX10_coinsAfter 10 = .ok (.iload_n 1, 1) := by decide +kernel
theorem dX10_coinsAfter_11 : decode cX10_coinsAfter 11 = .ok (.invokevirtual 258, 3) := by decide +kernel
theorem dX10_coinsAfter_14 : decode cX10_coinsAfter 14 = .ok (.aload_n 0, 1) := by decide +kernel
theorem dX10_coinsAfter_15 : decode cX10_coinsAfter 15 = .ok (.getfield 26, 3) := by decide +kernel
theorem dX10_coinsAfter_18 : decode cX10_coinsAfter 18 = .ok (.getfield 120, 3) := by decide +kernel
theorem dX10_coinsAfter_21 : decode cX10_coinsAfter 21 = .ok (.ireturn, 1) := by decide +kernel
theorem dX10_trustAfter_0 : decode cX10_trustAfter 0 = .ok (.aload_n 0, 1) := by decide +kernel
theorem dX10_trustAfter_1 : decode cX10_trustAfter 1 = .ok (.iload_n 1, 1) := by decide +kernel
theorem dX10_trustAfter_2 : decode cX10_trustAfter 2 = .ok (.invokevirtual 139, 3) := by decide +kernel
theorem dX10_trustAfter_5 : decode cX10_trustAfter 5 = .ok (.aload_n 0, 1) := by decide +kernel
theorem dX10_trustAfter_6 : decode cX10_trustAfter 6 = .ok (.iload_n 2, 1) := by decide +kernel
theorem dX10_trustAfter_7 : decode cX10_trustAfter 7 = .ok (.iconst 0, 1) := by decide +kernel
theorem dX10_trustAfter_8 : decode cX10_trustAfter 8 = .ok (.sipush 200, 3) := by decide +kernel
theorem dX10_trustAfter_11 : decode cX10_trustAfter 11 = .ok (.invokevirtual 84, 3) := by decide +kernel
theorem dX10_trustAfter_14 : decode cX10_trustAfter 14 = .ok (.aload_n 0, 1) := by decide +kernel
theorem dX10_trustAfter_15 : decode cX10_trustAfter 15 = .ok (.iload_n 2, 1) := by decide +kernel
theorem dX10_trustAfter_16 : decode cX10_trustAfter 16 = .ok (.invokevirtual 258, 3) := by decide +kernel
theorem dX10_trustAfter_19 : decode cX10_trustAfter 19 = .ok (.aload_n 0, 1) := by decide +kernel
theorem dX10_trustAfter_20 : decode cX10_trustAfter 20 = .ok (.getfield 26, 3) := by decide +kernel
theorem dX10_trustAfter_23 : decode cX10_trustAfter 23 = .ok (.getfield 99, 3) := by decide +kernel
theorem dX10_trustAfter_26 : decode cX10_trustAfter 26 = .ok (.getfield 146, 3) := by decide +kernel
theorem dX10_trustAfter_29 : decode cX10_trustAfter 29 = .ok (.iload_n 1, 1) := by decide +kernel
theorem dX10_trustAfter_30 : decode cX10_trustAfter 30 = .ok (.iaload, 1) := by decide +kernel
theorem dX10_trustAfter_31 : decode cX10_trustAfter 31 = .ok (.ireturn, 1) := by decide +kernel
theorem dX10_daysUntilEmpty_0 : decode cX10_daysUntilEmpty 0 = .ok (.aload_n 0, 1) := by decide +kernel
theorem dX10_daysUntilEmpty_1 : decode cX10_daysUntilEmpty 1 = .ok (.getfield 22, 3) := by decide +kernel
theorem dX10_daysUntilEmpty_4 : decode cX10_daysUntilEmpty 4 = .ok (.getfield 149, 3) := by decide +kernel
theorem dX10_daysUntilEmpty_7 : decode cX10_daysUntilEmpty 7 = .ok (.getfield 185, 3) := by decide +kernel
theorem dX10_daysUntilEmpty_10 : decode cX10_daysUntilEmpty 10 = .ok (.ifCond .ne 7, 3) := by decide +kernel
theorem dX10_daysUntilEmpty_13 : decode cX10_daysUntilEmpty 13 = .ok (.iconst 0, 1) := by decide +kernel
theorem dX10_daysUntilEmpty_14 : decode cX10_daysUntilEmpty 14 = .ok (.goto 21, 3) := by decide +kernel
theorem dX10_daysUntilEmpty_17 : decode cX10_daysUntilEmpty 17 = .ok (.aload_n 0, 1) := by decide +kernel
theorem dX10_daysUntilEmpty_18 : decode cX10_daysUntilEmpty 18 = .ok (.getfield 22, 3) := by decide +kernel
theorem dX10_daysUntilEmpty_21 : decode cX10_daysUntilEmpty 21 = .ok (.getfield 149, 3) := by decide +kernel
theorem dX10_daysUntilEmpty_24 : decode cX10_daysUntilEmpty 24 = .ok (.invokevirtual 261, 3) := by decide +kernel
theorem dX10_daysUntilEmpty_27 : decode cX10_daysUntilEmpty 27 = .ok (.aload_n 0, 1) := by decide +kernel
theorem dX10_daysUntilEmpty_28 : decode cX10_daysUntilEmpty 28 = .ok (.getfield 22, 3) := by decide +kernel
theorem dX10_daysUntilEmpty_31 : decode cX10_daysUntilEmpty 31 = .ok (.getfield 108, 3) := by decide +kernel
theorem dX10_daysUntilEmpty_34 : decode cX10_daysUntilEmpty 34 = .ok (.isub, 1) := by decide +kernel
theorem dX10_daysUntilEmpty_35 : decode cX10_daysUntilEmpty 35 = .ok (.ireturn, 1) := by decide +kernel
theorem dX10_bestSeller_0 : decode cX10_bestSeller 0 = .ok (.aload_n 0, 1) := by decide +kernel
theorem dX10_bestSeller_1 : decode cX10_bestSeller 1 = .ok (.getfield 22, 3) := by decide +kernel
theorem dX10_bestSeller_4 : decode cX10_bestSeller 4 = .ok (.getfield 149, 3) := by decide +kernel
theorem dX10_bestSeller_7 : decode cX10_bestSeller 7 = .ok (.invokevirtual 264, 3) := by decide +kernel
theorem dX10_bestSeller_10 : decode cX10_bestSeller 10 = .ok (.istore_n 1, 1) := by decide +kernel
theorem dX10_bestSeller_11 : decode cX10_bestSeller 11 = .ok (.iload_n 1, 1) := by decide +kernel
theorem dX10_bestSeller_12 : decode cX10_bestSeller 12 = .ok (.iconst (-1), 1) := by decide +kernel
theorem dX10_bestSeller_13 : decode cX10_bestSeller 13 = .ok (.if_icmp .ne 7, 3) := by decide +kernel
theorem dX10_bestSeller_16 : decode cX10_bestSeller 16 = .ok (.iconst (-1), 1) := by decide +kernel
theorem dX10_bestSeller_17 : decode cX10_bestSeller 17 = .ok (.goto 14, 3) := by decide +kernel
theorem dX10_bestSeller_20 : decode cX10_bestSeller 20 = .ok (.aload_n 0, 1) := by decide +kernel
theorem dX10_bestSeller_21 : decode cX10_bestSeller 21 = .ok (.getfield 22, 3) := by decide +kernel
theorem dX10_bestSeller_24 : decode cX10_bestSeller 24 = .ok (.getfield 149, 3) := by decide +kernel
theorem dX10_bestSeller_27 : decode cX10_bestSeller 27 = .ok (.iload_n 1, 1) := by decide +kernel
theorem dX10_bestSeller_28 : decode cX10_bestSeller 28 = .ok (.invokevirtual 208, 3) := by decide +kernel
theorem dX10_bestSeller_31 : decode cX10_bestSeller 31 = .ok (.ireturn, 1) := by decide +kernel
theorem dX10_copyDifference_0 : decode cX10_copyDifference 0 = .ok (.aload_n 0, 1) := by decide +kernel
theorem dX10_copyDifference_1 : decode cX10_copyDifference 1 = .ok (.getfield 22, 3) := by decide +kernel
theorem dX10_copyDifference_4 : decode cX10_copyDifference 4 = .ok (.getfield 267, 3) := by decide +kernel
theorem dX10_copyDifference_7 : decode cX10_copyDifference 7 = .ok (.aload_n 0, 1) := by decide +kernel
theorem dX10_copyDifference_8 : decode cX10_copyDifference 8 = .ok (.getfield 22, 3) := by decide +kernel
theorem dX10_copyDifference_11 : decode cX10_copyDifference 11 = .ok (.getfield 149, 3) := by decide +kernel
theorem dX10_copyDifference_14 : decode cX10_copyDifference 14 = .ok (.invokevirtual 270, 3) := by decide +kernel
theorem dX10_copyDifference_17 : decode cX10_copyDifference 17 = .ok (.isub, 1) := by decide +kernel
theorem dX10_copyDifference_18 : decode cX10_copyDifference 18 = .ok (.aload_n 0, 1) := by decide +kernel
theorem dX10_copyDifference_19 : decode cX10_copyDifference 19 = .ok (.getfield 22, 3) := by decide +kernel
theorem dX10_copyDifference_22 : decode cX10_copyDifference 22 = .ok (.getfield 273, 3) := by decide +kernel
theorem dX10_copyDifference_25 : decode cX10_copyDifference 25 = .ok (.isub, 1) := by decide +kernel
theorem dX10_copyDifference_26 : decode cX10_copyDifference 26 = .ok (.ireturn, 1) := by decide +kernel
theorem dX10_coinDifference_0 : decode cX10_coinDifference 0 = .ok (.aload_n 0, 1) := by decide +kernel
theorem dX10_coinDifference_1 : decode cX10_coinDifference 1 = .ok (.getfield 22, 3) := by decide +kernel
theorem dX10_coinDifference_4 : decode cX10_coinDifference 4 = .ok (.getfield 276, 3) := by decide +kernel
theorem dX10_coinDifference_7 : decode cX10_coinDifference 7 = .ok (.aload_n 0, 1) := by decide +kernel
theorem dX10_coinDifference_8 : decode cX10_coinDifference 8 = .ok (.getfield 22, 3) := by decide +kernel
theorem dX10_coinDifference_11 : decode cX10_coinDifference 11 = .ok (.getfield 279, 3) := by decide +kernel
theorem dX10_coinDifference_14 : decode cX10_coinDifference 14 = .ok (.isub, 1) := by decide +kernel
theorem dX10_coinDifference_15 : decode cX10_coinDifference 15 = .ok (.aload_n 0, 1) := by decide +kernel
theorem dX10_coinDifference_16 : decode cX10_coinDifference 16 = .ok (.getfield 22, 3) := by decide +kernel
theorem dX10_coinDifference_19 : decode cX10_coinDifference 19 = .ok (.getfield 120, 3) := by decide +kernel
theorem dX10_coinDifference_22 : decode cX10_coinDifference 22 = .ok (.isub, 1) := by decide +kernel
theorem dX10_coinDifference_23 : decode cX10_coinDifference 23 = .ok (.ireturn, 1) := by decide +kernel
theorem dX10_bookErrors_0 : decode cX10_bookErrors 0 = .ok (.aload_n 0, 1) := by decide +kernel
theorem dX10_bookErrors_1 : decode cX10_bookErrors 1 = .ok (.getfield 22, 3) := by decide +kernel
theorem dX10_bookErrors_4 : decode cX10_bookErrors 4 = .ok (.getfield 149, 3) := by decide +kernel
theorem dX10_bookErrors_7 : decode cX10_bookErrors 7 = .ok (.invokevirtual 282, 3) := by decide +kernel
theorem dX10_bookErrors_10 : decode cX10_bookErrors 10 = .ok (.ireturn, 1) := by decide +kernel
theorem dX10_hitShare_0 : decode cX10_hitShare 0 = .ok (.aload_n 0, 1) := by decide +kernel
theorem dX10_hitShare_1 : decode cX10_hitShare 1 = .ok (.getfield 22, 3) := by decide +kernel
theorem dX10_hitShare_4 : decode cX10_hitShare 4 = .ok (.getfield 249, 3) := by decide +kernel
theorem dX10_hitShare_7 : decode cX10_hitShare 7 = .ok (.aload_n 0, 1) := by decide +kernel
theorem dX10_hitShare_8 : decode cX10_hitShare 8 = .ok (.getfield 22, 3) := by decide +kernel
theorem dX10_hitShare_11 : decode cX10_hitShare 11 = .ok (.getfield 252, 3) := by decide +kernel
theorem dX10_hitShare_14 : decode cX10_hitShare 14 = .ok (.iadd, 1) := by decide +kernel
theorem dX10_hitShare_15 : decode cX10_hitShare 15 = .ok (.istore_n 1, 1) := by decide +kernel
theorem dX10_hitShare_16 : decode cX10_hitShare 16 = .ok (.iload_n 1, 1) := by decide +kernel
theorem dX10_hitShare_17 : decode cX10_hitShare 17 = .ok (.ifCond .ne 7, 3) := by decide +kernel
theorem dX10_hitShare_20 : decode cX10_hitShare 20 = .ok (.fconst 0, 1) := by decide +kernel
theorem dX10_hitShare_21 : decode cX10_hitShare 21 = .ok (.goto 14, 3) := by decide +kernel
theorem dX10_hitShare_24 : decode cX10_hitShare 24 = .ok (.aload_n 0, 1) := by decide +kernel
theorem dX10_hitShare_25 : decode cX10_hitShare 25 = .ok (.getfield 22, 3) := by decide +kernel
theorem dX10_hitShare_28 : decode cX10_hitShare 28 = .ok (.getfield 249, 3) := by decide +kernel
theorem dX10_hitShare_31 : decode cX10_hitShare 31 = .ok (.i2f, 1) := by decide +kernel
theorem dX10_hitShare_32 : decode cX10_hitShare 32 = .ok (.iload_n 1, 1) := by decide +kernel
theorem dX10_hitShare_33 : decode cX10_hitShare 33 = .ok (.i2f, 1) := by decide +kernel
theorem dX10_hitShare_34 : decode cX10_hitShare 34 = .ok (.fdiv, 1) := by decide +kernel
theorem dX10_hitShare_35 : decode cX10_hitShare 35 = .ok (.freturn, 1) := by decide +kernel
theorem dX10_averageTrust_0 : decode cX10_averageTrust 0 = .ok (.aload_n 0, 1) := by decide +kernel
theorem dX10_averageTrust_1 : decode cX10_averageTrust 1 = .ok (.getfield 22, 3) := by decide +kernel
theorem dX10_averageTrust_4 : decode cX10_averageTrust 4 = .ok (.getfield 99, 3) := by decide +kernel
theorem dX10_averageTrust_7 : decode cX10_averageTrust 7 = .ok (.getfield 103, 3) := by decide +kernel
theorem dX10_averageTrust_10 : decode cX10_averageTrust 10 = .ok (.istore_n 1, 1) := by decide +kernel
theorem dX10_averageTrust_11 : decode cX10_averageTrust 11 = .ok (.iload_n 1, 1) := by decide +kernel
theorem dX10_averageTrust_12 : decode cX10_averageTrust 12 = .ok (.ifCond .ne 7, 3) := by decide +kernel
theorem dX10_averageTrust_15 : decode cX10_averageTrust 15 = .ok (.dconst 0, 1) := by decide +kernel
theorem dX10_averageTrust_16 : decode cX10_averageTrust 16 = .ok (.goto 17, 3) := by decide +kernel
theorem dX10_averageTrust_19 : decode cX10_averageTrust 19 = .ok (.aload_n 0, 1) := by decide +kernel
theorem dX10_averageTrust_20 : decode cX10_averageTrust 20 = .ok (.getfield 22, 3) := by decide +kernel
theorem dX10_averageTrust_23 : decode cX10_averageTrust 23 = .ok (.getfield 99, 3) := by decide +kernel
theorem dX10_averageTrust_26 : decode cX10_averageTrust 26 = .ok (.invokevirtual 285, 3) := by decide +kernel
theorem dX10_averageTrust_29 : decode cX10_averageTrust 29 = .ok (.i2d, 1) := by decide +kernel
theorem dX10_averageTrust_30 : decode cX10_averageTrust 30 = .ok (.iload_n 1, 1) := by decide +kernel
theorem dX10_averageTrust_31 : decode cX10_averageTrust 31 = .ok (.i2d, 1) := by decide +kernel
theorem dX10_averageTrust_32 : decode cX10_averageTrust 32 = .ok (.ddiv, 1) := by decide +kernel
theorem dX10_averageTrust_33 : decode cX10_averageTrust 33 = .ok (.dreturn, 1) := by decide +kernel
theorem dX10_print_0 : decode cX10_print 0 = .ok (.aload_n 0, 1) := by decide +kernel
theorem dX10_print_1 : decode cX10_print 1 = .ok (.iload_n 1, 1) := by decide +kernel
theorem dX10_print_2 : decode cX10_print 2 = .ok (.invokevirtual 139, 3) := by decide +kernel
theorem dX10_print_5 : decode cX10_print 5 = .ok (.aload_n 0, 1) := by decide +kernel
theorem dX10_print_6 : decode cX10_print 6 = .ok (.iload_n 3, 1) := by decide +kernel
theorem dX10_print_7 : decode cX10_print 7 = .ok (.iconst 0, 1) := by decide +kernel
theorem dX10_print_8 : decode cX10_print 8 = .ok (.iconst 2, 1) := by decide +kernel
theorem dX10_print_9 : decode cX10_print 9 = .ok (.invokevirtual 84, 3) := by decide +kernel
theorem dX10_print_12 : decode cX10_print 12 = .ok (.aload_n 0, 1) := by decide +kernel
theorem dX10_print_13 : decode cX10_print 13 = .ok (.getfield 22, 3) := by decide +kernel
theorem dX10_print_16 : decode cX10_print 16 = .ok (.iload_n 1, 1) := by decide +kernel
theorem dX10_print_17 : decode cX10_print 17 = .ok (.iload_n 2, 1) := by decide +kernel
theorem dX10_print_18 : decode cX10_print 18 = .ok (.invokevirtual 223, 3) := by decide +kernel
theorem dX10_print_21 : decode cX10_print 21 = .ok (.ifCond .eq 11, 3) := by decide +kernel
theorem dX10_print_24 : decode cX10_print 24 = .ok (.new 74, 3) := by decide +kernel
theorem dX10_print_27 : decode cX10_print 27 = .ok (.dup, 1) := by decide +kernel
theorem dX10_print_28 : decode cX10_print 28 = .ok (.invokespecial 76, 3) := by decide +kernel
theorem dX10_print_31 : decode cX10_print 31 = .ok (.athrow, 1) := by decide +kernel
theorem dX10_print_32 : decode cX10_print 32 = .ok (.aload_n 0, 1) := by decide +kernel
theorem dX10_print_33 : decode cX10_print 33 = .ok (.getfield 32, 3) := by decide +kernel
theorem dX10_print_36 : decode cX10_print 36 = .ok (.aload_n 0, 1) := by decide +kernel
theorem dX10_print_37 : decode cX10_print 37 = .ok (.getfield 22, 3) := by decide +kernel
theorem dX10_print_40 : decode cX10_print 40 = .ok (.invokevirtual 96, 3) := by decide +kernel
theorem dX10_print_43 : decode cX10_print 43 = .ok (.aload_n 0, 1) := by decide +kernel
theorem dX10_print_44 : decode cX10_print 44 = .ok (.getfield 22, 3) := by decide +kernel
theorem dX10_print_47 : decode cX10_print 47 = .ok (.getfield 149, 3) := by decide +kernel
theorem dX10_print_50 : decode cX10_print 50 = .ok (.iload_n 1, 1) := by decide +kernel
theorem dX10_print_51 : decode cX10_print 51 = .ok (.iload_n 2, 1) := by decide +kernel
theorem dX10_print_52 : decode cX10_print 52 = .ok (.iload_n 3, 1) := by decide +kernel
theorem dX10_print_53 : decode cX10_print 53 = .ok (.invokevirtual 288, 3) := by decide +kernel
theorem dX10_print_56 : decode cX10_print 56 = .ok (.aload_n 0, 1) := by decide +kernel
theorem dX10_print_57 : decode cX10_print 57 = .ok (.getfield 22, 3) := by decide +kernel
theorem dX10_print_60 : decode cX10_print 60 = .ok (.getfield 149, 3) := by decide +kernel
theorem dX10_print_63 : decode cX10_print 63 = .ok (.getfield 185, 3) := by decide +kernel
theorem dX10_print_66 : decode cX10_print 66 = .ok (.iconst 1, 1) := by decide +kernel
theorem dX10_print_67 : decode cX10_print 67 = .ok (.isub, 1) := by decide +kernel
theorem dX10_print_68 : decode cX10_print 68 = .ok (.iconst 4, 1) := by decide +kernel
theorem dX10_print_69 : decode cX10_print 69 = .ok (.idiv, 1) := by decide +kernel
theorem dX10_print_70 : decode cX10_print 70 = .ok (.ireturn, 1) := by decide +kernel
theorem dX10_retract_0 : decode cX10_retract 0 = .ok (.aload_n 0, 1) := by decide +kernel
theorem dX10_retract_1 : decode cX10_retract 1 = .ok (.iload_n 1, 1) := by decide +kernel
theorem dX10_retract_2 : decode cX10_retract 2 = .ok (.invokevirtual 214, 3) := by decide +kernel
theorem dX10_retract_5 : decode cX10_retract 5 = .ok (.aload_n 0, 1) := by decide +kernel
theorem dX10_retract_6 : decode cX10_retract 6 = .ok (.getfield 22, 3) := by decide +kernel
theorem dX10_retract_9 : decode cX10_retract 9 = .ok (.iload_n 1, 1) := by decide +kernel
theorem dX10_retract_10 : decode cX10_retract 10 = .ok (.invokevirtual 220, 3) := by decide +kernel
theorem dX10_retract_13 : decode cX10_retract 13 = .ok (.ifCond .ne 11, 3) := by decide +kernel
theorem dX10_retract_16 : decode cX10_retract 16 = .ok (.new 74, 3) := by decide +kernel
theorem dX10_retract_19 : decode cX10_retract 19 = .ok (.dup, 1) := by decide +kernel
theorem dX10_retract_20 : decode cX10_retract 20 = .ok (.invokespecial 76, 3) := by decide +kernel
theorem dX10_retract_23 : decode cX10_retract 23 = .ok (.athrow, 1) := by decide +kernel
theorem dX10_retract_24 : decode cX10_retract 24 = .ok (.aload_n 0, 1) := by decide +kernel
theorem dX10_retract_25 : decode cX10_retract 25 = .ok (.getfield 32, 3) := by decide +kernel
theorem dX10_retract_28 : decode cX10_retract 28 = .ok (.aload_n 0, 1) := by decide +kernel
theorem dX10_retract_29 : decode cX10_retract 29 = .ok (.getfield 22, 3) := by decide +kernel
theorem dX10_retract_32 : decode cX10_retract 32 = .ok (.invokevirtual 96, 3) := by decide +kernel
theorem dX10_retract_35 : decode cX10_retract 35 = .ok (.aload_n 0, 1) := by decide +kernel
theorem dX10_retract_36 : decode cX10_retract 36 = .ok (.getfield 22, 3) := by decide +kernel
theorem dX10_retract_39 : decode cX10_retract 39 = .ok (.iload_n 1, 1) := by decide +kernel
theorem dX10_retract_40 : decode cX10_retract 40 = .ok (.invokevirtual 291, 3) := by decide +kernel
theorem dX10_retract_43 : decode cX10_retract 43 = .ok (.ireturn, 1) := by decide +kernel
theorem dX10_setTrust_0 : decode cX10_setTrust 0 = .ok (.aload_n 0, 1) := by decide +kernel
theorem dX10_setTrust_1 : decode cX10_setTrust 1 = .ok (.iload_n 1, 1) := by decide +kernel
theorem dX10_setTrust_2 : decode cX10_setTrust 2 = .ok (.invokevirtual 139, 3) := by decide +kernel
theorem dX10_setTrust_5 : decode cX10_setTrust 5 = .ok (.aload_n 0, 1) := by decide +kernel
theorem dX10_setTrust_6 : decode cX10_setTrust 6 = .ok (.iload_n 2, 1) := by decide +kernel
theorem dX10_setTrust_7 : decode cX10_setTrust 7 = .ok (.iconst 0, 1) := by decide +kernel
theorem dX10_setTrust_8 : decode cX10_setTrust 8 = .ok (.bipush 100, 2) := by decide +kernel
theorem dX10_setTrust_10 : decode cX10_setTrust 10 = .ok (.invokevirtual 84, 3) := by decide +kernel
theorem dX10_setTrust_13 : decode cX10_setTrust 13 = .ok (.aload_n 0, 1) := by decide +kernel
theorem dX10_setTrust_14 : decode cX10_setTrust 14 = .ok (.getfield 32, 3) := by decide +kernel
theorem dX10_setTrust_17 : decode cX10_setTrust 17 = .ok (.aload_n 0, 1) := by decide +kernel
theorem dX10_setTrust_18 : decode cX10_setTrust 18 = .ok (.getfield 22, 3) := by decide +kernel
theorem dX10_setTrust_21 : decode cX10_setTrust 21 = .ok (.invokevirtual 96, 3) := by decide +kernel
theorem dX10_setTrust_24 : decode cX10_setTrust 24 = .ok (.aload_n 0, 1) := by decide +kernel
theorem dX10_setTrust_25 : decode cX10_setTrust 25 = .ok (.getfield 22, 3) := by decide +kernel
theorem dX10_setTrust_28 : decode cX10_setTrust 28 = .ok (.getfield 99, 3) := by decide +kernel
theorem dX10_setTrust_31 : decode cX10_setTrust 31 = .ok (.getfield 146, 3) := by decide +kernel
theorem dX10_setTrust_34 : decode cX10_setTrust 34 = .ok (.iload_n 1, 1) := by decide +kernel
theorem dX10_setTrust_35 : decode cX10_setTrust 35 = .ok (.iaload, 1) := by decide +kernel
theorem dX10_setTrust_36 : decode cX10_setTrust 36 = .ok (.istore_n 3, 1) := by decide +kernel
theorem dX10_setTrust_37 : decode cX10_setTrust 37 = .ok (.aload_n 0, 1) := by decide +kernel
theorem dX10_setTrust_38 : decode cX10_setTrust 38 = .ok (.getfield 22, 3) := by decide +kernel
theorem dX10_setTrust_41 : decode cX10_setTrust 41 = .ok (.getfield 99, 3) := by decide +kernel
theorem dX10_setTrust_44 : decode cX10_setTrust 44 = .ok (.getfield 146, 3) := by decide +kernel
theorem dX10_setTrust_47 : decode cX10_setTrust 47 = .ok (.iload_n 1, 1) := by decide +kernel
theorem dX10_setTrust_48 : decode cX10_setTrust 48 = .ok (.iload_n 2, 1) := by decide +kernel
theorem dX10_setTrust_49 : decode cX10_setTrust 49 = .ok (.iastore, 1) := by decide +kernel
theorem dX10_setTrust_50 : decode cX10_setTrust 50 = .ok (.iload_n 3, 1) := by decide +kernel
theorem dX10_setTrust_51 : decode cX10_setTrust 51 = .ok (.ireturn, 1) := by decide +kernel
theorem dX10_setPeople_0 : decode cX10_setPeople 0 = .ok (.aload_n 0, 1) := by decide +kernel
theorem dX10_setPeople_1 : decode cX10_setPeople 1 = .ok (.iload_n 1, 1) := by decide +kernel
theorem dX10_setPeople_2 : decode cX10_setPeople 2 = .ok (.invokevirtual 139, 3) := by decide +kernel
theorem dX10_setPeople_5 : decode cX10_setPeople 5 = .ok (.aload_n 0, 1) := by decide +kernel
theorem dX10_setPeople_6 : decode cX10_setPeople 6 = .ok (.iload_n 2, 1) := by decide +kernel
theorem dX10_setPeople_7 : decode cX10_setPeople 7 = .ok (.iconst 1, 1) := by decide +kernel
theorem dX10_setPeople_8 : decode cX10_setPeople 8 = .ok (.bipush 99, 2) := by decide +kernel
theorem dX10_setPeople_10 : decode cX10_setPeople 10 = .ok (.invokevirtual 84, 3) := by decide +kernel
theorem dX10_setPeople_13 : decode cX10_setPeople 13 = .ok (.aload_n 0, 1) := by decide +kernel
theorem dX10_setPeople_14 : decode cX10_setPeople 14 = .ok (.getfield 32, 3) := by decide +kernel
theorem dX10_setPeople_17 : decode cX10_setPeople 17 = .ok (.aload_n 0, 1) := by decide +kernel
theorem dX10_setPeople_18 : decode cX10_setPeople 18 = .ok (.getfield 22, 3) := by decide +kernel
theorem dX10_setPeople_21 : decode cX10_setPeople 21 = .ok (.invokevirtual 96, 3) := by decide +kernel
theorem dX10_setPeople_24 : decode cX10_setPeople 24 = .ok (.aload_n 0, 1) := by decide +kernel
theorem dX10_setPeople_25 : decode cX10_setPeople 25 = .ok (.getfield 22, 3) := by decide +kernel
theorem dX10_setPeople_28 : decode cX10_setPeople 28 = .ok (.getfield 99, 3) := by decide +kernel
theorem dX10_setPeople_31 : decode cX10_setPeople 31 = .ok (.getfield 142, 3) := by decide +kernel
theorem dX10_setPeople_34 : decode cX10_setPeople 34 = .ok (.iload_n 1, 1) := by decide +kernel
theorem dX10_setPeople_35 : decode cX10_setPeople 35 = .ok (.iaload, 1) := by decide +kernel
theorem dX10_setPeople_36 : decode cX10_setPeople 36 = .ok (.istore_n 3, 1) := by decide +kernel
theorem dX10_setPeople_37 : decode cX10_setPeople 37 = .ok (.aload_n 0, 1) := by decide +kernel
theorem dX10_setPeople_38 : decode cX10_setPeople 38 = .ok (.getfield 22, 3) := by decide +kernel
theorem dX10_setPeople_41 : decode cX10_setPeople 41 = .ok (.getfield 99, 3) := by decide +kernel
theorem dX10_setPeople_44 : decode cX10_setPeople 44 = .ok (.getfield 142, 3) := by decide +kernel
theorem dX10_setPeople_47 : decode cX10_setPeople 47 = .ok (.iload_n 1, 1) := by decide +kernel
theorem dX10_setPeople_48 : decode cX10_setPeople 48 = .ok (.iload_n 2, 1) := by decide +kernel
theorem dX10_setPeople_49 : decode cX10_setPeople 49 = .ok (.iastore, 1) := by decide +kernel
theorem dX10_setPeople_50 : decode cX10_setPeople 50 = .ok (.iload_n 3, 1) := by decide +kernel
theorem dX10_setPeople_51 : decode cX10_setPeople 51 = .ok (.ireturn, 1) := by decide +kernel
theorem dX10_setOdds_0 : decode cX10_setOdds 0 = .ok (.aload_n 0, 1) := by decide +kernel
theorem dX10_setOdds_1 : decode cX10_setOdds 1 = .ok (.iload_n 1, 1) := by decide +kernel
theorem dX10_setOdds_2 : decode cX10_setOdds 2 = .ok (.iconst 0, 1) := by decide +kernel
theorem dX10_setOdds_3 : decode cX10_setOdds 3 = .ok (.iconst 2, 1) := by decide +kernel
theorem dX10_setOdds_4 : decode cX10_setOdds 4 = .ok (.invokevirtual 84, 3) := by decide +kernel
theorem dX10_setOdds_7 : decode cX10_setOdds 7 = .ok (.aload_n 0, 1) := by decide +kernel
theorem dX10_setOdds_8 : decode cX10_setOdds 8 = .ok (.iload_n 2, 1) := by decide +kernel
theorem dX10_setOdds_9 : decode cX10_setOdds 9 = .ok (.iconst 0, 1) := by decide +kernel
theorem dX10_setOdds_10 : decode cX10_setOdds 10 = .ok (.bipush 20, 2) := by decide +kernel
theorem dX10_setOdds_12 : decode cX10_setOdds 12 = .ok (.invokevirtual 84, 3) := by decide +kernel
theorem dX10_setOdds_15 : decode cX10_setOdds 15 = .ok (.aload_n 0, 1) := by decide +kernel
theorem dX10_setOdds_16 : decode cX10_setOdds 16 = .ok (.getfield 22, 3) := by decide +kernel
theorem dX10_setOdds_19 : decode cX10_setOdds 19 = .ok (.getfield 111, 3) := by decide +kernel
theorem dX10_setOdds_22 : decode cX10_setOdds 22 = .ok (.getfield 175, 3) := by decide +kernel
theorem dX10_setOdds_25 : decode cX10_setOdds 25 = .ok (.iload_n 1, 1) := by decide +kernel
theorem dX10_setOdds_26 : decode cX10_setOdds 26 = .ok (.iaload, 1) := by decide +kernel
theorem dX10_setOdds_27 : decode cX10_setOdds 27 = .ok (.istore_n 3, 1) := by decide +kernel
theorem dX10_setOdds_28 : decode cX10_setOdds 28 = .ok (.aload_n 0, 1) := by decide +kernel
theorem dX10_setOdds_29 : decode cX10_setOdds 29 = .ok (.getfield 22, 3) := by decide +kernel
theorem dX10_setOdds_32 : decode cX10_setOdds 32 = .ok (.getfield 111, 3) := by decide +kernel
theorem dX10_setOdds_35 : decode cX10_setOdds 35 = .ok (.invokevirtual 178, 3) := by decide +kernel
theorem dX10_setOdds_38 : decode cX10_setOdds 38 = .ok (.iload_n 3, 1) := by decide +kernel
theorem dX10_setOdds_39 : decode cX10_setOdds 39 = .ok (.isub, 1) := by decide +kernel
theorem dX10_setOdds_40 : decode cX10_setOdds 40 = .ok (.iload_n 2, 1) := by decide +kernel
theorem dX10_setOdds_41 : decode cX10_setOdds 41 = .ok (.iadd, 1) := by decide +kernel
theorem dX10_setOdds_42 : decode cX10_setOdds 42 = .ok (.ifCond .ne 11, 3) := by decide +kernel
theorem dX10_setOdds_45 : decode cX10_setOdds 45 = .ok (.new 74, 3) := by decide +kernel
theorem dX10_setOdds_48 : decode cX10_setOdds 48 = .ok (.dup, 1) := by decide +kernel
theorem dX10_setOdds_49 : decode cX10_setOdds 49 = .ok (.invokespecial 76, 3) := by decide +kernel
theorem dX10_setOdds_52 : decode cX10_setOdds 52 = .ok (.athrow, 1) := by decide +kernel
theorem dX10_setOdds_53 : decode cX10_setOdds 53 = .ok (.aload_n 0, 1) := by decide +kernel
theorem dX10_setOdds_54 : decode cX10_setOdds 54 = .ok (.getfield 32, 3) := by decide +kernel
theorem dX10_setOdds_57 : decode cX10_setOdds 57 = .ok (.aload_n 0, 1) := by decide +kernel
theorem dX10_setOdds_58 : decode cX10_setOdds 58 = .ok (.getfield 22, 3) := by decide +kernel
theorem dX10_setOdds_61 : decode cX10_setOdds 61 = .ok (.invokevirtual 96, 3) := by decide +kernel
theorem dX10_setOdds_64 : decode cX10_setOdds 64 = .ok (.aload_n 0, 1) := by decide +kernel
theorem dX10_setOdds_65 : decode cX10_setOdds 65 = .ok (.getfield 22, 3) := by decide +kernel
theorem dX10_setOdds_68 : decode cX10_setOdds 68 = .ok (.getfield 111, 3) := by decide +kernel
theorem dX10_setOdds_71 : decode cX10_setOdds 71 = .ok (.getfield 175, 3) := by decide +kernel
theorem dX10_setOdds_74 : decode cX10_setOdds 74 = .ok (.iload_n 1, 1) := by decide +kernel
theorem dX10_setOdds_75 : decode cX10_setOdds 75 = .ok (.iload_n 2, 1) := by decide +kernel
theorem dX10_setOdds_76 : decode cX10_setOdds 76 = .ok (.iastore, 1) := by decide +kernel
theorem dX10_setOdds_77 : decode cX10_setOdds 77 = .ok (.iload_n 3, 1) := by decide +kernel
theorem dX10_setOdds_78 : decode cX10_setOdds 78 = .ok (.ireturn, 1) := by decide +kernel
theorem dX10_pass_0 : decode cX10_pass 0 = .ok (.aload_n 0, 1) := by decide +kernel
theorem dX10_pass_1 : decode cX10_pass 1 = .ok (.iload_n 1, 1) := by decide +kernel
theorem dX10_pass_2 : decode cX10_pass 2 = .ok (.iconst 1, 1) := by decide +kernel
theorem dX10_pass_3 : decode cX10_pass 3 = .ok (.sipush 200, 3) := by decide +kernel
theorem dX10_pass_6 : decode cX10_pass 6 = .ok (.invokevirtual 84, 3) := by decide +kernel
theorem dX10_pass_9 : decode cX10_pass 9 = .ok (.aload_n 0, 1) := by decide +kernel
theorem dX10_pass_10 : decode cX10_pass 10 = .ok (.getfield 32, 3) := by decide +kernel
theorem dX10_pass_13 : decode cX10_pass 13 = .ok (.aload_n 0, 1) := by decide +kernel
theorem dX10_pass_14 : decode cX10_pass 14 = .ok (.getfield 22, 3) := by decide +kernel
theorem dX10_pass_17 : decode cX10_pass 17 = .ok (.invokevirtual 96, 3) := by decide +kernel
theorem dX10_pass_20 : decode cX10_pass 20 = .ok (.aload_n 0, 1) := by decide +kernel
theorem dX10_pass_21 : decode cX10_pass 21 = .ok (.getfield 22, 3) := by decide +kernel
theorem dX10_pass_24 : decode cX10_pass 24 = .ok (.getfield 252, 3) := by decide +kernel
theorem dX10_pass_27 : decode cX10_pass 27 = .ok (.istore_n 2, 1) := by decide +kernel
theorem dX10_pass_28 : decode cX10_pass 28 = .ok (.aload_n 0, 1) := by decide +kernel
theorem dX10_pass_29 : decode cX10_pass 29 = .ok (.getfield 22, 3) := by decide +kernel
theorem dX10_pass_32 : decode cX10_pass 32 = .ok (.iload_n 1, 1) := by decide +kernel
theorem dX10_pass_33 : decode cX10_pass 33 = .ok (.invokevirtual 294, 3) := by decide +kernel
theorem dX10_pass_36 : decode cX10_pass 36 = .ok (.aload_n 0, 1) := by decide +kernel
theorem dX10_pass_37 : decode cX10_pass 37 = .ok (.getfield 22, 3) := by decide +kernel
theorem dX10_pass_40 : decode cX10_pass 40 = .ok (.getfield 252, 3) := by decide +kernel
theorem dX10_pass_43 : decode cX10_pass 43 = .ok (.iload_n 2, 1) := by decide +kernel
theorem dX10_pass_44 : decode cX10_pass 44 = .ok (.isub, 1) := by decide +kernel
theorem dX10_pass_45 : decode cX10_pass 45 = .ok (.ireturn, 1) := by decide +kernel
theorem dX10_writePage_0 : decode cX10_writePage 0 = .ok (.aload_n 0, 1) := by decide +kernel
theorem dX10_writePage_1 : decode cX10_writePage 1 = .ok (.iload_n 1, 1) := by decide +kernel
theorem dX10_writePage_2 : decode cX10_writePage 2 = .ok (.invokevirtual 214, 3) := by decide +kernel
theorem dX10_writePage_5 : decode cX10_writePage 5 = .ok (.aload_n 0, 1) := by decide +kernel
theorem dX10_writePage_6 : decode cX10_writePage 6 = .ok (.getfield 16, 3) := by decide +kernel
theorem dX10_writePage_9 : decode cX10_writePage 9 = .ok (.iconst 0, 1) := by decide +kernel
theorem dX10_writePage_10 : decode cX10_writePage 10 = .ok (.putfield 81, 3) := by decide +kernel
theorem dX10_writePage_13 : decode cX10_writePage 13 = .ok (.aload_n 0, 1) := by decide +kernel
theorem dX10_writePage_14 : decode cX10_writePage 14 = .ok (.getfield 22, 3) := by decide +kernel
theorem dX10_writePage_17 : decode cX10_writePage 17 = .ok (.getfield 149, 3) := by decide +kernel
theorem dX10_writePage_20 : decode cX10_writePage 20 = .ok (.iload_n 1, 1) := by decide +kernel
theorem dX10_writePage_21 : decode cX10_writePage 21 = .ok (.invokevirtual 297, 3) := by decide +kernel
theorem dX10_writePage_24 : decode cX10_writePage 24 = .ok (.istore_n 2, 1) := by decide +kernel
theorem dX10_writePage_25 : decode cX10_writePage 25 = .ok (.aload_n 0, 1) := by decide +kernel
theorem dX10_writePage_26 : decode cX10_writePage 26 = .ok (.getfield 22, 3) := by decide +kernel
theorem dX10_writePage_29 : decode cX10_writePage 29 = .ok (.getfield 149, 3) := by decide +kernel
theorem dX10_writePage_32 : decode cX10_writePage 32 = .ok (.iload_n 1, 1) := by decide +kernel
theorem dX10_writePage_33 : decode cX10_writePage 33 = .ok (.invokevirtual 300, 3) := by decide +kernel
theorem dX10_writePage_36 : decode cX10_writePage 36 = .ok (.istore_n 3, 1) := by decide +kernel
theorem dX10_writePage_37 : decode cX10_writePage 37 = .ok (.iload_n 2, 1) := by decide +kernel
theorem dX10_writePage_38 : decode cX10_writePage 38 = .ok (.istore 4, 2) := by decide +kernel
theorem dX10_writePage_40 : decode cX10_writePage 40 = .ok (.iload 4, 2) := by decide +kernel
theorem dX10_writePage_42 : decode cX10_writePage 42 = .ok (.iload_n 3, 1) := by decide +kernel
theorem dX10_writePage_43 : decode cX10_writePage 43 = .ok (.if_icmp .ge 30, 3) := by decide +kernel
theorem dX10_writePage_46 : decode cX10_writePage 46 = .ok (.iload 4, 2) := by decide +kernel
theorem dX10_writePage_48 : decode cX10_writePage 48 = .ok (.iload_n 2, 1) := by decide +kernel
theorem dX10_writePage_49 : decode cX10_writePage 49 = .ok (.if_icmp .le 12, 3) := by decide +kernel
theorem dX10_writePage_52 : decode cX10_writePage 52 = .ok (.aload_n 0, 1) := by decide +kernel
theorem dX10_writePage_53 : decode cX10_writePage 53 = .ok (.getfield 16, 3) := by decide +kernel
theorem dX10_writePage_56 : decode cX10_writePage 56 = .ok (.bipush 32, 2) := by decide +kernel
theorem dX10_writePage_58 : decode cX10_writePage 58 = .ok (.invokevirtual 303, 3) := by decide +kernel
theorem dX10_writePage_61 : decode cX10_writePage 61 = .ok (.aload_n 0, 1) := by decide +kernel
theorem dX10_writePage_62 : decode cX10_writePage 62 = .ok (.iload 4, 2) := by decide +kernel
theorem dX10_writePage_64 : decode cX10_writePage 64 = .ok (.invokevirtual 306, 3) := by decide +kernel
theorem dX10_writePage_67 : decode cX10_writePage 67 = .ok (.iinc 4 1, 3) := by decide +kernel
theorem dX10_writePage_70 : decode cX10_writePage 70 = .ok (.goto (-30), 3) := by decide +kernel
theorem dX10_writePage_73 : decode cX10_writePage 73 = .ok (.aload_n 0, 1) := by decide +kernel
theorem dX10_writePage_74 : decode cX10_writePage 74 = .ok (.getfield 16, 3) := by decide +kernel
theorem dX10_writePage_77 : decode cX10_writePage 77 = .ok (.getfield 81, 3) := by decide +kernel
theorem dX10_writePage_80 : decode cX10_writePage 80 = .ok (.ireturn, 1) := by decide +kernel
theorem dX10_outputByte_0 : decode cX10_outputByte 0 = .ok (.iload_n 1, 1) := by decide +kernel
theorem dX10_outputByte_1 : decode cX10_outputByte 1 = .ok (.iconst 0, 1) := by decide +kernel
theorem dX10_outputByte_2 : decode cX10_outputByte 2 = .ok (.aload_n 0, 1) := by decide +kernel
theorem dX10_outputByte_3 : decode cX10_outputByte 3 = .ok (.getfield 16, 3) := by decide +kernel
theorem dX10_outputByte_6 : decode cX10_outputByte 6 = .ok (.getfield 81, 3) := by decide +kernel
theorem dX10_outputByte_9 : decode cX10_outputByte 9 = .ok (.iconst 1, 1) := by decide +kernel
theorem dX10_outputByte_10 : decode cX10_outputByte 10 = .ok (.isub, 1) := by decide +kernel
theorem dX10_outputByte_11 : decode cX10_outputByte 11 = .ok (.invokestatic 201, 3) := by decide +kernel
theorem dX10_outputByte_14 : decode cX10_outputByte 14 = .ok (.ifCond .ne 11, 3) := by decide +kernel
theorem dX10_outputByte_17 : decode cX10_outputByte 17 = .ok (.new 205, 3) := by decide +kernel
theorem dX10_outputByte_20 : decode cX10_outputByte 20 = .ok (.dup, 1) := by decide +kernel
theorem dX10_outputByte_21 : decode cX10_outputByte 21 = .ok (.invokespecial 207, 3) := by decide +kernel
theorem dX10_outputByte_24 : decode cX10_outputByte 24 = .ok (.athrow, 1) := by decide +kernel
theorem dX10_outputByte_25 : decode cX10_outputByte 25 = .ok (.aload_n 0, 1) := by decide +kernel
theorem dX10_outputByte_26 : decode cX10_outputByte 26 = .ok (.getfield 16, 3) := by decide +kernel
theorem dX10_outputByte_29 : decode cX10_outputByte 29 = .ok (.iload_n 1, 1) := by decide +kernel
theorem dX10_outputByte_30 : decode cX10_outputByte 30 = .ok (.invokevirtual 309, 3) := by decide +kernel
theorem dX10_outputByte_33 : decode cX10_outputByte 33 = .ok (.ireturn, 1) := by decide +kernel
theorem dX10_save_0 : decode cX10_save 0 = .ok (.aload_n 0, 1) := by decide +kernel
theorem dX10_save_1 : decode cX10_save 1 = .ok (.iload_n 1, 1) := by decide +kernel
theorem dX10_save_2 : decode cX10_save 2 = .ok (.invokevirtual 312, 3) := by decide +kernel
theorem dX10_save_5 : decode cX10_save 5 = .ok (.aload_n 0, 1) := by decide +kernel
theorem dX10_save_6 : decode cX10_save 6 = .ok (.getfield 36, 3) := by decide +kernel
theorem dX10_save_9 : decode cX10_save 9 = .ok (.iload_n 1, 1) := by decide +kernel
theorem dX10_save_10 : decode cX10_save 10 = .ok (.aaload, 1) := by decide +kernel
theorem dX10_save_11 : decode cX10_save 11 = .ok (.aload_n 0, 1) := by decide +kernel
theorem dX10_save_12 : decode cX10_save 12 = .ok (.getfield 22, 3) := by decide +kernel
theorem dX10_save_15 : decode cX10_save 15 = .ok (.invokevirtual 66, 3) := by decide +kernel
theorem dX10_save_18 : decode cX10_save 18 = .ok (.aload_n 0, 1) := by decide +kernel
theorem dX10_save_19 : decode cX10_save 19 = .ok (.getfield 40, 3) := by decide +kernel
theorem dX10_save_22 : decode cX10_save 22 = .ok (.iload_n 1, 1) := by decide +kernel
theorem dX10_save_23 : decode cX10_save 23 = .ok (.iconst 1, 1) := by decide +kernel
theorem dX10_save_24 : decode cX10_save 24 = .ok (.bastore, 1) := by decide +kernel
theorem dX10_save_25 : decode cX10_save 25 = .ok (.aload_n 0, 1) := by decide +kernel
theorem dX10_save_26 : decode cX10_save 26 = .ok (.getfield 22, 3) := by decide +kernel
theorem dX10_save_29 : decode cX10_save 29 = .ok (.getfield 108, 3) := by decide +kernel
theorem dX10_save_32 : decode cX10_save 32 = .ok (.ireturn, 1) := by decide +kernel
theorem dX10_restore_0 : decode cX10_restore 0 = .ok (.aload_n 0, 1) := by decide +kernel
theorem dX10_restore_1 : decode cX10_restore 1 = .ok (.iload_n 1, 1) := by decide +kernel
theorem dX10_restore_2 : decode cX10_restore 2 = .ok (.invokevirtual 312, 3) := by decide +kernel
theorem dX10_restore_5 : decode cX10_restore 5 = .ok (.aload_n 0, 1) := by decide +kernel
theorem dX10_restore_6 : decode cX10_restore 6 = .ok (.getfield 40, 3) := by decide +kernel
theorem dX10_restore_9 : decode cX10_restore 9 = .ok (.iload_n 1, 1) := by decide +kernel
theorem dX10_restore_10 : decode cX10_restore 10 = .ok (.baload, 1) := by decide +kernel
theorem dX10_restore_11 : decode cX10_restore 11 = .ok (.ifCond .ne 11, 3) := by decide +kernel
theorem dX10_restore_14 : decode cX10_restore 14 = .ok (.new 74, 3) := by decide +kernel
theorem dX10_restore_17 : decode cX10_restore 17 = .ok (.dup, 1) := by decide +kernel
theorem dX10_restore_18 : decode cX10_restore 18 = .ok (.invokespecial 76, 3) := by decide +kernel
theorem dX10_restore_21 : decode cX10_restore 21 = .ok (.athrow, 1) := by decide +kernel
theorem dX10_restore_22 : decode cX10_restore 22 = .ok (.aload_n 0, 1) := by decide +kernel
theorem dX10_restore_23 : decode cX10_restore 23 = .ok (.getfield 32, 3) := by decide +kernel
theorem dX10_restore_26 : decode cX10_restore 26 = .ok (.aload_n 0, 1) := by decide +kernel
theorem dX10_restore_27 : decode cX10_restore 27 = .ok (.getfield 22, 3) := by decide +kernel
theorem dX10_restore_30 : decode cX10_restore 30 = .ok (.invokevirtual 96, 3) := by decide +kernel
theorem dX10_restore_33 : decode cX10_restore 33 = .ok (.aload_n 0, 1) := by decide +kernel
theorem dX10_restore_34 : decode cX10_restore 34 = .ok (.getfield 22, 3) := by decide +kernel
theorem dX10_restore_37 : decode cX10_restore 37 = .ok (.aload_n 0, 1) := by decide +kernel
theorem dX10_restore_38 : decode cX10_restore 38 = .ok (.getfield 36, 3) := by decide +kernel
theorem dX10_restore_41 : decode cX10_restore 41 = .ok (.iload_n 1, 1) := by decide +kernel
theorem dX10_restore_42 : decode cX10_restore 42 = .ok (.aaload, 1) := by decide +kernel
theorem dX10_restore_43 : decode cX10_restore 43 = .ok (.invokevirtual 66, 3) := by decide +kernel
theorem dX10_restore_46 : decode cX10_restore 46 = .ok (.aload_n 0, 1) := by decide +kernel
theorem dX10_restore_47 : decode cX10_restore 47 = .ok (.getfield 22, 3) := by decide +kernel
theorem dX10_restore_50 : decode cX10_restore 50 = .ok (.getfield 108, 3) := by decide +kernel
theorem dX10_restore_53 : decode cX10_restore 53 = .ok (.ireturn, 1) := by decide +kernel
theorem dX10_undo_0 : decode cX10_undo 0 = .ok (.aload_n 0, 1) := by decide +kernel
theorem dX10_undo_1 : decode cX10_undo 1 = .ok (.getfield 32, 3) := by decide +kernel
theorem dX10_undo_4 : decode cX10_undo 4 = .ok (.getfield 315, 3) := by decide +kernel
theorem dX10_undo_7 : decode cX10_undo 7 = .ok (.ifCond .ne 11, 3) := by decide +kernel
theorem dX10_undo_10 : decode cX10_undo 10 = .ok (.new 74, 3) := by decide +kernel
theorem dX10_undo_13 : decode cX10_undo 13 = .ok (.dup, 1) := by decide +kernel
theorem dX10_undo_14 : decode cX10_undo 14 = .ok (.invokespecial 76, 3) := by decide +kernel
theorem dX10_undo_17 : decode cX10_undo 17 = .ok (.athrow, 1) := by decide +kernel
theorem dX10_undo_18 : decode cX10_undo 18 = .ok (.aload_n 0, 1) := by decide +kernel
theorem dX10_undo_19 : decode cX10_undo 19 = .ok (.getfield 32, 3) := by decide +kernel
theorem dX10_undo_22 : decode cX10_undo 22 = .ok (.aload_n 0, 1) := by decide +kernel
theorem dX10_undo_23 : decode cX10_undo 23 = .ok (.getfield 22, 3) := by decide +kernel
theorem dX10_undo_26 : decode cX10_undo 26 = .ok (.invokevirtual 316, 3) := by decide +kernel
theorem dX10_undo_29 : decode cX10_undo 29 = .ok (.aload_n 0, 1) := by decide +kernel
theorem dX10_undo_30 : decode cX10_undo 30 = .ok (.getfield 32, 3) := by decide +kernel
theorem dX10_undo_33 : decode cX10_undo 33 = .ok (.getfield 315, 3) := by decide +kernel
theorem dX10_undo_36 : decode cX10_undo 36 = .ok (.ireturn, 1) := by decide +kernel
theorem dX10_requireVillage_0 : decode cX10_requireVillage 0 = .ok (.aload_n 0, 1) := by decide +kernel
theorem dX10_requireVillage_1 : decode cX10_requireVillage 1 = .ok (.getfield 22, 3) := by decide +kernel
theorem dX10_requireVillage_4 : decode cX10_requireVillage 4 = .ok (.getfield 99, 3) := by decide +kernel
theorem dX10_requireVillage_7 : decode cX10_requireVillage 7 = .ok (.iload_n 1, 1) := by decide +kernel
theorem dX10_requireVillage_8 : decode cX10_requireVillage 8 = .ok (.invokevirtual 319, 3) := by decide +kernel
theorem dX10_requireVillage_11 : decode cX10_requireVillage 11 = .ok (.ifCond .ne 11, 3) := by decide +kernel
theorem dX10_requireVillage_14 : decode cX10_requireVillage 14 = .ok (.new 243, 3) := by decide +kernel
theorem dX10_requireVillage_17 : decode cX10_requireVillage 17 = .ok (.dup, 1) := by decide +kernel
theorem dX10_requireVillage_18 : decode cX10_requireVillage 18 = .ok (.invokespecial 245, 3) := by decide +kernel
theorem dX10_requireVillage_21 : decode cX10_requireVillage 21 = .ok (.athrow, 1) := by decide +kernel
theorem dX10_requireVillage_22 : decode cX10_requireVillage 22 = .ok (.return_, 1) := by decide +kernel
theorem dX10_requireFair_0 : decode cX10_requireFair 0 = .ok (.aload_n 0, 1) := by decide +kernel
theorem dX10_requireFair_1 : decode cX10_requireFair 1 = .ok (.getfield 22, 3) := by decide +kernel
theorem dX10_requireFair_4 : decode cX10_requireFair 4 = .ok (.getfield 123, 3) := by decide +kernel
theorem dX10_requireFair_7 : decode cX10_requireFair 7 = .ok (.iload_n 1, 1) := by decide +kernel
theorem dX10_requireFair_8 : decode cX10_requireFair 8 = .ok (.invokevirtual 322, 3) := by decide +kernel
theorem dX10_requireFair_11 : decode cX10_requireFair 11 = .ok (.ifCond .ne 11, 3) := by decide +kernel
theorem dX10_requireFair_14 : decode cX10_requireFair 14 = .ok (.new 243, 3) := by decide +kernel
theorem dX10_requireFair_17 : decode cX10_requireFair 17 = .ok (.dup, 1) := by decide +kernel
theorem dX10_requireFair_18 : decode cX10_requireFair 18 = .ok (.invokespecial 245, 3) := by decide +kernel
theorem dX10_requireFair_21 : decode cX10_requireFair 21 = .ok (.athrow, 1) := by decide +kernel
theorem dX10_requireFair_22 : decode cX10_requireFair 22 = .ok (.return_, 1) := by decide +kernel
theorem dX10_requirePage_0 : decode cX10_requirePage 0 = .ok (.aload_n 0, 1) := by decide +kernel
theorem dX10_requirePage_1 : decode cX10_requirePage 1 = .ok (.getfield 22, 3) := by decide +kernel
theorem dX10_requirePage_4 : decode cX10_requirePage 4 = .ok (.getfield 149, 3) := by decide +kernel
theorem dX10_requirePage_7 : decode cX10_requirePage 7 = .ok (.iload_n 1, 1) := by decide +kernel
theorem dX10_requirePage_8 : decode cX10_requirePage 8 = .ok (.invokevirtual 323, 3) := by decide +kernel
theorem dX10_requirePage_11 : decode cX10_requirePage 11 = .ok (.ifCond .ne 11, 3) := by decide +kernel
theorem dX10_requirePage_14 : decode cX10_requirePage 14 = .ok (.new 205, 3) := by decide +kernel
theorem dX10_requirePage_17 : decode cX10_requirePage 17 = .ok (.dup, 1) := by decide +kernel
theorem dX10_requirePage_18 : decode cX10_requirePage 18 = .ok (.invokespecial 207, 3) := by decide +kernel
theorem dX10_requirePage_21 : decode cX10_requirePage 21 = .ok (.athrow, 1) := by decide +kernel
theorem dX10_requirePage_22 : decode cX10_requirePage 22 = .ok (.return_, 1) := by decide +kernel
theorem dX10_requireSlot_0 : decode cX10_requireSlot 0 = .ok (.iload_n 1, 1) := by decide +kernel
theorem dX10_requireSlot_1 : decode cX10_requireSlot 1 = .ok (.iconst 0, 1) := by decide +kernel
theorem dX10_requireSlot_2 : decode cX10_requireSlot 2 = .ok (.iconst 1, 1) := by decide +kernel
theorem dX10_requireSlot_3 : decode cX10_requireSlot 3 = .ok (.invokestatic 201, 3) := by decide +kernel
theorem dX10_requireSlot_6 : decode cX10_requireSlot 6 = .ok (.ifCond .ne 11, 3) := by decide +kernel
theorem dX10_requireSlot_9 : decode cX10_requireSlot 9 = .ok (.new 243, 3) := by decide +kernel
theorem dX10_requireSlot_12 : decode cX10_requireSlot 12 = .ok (.dup, 1) := by decide +kernel
theorem dX10_requireSlot_13 : decode cX10_requireSlot 13 = .ok (.invokespecial 245, 3) := by decide +kernel
theorem dX10_requireSlot_16 : decode cX10_requireSlot 16 = .ok (.athrow, 1) := by decide +kernel
theorem dX10_requireSlot_17 : decode cX10_requireSlot 17 = .ok (.return_, 1) := by decide +kernel
theorem dX10_requireRange_0 : decode cX10_requireRange 0 = .ok (.iload_n 1, 1) := by decide +kernel
theorem dX10_requireRange_1 : decode cX10_requireRange 1 = .ok (.iload_n 2, 1) := by decide +kernel
theorem dX10_requireRange_2 : decode cX10_requireRange 2 = .ok (.iload_n 3, 1) := by decide +kernel
theorem dX10_requireRange_3 : decode cX10_requireRange 3 = .ok (.invokestatic 201, 3) := by decide +kernel
theorem dX10_requireRange_6 : decode cX10_requireRange 6 = .ok (.ifCond .ne 11, 3) := by decide +kernel
theorem dX10_requireRange_9 : decode cX10_requireRange 9 = .ok (.new 93, 3) := by decide +kernel
theorem dX10_requireRange_12 : decode cX10_requireRange 12 = .ok (.dup, 1) := by decide +kernel
theorem dX10_requireRange_13 : decode cX10_requireRange 13 = .ok (.invokespecial 95, 3) := by decide +kernel
theorem dX10_requireRange_16 : decode cX10_requireRange 16 = .ok (.athrow, 1) := by decide +kernel
theorem dX10_requireRange_17 : decode cX10_requireRange 17 = .ok (.return_, 1) := by decide +kernel
theorem dX10_requireForecast_0 : decode cX10_requireForecast 0 = .ok (.aload_n 0, 1) := by decide +kernel
theorem dX10_requireForecast_1 : decode cX10_requireForecast 1 = .ok (.iload_n 1, 1) := by decide +kernel
theorem dX10_requireForecast_2 : decode cX10_requireForecast 2 = .ok (.invokevirtual 139, 3) := by decide +kernel
theorem dX10_requireForecast_5 : decode cX10_requireForecast 5 = .ok (.aload_n 0, 1) := by decide +kernel
theorem dX10_requireForecast_6 : decode cX10_requireForecast 6 = .ok (.getfield 22, 3) := by decide +kernel
theorem dX10_requireForecast_9 : decode cX10_requireForecast 9 = .ok (.getfield 149, 3) := by decide +kernel
theorem dX10_requireForecast_12 : decode cX10_requireForecast 12 = .ok (.iload_n 1, 1) := by decide +kernel
theorem dX10_requireForecast_13 : decode cX10_requireForecast 13 = .ok (.iload_n 2, 1) := by decide +kernel
theorem dX10_requireForecast_14 : decode cX10_requireForecast 14 = .ok (.invokevirtual 186, 3) := by decide +kernel
theorem dX10_requireForecast_17 : decode cX10_requireForecast 17 = .ok (.istore_n 3, 1) := by decide +kernel
theorem dX10_requireForecast_18 : decode cX10_requireForecast 18 = .ok (.iload_n 3, 1) := by decide +kernel
theorem dX10_requireForecast_19 : decode cX10_requireForecast 19 = .ok (.iconst (-1), 1) := by decide +kernel
theorem dX10_requireForecast_20 : decode cX10_requireForecast 20 = .ok (.if_icmp .ne 11, 3) := by decide +kernel
theorem dX10_requireForecast_23 : decode cX10_requireForecast 23 = .ok (.new 205, 3) := by decide +kernel
theorem dX10_requireForecast_26 : decode cX10_requireForecast 26 = .ok (.dup, 1) := by decide +kernel
theorem dX10_requireForecast_27 : decode cX10_requireForecast 27 = .ok (.invokespecial 207, 3) := by decide +kernel
theorem dX10_requireForecast_30 : decode cX10_requireForecast 30 = .ok (.athrow, 1) := by decide +kernel
theorem dX10_requireForecast_31 : decode cX10_requireForecast 31 = .ok (.iload_n 3, 1) := by decide +kernel
theorem dX10_requireForecast_32 : decode cX10_requireForecast 32 = .ok (.ireturn, 1) := by decide +kernel
theorem dX10_lookAhead_0 : decode cX10_lookAhead 0 = .ok (.aload_n 0, 1) := by decide +kernel
theorem dX10_lookAhead_1 : decode cX10_lookAhead 1 = .ok (.getfield 26, 3) := by decide +kernel
theorem dX10_lookAhead_4 : decode cX10_lookAhead 4 = .ok (.aload_n 0, 1) := by decide +kernel
theorem dX10_lookAhead_5 : decode cX10_lookAhead 5 = .ok (.getfield 22, 3) := by decide +kernel
theorem dX10_lookAhead_8 : decode cX10_lookAhead 8 = .ok (.invokevirtual 66, 3) := by decide +kernel
theorem dX10_lookAhead_11 : decode cX10_lookAhead 11 = .ok (.aload_n 0, 1) := by decide +kernel
theorem dX10_lookAhead_12 : decode cX10_lookAhead 12 = .ok (.getfield 26, 3) := by decide +kernel
theorem dX10_lookAhead_15 : decode cX10_lookAhead 15 = .ok (.iload_n 1, 1) := by decide +kernel
theorem dX10_lookAhead_16 : decode cX10_lookAhead 16 = .ok (.invokevirtual 294, 3) := by decide +kernel
theorem dX10_lookAhead_19 : decode cX10_lookAhead 19 = .ok (.return_, 1) := by decide +kernel
theorem dX10_writeForecast_0 : decode cX10_writeForecast 0 = .ok (.aload_n 0, 1) := by decide +kernel
theorem dX10_writeForecast_1 : decode cX10_writeForecast 1 = .ok (.getfield 16, 3) := by decide +kernel
theorem dX10_writeForecast_4 : decode cX10_writeForecast 4 = .ok (.aload_n 0, 1) := by decide +kernel
theorem dX10_writeForecast_5 : decode cX10_writeForecast 5 = .ok (.getfield 22, 3) := by decide +kernel
theorem dX10_writeForecast_8 : decode cX10_writeForecast 8 = .ok (.getfield 99, 3) := by decide +kernel
theorem dX10_writeForecast_11 : decode cX10_writeForecast 11 = .ok (.getfield 326, 3) := by decide +kernel
theorem dX10_writeForecast_14 : decode cX10_writeForecast 14 = .ok (.aload_n 0, 1) := by decide +kernel
theorem dX10_writeForecast_15 : decode cX10_writeForecast 15 = .ok (.getfield 22, 3) := by decide +kernel
theorem dX10_writeForecast_18 : decode cX10_writeForecast 18 = .ok (.getfield 149, 3) := by decide +kernel
theorem dX10_writeForecast_21 : decode cX10_writeForecast 21 = .ok (.getfield 329, 3) := by decide +kernel
theorem dX10_writeForecast_24 : decode cX10_writeForecast 24 = .ok (.iload_n 1, 1) := by decide +kernel
theorem dX10_writeForecast_25 : decode cX10_writeForecast 25 = .ok (.iaload, 1) := by decide +kernel
theorem dX10_writeForecast_26 : decode cX10_writeForecast 26 = .ok (.iaload, 1) := by decide +kernel
theorem dX10_writeForecast_27 : decode cX10_writeForecast 27 = .ok (.invokevirtual 330, 3) := by decide +kernel
theorem dX10_writeForecast_30 : decode cX10_writeForecast 30 = .ok (.aload_n 0, 1) := by decide +kernel
theorem dX10_writeForecast_31 : decode cX10_writeForecast 31 = .ok (.getfield 16, 3) := by decide +kernel
theorem dX10_writeForecast_34 : decode cX10_writeForecast 34 = .ok (.aload_n 0, 1) := by decide +kernel
theorem dX10_writeForecast_35 : decode cX10_writeForecast 35 = .ok (.getfield 22, 3) := by decide +kernel
theorem dX10_writeForecast_38 : decode cX10_writeForecast 38 = .ok (.getfield 149, 3) := by decide +kernel
theorem dX10_writeForecast_41 : decode cX10_writeForecast 41 = .ok (.getfield 333, 3) := by decide +kernel
theorem dX10_writeForecast_44 : decode cX10_writeForecast 44 = .ok (.iload_n 1, 1) := by decide +kernel
theorem dX10_writeForecast_45 : decode cX10_writeForecast 45 = .ok (.iaload, 1) := by decide +kernel
theorem dX10_writeForecast_46 : decode cX10_writeForecast 46 = .ok (.invokevirtual 336, 3) := by decide +kernel
theorem dX10_writeForecast_49 : decode cX10_writeForecast 49 = .ok (.aload_n 0, 1) := by decide +kernel
theorem dX10_writeForecast_50 : decode cX10_writeForecast 50 = .ok (.getfield 22, 3) := by decide +kernel
theorem dX10_writeForecast_53 : decode cX10_writeForecast 53 = .ok (.getfield 149, 3) := by decide +kernel
theorem dX10_writeForecast_56 : decode cX10_writeForecast 56 = .ok (.getfield 189, 3) := by decide +kernel
theorem dX10_writeForecast_59 : decode cX10_writeForecast 59 = .ok (.iload_n 1, 1) := by decide +kernel
theorem dX10_writeForecast_60 : decode cX10_writeForecast 60 = .ok (.iaload, 1) := by decide +kernel
theorem dX10_writeForecast_61 : decode cX10_writeForecast 61 = .ok (.istore_n 2, 1) := by decide +kernel
theorem dX10_writeForecast_62 : decode cX10_writeForecast 62 = .ok (.aload_n 0, 1) := by decide +kernel
theorem dX10_writeForecast_63 : decode cX10_writeForecast 63 = .ok (.getfield 16, 3) := by decide +kernel
theorem dX10_writeForecast_66 : decode cX10_writeForecast 66 = .ok (.iload_n 2, 1) := by decide +kernel
theorem dX10_writeForecast_67 : decode cX10_writeForecast 67 = .ok (.ifCond .ne 8, 3) := by decide +kernel
theorem dX10_writeForecast_70 : decode cX10_writeForecast 70 = .ok (.bipush 115, 2) := by decide +kernel
theorem dX10_writeForecast_72 : decode cX10_writeForecast 72 = .ok (.goto 15, 3) := by decide +kernel
theorem dX10_writeForecast_75 : decode cX10_writeForecast 75 = .ok (.iload_n 2, 1) := by decide +kernel
theorem dX10_writeForecast_76 : decode cX10_writeForecast 76 = .ok (.iconst 1, 1) := by decide +kernel
theorem dX10_writeForecast_77 : decode cX10_writeForecast 77 = .ok (.if_icmp .ne 8, 3) := by decide +kernel
theorem dX10_writeForecast_80 : decode cX10_writeForecast 80 = .ok (.bipush 114, 2) := by decide +kernel
theorem dX10_writeForecast_82 : decode cX10_writeForecast 82 = .ok (.goto 5, 3) := by decide +kernel
theorem dX10_writeForecast_85 : decode cX10_writeForecast 85 = .ok (.bipush 116, 2) := by decide +kernel
theorem dX10_writeForecast_87 : decode cX10_writeForecast 87 = .ok (.invokevirtual 303, 3) := by decide +kernel
theorem dX10_writeForecast_90 : decode cX10_writeForecast 90 = .ok (.return_, 1) := by decide +kernel
theorem dX10_isBetween_0 : decode cX10_isBetween 0 = .ok (.iload_n 0, 1) := by decide +kernel
theorem dX10_isBetween_1 : decode cX10_isBetween 1 = .ok (.iload_n 1, 1) := by decide +kernel
theorem dX10_isBetween_2 : decode cX10_isBetween 2 = .ok (.if_icmp .lt 12, 3) := by decide +kernel
theorem dX10_isBetween_5 : decode cX10_isBetween 5 = .ok (.iload_n 0, 1) := by decide +kernel
theorem dX10_isBetween_6 : decode cX10_isBetween 6 = .ok (.iload_n 2, 1) := by decide +kernel
theorem dX10_isBetween_7 : decode cX10_isBetween 7 = .ok (.if_icmp .gt 7, 3) := by decide +kernel
theorem dX10_isBetween_10 : decode cX10_isBetween 10 = .ok (.iconst 1, 1) := by decide +kernel
theorem dX10_isBetween_11 : decode cX10_isBetween 11 = .ok (.goto 4, 3) := by decide +kernel
theorem dX10_isBetween_14 : decode cX10_isBetween 14 = .ok (.iconst 0, 1) := by decide +kernel
theorem dX10_isBetween_15 : decode cX10_isBetween 15 = .ok (.ireturn, 1) := by decide +kernel
theorem dX10_isLetter_0 : decode cX10_isLetter 0 = .ok (.iload_n 0, 1) := by decide +kernel
theorem dX10_isLetter_1 : decode cX10_isLetter 1 = .ok (.bipush 97, 2) := by decide +kernel
theorem dX10_isLetter_3 : decode cX10_isLetter 3 = .ok (.if_icmp .lt 13, 3) := by decide +kernel
theorem dX10_isLetter_6 : decode cX10_isLetter 6 = .ok (.iload_n 0, 1) := by decide +kernel
theorem dX10_isLetter_7 : decode cX10_isLetter 7 = .ok (.bipush 122, 2) := by decide +kernel
theorem dX10_isLetter_9 : decode cX10_isLetter 9 = .ok (.if_icmp .gt 7, 3) := by decide +kernel
theorem dX10_isLetter_12 : decode cX10_isLetter 12 = .ok (.iconst 1, 1) := by decide +kernel
theorem dX10_isLetter_13 : decode cX10_isLetter 13 = .ok (.goto 4, 3) := by decide +kernel
theorem dX10_isLetter_16 : decode cX10_isLetter 16 = .ok (.iconst 0, 1) := by decide +kernel
theorem dX10_isLetter_17 : decode cX10_isLetter 17 = .ok (.ireturn, 1) := by decide +kernel
theorem dX10_isDigit_0 : decode cX10_isDigit 0 = .ok (.iload_n 0, 1) := by decide +kernel
theorem dX10_isDigit_1 : decode cX10_isDigit 1 = .ok (.bipush 48, 2) := by decide +kernel
theorem dX10_isDigit_3 : decode cX10_isDigit 3 = .ok (.if_icmp .lt 13, 3) := by decide +kernel
theorem dX10_isDigit_6 : decode cX10_isDigit 6 = .ok (.iload_n 0, 1) := by decide +kernel
theorem dX10_isDigit_7 : decode cX10_isDigit 7 = .ok (.bipush 57, 2) := by decide +kernel
theorem dX10_isDigit_9 : decode cX10_isDigit 9 = .ok (.if_icmp .gt 7, 3) := by decide +kernel
theorem dX10_isDigit_12 : decode cX10_isDigit 12 = .ok (.iconst 1, 1) := by decide +kernel
theorem dX10_isDigit_13 : decode cX10_isDigit 13 = .ok (.goto 4, 3) := by decide +kernel
theorem dX10_isDigit_16 : decode cX10_isDigit 16 = .ok (.iconst 0, 1) := by decide +kernel
theorem dX10_isDigit_17 : decode cX10_isDigit 17 = .ok (.ireturn, 1) := by decide +kernel
theorem dX10_placeIn_0 : decode cX10_placeIn 0 = .ok (.iconst 0, 1) := by decide +kernel
theorem dX10_placeIn_1 : decode cX10_placeIn 1 = .ok (.istore_n 3, 1) := by decide +kernel
theorem dX10_placeIn_2 : decode cX10_placeIn 2 = .ok (.iload_n 3, 1) := by decide +kernel
theorem dX10_placeIn_3 : decode cX10_placeIn 3 = .ok (.iload_n 1, 1) := by decide +kernel
theorem dX10_placeIn_4 : decode cX10_placeIn 4 = .ok (.if_icmp .ge 18, 3) := by decide +kernel
theorem dX10_placeIn_7 : decode cX10_placeIn 7 = .ok (.aload_n 0, 1) := by decide +kernel
theorem dX10_placeIn_8 : decode cX10_placeIn 8 = .ok (.iload_n 3, 1) := by decide +kernel
theorem dX10_placeIn_9 : decode cX10_placeIn 9 = .ok (.iaload, 1) := by decide +kernel
theorem dX10_placeIn_10 : decode cX10_placeIn 10 = .ok (.iload_n 2, 1) := by decide +kernel
theorem dX10_placeIn_11 : decode cX10_placeIn 11 = .ok (.if_icmp .ne 5, 3) := by decide +kernel
theorem dX10_placeIn_14 : decode cX10_placeIn 14 = .ok (.iload_n 3, 1) := by decide +kernel
theorem dX10_placeIn_15 : decode cX10_placeIn 15 = .ok (.ireturn, 1) := by decide +kernel
theorem dX10_placeIn_16 : decode cX10_placeIn 16 = .ok (.iinc 3 1, 3) := by decide +kernel
theorem dX10_placeIn_19 : decode cX10_placeIn 19 = .ok (.goto (-17), 3) := by decide +kernel
theorem dX10_placeIn_22 : decode cX10_placeIn 22 = .ok (.iconst (-1), 1) := by decide +kernel
theorem dX10_placeIn_23 : decode cX10_placeIn 23 = .ok (.ireturn, 1) := by decide +kernel
theorem dX10_labelOf_0 : decode cX10_labelOf 0 = .ok (.bipush 10, 2) := by decide +kernel
theorem dX10_labelOf_2 : decode cX10_labelOf 2 = .ok (.iload_n 1, 1) := by decide +kernel
theorem dX10_labelOf_3 : decode cX10_labelOf 3 = .ok (.imul, 1) := by decide +kernel
theorem dX10_labelOf_4 : decode cX10_labelOf 4 = .ok (.iload_n 0, 1) := by decide +kernel
theorem dX10_labelOf_5 : decode cX10_labelOf 5 = .ok (.iadd, 1) := by decide +kernel
theorem dX10_labelOf_6 : decode cX10_labelOf 6 = .ok (.ireturn, 1) := by decide +kernel
theorem dX11_init_0 : decode cX11_init 0 = .ok (.aload_n 0, 1) := by decide +kernel
theorem dX11_init_1 : decode cX11_init 1 = .ok (.invokespecial 1, 3) := by decide +kernel
theorem dX11_init_4 : decode cX11_init 4 = .ok (.aload_n 0, 1) := by decide +kernel
theorem dX11_init_5 : decode cX11_init 5 = .ok (.sipush 242, 3) := by decide +kernel
theorem dX11_init_8 : decode cX11_init 8 = .ok (.newarray .int, 2) := by decide +kernel
theorem dX11_init_10 : decode cX11_init 10 = .ok (.putfield 7, 3) := by decide +kernel
theorem dX11_init_13 : decode cX11_init 13 = .ok (.aload_n 0, 1) := by decide +kernel
theorem dX11_init_14 : decode cX11_init 14 = .ok (.sipush 242, 3) := by decide +kernel
theorem dX11_init_17 : decode cX11_init 17 = .ok (.newarray .int, 2) := by decide +kernel
theorem dX11_init_19 : decode cX11_init 19 = .ok (.putfield 13, 3) := by decide +kernel
theorem dX11_init_22 : decode cX11_init 22 = .ok (.aload_n 0, 1) := by decide +kernel
theorem dX11_init_23 : decode cX11_init 23 = .ok (.sipush 242, 3) := by decide +kernel
theorem dX11_init_26 : decode cX11_init 26 = .ok (.newarray .int, 2) := by decide +kernel
theorem dX11_init_28 : decode cX11_init 28 = .ok (.putfield 16, 3) := by decide +kernel
theorem dX11_init_31 : decode cX11_init 31 = .ok (.aload_n 0, 1) := by decide +kernel
theorem dX11_init_32 : decode cX11_init 32 = .ok (.sipush 1936, 3) := by decide +kernel
theorem dX11_init_35 : decode cX11_init 35 = .ok (.newarray .int, 2) := by decide +kernel
theorem dX11_init_37 : decode cX11_init 37 = .ok (.putfield 19, 3) := by decide +kernel
theorem dX11_init_40 : decode cX11_init 40 = .ok (.aload_n 0, 1) := by decide +kernel
theorem dX11_init_41 : decode cX11_init 41 = .ok (.sipush 484, 3) := by decide +kernel
theorem dX11_init_44 : decode cX11_init 44 = .ok (.newarray .int, 2) := by decide +kernel
theorem dX11_init_46 : decode cX11_init 46 = .ok (.putfield 22, 3) := by decide +kernel
theorem dX11_init_49 : decode cX11_init 49 = .ok (.aload_n 0, 1) := by decide +kernel
theorem dX11_init_50 : decode cX11_init 50 = .ok (.iconst 2, 1) := by decide +kernel
theorem dX11_init_51 : decode cX11_init 51 = .ok (.newarray .boolean, 2) := by decide +kernel
theorem dX11_init_53 : decode cX11_init 53 = .ok (.putfield 25, 3) := by decide +kernel
theorem dX11_init_56 : decode cX11_init 56 = .ok (.aload_n 0, 1) := by decide +kernel
theorem dX11_init_57 : decode cX11_init 57 = .ok (.sipush 600, 3) := by decide +kernel
theorem dX11_init_60 : decode cX11_init 60 = .ok (.newarray .int, 2) := by decide +kernel
theorem dX11_init_62 : decode cX11_init 62 = .ok (.putfield 29, 3) := by decide +kernel
theorem dX11_init_65 : decode cX11_init 65 = .ok (.aload_n 0, 1) := by decide +kernel
theorem dX11_init_66 : decode cX11_init 66 = .ok (.iconst (-1), 1) := by decide +kernel
theorem dX11_init_67 : decode cX11_init 67 = .ok (.putfield 32, 3) := by decide +kernel
theorem dX11_init_70 : decode cX11_init 70 = .ok (.aload_n 0, 1) := by decide +kernel
theorem dX11_init_71 : decode cX11_init 71 = .ok (.bipush 80, 2) := by decide +kernel
theorem dX11_init_73 : decode cX11_init 73 = .ok (.newarray .byte, 2) := by decide +kernel
theorem dX11_init_75 : decode cX11_init 75 = .ok (.putfield 36, 3) := by decide +kernel
theorem dX11_init_78 : decode cX11_init 78 = .ok (.aload_n 0, 1) := by decide +kernel
theorem dX11_init_79 : decode cX11_init 79 = .ok (.ldc 40, 2) := by decide +kernel
theorem dX11_init_81 : decode cX11_init 81 = .ok (.invokevirtual 42, 3) := by decide +kernel
theorem dX11_init_84 : decode cX11_init 84 = .ok (.aload_n 0, 1) := by decide +kernel
theorem dX11_init_85 : decode cX11_init 85 = .ok (.invokevirtual 46, 3) := by decide +kernel
theorem dX11_init_88 : decode cX11_init 88 = .ok (.aload_n 0, 1) := by decide +kernel
theorem dX11_init_89 : decode cX11_init 89 = .ok (.iconst 0, 1) := by decide +kernel
theorem dX11_init_90 : decode cX11_init 90 = .ok (.putfield 49, 3) := by decide +kernel
theorem dX11_init_93 : decode cX11_init 93 = .ok (.aload_n 0, 1) := by decide +kernel
theorem dX11_init_94 : decode cX11_init 94 = .ok (.getfield 13, 3) := by decide +kernel
theorem dX11_init_97 : decode cX11_init 97 = .ok (.iconst 0, 1) := by decide +kernel
theorem dX11_init_98 : decode cX11_init 98 = .ok (.aload_n 0, 1) := by decide +kernel
theorem dX11_init_99 : decode cX11_init 99 = .ok (.getfield 7, 3) := by decide +kernel
theorem dX11_init_102 : decode cX11_init 102 = .ok (.iconst 0, 1) := by decide +kernel
theorem dX11_init_103 : decode cX11_init 103 = .ok (.invokestatic 52, 3) := by decide +kernel
theorem dX11_init_106 : decode cX11_init 106 = .ok (.return_, 1) := by decide +kernel
theorem dX11_layInput_0 : decode cX11_layInput 0 = .ok (.iconst 0, 1) := by decide +kernel
theorem dX11_layInput_1 : decode cX11_layInput 1 = .ok (.istore_n 2, 1) := by decide +kernel
theorem dX11_layInput_2 : decode cX11_layInput 2 = .ok (.iload_n 2, 1) := by decide +kernel
theorem dX11_layInput_3 : decode cX11_layInput 3 = .ok (.aload_n 1, 1) := by decide +kernel
theorem dX11_layInput_4 : decode cX11_layInput 4 = .ok (.invokevirtual 56, 3) := by decide +kernel
theorem dX11_layInput_7 : decode cX11_layInput 7 = .ok (.if_icmp .ge 20, 3) := by decide +kernel
theorem dX11_layInput_10 : decode cX11_layInput 10 = .ok (.aload_n 0, 1) := by decide +kernel
theorem dX11_layInput_11 : decode cX11_layInput 11 = .ok (.getfield 29, 3) := by decide +kernel
theorem dX11_layInput_14 : decode cX11_layInput 14 = .ok (.iload_n 2, 1) := by decide +kernel
theorem dX11_layInput_15 : decode cX11_layInput 15 = .ok (.aload_n 1, 1) := by decide +kernel
theorem dX11_layInput_16 : decode cX11_layInput 16 = .ok (.iload_n 2, 1) := by decide +kernel
theorem dX11_layInput_17 : decode cX11_layInput 17 = .ok (.invokevirtual 62, 3) := by decide +kernel
theorem dX11_layInput_20 : decode cX11_layInput 20 = .ok (.iastore, 1) := by decide +kernel
theorem dX11_layInput_21 : decode cX11_layInput 21 = .ok (.iinc 2 1, 3) := by decide +kernel
theorem dX11_layInput_24 : decode cX11_layInput 24 = .ok (.goto (-22), 3) := by decide +kernel
theorem dX11_layInput_27 : decode cX11_layInput 27 = .ok (.aload_n 0, 1) := by decide +kernel
theorem dX11_layInput_28 : decode cX11_layInput 28 = .ok (.aload_n 1, 1) := by decide +kernel
theorem dX11_layInput_29 : decode cX11_layInput 29 = .ok (.invokevirtual 56, 3) := by decide +kernel
theorem dX11_layInput_32 : decode cX11_layInput 32 = .ok (.putfield 49, 3) := by decide +kernel
theorem dX11_layInput_35 : decode cX11_layInput 35 = .ok (.return_, 1) := by decide +kernel
theorem dX11_thrown_0 : decode cX11_thrown 0 = .ok (.aload_n 0, 1) := by decide +kernel
theorem dX11_thrown_1 : decode cX11_thrown 1 = .ok (.getfield 66, 3) := by decide +kernel
theorem dX11_thrown_4 : decode cX11_thrown 4 = .ok (.ireturn, 1) := by decide +kernel
theorem dX11_refuses_0 : decode cX11_refuses 0 = .ok (.iload_n 1, 1) := by decide +kernel
theorem dX11_refuses_1 : decode cX11_refuses 1 = .ok (.ifCond .eq 15, 3) := by decide +kernel
theorem dX11_refuses_4 : decode cX11_refuses 4 = .ok (.aload_n 0, 1) := by decide +kernel
theorem dX11_refuses_5 : decode cX11_refuses 5 = .ok (.getfield 66, 3) := by decide +kernel
theorem dX11_refuses_8 : decode cX11_refuses 8 = .ok (.ifCond .ne 8, 3) := by decide +kernel
theorem dX11_refuses_11 : decode cX11_refuses 11 = .ok (.aload_n 0, 1) := by decide +kernel
theorem dX11_refuses_12 : decode cX11_refuses 12 = .ok (.iload_n 2, 1) := by decide +kernel
theorem dX11_refuses_13 : decode cX11_refuses 13 = .ok (.putfield 66, 3) := by decide +kernel
theorem dX11_refuses_16 : decode cX11_refuses 16 = .ok (.aload_n 0, 1) := by decide +kernel
theorem dX11_refuses_17 : decode cX11_refuses 17 = .ok (.getfield 66, 3) := by decide +kernel
theorem dX11_refuses_20 : decode cX11_refuses 20 = .ok (.ifCond .eq 7, 3) := by decide +kernel
theorem dX11_refuses_23 : decode cX11_refuses 23 = .ok (.iconst 1, 1) := by decide +kernel
theorem dX11_refuses_24 : decode cX11_refuses 24 = .ok (.goto 4, 3) := by decide +kernel
theorem dX11_refuses_27 : decode cX11_refuses 27 = .ok (.iconst 0, 1) := by decide +kernel
theorem dX11_refuses_28 : decode cX11_refuses 28 = .ok (.ireturn, 1) := by decide +kernel
theorem dX11_isBetween_0 : decode cX11_isBetween 0 = .ok (.iload_n 0, 1) := by decide +kernel
theorem dX11_isBetween_1 : decode cX11_isBetween 1 = .ok (.iload_n 1, 1) := by decide +kernel
theorem dX11_isBetween_2 : decode cX11_isBetween 2 = .ok (.if_icmp .lt 12, 3) := by decide +kernel
theorem dX11_isBetween_5 : decode cX11_isBetween 5 = .ok (.iload_n 0, 1) := by decide +kernel
theorem dX11_isBetween_6 : decode cX11_isBetween 6 = .ok (.iload_n 2, 1) := by decide +kernel
theorem dX11_isBetween_7 : decode cX11_isBetween 7 = .ok (.if_icmp .gt 7, 3) := by decide +kernel
theorem dX11_isBetween_10 : decode cX11_isBetween 10 = .ok (.iconst 1, 1) := by decide +kernel
theorem dX11_isBetween_11 : decode cX11_isBetween 11 = .ok (.goto 4, 3) := by decide +kernel
theorem dX11_isBetween_14 : decode cX11_isBetween 14 = .ok (.iconst 0, 1) := by decide +kernel
theorem dX11_isBetween_15 : decode cX11_isBetween 15 = .ok (.ireturn, 1) := by decide +kernel
theorem dX11_copyRow_0 : decode cX11_copyRow 0 = .ok (.iconst 0, 1) := by decide +kernel
theorem dX11_copyRow_1 : decode cX11_copyRow 1 = .ok (.istore 4, 2) := by decide +kernel
theorem dX11_copyRow_3 : decode cX11_copyRow 3 = .ok (.iload 4, 2) := by decide +kernel
theorem dX11_copyRow_5 : decode cX11_copyRow 5 = .ok (.sipush 242, 3) := by decide +kernel
theorem dX11_copyRow_8 : decode cX11_copyRow 8 = .ok (.if_icmp .ge 21, 3) := by decide +kernel
theorem dX11_copyRow_11 : decode cX11_copyRow 11 = .ok (.aload_n 2, 1) := by decide +kernel
theorem dX11_copyRow_12 : decode cX11_copyRow 12 = .ok (.iload_n 3, 1) := by decide +kernel
theorem dX11_copyRow_13 : decode cX11_copyRow 13 = .ok (.iload 4, 2) := by decide +kernel
theorem dX11_copyRow_15 : decode cX11_copyRow 15 = .ok (.iadd, 1) := by decide +kernel
theorem dX11_copyRow_16 : decode cX11_copyRow 16 = .ok (.aload_n 0, 1) := by decide +kernel
theorem dX11_copyRow_17 : decode cX11_copyRow 17 = .ok (.iload_n 1, 1) := by decide +kernel
theorem dX11_copyRow_18 : decode cX11_copyRow 18 = .ok (.iload 4, 2) := by decide +kernel
theorem dX11_copyRow_20 : decode cX11_copyRow 20 = .ok (.iadd, 1) := by decide +kernel
theorem dX11_copyRow_21 : decode cX11_copyRow 21 = .ok (.iaload, 1) := by decide +kernel
theorem dX11_copyRow_22 : decode cX11_copyRow 22 = .ok (.iastore, 1) := by decide +kernel
theorem dX11_copyRow_23 : decode cX11_copyRow 23 = .ok (.iinc 4 1, 3) := by decide +kernel
theorem dX11_copyRow_26 : decode cX11_copyRow 26 = .ok (.goto (-23), 3) := by decide +kernel
theorem dX11_copyRow_29 : decode cX11_copyRow 29 = .ok (.return_, 1) := by decide +kernel
theorem dX11_ofVillage_0 : decode cX11_ofVillage 0 = .ok (.bipush 24, 2) := by decide +kernel
theorem dX11_ofVillage_2 : decode cX11_ofVillage 2 = .ok (.iconst 3, 1) := by decide +kernel
theorem dX11_ofVillage_3 : decode cX11_ofVillage 3 = .ok (.iload_n 0, 1) := by decide +kernel
theorem dX11_ofVillage_4 : decode cX11_ofVillage 4 = .ok (.imul, 1) := by decide +kernel
theorem dX11_ofVillage_5 : decode cX11_ofVillage 5 = .ok (.iadd, 1) := by decide +kernel
theorem dX11_ofVillage_6 : decode cX11_ofVillage 6 = .ok (.ireturn, 1) := by decide +kernel
theorem dX11_ofFair_0 : decode cX11_ofFair 0 = .ok (.bipush 42, 2) := by decide +kernel
theorem dX11_ofFair_2 : decode cX11_ofFair 2 = .ok (.iconst 5, 1) := by decide +kernel
theorem dX11_ofFair_3 : decode cX11_ofFair 3 = .ok (.iload_n 0, 1) := by decide +kernel
theorem dX11_ofFair_4 : decode cX11_ofFair 4 = .ok (.imul, 1) := by decide +kernel
theorem dX11_ofFair_5 : decode cX11_ofFair 5 = .ok (.iadd, 1) := by decide +kernel
theorem dX11_ofFair_6 : decode cX11_ofFair 6 = .ok (.ireturn, 1) := by decide +kernel
theorem dX11_ofForecast_0 : decode cX11_ofForecast 0 = .ok (.bipush 72, 2) := by decide +kernel
theorem dX11_ofForecast_2 : decode cX11_ofForecast 2 = .ok (.iconst 5, 1) := by decide +kernel
theorem dX11_ofForecast_3 : decode cX11_ofForecast 3 = .ok (.iload_n 0, 1) := by decide +kernel
theorem dX11_ofForecast_4 : decode cX11_ofForecast 4 = .ok (.imul, 1) := by decide +kernel
theorem dX11_ofForecast_5 : decode cX11_ofForecast 5 = .ok (.iadd, 1) := by decide +kernel
theorem dX11_ofForecast_6 : decode cX11_ofForecast 6 = .ok (.ireturn, 1) := by decide +kernel
theorem dX11_ofRegret_0 : decode cX11_ofRegret 0 = .ok (.sipush 222, 3) := by decide +kernel
theorem dX11_ofRegret_3 : decode cX11_ofRegret 3 = .ok (.iconst 2, 1) := by decide +kernel
theorem dX11_ofRegret_4 : decode cX11_ofRegret 4 = .ok (.iload_n 0, 1) := by decide +kernel
theorem dX11_ofRegret_5 : decode cX11_ofRegret 5 = .ok (.imul, 1) := by decide +kernel
theorem dX11_ofRegret_6 : decode cX11_ofRegret 6 = .ok (.iadd, 1) := by decide +kernel
theorem dX11_ofRegret_7 : decode cX11_ofRegret 7 = .ok (.ireturn, 1) := by decide +kernel
theorem dX11_find_0 : decode cX11_find 0 = .ok (.iconst 0, 1) := by decide +kernel
theorem dX11_find_1 : decode cX11_find 1 = .ok (.istore_n 3, 1) := by decide +kernel
theorem dX11_find_2 : decode cX11_find 2 = .ok (.iload_n 3, 1) := by decide +kernel
theorem dX11_find_3 : decode cX11_find 3 = .ok (.aload_n 0, 1) := by decide +kernel
theorem dX11_find_4 : decode cX11_find 4 = .ok (.bipush 8, 2) := by decide +kernel
theorem dX11_find_6 : decode cX11_find 6 = .ok (.iaload, 1) := by decide +kernel
theorem dX11_find_7 : decode cX11_find 7 = .ok (.if_icmp .ge 35, 3) := by decide +kernel
theorem dX11_find_10 : decode cX11_find 10 = .ok (.aload_n 0, 1) := by decide +kernel
theorem dX11_find_11 : decode cX11_find 11 = .ok (.iload_n 3, 1) := by decide +kernel
theorem dX11_find_12 : decode cX11_find 12 = .ok (.invokestatic 69, 3) := by decide +kernel
theorem dX11_find_15 : decode cX11_find 15 = .ok (.iconst 0, 1) := by decide +kernel
theorem dX11_find_16 : decode cX11_find 16 = .ok (.iadd, 1) := by decide +kernel
theorem dX11_find_17 : decode cX11_find 17 = .ok (.iaload, 1) := by decide +kernel
theorem dX11_find_18 : decode cX11_find 18 = .ok (.iload_n 1, 1) := by decide +kernel
theorem dX11_find_19 : decode cX11_find 19 = .ok (.if_icmp .ne 17, 3) := by decide +kernel
theorem dX11_find_22 : decode cX11_find 22 = .ok (.aload_n 0, 1) := by decide +kernel
theorem dX11_find_23 : decode cX11_find 23 = .ok (.iload_n 3, 1) := by decide +kernel
theorem dX11_find_24 : decode cX11_find 24 = .ok (.invokestatic 69, 3) := by decide +kernel
theorem dX11_find_27 : decode cX11_find 27 = .ok (.iconst 1, 1) := by decide +kernel
theorem dX11_find_28 : decode cX11_find 28 = .ok (.iadd, 1) := by decide +kernel
theorem dX11_find_29 : decode cX11_find 29 = .ok (.iaload, 1) := by decide +kernel
theorem dX11_find_30 : decode cX11_find 30 = .ok (.iload_n 2, 1) := by decide +kernel
theorem dX11_find_31 : decode cX11_find 31 = .ok (.if_icmp .ne 5, 3) := by decide +kernel
theorem dX11_find_34 : decode cX11_find 34 = .ok (.iload_n 3, 1) := by decide +kernel
theorem dX11_find_35 : decode cX11_find 35 = .ok (.ireturn, 1) := by decide +kernel
theorem dX11_find_36 : decode cX11_find 36 = .ok (.iinc 3 1, 3) := by decide +kernel
theorem dX11_find_39 : decode cX11_find 39 = .ok (.goto (-37), 3) := by decide +kernel
theorem dX11_find_42 : decode cX11_find 42 = .ok (.iconst (-1), 1) := by decide +kernel
theorem dX11_find_43 : decode cX11_find 43 = .ok (.ireturn, 1) := by decide +kernel
theorem dX11_whyNotPrint_0 : decode cX11_whyNotPrint 0 = .ok (.iload_n 2, 1) := by decide +kernel
theorem dX11_whyNotPrint_1 : decode cX11_whyNotPrint 1 = .ok (.aload_n 0, 1) := by decide +kernel
theorem dX11_whyNotPrint_2 : decode cX11_whyNotPrint 2 = .ok (.iconst 5, 1) := by decide +kernel
theorem dX11_whyNotPrint_3 : decode cX11_whyNotPrint 3 = .ok (.iaload, 1) := by decide +kernel
theorem dX11_whyNotPrint_4 : decode cX11_whyNotPrint 4 = .ok (.if_icmp .le 13, 3) := by decide +kernel
theorem dX11_whyNotPrint_7 : decode cX11_whyNotPrint 7 = .ok (.iload_n 2, 1) := by decide +kernel
theorem dX11_whyNotPrint_8 : decode cX11_whyNotPrint 8 = .ok (.aload_n 0, 1) := by decide +kernel
theorem dX11_whyNotPrint_9 : decode cX11_whyNotPrint 9 = .ok (.iconst 5, 1) := by decide +kernel
theorem dX11_whyNotPrint_10 : decode cX11_whyNotPrint 10 = .ok (.iaload, 1) := by decide +kernel
theorem dX11_whyNotPrint_11 : decode cX11_whyNotPrint 11 = .ok (.bipush 30, 2) := by decide +kernel
theorem dX11_whyNotPrint_13 : decode cX11_whyNotPrint 13 = .ok (.iadd, 1) := by decide +kernel
theorem dX11_whyNotPrint_14 : decode cX11_whyNotPrint 14 = .ok (.if_icmp .le 5, 3) := by decide +kernel
theorem dX11_whyNotPrint_17 : decode cX11_whyNotPrint 17 = .ok (.iconst 1, 1) := by decide +kernel
theorem dX11_whyNotPrint_18 : decode cX11_whyNotPrint 18 = .ok (.ireturn, 1) := by decide +kernel
theorem dX11_whyNotPrint_19 : decode cX11_whyNotPrint 19 = .ok (.aload_n 0, 1) := by decide +kernel
theorem dX11_whyNotPrint_20 : decode cX11_whyNotPrint 20 = .ok (.iload_n 1, 1) := by decide +kernel
theorem dX11_whyNotPrint_21 : decode cX11_whyNotPrint 21 = .ok (.iload_n 2, 1) := by decide +kernel
theorem dX11_whyNotPrint_22 : decode cX11_whyNotPrint 22 = .ok (.invokestatic 73, 3) := by decide +kernel
theorem dX11_whyNotPrint_25 : decode cX11_whyNotPrint 25 = .ok (.iconst (-1), 1) := by decide +kernel
theorem dX11_whyNotPrint_26 : decode cX11_whyNotPrint 26 = .ok (.if_icmp .eq 5, 3) := by decide +kernel
theorem dX11_whyNotPrint_29 : decode cX11_whyNotPrint 29 = .ok (.iconst 2, 1) := by decide +kernel
theorem dX11_whyNotPrint_30 : decode cX11_whyNotPrint 30 = .ok (.ireturn, 1) := by decide +kernel
theorem dX11_whyNotPrint_31 : decode cX11_whyNotPrint 31 = .ok (.aload_n 0, 1) := by decide +kernel
theorem dX11_whyNotPrint_32 : decode cX11_whyNotPrint 32 = .ok (.bipush 8, 2) := by decide +kernel
theorem dX11_whyNotPrint_34 : decode cX11_whyNotPrint 34 = .ok (.iaload, 1) := by decide +kernel
theorem dX11_whyNotPrint_35 : decode cX11_whyNotPrint 35 = .ok (.bipush 30, 2) := by decide +kernel
theorem dX11_whyNotPrint_37 : decode cX11_whyNotPrint 37 = .ok (.if_icmp .ne 7, 3) := by decide +kernel
theorem dX11_whyNotPrint_40 : decode cX11_whyNotPrint 40 = .ok (.iconst 3, 1) := by decide +kernel
theorem dX11_whyNotPrint_41 : decode cX11_whyNotPrint 41 = .ok (.goto 4, 3) := by decide +kernel
theorem dX11_whyNotPrint_44 : decode cX11_whyNotPrint 44 = .ok (.iconst 0, 1) := by decide +kernel
theorem dX11_whyNotPrint_45 : decode cX11_whyNotPrint 45 = .ok (.ireturn, 1) := by decide +kernel
theorem dX11_prints_0 : decode cX11_prints 0 = .ok (.aload_n 0, 1) := by decide +kernel
theorem dX11_prints_1 : decode cX11_prints 1 = .ok (.bipush 8, 2) := by decide +kernel
theorem dX11_prints_3 : decode cX11_prints 3 = .ok (.iaload, 1) := by decide +kernel
theorem dX11_prints_4 : decode cX11_prints 4 = .ok (.invokestatic 69, 3) := by decide +kernel
theorem dX11_prints_7 : decode cX11_prints 7 = .ok (.istore 4, 2) := by decide +kernel
theorem dX11_prints_9 : decode cX11_prints 9 = .ok (.aload_n 0, 1) := by decide +kernel
theorem dX11_prints_10 : decode cX11_prints 10 = .ok (.iload 4, 2) := by decide +kernel
theorem dX11_prints_12 : decode cX11_prints 12 = .ok (.iconst 0, 1) := by decide +kernel
theorem dX11_prints_13 : decode cX11_prints 13 = .ok (.iadd, 1) := by decide +kernel
theorem dX11_prints_14 : decode cX11_prints 14 = .ok (.iload_n 1, 1) := by decide +kernel
theorem dX11_prints_15 : decode cX11_prints 15 = .ok (.iastore, 1) := by decide +kernel
theorem dX11_prints_16 : decode cX11_prints 16 = .ok (.aload_n 0, 1) := by decide +kernel
theorem dX11_prints_17 : decode cX11_prints 17 = .ok (.iload 4, 2) := by decide +kernel
theorem dX11_prints_19 : decode cX11_prints 19 = .ok (.iconst 1, 1) := by decide +kernel
theorem dX11_prints_20 : decode cX11_prints 20 = .ok (.iadd, 1) := by decide +kernel
theorem dX11_prints_21 : decode cX11_prints 21 = .ok (.iload_n 2, 1) := by decide +kernel
theorem dX11_prints_22 : decode cX11_prints 22 = .ok (.iastore, 1) := by decide +kernel
theorem dX11_prints_23 : decode cX11_prints 23 = .ok (.aload_n 0, 1) := by decide +kernel
theorem dX11_prints_24 : decode cX11_prints 24 = .ok (.iload 4, 2) := by decide +kernel
theorem dX11_prints_26 : decode cX11_prints 26 = .ok (.iconst 2, 1) := by decide +kernel
theorem dX11_prints_27 : decode cX11_prints 27 = .ok (.iadd, 1) := by decide +kernel
theorem dX11_prints_28 : decode cX11_prints 28 = .ok (.iload_n 3, 1) := by decide +kernel
theorem dX11_prints_29 : decode cX11_prints 29 = .ok (.iastore, 1) := by decide +kernel
theorem dX11_prints_30 : decode cX11_prints 30 = .ok (.aload_n 0, 1) := by decide +kernel
theorem dX11_prints_31 : decode cX11_prints 31 = .ok (.iload 4, 2) := by decide +kernel
theorem dX11_prints_33 : decode cX11_prints 33 = .ok (.iconst 3, 1) := by decide +kernel
theorem dX11_prints_34 : decode cX11_prints 34 = .ok (.iadd, 1) := by decide +kernel
theorem dX11_prints_35 : decode cX11_prints 35 = .ok (.iconst 0, 1) := by decide +kernel
theorem dX11_prints_36 : decode cX11_prints 36 = .ok (.iastore, 1) := by decide +kernel
theorem dX11_prints_37 : decode cX11_prints 37 = .ok (.aload_n 0, 1) := by decide +kernel
theorem dX11_prints_38 : decode cX11_prints 38 = .ok (.iload 4, 2) := by decide +kernel
theorem dX11_prints_40 : decode cX11_prints 40 = .ok (.iconst 4, 1) := by decide +kernel
theorem dX11_prints_41 : decode cX11_prints 41 = .ok (.iadd, 1) := by decide +kernel
theorem dX11_prints_42 : decode cX11_prints 42 = .ok (.iconst 0, 1) := by decide +kernel
theorem dX11_prints_43 : decode cX11_prints 43 = .ok (.iastore, 1) := by decide +kernel
theorem dX11_prints_44 : decode cX11_prints 44 = .ok (.aload_n 0, 1) := by decide +kernel
theorem dX11_prints_45 : decode cX11_prints 45 = .ok (.bipush 8, 2) := by decide +kernel
theorem dX11_prints_47 : decode cX11_prints 47 = .ok (.dup2, 1) := by decide +kernel
theorem dX11_prints_48 : decode cX11_prints 48 = .ok (.iaload, 1) := by decide +kernel
theorem dX11_prints_49 : decode cX11_prints 49 = .ok (.iconst 1, 1) := by decide +kernel
theorem dX11_prints_50 : decode cX11_prints 50 = .ok (.iadd, 1) := by decide +kernel
theorem dX11_prints_51 : decode cX11_prints 51 = .ok (.iastore, 1) := by decide +kernel
theorem dX11_prints_52 : decode cX11_prints 52 = .ok (.aload_n 0, 1) := by decide +kernel
theorem dX11_prints_53 : decode cX11_prints 53 = .ok (.bipush 8, 2) := by decide +kernel
theorem dX11_prints_55 : decode cX11_prints 55 = .ok (.iaload, 1) := by decide +kernel
theorem dX11_prints_56 : decode cX11_prints 56 = .ok (.iconst 1, 1) := by decide +kernel
theorem dX11_prints_57 : decode cX11_prints 57 = .ok (.isub, 1) := by decide +kernel
theorem dX11_prints_58 : decode cX11_prints 58 = .ok (.iconst 4, 1) := by decide +kernel
theorem dX11_prints_59 : decode cX11_prints 59 = .ok (.idiv, 1) := by decide +kernel
theorem dX11_prints_60 : decode cX11_prints 60 = .ok (.ireturn, 1) := by decide +kernel
theorem dX11_dropForecast_0 : decode cX11_dropForecast 0 = .ok (.aload_n 0, 1) := by decide +kernel
theorem dX11_dropForecast_1 : decode cX11_dropForecast 1 = .ok (.bipush 14, 2) := by decide +kernel
theorem dX11_dropForecast_3 : decode cX11_dropForecast 3 = .ok (.dup2, 1) := by decide +kernel
theorem dX11_dropForecast_4 : decode cX11_dropForecast 4 = .ok (.iaload, 1) := by decide +kernel
theorem dX11_dropForecast_5 : decode cX11_dropForecast 5 = .ok (.aload_n 0, 1) := by decide +kernel
theorem dX11_dropForecast_6 : decode cX11_dropForecast 6 = .ok (.iload_n 1, 1) := by decide +kernel
theorem dX11_dropForecast_7 : decode cX11_dropForecast 7 = .ok (.invokestatic 69, 3) := by decide +kernel
theorem dX11_dropForecast_10 : decode cX11_dropForecast 10 = .ok (.iconst 3, 1) := by decide +kernel
theorem dX11_dropForecast_11 : decode cX11_dropForecast 11 = .ok (.iadd, 1) := by decide +kernel
theorem dX11_dropForecast_12 : decode cX11_dropForecast 12 = .ok (.iaload, 1) := by decide +kernel
theorem dX11_dropForecast_13 : decode cX11_dropForecast 13 = .ok (.iadd, 1) := by decide +kernel
theorem dX11_dropForecast_14 : decode cX11_dropForecast 14 = .ok (.iastore, 1) := by decide +kernel
theorem dX11_dropForecast_15 : decode cX11_dropForecast 15 = .ok (.aload_n 0, 1) := by decide +kernel
theorem dX11_dropForecast_16 : decode cX11_dropForecast 16 = .ok (.bipush 8, 2) := by decide +kernel
theorem dX11_dropForecast_18 : decode cX11_dropForecast 18 = .ok (.dup2, 1) := by decide +kernel
theorem dX11_dropForecast_19 : decode cX11_dropForecast 19 = .ok (.iaload, 1) := by decide +kernel
theorem dX11_dropForecast_20 : decode cX11_dropForecast 20 = .ok (.iconst 1, 1) := by decide +kernel
theorem dX11_dropForecast_21 : decode cX11_dropForecast 21 = .ok (.isub, 1) := by decide +kernel
theorem dX11_dropForecast_22 : decode cX11_dropForecast 22 = .ok (.iastore, 1) := by decide +kernel
theorem dX11_dropForecast_23 : decode cX11_dropForecast 23 = .ok (.iload_n 1, 1) := by decide +kernel
theorem dX11_dropForecast_24 : decode cX11_dropForecast 24 = .ok (.invokestatic 69, 3) := by decide +kernel
theorem dX11_dropForecast_27 : decode cX11_dropForecast 27 = .ok (.istore_n 2, 1) := by decide +kernel
theorem dX11_dropForecast_28 : decode cX11_dropForecast 28 = .ok (.iload_n 2, 1) := by decide +kernel
theorem dX11_dropForecast_29 : decode cX11_dropForecast 29 = .ok (.aload_n 0, 1) := by decide +kernel
theorem dX11_dropForecast_30 : decode cX11_dropForecast 30 = .ok (.bipush 8, 2) := by decide +kernel
theorem dX11_dropForecast_32 : decode cX11_dropForecast 32 = .ok (.iaload, 1) := by decide +kernel
theorem dX11_dropForecast_33 : decode cX11_dropForecast 33 = .ok (.invokestatic 69, 3) := by decide +kernel
theorem dX11_dropForecast_36 : decode cX11_dropForecast 36 = .ok (.if_icmp .ge 17, 3) := by decide +kernel
theorem dX11_dropForecast_39 : decode cX11_dropForecast 39 = .ok (.aload_n 0, 1) := by decide +kernel
theorem dX11_dropForecast_40 : decode cX11_dropForecast 40 = .ok (.iload_n 2, 1) := by decide +kernel
theorem dX11_dropForecast_41 : decode cX11_dropForecast 41 = .ok (.aload_n 0, 1) := by decide +kernel
theorem dX11_dropForecast_42 : decode cX11_dropForecast 42 = .ok (.iload_n 2, 1) := by decide +kernel
theorem dX11_dropForecast_43 : decode cX11_dropForecast 43 = .ok (.iconst 5, 1) := by decide +kernel
theorem dX11_dropForecast_44 : decode cX11_dropForecast 44 = .ok (.iadd, 1) := by decide +kernel
theorem dX11_dropForecast_45 : decode cX11_dropForecast 45 = .ok (.iaload, 1) := by decide +kernel
theorem dX11_dropForecast_46 : decode cX11_dropForecast 46 = .ok (.iastore, 1) := by decide +kernel
theorem dX11_dropForecast_47 : decode cX11_dropForecast 47 = .ok (.iinc 2 1, 3) := by decide +kernel
theorem dX11_dropForecast_50 : decode cX11_dropForecast 50 = .ok (.goto (-22), 3) := by decide +kernel
theorem dX11_dropForecast_53 : decode cX11_dropForecast 53 = .ok (.return_, 1) := by decide +kernel
theorem dX11_pages_0 : decode cX11_pages 0 = .ok (.aload_n 0, 1) := by decide +kernel
theorem dX11_pages_1 : decode cX11_pages 1 = .ok (.bipush 8, 2) := by decide +kernel
theorem dX11_pages_3 : decode cX11_pages 3 = .ok (.iaload, 1) := by decide +kernel
theorem dX11_pages_4 : decode cX11_pages 4 = .ok (.iconst 4, 1) := by decide +kernel
theorem dX11_pages_5 : decode cX11_pages 5 = .ok (.iadd, 1) := by decide +kernel
theorem dX11_pages_6 : decode cX11_pages 6 = .ok (.iconst 1, 1) := by decide +kernel
theorem dX11_pages_7 : decode cX11_pages 7 = .ok (.isub, 1) := by decide +kernel
theorem dX11_pages_8 : decode cX11_pages 8 = .ok (.iconst 4, 1) := by decide +kernel
theorem dX11_pages_9 : decode cX11_pages 9 = .ok (.idiv, 1) := by decide +kernel
theorem dX11_pages_10 : decode cX11_pages 10 = .ok (.ireturn, 1) := by decide +kernel
theorem dX11_pageEnd_0 : decode cX11_pageEnd 0 = .ok (.iconst 4, 1) := by decide +kernel
theorem dX11_pageEnd_1 : decode cX11_pageEnd 1 = .ok (.iload_n 1, 1) := by decide +kernel
theorem dX11_pageEnd_2 : decode cX11_pageEnd 2 = .ok (.imul, 1) := by decide +kernel
theorem dX11_pageEnd_3 : decode cX11_pageEnd 3 = .ok (.iconst 4, 1) := by decide +kernel
theorem dX11_pageEnd_4 : decode cX11_pageEnd 4 = .ok (.iadd, 1) := by decide +kernel
theorem dX11_pageEnd_5 : decode cX11_pageEnd 5 = .ok (.istore_n 2, 1) := by decide +kernel
theorem dX11_pageEnd_6 : decode cX11_pageEnd 6 = .ok (.iload_n 2, 1) := by decide +kernel
theorem dX11_pageEnd_7 : decode cX11_pageEnd 7 = .ok (.aload_n 0, 1) := by decide +kernel
theorem dX11_pageEnd_8 : decode cX11_pageEnd 8 = .ok (.bipush 8, 2) := by decide +kernel
theorem dX11_pageEnd_10 : decode cX11_pageEnd 10 = .ok (.iaload, 1) := by decide +kernel
theorem dX11_pageEnd_11 : decode cX11_pageEnd 11 = .ok (.if_icmp .ge 7, 3) := by decide +kernel
theorem dX11_pageEnd_14 : decode cX11_pageEnd 14 = .ok (.iload_n 2, 1) := by decide +kernel
theorem dX11_pageEnd_15 : decode cX11_pageEnd 15 = .ok (.goto 7, 3) := by decide +kernel
theorem dX11_pageEnd_18 : decode cX11_pageEnd 18 = .ok (.aload_n 0, 1) := by decide +kernel
theorem dX11_pageEnd_19 : decode cX11_pageEnd 19 = .ok (.bipush 8, 2) := by decide +kernel
theorem dX11_pageEnd_21 : decode cX11_pageEnd 21 = .ok (.iaload, 1) := by decide +kernel
theorem dX11_pageEnd_22 : decode cX11_pageEnd 22 = .ok (.ireturn, 1) := by decide +kernel
theorem dX11_refund_0 : decode cX11_refund 0 = .ok (.iconst 0, 1) := by decide +kernel
theorem dX11_refund_1 : decode cX11_refund 1 = .ok (.istore_n 2, 1) := by decide +kernel
theorem dX11_refund_2 : decode cX11_refund 2 = .ok (.iconst 4, 1) := by decide +kernel
theorem dX11_refund_3 : decode cX11_refund 3 = .ok (.iload_n 1, 1) := by decide +kernel
theorem dX11_refund_4 : decode cX11_refund 4 = .ok (.imul, 1) := by decide +kernel
theorem dX11_refund_5 : decode cX11_refund 5 = .ok (.istore_n 3, 1) := by decide +kernel
theorem dX11_refund_6 : decode cX11_refund 6 = .ok (.iload_n 3, 1) := by decide +kernel
theorem dX11_refund_7 : decode cX11_refund 7 = .ok (.aload_n 0, 1) := by decide +kernel
theorem dX11_refund_8 : decode cX11_refund 8 = .ok (.iload_n 1, 1) := by decide +kernel
theorem dX11_refund_9 : decode cX11_refund 9 = .ok (.invokestatic 77, 3) := by decide +kernel
theorem dX11_refund_12 : decode cX11_refund 12 = .ok (.if_icmp .ge 20, 3) := by decide +kernel
theorem dX11_refund_15 : decode cX11_refund 15 = .ok (.iload_n 2, 1) := by decide +kernel
theorem dX11_refund_16 : decode cX11_refund 16 = .ok (.aload_n 0, 1) := by decide +kernel
theorem dX11_refund_17 : decode cX11_refund 17 = .ok (.iload_n 3, 1) := by decide +kernel
theorem dX11_refund_18 : decode cX11_refund 18 = .ok (.invokestatic 69, 3) := by decide +kernel
theorem dX11_refund_21 : decode cX11_refund 21 = .ok (.iconst 4, 1) := by decide +kernel
theorem dX11_refund_22 : decode cX11_refund 22 = .ok (.iadd, 1) := by decide +kernel
theorem dX11_refund_23 : decode cX11_refund 23 = .ok (.iaload, 1) := by decide +kernel
theorem dX11_refund_24 : decode cX11_refund 24 = .ok (.iadd, 1) := by decide +kernel
theorem dX11_refund_25 : decode cX11_refund 25 = .ok (.istore_n 2, 1) := by decide +kernel
theorem dX11_refund_26 : decode cX11_refund 26 = .ok (.iinc 3 1, 3) := by decide +kernel
theorem dX11_refund_29 : decode cX11_refund 29 = .ok (.goto (-23), 3) := by decide +kernel
theorem dX11_refund_32 : decode cX11_refund 32 = .ok (.iload_n 2, 1) := by decide +kernel
theorem dX11_refund_33 : decode cX11_refund 33 = .ok (.ireturn, 1) := by decide +kernel
theorem dX11_addTrust_0 : decode cX11_addTrust 0 = .ok (.iload_n 1, 1) := by decide +kernel
theorem dX11_addTrust_1 : decode cX11_addTrust 1 = .ok (.invokestatic 81, 3) := by decide +kernel
theorem dX11_addTrust_4 : decode cX11_addTrust 4 = .ok (.iconst 2, 1) := by decide +kernel
theorem dX11_addTrust_5 : decode cX11_addTrust 5 = .ok (.iadd, 1) := by decide +kernel
theorem dX11_addTrust_6 : decode cX11_addTrust 6 = .ok (.istore_n 3, 1) := by decide +kernel
theorem dX11_addTrust_7 : decode cX11_addTrust 7 = .ok (.aload_n 0, 1) := by decide +kernel
theorem dX11_addTrust_8 : decode cX11_addTrust 8 = .ok (.iload_n 3, 1) := by decide +kernel
theorem dX11_addTrust_9 : decode cX11_addTrust 9 = .ok (.iaload, 1) := by decide +kernel
theorem dX11_addTrust_10 : decode cX11_addTrust 10 = .ok (.iload_n 2, 1) := by decide +kernel
theorem dX11_addTrust_11 : decode cX11_addTrust 11 = .ok (.iadd, 1) := by decide +kernel
theorem dX11_addTrust_12 : decode cX11_addTrust 12 = .ok (.istore 4, 2) := by decide +kernel
theorem dX11_addTrust_14 : decode cX11_addTrust 14 = .ok (.iload 4, 2) := by decide +kernel
theorem dX11_addTrust_16 : decode cX11_addTrust 16 = .ok (.ifCond .ge 6, 3) := by decide +kernel
theorem dX11_addTrust_19 : decode cX11_addTrust 19 = .ok (.iconst 0, 1) := by decide +kernel
theorem dX11_addTrust_20 : decode cX11_addTrust 20 = .ok (.istore 4, 2) := by decide +kernel
theorem dX11_addTrust_22 : decode cX11_addTrust 22 = .ok (.iload 4, 2) := by decide +kernel
theorem dX11_addTrust_24 : decode cX11_addTrust 24 = .ok (.bipush 100, 2) := by decide +kernel
theorem dX11_addTrust_26 : decode cX11_addTrust 26 = .ok (.if_icmp .le 7, 3) := by decide +kernel
theorem dX11_addTrust_29 : decode cX11_addTrust 29 = .ok (.bipush 100, 2) := by decide +kernel
theorem dX11_addTrust_31 : decode cX11_addTrust 31 = .ok (.istore 4, 2) := by decide +kernel
theorem dX11_addTrust_33 : decode cX11_addTrust 33 = .ok (.aload_n 0, 1) := by decide +kernel
theorem dX11_addTrust_34 : decode cX11_addTrust 34 = .ok (.iload_n 3, 1) := by decide +kernel
theorem dX11_addTrust_35 : decode cX11_addTrust 35 = .ok (.iload 4, 2) := by decide +kernel
theorem dX11_addTrust_37 : decode cX11_addTrust 37 = .ok (.iastore, 1) := by decide +kernel
theorem dX11_addTrust_38 : decode cX11_addTrust 38 = .ok (.return_, 1) := by decide +kernel
theorem dX11_payBack_0 : decode cX11_payBack 0 = .ok (.aload_n 0, 1) := by decide +kernel
theorem dX11_payBack_1 : decode cX11_payBack 1 = .ok (.iconst 4, 1) := by decide +kernel
theorem dX11_payBack_2 : decode cX11_payBack 2 = .ok (.dup2, 1) := by decide +kernel
theorem dX11_payBack_3 : decode cX11_payBack 3 = .ok (.iaload, 1) := by decide +kernel
theorem dX11_payBack_4 : decode cX11_payBack 4 = .ok (.iload_n 1, 1) := by decide +kernel
theorem dX11_payBack_5 : decode cX11_payBack 5 = .ok (.isub, 1) := by decide +kernel
theorem dX11_payBack_6 : decode cX11_payBack 6 = .ok (.iastore, 1) := by decide +kernel
theorem dX11_payBack_7 : decode cX11_payBack 7 = .ok (.aload_n 0, 1) := by decide +kernel
theorem dX11_payBack_8 : decode cX11_payBack 8 = .ok (.bipush 16, 2) := by decide +kernel
theorem dX11_payBack_10 : decode cX11_payBack 10 = .ok (.dup2, 1) := by decide +kernel
theorem dX11_payBack_11 : decode cX11_payBack 11 = .ok (.iaload, 1) := by decide +kernel
theorem dX11_payBack_12 : decode cX11_payBack 12 = .ok (.iload_n 1, 1) := by decide +kernel
theorem dX11_payBack_13 : decode cX11_payBack 13 = .ok (.iadd, 1) := by decide +kernel
theorem dX11_payBack_14 : decode cX11_payBack 14 = .ok (.iastore, 1) := by decide +kernel
theorem dX11_payBack_15 : decode cX11_payBack 15 = .ok (.return_, 1) := by decide +kernel
theorem dX11_retracts_0 : decode cX11_retracts 0 = .ok (.aload_n 0, 1) := by decide +kernel
theorem dX11_retracts_1 : decode cX11_retracts 1 = .ok (.iload_n 1, 1) := by decide +kernel
theorem dX11_retracts_2 : decode cX11_retracts 2 = .ok (.invokestatic 84, 3) := by decide +kernel
theorem dX11_retracts_5 : decode cX11_retracts 5 = .ok (.istore_n 2, 1) := by decide +kernel
theorem dX11_retracts_6 : decode cX11_retracts 6 = .ok (.aload_n 0, 1) := by decide +kernel
theorem dX11_retracts_7 : decode cX11_retracts 7 = .ok (.iload_n 2, 1) := by decide +kernel
theorem dX11_retracts_8 : decode cX11_retracts 8 = .ok (.invokestatic 87, 3) := by decide +kernel
theorem dX11_retracts_11 : decode cX11_retracts 11 = .ok (.aload_n 0, 1) := by decide +kernel
theorem dX11_retracts_12 : decode cX11_retracts 12 = .ok (.iload_n 1, 1) := by decide +kernel
theorem dX11_retracts_13 : decode cX11_retracts 13 = .ok (.invokestatic 77, 3) := by decide +kernel
theorem dX11_retracts_16 : decode cX11_retracts 16 = .ok (.iconst 1, 1) := by decide +kernel
theorem dX11_retracts_17 : decode cX11_retracts 17 = .ok (.isub, 1) := by decide +kernel
theorem dX11_retracts_18 : decode cX11_retracts 18 = .ok (.istore_n 3, 1) := by decide +kernel
theorem dX11_retracts_19 : decode cX11_retracts 19 = .ok (.iload_n 3, 1) := by decide +kernel
theorem dX11_retracts_20 : decode cX11_retracts 20 = .ok (.iconst 4, 1) := by decide +kernel
theorem dX11_retracts_21 : decode cX11_retracts 21 = .ok (.iload_n 1, 1) := by decide +kernel
theorem dX11_retracts_22 : decode cX11_retracts 22 = .ok (.imul, 1) := by decide +kernel
theorem dX11_retracts_23 : decode cX11_retracts 23 = .ok (.if_icmp .lt 36, 3) := by decide +kernel
theorem dX11_retracts_26 : decode cX11_retracts 26 = .ok (.aload_n 0, 1) := by decide +kernel
theorem dX11_retracts_27 : decode cX11_retracts 27 = .ok (.aload_n 0, 1) := by decide +kernel
theorem dX11_retracts_28 : decode cX11_retracts 28 = .ok (.iload_n 3, 1) := by decide +kernel
theorem dX11_retracts_29 : decode cX11_retracts 29 = .ok (.invokestatic 69, 3) := by decide +kernel
theorem dX11_retracts_32 : decode cX11_retracts 32 = .ok (.iconst 0, 1) := by decide +kernel
theorem dX11_retracts_33 : decode cX11_retracts 33 = .ok (.iadd, 1) := by decide +kernel
theorem dX11_retracts_34 : decode cX11_retracts 34 = .ok (.iaload, 1) := by decide +kernel
theorem dX11_retracts_35 : decode cX11_retracts 35 = .ok (.bipush (-5), 2) := by decide +kernel
theorem dX11_retracts_37 : decode cX11_retracts 37 = .ok (.invokestatic 91, 3) := by decide +kernel
theorem dX11_retracts_40 : decode cX11_retracts 40 = .ok (.aload_n 0, 1) := by decide +kernel
theorem dX11_retracts_41 : decode cX11_retracts 41 = .ok (.bipush 12, 2) := by decide +kernel
theorem dX11_retracts_43 : decode cX11_retracts 43 = .ok (.dup2, 1) := by decide +kernel
theorem dX11_retracts_44 : decode cX11_retracts 44 = .ok (.iaload, 1) := by decide +kernel
theorem dX11_retracts_45 : decode cX11_retracts 45 = .ok (.iconst 1, 1) := by decide +kernel
theorem dX11_retracts_46 : decode cX11_retracts 46 = .ok (.iadd, 1) := by decide +kernel
theorem dX11_retracts_47 : decode cX11_retracts 47 = .ok (.iastore, 1) := by decide +kernel
theorem dX11_retracts_48 : decode cX11_retracts 48 = .ok (.aload_n 0, 1) := by decide +kernel
theorem dX11_retracts_49 : decode cX11_retracts 49 = .ok (.iload_n 3, 1) := by decide +kernel
theorem dX11_retracts_50 : decode cX11_retracts 50 = .ok (.invokestatic 95, 3) := by decide +kernel
theorem dX11_retracts_53 : decode cX11_retracts 53 = .ok (.iinc 3 (-1), 3) := by decide +kernel
theorem dX11_retracts_56 : decode cX11_retracts 56 = .ok (.goto (-37), 3) := by decide +kernel
theorem dX11_retracts_59 : decode cX11_retracts 59 = .ok (.iload_n 2, 1) := by decide +kernel
theorem dX11_retracts_60 : decode cX11_retracts 60 = .ok (.ireturn, 1) := by decide +kernel
theorem dX11_isHeld_0 : decode cX11_isHeld 0 = .ok (.iload_n 2, 1) := by decide +kernel
theorem dX11_isHeld_1 : decode cX11_isHeld 1 = .ok (.iload_n 1, 1) := by decide +kernel
theorem dX11_isHeld_2 : decode cX11_isHeld 2 = .ok (.iadd, 1) := by decide +kernel
theorem dX11_isHeld_3 : decode cX11_isHeld 3 = .ok (.aload_n 0, 1) := by decide +kernel
theorem dX11_isHeld_4 : decode cX11_isHeld 4 = .ok (.iload_n 1, 1) := by decide +kernel
theorem dX11_isHeld_5 : decode cX11_isHeld 5 = .ok (.invokestatic 98, 3) := by decide +kernel
theorem dX11_isHeld_8 : decode cX11_isHeld 8 = .ok (.iconst 2, 1) := by decide +kernel
theorem dX11_isHeld_9 : decode cX11_isHeld 9 = .ok (.iadd, 1) := by decide +kernel
theorem dX11_isHeld_10 : decode cX11_isHeld 10 = .ok (.iaload, 1) := by decide +kernel
theorem dX11_isHeld_11 : decode cX11_isHeld 11 = .ok (.irem, 1) := by decide +kernel
theorem dX11_isHeld_12 : decode cX11_isHeld 12 = .ok (.ifCond .ne 7, 3) := by decide +kernel
theorem dX11_isHeld_15 : decode cX11_isHeld 15 = .ok (.iconst 1, 1) := by decide +kernel
theorem dX11_isHeld_16 : decode cX11_isHeld 16 = .ok (.goto 4, 3) := by decide +kernel
theorem dX11_isHeld_19 : decode cX11_isHeld 19 = .ok (.iconst 0, 1) := by decide +kernel
theorem dX11_isHeld_20 : decode cX11_isHeld 20 = .ok (.ireturn, 1) := by decide +kernel
theorem dX11_sell_0 : decode cX11_sell 0 = .ok (.iload_n 1, 1) := by decide +kernel
theorem dX11_sell_1 : decode cX11_sell 1 = .ok (.invokestatic 69, 3) := by decide +kernel
theorem dX11_sell_4 : decode cX11_sell 4 = .ok (.istore 4, 2) := by decide +kernel
theorem dX11_sell_6 : decode cX11_sell 6 = .ok (.aload_n 0, 1) := by decide +kernel
theorem dX11_sell_7 : decode cX11_sell 7 = .ok (.iload 4, 2) := by decide +kernel
theorem dX11_sell_9 : decode cX11_sell 9 = .ok (.iconst 3, 1) := by decide +kernel
theorem dX11_sell_10 : decode cX11_sell 10 = .ok (.iadd, 1) := by decide +kernel
theorem dX11_sell_11 : decode cX11_sell 11 = .ok (.dup2, 1) := by decide +kernel
theorem dX11_sell_12 : decode cX11_sell 12 = .ok (.iaload, 1) := by decide +kernel
theorem dX11_sell_13 : decode cX11_sell 13 = .ok (.iload_n 2, 1) := by decide +kernel
theorem dX11_sell_14 : decode cX11_sell 14 = .ok (.iadd, 1) := by decide +kernel
theorem dX11_sell_15 : decode cX11_sell 15 = .ok (.iastore, 1) := by decide +kernel
theorem dX11_sell_16 : decode cX11_sell 16 = .ok (.aload_n 0, 1) := by decide +kernel
theorem dX11_sell_17 : decode cX11_sell 17 = .ok (.iload 4, 2) := by decide +kernel
theorem dX11_sell_19 : decode cX11_sell 19 = .ok (.iconst 4, 1) := by decide +kernel
theorem dX11_sell_20 : decode cX11_sell 20 = .ok (.iadd, 1) := by decide +kernel
theorem dX11_sell_21 : decode cX11_sell 21 = .ok (.dup2, 1) := by decide +kernel
theorem dX11_sell_22 : decode cX11_sell 22 = .ok (.iaload, 1) := by decide +kernel
theorem dX11_sell_23 : decode cX11_sell 23 = .ok (.iload_n 2, 1) := by decide +kernel
theorem dX11_sell_24 : decode cX11_sell 24 = .ok (.iload_n 3, 1) := by decide +kernel
theorem dX11_sell_25 : decode cX11_sell 25 = .ok (.imul, 1) := by decide +kernel
theorem dX11_sell_26 : decode cX11_sell 26 = .ok (.iadd, 1) := by decide +kernel
theorem dX11_sell_27 : decode cX11_sell 27 = .ok (.iastore, 1) := by decide +kernel
theorem dX11_sell_28 : decode cX11_sell 28 = .ok (.aload_n 0, 1) := by decide +kernel
theorem dX11_sell_29 : decode cX11_sell 29 = .ok (.bipush 13, 2) := by decide +kernel
theorem dX11_sell_31 : decode cX11_sell 31 = .ok (.dup2, 1) := by decide +kernel
theorem dX11_sell_32 : decode cX11_sell 32 = .ok (.iaload, 1) := by decide +kernel
theorem dX11_sell_33 : decode cX11_sell 33 = .ok (.iload_n 2, 1) := by decide +kernel
theorem dX11_sell_34 : decode cX11_sell 34 = .ok (.iadd, 1) := by decide +kernel
theorem dX11_sell_35 : decode cX11_sell 35 = .ok (.iastore, 1) := by decide +kernel
theorem dX11_sell_36 : decode cX11_sell 36 = .ok (.aload_n 0, 1) := by decide +kernel
theorem dX11_sell_37 : decode cX11_sell 37 = .ok (.bipush 15, 2) := by decide +kernel
theorem dX11_sell_39 : decode cX11_sell 39 = .ok (.dup2, 1) := by decide +kernel
theorem dX11_sell_40 : decode cX11_sell 40 = .ok (.iaload, 1) := by decide +kernel
theorem dX11_sell_41 : decode cX11_sell 41 = .ok (.iload_n 2, 1) := by decide +kernel
theorem dX11_sell_42 : decode cX11_sell 42 = .ok (.iload_n 3, 1) := by decide +kernel
theorem dX11_sell_43 : decode cX11_sell 43 = .ok (.imul, 1) := by decide +kernel
theorem dX11_sell_44 : decode cX11_sell 44 = .ok (.iadd, 1) := by decide +kernel
theorem dX11_sell_45 : decode cX11_sell 45 = .ok (.iastore, 1) := by decide +kernel
theorem dX11_sell_46 : decode cX11_sell 46 = .ok (.aload_n 0, 1) := by decide +kernel
theorem dX11_sell_47 : decode cX11_sell 47 = .ok (.iconst 4, 1) := by decide +kernel
theorem dX11_sell_48 : decode cX11_sell 48 = .ok (.dup2, 1) := by decide +kernel
theorem dX11_sell_49 : decode cX11_sell 49 = .ok (.iaload, 1) := by decide +kernel
theorem dX11_sell_50 : decode cX11_sell 50 = .ok (.iload_n 2, 1) := by decide +kernel
theorem dX11_sell_51 : decode cX11_sell 51 = .ok (.iload_n 3, 1) := by decide +kernel
theorem dX11_sell_52 : decode cX11_sell 52 = .ok (.imul, 1) := by decide +kernel
theorem dX11_sell_53 : decode cX11_sell 53 = .ok (.iadd, 1) := by decide +kernel
theorem dX11_sell_54 : decode cX11_sell 54 = .ok (.iastore, 1) := by decide +kernel
theorem dX11_sell_55 : decode cX11_sell 55 = .ok (.return_, 1) := by decide +kernel
theorem dX11_wanted_0 : decode cX11_wanted 0 = .ok (.aload_n 0, 1) := by decide +kernel
theorem dX11_wanted_1 : decode cX11_wanted 1 = .ok (.iload_n 1, 1) := by decide +kernel
theorem dX11_wanted_2 : decode cX11_wanted 2 = .ok (.invokestatic 69, 3) := by decide +kernel
theorem dX11_wanted_5 : decode cX11_wanted 5 = .ok (.iconst 0, 1) := by decide +kernel
theorem dX11_wanted_6 : decode cX11_wanted 6 = .ok (.iadd, 1) := by decide +kernel
theorem dX11_wanted_7 : decode cX11_wanted 7 = .ok (.iaload, 1) := by decide +kernel
theorem dX11_wanted_8 : decode cX11_wanted 8 = .ok (.invokestatic 81, 3) := by decide +kernel
theorem dX11_wanted_11 : decode cX11_wanted 11 = .ok (.istore_n 2, 1) := by decide +kernel
theorem dX11_wanted_12 : decode cX11_wanted 12 = .ok (.aload_n 0, 1) := by decide +kernel
theorem dX11_wanted_13 : decode cX11_wanted 13 = .ok (.iload_n 2, 1) := by decide +kernel
theorem dX11_wanted_14 : decode cX11_wanted 14 = .ok (.iconst 1, 1) := by decide +kernel
theorem dX11_wanted_15 : decode cX11_wanted 15 = .ok (.iadd, 1) := by decide +kernel
theorem dX11_wanted_16 : decode cX11_wanted 16 = .ok (.iaload, 1) := by decide +kernel
theorem dX11_wanted_17 : decode cX11_wanted 17 = .ok (.aload_n 0, 1) := by decide +kernel
theorem dX11_wanted_18 : decode cX11_wanted 18 = .ok (.iload_n 1, 1) := by decide +kernel
theorem dX11_wanted_19 : decode cX11_wanted 19 = .ok (.invokestatic 69, 3) := by decide +kernel
theorem dX11_wanted_22 : decode cX11_wanted 22 = .ok (.iconst 3, 1) := by decide +kernel
theorem dX11_wanted_23 : decode cX11_wanted 23 = .ok (.iadd, 1) := by decide +kernel
theorem dX11_wanted_24 : decode cX11_wanted 24 = .ok (.iaload, 1) := by decide +kernel
theorem dX11_wanted_25 : decode cX11_wanted 25 = .ok (.isub, 1) := by decide +kernel
theorem dX11_wanted_26 : decode cX11_wanted 26 = .ok (.istore_n 3, 1) := by decide +kernel
theorem dX11_wanted_27 : decode cX11_wanted 27 = .ok (.iload_n 3, 1) := by decide +kernel
theorem dX11_wanted_28 : decode cX11_wanted 28 = .ok (.ifCond .le 16, 3) := by decide +kernel
theorem dX11_wanted_31 : decode cX11_wanted 31 = .ok (.iload_n 3, 1) := by decide +kernel
theorem dX11_wanted_32 : decode cX11_wanted 32 = .ok (.aload_n 0, 1) := by decide +kernel
theorem dX11_wanted_33 : decode cX11_wanted 33 = .ok (.iload_n 2, 1) := by decide +kernel
theorem dX11_wanted_34 : decode cX11_wanted 34 = .ok (.iconst 2, 1) := by decide +kernel
theorem dX11_wanted_35 : decode cX11_wanted 35 = .ok (.iadd, 1) := by decide +kernel
theorem dX11_wanted_36 : decode cX11_wanted 36 = .ok (.iaload, 1) := by decide +kernel
theorem dX11_wanted_37 : decode cX11_wanted 37 = .ok (.imul, 1) := by decide +kernel
theorem dX11_wanted_38 : decode cX11_wanted 38 = .ok (.bipush 100, 2) := by decide +kernel
theorem dX11_wanted_40 : decode cX11_wanted 40 = .ok (.idiv, 1) := by decide +kernel
theorem dX11_wanted_41 : decode cX11_wanted 41 = .ok (.goto 4, 3) := by decide +kernel
theorem dX11_wanted_44 : decode cX11_wanted 44 = .ok (.iconst 0, 1) := by decide +kernel
theorem dX11_wanted_45 : decode cX11_wanted 45 = .ok (.ireturn, 1) := by decide +kernel
theorem dX11_holdFair_0 : decode cX11_holdFair 0 = .ok (.iload_n 1, 1) := by decide +kernel
theorem dX11_holdFair_1 : decode cX11_holdFair 1 = .ok (.invokestatic 98, 3) := by decide +kernel
theorem dX11_holdFair_4 : decode cX11_holdFair 4 = .ok (.istore_n 2, 1) := by decide +kernel
theorem dX11_holdFair_5 : decode cX11_holdFair 5 = .ok (.aload_n 0, 1) := by decide +kernel
theorem dX11_holdFair_6 : decode cX11_holdFair 6 = .ok (.iload_n 2, 1) := by decide +kernel
theorem dX11_holdFair_7 : decode cX11_holdFair 7 = .ok (.iconst 3, 1) := by decide +kernel
theorem dX11_holdFair_8 : decode cX11_holdFair 8 = .ok (.iadd, 1) := by decide +kernel
theorem dX11_holdFair_9 : decode cX11_holdFair 9 = .ok (.iaload, 1) := by decide +kernel
theorem dX11_holdFair_10 : decode cX11_holdFair 10 = .ok (.istore_n 3, 1) := by decide +kernel
theorem dX11_holdFair_11 : decode cX11_holdFair 11 = .ok (.iconst 0, 1) := by decide +kernel
theorem dX11_holdFair_12 : decode cX11_holdFair 12 = .ok (.istore 4, 2) := by decide +kernel
theorem dX11_holdFair_14 : decode cX11_holdFair 14 = .ok (.iload 4, 2) := by decide +kernel
theorem dX11_holdFair_16 : decode cX11_holdFair 16 = .ok (.aload_n 0, 1) := by decide +kernel
theorem dX11_holdFair_17 : decode cX11_holdFair 17 = .ok (.bipush 8, 2) := by decide +kernel
theorem dX11_holdFair_19 : decode cX11_holdFair 19 = .ok (.iaload, 1) := by decide +kernel
theorem dX11_holdFair_20 : decode cX11_holdFair 20 = .ok (.if_icmp .ge 76, 3) := by decide +kernel
theorem dX11_holdFair_23 : decode cX11_holdFair 23 = .ok (.aload_n 0, 1) := by decide +kernel
theorem dX11_holdFair_24 : decode cX11_holdFair 24 = .ok (.iload 4, 2) := by decide +kernel
theorem dX11_holdFair_26 : decode cX11_holdFair 26 = .ok (.invokestatic 69, 3) := by decide +kernel
theorem dX11_holdFair_29 : decode cX11_holdFair 29 = .ok (.iconst 0, 1) := by decide +kernel
theorem dX11_holdFair_30 : decode cX11_holdFair 30 = .ok (.iadd, 1) := by decide +kernel
theorem dX11_holdFair_31 : decode cX11_holdFair 31 = .ok (.iaload, 1) := by decide +kernel
theorem dX11_holdFair_32 : decode cX11_holdFair 32 = .ok (.aload_n 0, 1) := by decide +kernel
theorem dX11_holdFair_33 : decode cX11_holdFair 33 = .ok (.iload_n 2, 1) := by decide +kernel
theorem dX11_holdFair_34 : decode cX11_holdFair 34 = .ok (.iconst 1, 1) := by decide +kernel
theorem dX11_holdFair_35 : decode cX11_holdFair 35 = .ok (.iadd, 1) := by decide +kernel
theorem dX11_holdFair_36 : decode cX11_holdFair 36 = .ok (.iaload, 1) := by decide +kernel
theorem dX11_holdFair_37 : decode cX11_holdFair 37 = .ok (.if_icmp .ne 53, 3) := by decide +kernel
theorem dX11_holdFair_40 : decode cX11_holdFair 40 = .ok (.aload_n 0, 1) := by decide +kernel
theorem dX11_holdFair_41 : decode cX11_holdFair 41 = .ok (.iload 4, 2) := by decide +kernel
theorem dX11_holdFair_43 : decode cX11_holdFair 43 = .ok (.invokestatic 69, 3) := by decide +kernel
theorem dX11_holdFair_46 : decode cX11_holdFair 46 = .ok (.iconst 1, 1) := by decide +kernel
theorem dX11_holdFair_47 : decode cX11_holdFair 47 = .ok (.iadd, 1) := by decide +kernel
theorem dX11_holdFair_48 : decode cX11_holdFair 48 = .ok (.iaload, 1) := by decide +kernel
theorem dX11_holdFair_49 : decode cX11_holdFair 49 = .ok (.aload_n 0, 1) := by decide +kernel
theorem dX11_holdFair_50 : decode cX11_holdFair 50 = .ok (.iconst 5, 1) := by decide +kernel
theorem dX11_holdFair_51 : decode cX11_holdFair 51 = .ok (.iaload, 1) := by decide +kernel
theorem dX11_holdFair_52 : decode cX11_holdFair 52 = .ok (.if_icmp .le 38, 3) := by decide +kernel
theorem dX11_holdFair_55 : decode cX11_holdFair 55 = .ok (.aload_n 0, 1) := by decide +kernel
theorem dX11_holdFair_56 : decode cX11_holdFair 56 = .ok (.iload 4, 2) := by decide +kernel
theorem dX11_holdFair_58 : decode cX11_holdFair 58 = .ok (.invokestatic 101, 3) := by decide +kernel
theorem dX11_holdFair_61 : decode cX11_holdFair 61 = .ok (.istore 5, 2) := by decide +kernel
theorem dX11_holdFair_63 : decode cX11_holdFair 63 = .ok (.iload 5, 2) := by decide +kernel
theorem dX11_holdFair_65 : decode cX11_holdFair 65 = .ok (.iload_n 3, 1) := by decide +kernel
theorem dX11_holdFair_66 : decode cX11_holdFair 66 = .ok (.if_icmp .le 6, 3) := by decide +kernel
theorem dX11_holdFair_69 : decode cX11_holdFair 69 = .ok (.iload_n 3, 1) := by decide +kernel
theorem dX11_holdFair_70 : decode cX11_holdFair 70 = .ok (.istore 5, 2) := by decide +kernel
theorem dX11_holdFair_72 : decode cX11_holdFair 72 = .ok (.aload_n 0, 1) := by decide +kernel
theorem dX11_holdFair_73 : decode cX11_holdFair 73 = .ok (.iload 4, 2) := by decide +kernel
theorem dX11_holdFair_75 : decode cX11_holdFair 75 = .ok (.iload 5, 2) := by decide +kernel
theorem dX11_holdFair_77 : decode cX11_holdFair 77 = .ok (.aload_n 0, 1) := by decide +kernel
theorem dX11_holdFair_78 : decode cX11_holdFair 78 = .ok (.iload_n 2, 1) := by decide +kernel
theorem dX11_holdFair_79 : decode cX11_holdFair 79 = .ok (.iconst 4, 1) := by decide +kernel
theorem dX11_holdFair_80 : decode cX11_holdFair 80 = .ok (.iadd, 1) := by decide +kernel
theorem dX11_holdFair_81 : decode cX11_holdFair 81 = .ok (.iaload, 1) := by decide +kernel
theorem dX11_holdFair_82 : decode cX11_holdFair 82 = .ok (.invokestatic 104, 3) := by decide +kernel
theorem dX11_holdFair_85 : decode cX11_holdFair 85 = .ok (.iload_n 3, 1) := by decide +kernel
theorem dX11_holdFair_86 : decode cX11_holdFair 86 = .ok (.iload 5, 2) := by decide +kernel
theorem dX11_holdFair_88 : decode cX11_holdFair 88 = .ok (.isub, 1) := by decide +kernel
theorem dX11_holdFair_89 : decode cX11_holdFair 89 = .ok (.istore_n 3, 1) := by decide +kernel
theorem dX11_holdFair_90 : decode cX11_holdFair 90 = .ok (.iinc 4 1, 3) := by decide +kernel
theorem dX11_holdFair_93 : decode cX11_holdFair 93 = .ok (.goto (-79), 3) := by decide +kernel
theorem dX11_holdFair_96 : decode cX11_holdFair 96 = .ok (.return_, 1) := by decide +kernel
theorem dX11_seedBehind_0 : decode cX11_seedBehind 0 = .ok (.bipush 29, 2) := by decide +kernel
theorem dX11_seedBehind_2 : decode cX11_seedBehind 2 = .ok (.iload_n 0, 1) := by decide +kernel
theorem dX11_seedBehind_3 : decode cX11_seedBehind 3 = .ok (.imul, 1) := by decide +kernel
theorem dX11_seedBehind_4 : decode cX11_seedBehind 4 = .ok (.bipush 11, 2) := by decide +kernel
theorem dX11_seedBehind_6 : decode cX11_seedBehind 6 = .ok (.iadd, 1) := by decide +kernel
theorem dX11_seedBehind_7 : decode cX11_seedBehind 7 = .ok (.sipush 1024, 3) := by decide +kernel
theorem dX11_seedBehind_10 : decode cX11_seedBehind 10 = .ok (.irem, 1) := by decide +kernel
theorem dX11_seedBehind_11 : decode cX11_seedBehind 11 = .ok (.ireturn, 1) := by decide +kernel
theorem dX11_allOdds_0 : decode cX11_allOdds 0 = .ok (.aload_n 0, 1) := by decide +kernel
theorem dX11_allOdds_1 : decode cX11_allOdds 1 = .ok (.iconst 1, 1) := by decide +kernel
theorem dX11_allOdds_2 : decode cX11_allOdds 2 = .ok (.iaload, 1) := by decide +kernel
theorem dX11_allOdds_3 : decode cX11_allOdds 3 = .ok (.aload_n 0, 1) := by decide +kernel
theorem dX11_allOdds_4 : decode cX11_allOdds 4 = .ok (.iconst 2, 1) := by decide +kernel
theorem dX11_allOdds_5 : decode cX11_allOdds 5 = .ok (.iaload, 1) := by decide +kernel
theorem dX11_allOdds_6 : decode cX11_allOdds 6 = .ok (.iadd, 1) := by decide +kernel
theorem dX11_allOdds_7 : decode cX11_allOdds 7 = .ok (.aload_n 0, 1) := by decide +kernel
theorem dX11_allOdds_8 : decode cX11_allOdds 8 = .ok (.iconst 3, 1) := by decide +kernel
theorem dX11_allOdds_9 : decode cX11_allOdds 9 = .ok (.iaload, 1) := by decide +kernel
theorem dX11_allOdds_10 : decode cX11_allOdds 10 = .ok (.iadd, 1) := by decide +kernel
theorem dX11_allOdds_11 : decode cX11_allOdds 11 = .ok (.ireturn, 1) := by decide +kernel
theorem dX11_weatherBy_0 : decode cX11_weatherBy 0 = .ok (.iload_n 1, 1) := by decide +kernel
theorem dX11_weatherBy_1 : decode cX11_weatherBy 1 = .ok (.aload_n 0, 1) := by decide +kernel
theorem dX11_weatherBy_2 : decode cX11_weatherBy 2 = .ok (.invokestatic 108, 3) := by decide +kernel
theorem dX11_weatherBy_5 : decode cX11_weatherBy 5 = .ok (.irem, 1) := by decide +kernel
theorem dX11_weatherBy_6 : decode cX11_weatherBy 6 = .ok (.istore_n 2, 1) := by decide +kernel
theorem dX11_weatherBy_7 : decode cX11_weatherBy 7 = .ok (.iconst 0, 1) := by decide +kernel
theorem dX11_weatherBy_8 : decode cX11_weatherBy 8 = .ok (.istore_n 3, 1) := by decide +kernel
theorem dX11_weatherBy_9 : decode cX11_weatherBy 9 = .ok (.aload_n 0, 1) := by decide +kernel
theorem dX11_weatherBy_10 : decode cX11_weatherBy 10 = .ok (.iconst 1, 1) := by decide +kernel
theorem dX11_weatherBy_11 : decode cX11_weatherBy 11 = .ok (.iaload, 1) := by decide +kernel
theorem dX11_weatherBy_12 : decode cX11_weatherBy 12 = .ok (.istore 4, 2) := by decide +kernel
theorem dX11_weatherBy_14 : decode cX11_weatherBy 14 = .ok (.iload_n 2, 1) := by decide +kernel
theorem dX11_weatherBy_15 : decode cX11_weatherBy 15 = .ok (.iload 4, 2) := by decide +kernel
theorem dX11_weatherBy_17 : decode cX11_weatherBy 17 = .ok (.if_icmp .lt 19, 3) := by decide +kernel
theorem dX11_weatherBy_20 : decode cX11_weatherBy 20 = .ok (.iinc 3 1, 3) := by decide +kernel
theorem dX11_weatherBy_23 : decode cX11_weatherBy 23 = .ok (.iload 4, 2) := by decide +kernel
theorem dX11_weatherBy_25 : decode cX11_weatherBy 25 = .ok (.aload_n 0, 1) := by decide +kernel
theorem dX11_weatherBy_26 : decode cX11_weatherBy 26 = .ok (.iconst 1, 1) := by decide +kernel
theorem dX11_weatherBy_27 : decode cX11_weatherBy 27 = .ok (.iload_n 3, 1) := by decide +kernel
theorem dX11_weatherBy_28 : decode cX11_weatherBy 28 = .ok (.iadd, 1) := by decide +kernel
theorem dX11_weatherBy_29 : decode cX11_weatherBy 29 = .ok (.iaload, 1) := by decide +kernel
theorem dX11_weatherBy_30 : decode cX11_weatherBy 30 = .ok (.iadd, 1) := by decide +kernel
theorem dX11_weatherBy_31 : decode cX11_weatherBy 31 = .ok (.istore 4, 2) := by decide +kernel
theorem dX11_weatherBy_33 : decode cX11_weatherBy 33 = .ok (.goto (-19), 3) := by decide +kernel
theorem dX11_weatherBy_36 : decode cX11_weatherBy 36 = .ok (.iload_n 3, 1) := by decide +kernel
theorem dX11_weatherBy_37 : decode cX11_weatherBy 37 = .ok (.ireturn, 1) := by decide +kernel
theorem dX11_regret_0 : decode cX11_regret 0 = .ok (.aload_n 0, 1) := by decide +kernel
theorem dX11_regret_1 : decode cX11_regret 1 = .ok (.bipush 9, 2) := by decide +kernel
theorem dX11_regret_3 : decode cX11_regret 3 = .ok (.iaload, 1) := by decide +kernel
theorem dX11_regret_4 : decode cX11_regret 4 = .ok (.bipush 10, 2) := by decide +kernel
theorem dX11_regret_6 : decode cX11_regret 6 = .ok (.if_icmp .ne 40, 3) := by decide +kernel
theorem dX11_regret_9 : decode cX11_regret 9 = .ok (.aload_n 0, 1) := by decide +kernel
theorem dX11_regret_10 : decode cX11_regret 10 = .ok (.bipush 9, 2) := by decide +kernel
theorem dX11_regret_12 : decode cX11_regret 12 = .ok (.dup2, 1) := by decide +kernel
theorem dX11_regret_13 : decode cX11_regret 13 = .ok (.iaload, 1) := by decide +kernel
theorem dX11_regret_14 : decode cX11_regret 14 = .ok (.iconst 1, 1) := by decide +kernel
theorem dX11_regret_15 : decode cX11_regret 15 = .ok (.isub, 1) := by decide +kernel
theorem dX11_regret_16 : decode cX11_regret 16 = .ok (.iastore, 1) := by decide +kernel
theorem dX11_regret_17 : decode cX11_regret 17 = .ok (.sipush 222, 3) := by decide +kernel
theorem dX11_regret_20 : decode cX11_regret 20 = .ok (.istore_n 2, 1) := by decide +kernel
theorem dX11_regret_21 : decode cX11_regret 21 = .ok (.iload_n 2, 1) := by decide +kernel
theorem dX11_regret_22 : decode cX11_regret 22 = .ok (.aload_n 0, 1) := by decide +kernel
theorem dX11_regret_23 : decode cX11_regret 23 = .ok (.bipush 9, 2) := by decide +kernel
theorem dX11_regret_25 : decode cX11_regret 25 = .ok (.iaload, 1) := by decide +kernel
theorem dX11_regret_26 : decode cX11_regret 26 = .ok (.invokestatic 112, 3) := by decide +kernel
theorem dX11_regret_29 : decode cX11_regret 29 = .ok (.if_icmp .ge 17, 3) := by decide +kernel
theorem dX11_regret_32 : decode cX11_regret 32 = .ok (.aload_n 0, 1) := by decide +kernel
theorem dX11_regret_33 : decode cX11_regret 33 = .ok (.iload_n 2, 1) := by decide +kernel
theorem dX11_regret_34 : decode cX11_regret 34 = .ok (.aload_n 0, 1) := by decide +kernel
theorem dX11_regret_35 : decode cX11_regret 35 = .ok (.iload_n 2, 1) := by decide +kernel
theorem dX11_regret_36 : decode cX11_regret 36 = .ok (.iconst 2, 1) := by decide +kernel
theorem dX11_regret_37 : decode cX11_regret 37 = .ok (.iadd, 1) := by decide +kernel
theorem dX11_regret_38 : decode cX11_regret 38 = .ok (.iaload, 1) := by decide +kernel
theorem dX11_regret_39 : decode cX11_regret 39 = .ok (.iastore, 1) := by decide +kernel
theorem dX11_regret_40 : decode cX11_regret 40 = .ok (.iinc 2 1, 3) := by decide +kernel
theorem dX11_regret_43 : decode cX11_regret 43 = .ok (.goto (-22), 3) := by decide +kernel
theorem dX11_regret_46 : decode cX11_regret 46 = .ok (.aload_n 0, 1) := by decide +kernel
theorem dX11_regret_47 : decode cX11_regret 47 = .ok (.aload_n 0, 1) := by decide +kernel
theorem dX11_regret_48 : decode cX11_regret 48 = .ok (.bipush 9, 2) := by decide +kernel
theorem dX11_regret_50 : decode cX11_regret 50 = .ok (.iaload, 1) := by decide +kernel
theorem dX11_regret_51 : decode cX11_regret 51 = .ok (.invokestatic 112, 3) := by decide +kernel
theorem dX11_regret_54 : decode cX11_regret 54 = .ok (.iconst 0, 1) := by decide +kernel
theorem dX11_regret_55 : decode cX11_regret 55 = .ok (.iadd, 1) := by decide +kernel
theorem dX11_regret_56 : decode cX11_regret 56 = .ok (.aload_n 0, 1) := by decide +kernel
theorem dX11_regret_57 : decode cX11_regret 57 = .ok (.iconst 5, 1) := by decide +kernel
theorem dX11_regret_58 : decode cX11_regret 58 = .ok (.iaload, 1) := by decide +kernel
theorem dX11_regret_59 : decode cX11_regret 59 = .ok (.iastore, 1) := by decide +kernel
theorem dX11_regret_60 : decode cX11_regret 60 = .ok (.aload_n 0, 1) := by decide +kernel
theorem dX11_regret_61 : decode cX11_regret 61 = .ok (.aload_n 0, 1) := by decide +kernel
theorem dX11_regret_62 : decode cX11_regret 62 = .ok (.bipush 9, 2) := by decide +kernel
theorem dX11_regret_64 : decode cX11_regret 64 = .ok (.iaload, 1) := by decide +kernel
theorem dX11_regret_65 : decode cX11_regret 65 = .ok (.invokestatic 112, 3) := by decide +kernel
theorem dX11_regret_68 : decode cX11_regret 68 = .ok (.iconst 1, 1) := by decide +kernel
theorem dX11_regret_69 : decode cX11_regret 69 = .ok (.iadd, 1) := by decide +kernel
theorem dX11_regret_70 : decode cX11_regret 70 = .ok (.iload_n 1, 1) := by decide +kernel
theorem dX11_regret_71 : decode cX11_regret 71 = .ok (.iastore, 1) := by decide +kernel
theorem dX11_regret_72 : decode cX11_regret 72 = .ok (.aload_n 0, 1) := by decide +kernel
theorem dX11_regret_73 : decode cX11_regret 73 = .ok (.bipush 9, 2) := by decide +kernel
theorem dX11_regret_75 : decode cX11_regret 75 = .ok (.dup2, 1) := by decide +kernel
theorem dX11_regret_76 : decode cX11_regret 76 = .ok (.iaload, 1) := by decide +kernel
theorem dX11_regret_77 : decode cX11_regret 77 = .ok (.iconst 1, 1) := by decide +kernel
theorem dX11_regret_78 : decode cX11_regret 78 = .ok (.iadd, 1) := by decide +kernel
theorem dX11_regret_79 : decode cX11_regret 79 = .ok (.iastore, 1) := by decide +kernel
theorem dX11_regret_80 : decode cX11_regret 80 = .ok (.aload_n 0, 1) := by decide +kernel
theorem dX11_regret_81 : decode cX11_regret 81 = .ok (.bipush 11, 2) := by decide +kernel
theorem dX11_regret_83 : decode cX11_regret 83 = .ok (.dup2, 1) := by decide +kernel
theorem dX11_regret_84 : decode cX11_regret 84 = .ok (.iaload, 1) := by decide +kernel
theorem dX11_regret_85 : decode cX11_regret 85 = .ok (.iconst 1, 1) := by decide +kernel
theorem dX11_regret_86 : decode cX11_regret 86 = .ok (.iadd, 1) := by decide +kernel
theorem dX11_regret_87 : decode cX11_regret 87 = .ok (.iastore, 1) := by decide +kernel
theorem dX11_regret_88 : decode cX11_regret 88 = .ok (.return_, 1) := by decide +kernel
theorem dX11_weigh_0 : decode cX11_weigh 0 = .ok (.aload_n 0, 1) := by decide +kernel
theorem dX11_weigh_1 : decode cX11_weigh 1 = .ok (.iload_n 1, 1) := by decide +kernel
theorem dX11_weigh_2 : decode cX11_weigh 2 = .ok (.aload_n 0, 1) := by decide +kernel
theorem dX11_weigh_3 : decode cX11_weigh 3 = .ok (.iconst 5, 1) := by decide +kernel
theorem dX11_weigh_4 : decode cX11_weigh 4 = .ok (.iaload, 1) := by decide +kernel
theorem dX11_weigh_5 : decode cX11_weigh 5 = .ok (.invokestatic 73, 3) := by decide +kernel
theorem dX11_weigh_8 : decode cX11_weigh 8 = .ok (.istore_n 3, 1) := by decide +kernel
theorem dX11_weigh_9 : decode cX11_weigh 9 = .ok (.iload_n 3, 1) := by decide +kernel
theorem dX11_weigh_10 : decode cX11_weigh 10 = .ok (.iconst (-1), 1) := by decide +kernel
theorem dX11_weigh_11 : decode cX11_weigh 11 = .ok (.if_icmp .ne 4, 3) := by decide +kernel
theorem dX11_weigh_14 : decode cX11_weigh 14 = .ok (.return_, 1) := by decide +kernel
theorem dX11_weigh_15 : decode cX11_weigh 15 = .ok (.aload_n 0, 1) := by decide +kernel
theorem dX11_weigh_16 : decode cX11_weigh 16 = .ok (.iload_n 3, 1) := by decide +kernel
theorem dX11_weigh_17 : decode cX11_weigh 17 = .ok (.invokestatic 69, 3) := by decide +kernel
theorem dX11_weigh_20 : decode cX11_weigh 20 = .ok (.iconst 4, 1) := by decide +kernel
theorem dX11_weigh_21 : decode cX11_weigh 21 = .ok (.iadd, 1) := by decide +kernel
theorem dX11_weigh_22 : decode cX11_weigh 22 = .ok (.iaload, 1) := by decide +kernel
theorem dX11_weigh_23 : decode cX11_weigh 23 = .ok (.istore 4, 2) := by decide +kernel
theorem dX11_weigh_25 : decode cX11_weigh 25 = .ok (.aload_n 0, 1) := by decide +kernel
theorem dX11_weigh_26 : decode cX11_weigh 26 = .ok (.iload_n 3, 1) := by decide +kernel
theorem dX11_weigh_27 : decode cX11_weigh 27 = .ok (.invokestatic 69, 3) := by decide +kernel
theorem dX11_weigh_30 : decode cX11_weigh 30 = .ok (.iconst 2, 1) := by decide +kernel
theorem dX11_weigh_31 : decode cX11_weigh 31 = .ok (.iadd, 1) := by decide +kernel
theorem dX11_weigh_32 : decode cX11_weigh 32 = .ok (.iaload, 1) := by decide +kernel
theorem dX11_weigh_33 : decode cX11_weigh 33 = .ok (.iload_n 2, 1) := by decide +kernel
theorem dX11_weigh_34 : decode cX11_weigh 34 = .ok (.if_icmp .ne 20, 3) := by decide +kernel
theorem dX11_weigh_37 : decode cX11_weigh 37 = .ok (.aload_n 0, 1) := by decide +kernel
theorem dX11_weigh_38 : decode cX11_weigh 38 = .ok (.bipush 10, 2) := by decide +kernel
theorem dX11_weigh_40 : decode cX11_weigh 40 = .ok (.dup2, 1) := by decide +kernel
theorem dX11_weigh_41 : decode cX11_weigh 41 = .ok (.iaload, 1) := by decide +kernel
theorem dX11_weigh_42 : decode cX11_weigh 42 = .ok (.iconst 1, 1) := by decide +kernel
theorem dX11_weigh_43 : decode cX11_weigh 43 = .ok (.iadd, 1) := by decide +kernel
theorem dX11_weigh_44 : decode cX11_weigh 44 = .ok (.iastore, 1) := by decide +kernel
theorem dX11_weigh_45 : decode cX11_weigh 45 = .ok (.aload_n 0, 1) := by decide +kernel
theorem dX11_weigh_46 : decode cX11_weigh 46 = .ok (.iload_n 1, 1) := by decide +kernel
theorem dX11_weigh_47 : decode cX11_weigh 47 = .ok (.iconst 5, 1) := by decide +kernel
theorem dX11_weigh_48 : decode cX11_weigh 48 = .ok (.invokestatic 91, 3) := by decide +kernel
theorem dX11_weigh_51 : decode cX11_weigh 51 = .ok (.goto 46, 3) := by decide +kernel
theorem dX11_weigh_54 : decode cX11_weigh 54 = .ok (.aload_n 0, 1) := by decide +kernel
theorem dX11_weigh_55 : decode cX11_weigh 55 = .ok (.iload_n 1, 1) := by decide +kernel
theorem dX11_weigh_56 : decode cX11_weigh 56 = .ok (.invokestatic 115, 3) := by decide +kernel
theorem dX11_weigh_59 : decode cX11_weigh 59 = .ok (.aload_n 0, 1) := by decide +kernel
theorem dX11_weigh_60 : decode cX11_weigh 60 = .ok (.iload_n 2, 1) := by decide +kernel
theorem dX11_weigh_61 : decode cX11_weigh 61 = .ok (.iconst 2, 1) := by decide +kernel
theorem dX11_weigh_62 : decode cX11_weigh 62 = .ok (.if_icmp .ne 11, 3) := by decide +kernel
theorem dX11_weigh_65 : decode cX11_weigh 65 = .ok (.iload 4, 2) := by decide +kernel
theorem dX11_weigh_67 : decode cX11_weigh 67 = .ok (.bipush 10, 2) := by decide +kernel
theorem dX11_weigh_69 : decode cX11_weigh 69 = .ok (.iadd, 1) := by decide +kernel
theorem dX11_weigh_70 : decode cX11_weigh 70 = .ok (.goto 7, 3) := by decide +kernel
theorem dX11_weigh_73 : decode cX11_weigh 73 = .ok (.iload 4, 2) := by decide +kernel
theorem dX11_weigh_75 : decode cX11_weigh 75 = .ok (.iconst 2, 1) := by decide +kernel
theorem dX11_weigh_76 : decode cX11_weigh 76 = .ok (.idiv, 1) := by decide +kernel
theorem dX11_weigh_77 : decode cX11_weigh 77 = .ok (.invokestatic 87, 3) := by decide +kernel
theorem dX11_weigh_80 : decode cX11_weigh 80 = .ok (.aload_n 0, 1) := by decide +kernel
theorem dX11_weigh_81 : decode cX11_weigh 81 = .ok (.iload_n 1, 1) := by decide +kernel
theorem dX11_weigh_82 : decode cX11_weigh 82 = .ok (.iload_n 2, 1) := by decide +kernel
theorem dX11_weigh_83 : decode cX11_weigh 83 = .ok (.iconst 2, 1) := by decide +kernel
theorem dX11_weigh_84 : decode cX11_weigh 84 = .ok (.if_icmp .ne 8, 3) := by decide +kernel
theorem dX11_weigh_87 : decode cX11_weigh 87 = .ok (.bipush (-20), 2) := by decide +kernel
theorem dX11_weigh_89 : decode cX11_weigh 89 = .ok (.goto 5, 3) := by decide +kernel
theorem dX11_weigh_92 : decode cX11_weigh 92 = .ok (.bipush (-10), 2) := by decide +kernel
theorem dX11_weigh_94 : decode cX11_weigh 94 = .ok (.invokestatic 91, 3) := by decide +kernel
theorem dX11_weigh_97 : decode cX11_weigh 97 = .ok (.aload_n 0, 1) := by decide +kernel
theorem dX11_weigh_98 : decode cX11_weigh 98 = .ok (.iload_n 3, 1) := by decide +kernel
theorem dX11_weigh_99 : decode cX11_weigh 99 = .ok (.invokestatic 95, 3) := by decide +kernel
theorem dX11_weigh_102 : decode cX11_weigh 102 = .ok (.return_, 1) := by decide +kernel
theorem dX11_endYear_0 : decode cX11_endYear 0 = .ok (.iconst 0, 1) := by decide +kernel
theorem dX11_endYear_1 : decode cX11_endYear 1 = .ok (.istore_n 1, 1) := by decide +kernel
theorem dX11_endYear_2 : decode cX11_endYear 2 = .ok (.iconst 0, 1) := by decide +kernel
theorem dX11_endYear_3 : decode cX11_endYear 3 = .ok (.istore_n 2, 1) := by decide +kernel
theorem dX11_endYear_4 : decode cX11_endYear 4 = .ok (.iconst 1, 1) := by decide +kernel
theorem dX11_endYear_5 : decode cX11_endYear 5 = .ok (.istore_n 3, 1) := by decide +kernel
theorem dX11_endYear_6 : decode cX11_endYear 6 = .ok (.iload_n 3, 1) := by decide +kernel
theorem dX11_endYear_7 : decode cX11_endYear 7 = .ok (.iconst 3, 1) := by decide +kernel
theorem dX11_endYear_8 : decode cX11_endYear 8 = .ok (.if_icmp .ge 43, 3) := by decide +kernel
theorem dX11_endYear_11 : decode cX11_endYear 11 = .ok (.aload_n 0, 1) := by decide +kernel
theorem dX11_endYear_12 : decode cX11_endYear 12 = .ok (.bipush 17, 2) := by decide +kernel
theorem dX11_endYear_14 : decode cX11_endYear 14 = .ok (.iload_n 3, 1) := by decide +kernel
theorem dX11_endYear_15 : decode cX11_endYear 15 = .ok (.iadd, 1) := by decide +kernel
theorem dX11_endYear_16 : decode cX11_endYear 16 = .ok (.iaload, 1) := by decide +kernel
theorem dX11_endYear_17 : decode cX11_endYear 17 = .ok (.aload_n 0, 1) := by decide +kernel
theorem dX11_endYear_18 : decode cX11_endYear 18 = .ok (.bipush 17, 2) := by decide +kernel
theorem dX11_endYear_20 : decode cX11_endYear 20 = .ok (.iload_n 1, 1) := by decide +kernel
theorem dX11_endYear_21 : decode cX11_endYear 21 = .ok (.iadd, 1) := by decide +kernel
theorem dX11_endYear_22 : decode cX11_endYear 22 = .ok (.iaload, 1) := by decide +kernel
theorem dX11_endYear_23 : decode cX11_endYear 23 = .ok (.if_icmp .le 5, 3) := by decide +kernel
theorem dX11_endYear_26 : decode cX11_endYear 26 = .ok (.iload_n 3, 1) := by decide +kernel
theorem dX11_endYear_27 : decode cX11_endYear 27 = .ok (.istore_n 1, 1) := by decide +kernel
theorem dX11_endYear_28 : decode cX11_endYear 28 = .ok (.aload_n 0, 1) := by decide +kernel
theorem dX11_endYear_29 : decode cX11_endYear 29 = .ok (.bipush 17, 2) := by decide +kernel
theorem dX11_endYear_31 : decode cX11_endYear 31 = .ok (.iload_n 3, 1) := by decide +kernel
theorem dX11_endYear_32 : decode cX11_endYear 32 = .ok (.iadd, 1) := by decide +kernel
theorem dX11_endYear_33 : decode cX11_endYear 33 = .ok (.iaload, 1) := by decide +kernel
theorem dX11_endYear_34 : decode cX11_endYear 34 = .ok (.aload_n 0, 1) := by decide +kernel
theorem dX11_endYear_35 : decode cX11_endYear 35 = .ok (.bipush 17, 2) := by decide +kernel
theorem dX11_endYear_37 : decode cX11_endYear 37 = .ok (.iload_n 2, 1) := by decide +kernel
theorem dX11_endYear_38 : decode cX11_endYear 38 = .ok (.iadd, 1) := by decide +kernel
theorem dX11_endYear_39 : decode cX11_endYear 39 = .ok (.iaload, 1) := by decide +kernel
theorem dX11_endYear_40 : decode cX11_endYear 40 = .ok (.if_icmp .gt 5, 3) := by decide +kernel
theorem dX11_endYear_43 : decode cX11_endYear 43 = .ok (.iload_n 3, 1) := by decide +kernel
theorem dX11_endYear_44 : decode cX11_endYear 44 = .ok (.istore_n 2, 1) := by decide +kernel
theorem dX11_endYear_45 : decode cX11_endYear 45 = .ok (.iinc 3 1, 3) := by decide +kernel
theorem dX11_endYear_48 : decode cX11_endYear 48 = .ok (.goto (-42), 3) := by decide +kernel
theorem dX11_endYear_51 : decode cX11_endYear 51 = .ok (.aload_n 0, 1) := by decide +kernel
theorem dX11_endYear_52 : decode cX11_endYear 52 = .ok (.iconst 1, 1) := by decide +kernel
theorem dX11_endYear_53 : decode cX11_endYear 53 = .ok (.iload_n 1, 1) := by decide +kernel
theorem dX11_endYear_54 : decode cX11_endYear 54 = .ok (.iadd, 1) := by decide +kernel
theorem dX11_endYear_55 : decode cX11_endYear 55 = .ok (.iaload, 1) := by decide +kernel
theorem dX11_endYear_56 : decode cX11_endYear 56 = .ok (.bipush 20, 2) := by decide +kernel
theorem dX11_endYear_58 : decode cX11_endYear 58 = .ok (.if_icmp .ge 12, 3) := by decide +kernel
theorem dX11_endYear_61 : decode cX11_endYear 61 = .ok (.aload_n 0, 1) := by decide +kernel
theorem dX11_endYear_62 : decode cX11_endYear 62 = .ok (.iconst 1, 1) := by decide +kernel
theorem dX11_endYear_63 : decode cX11_endYear 63 = .ok (.iload_n 1, 1) := by decide +kernel
theorem dX11_endYear_64 : decode cX11_endYear 64 = .ok (.iadd, 1) := by decide +kernel
theorem dX11_endYear_65 : decode cX11_endYear 65 = .ok (.dup2, 1) := by decide +kernel
theorem dX11_endYear_66 : decode cX11_endYear 66 = .ok (.iaload, 1) := by decide +kernel
theorem dX11_endYear_67 : decode cX11_endYear 67 = .ok (.iconst 1, 1) := by decide +kernel
theorem dX11_endYear_68 : decode cX11_endYear 68 = .ok (.iadd, 1) := by decide +kernel
theorem dX11_endYear_69 : decode cX11_endYear 69 = .ok (.iastore, 1) := by decide +kernel
theorem dX11_endYear_70 : decode cX11_endYear 70 = .ok (.aload_n 0, 1) := by decide +kernel
theorem dX11_endYear_71 : decode cX11_endYear 71 = .ok (.iconst 1, 1) := by decide +kernel
theorem dX11_endYear_72 : decode cX11_endYear 72 = .ok (.iload_n 2, 1) := by decide +kernel
theorem dX11_endYear_73 : decode cX11_endYear 73 = .ok (.iadd, 1) := by decide +kernel
theorem dX11_endYear_74 : decode cX11_endYear 74 = .ok (.iaload, 1) := by decide +kernel
theorem dX11_endYear_75 : decode cX11_endYear 75 = .ok (.ifCond .le 12, 3) := by decide +kernel
theorem dX11_endYear_78 : decode cX11_endYear 78 = .ok (.aload_n 0, 1) := by decide +kernel
theorem dX11_endYear_79 : decode cX11_endYear 79 = .ok (.iconst 1, 1) := by decide +kernel
theorem dX11_endYear_80 : decode cX11_endYear 80 = .ok (.iload_n 2, 1) := by decide +kernel
theorem dX11_endYear_81 : decode cX11_endYear 81 = .ok (.iadd, 1) := by decide +kernel
theorem dX11_endYear_82 : decode cX11_endYear 82 = .ok (.dup2, 1) := by decide +kernel
theorem dX11_endYear_83 : decode cX11_endYear 83 = .ok (.iaload, 1) := by decide +kernel
theorem dX11_endYear_84 : decode cX11_endYear 84 = .ok (.iconst 1, 1) := by decide +kernel
theorem dX11_endYear_85 : decode cX11_endYear 85 = .ok (.isub, 1) := by decide +kernel
theorem dX11_endYear_86 : decode cX11_endYear 86 = .ok (.iastore, 1) := by decide +kernel
theorem dX11_endYear_87 : decode cX11_endYear 87 = .ok (.iconst 0, 1) := by decide +kernel
theorem dX11_endYear_88 : decode cX11_endYear 88 = .ok (.istore_n 3, 1) := by decide +kernel
theorem dX11_endYear_89 : decode cX11_endYear 89 = .ok (.iload_n 3, 1) := by decide +kernel
theorem dX11_endYear_90 : decode cX11_endYear 90 = .ok (.iconst 3, 1) := by decide +kernel
theorem dX11_endYear_91 : decode cX11_endYear 91 = .ok (.if_icmp .ge 16, 3) := by decide +kernel
theorem dX11_endYear_94 : decode cX11_endYear 94 = .ok (.aload_n 0, 1) := by decide +kernel
theorem dX11_endYear_95 : decode cX11_endYear 95 = .ok (.bipush 17, 2) := by decide +kernel
theorem dX11_endYear_97 : decode cX11_endYear 97 = .ok (.iload_n 3, 1) := by decide +kernel
theorem dX11_endYear_98 : decode cX11_endYear 98 = .ok (.iadd, 1) := by decide +kernel
theorem dX11_endYear_99 : decode cX11_endYear 99 = .ok (.iconst 0, 1) := by decide +kernel
theorem dX11_endYear_100 : decode cX11_endYear 100 = .ok (.iastore, 1) := by decide +kernel
theorem dX11_endYear_101 : decode cX11_endYear 101 = .ok (.iinc 3 1, 3) := by decide +kernel
theorem dX11_endYear_104 : decode cX11_endYear 104 = .ok (.goto (-15), 3) := by decide +kernel
theorem dX11_endYear_107 : decode cX11_endYear 107 = .ok (.return_, 1) := by decide +kernel
theorem dX11_passDay_0 : decode cX11_passDay 0 = .ok (.aload_n 0, 1) := by decide +kernel
theorem dX11_passDay_1 : decode cX11_passDay 1 = .ok (.iconst 5, 1) := by decide +kernel
theorem dX11_passDay_2 : decode cX11_passDay 2 = .ok (.dup2, 1) := by decide +kernel
theorem dX11_passDay_3 : decode cX11_passDay 3 = .ok (.iaload, 1) := by decide +kernel
theorem dX11_passDay_4 : decode cX11_passDay 4 = .ok (.iconst 1, 1) := by decide +kernel
theorem dX11_passDay_5 : decode cX11_passDay 5 = .ok (.iadd, 1) := by decide +kernel
theorem dX11_passDay_6 : decode cX11_passDay 6 = .ok (.iastore, 1) := by decide +kernel
theorem dX11_passDay_7 : decode cX11_passDay 7 = .ok (.iconst 0, 1) := by decide +kernel
theorem dX11_passDay_8 : decode cX11_passDay 8 = .ok (.istore_n 1, 1) := by decide +kernel
theorem dX11_passDay_9 : decode cX11_passDay 9 = .ok (.iload_n 1, 1) := by decide +kernel
theorem dX11_passDay_10 : decode cX11_passDay 10 = .ok (.aload_n 0, 1) := by decide +kernel
theorem dX11_passDay_11 : decode cX11_passDay 11 = .ok (.bipush 7, 2) := by decide +kernel
theorem dX11_passDay_13 : decode cX11_passDay 13 = .ok (.iaload, 1) := by decide +kernel
theorem dX11_passDay_14 : decode cX11_passDay 14 = .ok (.if_icmp .ge 25, 3) := by decide +kernel
theorem dX11_passDay_17 : decode cX11_passDay 17 = .ok (.aload_n 0, 1) := by decide +kernel
theorem dX11_passDay_18 : decode cX11_passDay 18 = .ok (.iload_n 1, 1) := by decide +kernel
theorem dX11_passDay_19 : decode cX11_passDay 19 = .ok (.aload_n 0, 1) := by decide +kernel
theorem dX11_passDay_20 : decode cX11_passDay 20 = .ok (.iconst 5, 1) := by decide +kernel
theorem dX11_passDay_21 : decode cX11_passDay 21 = .ok (.iaload, 1) := by decide +kernel
theorem dX11_passDay_22 : decode cX11_passDay 22 = .ok (.invokestatic 118, 3) := by decide +kernel
theorem dX11_passDay_25 : decode cX11_passDay 25 = .ok (.ifCond .eq 8, 3) := by decide +kernel
theorem dX11_passDay_28 : decode cX11_passDay 28 = .ok (.aload_n 0, 1) := by decide +kernel
theorem dX11_passDay_29 : decode cX11_passDay 29 = .ok (.iload_n 1, 1) := by decide +kernel
theorem dX11_passDay_30 : decode cX11_passDay 30 = .ok (.invokestatic 122, 3) := by decide +kernel
theorem dX11_passDay_33 : decode cX11_passDay 33 = .ok (.iinc 1 1, 3) := by decide +kernel
theorem dX11_passDay_36 : decode cX11_passDay 36 = .ok (.goto (-27), 3) := by decide +kernel
theorem dX11_passDay_39 : decode cX11_passDay 39 = .ok (.iconst 0, 1) := by decide +kernel
theorem dX11_passDay_40 : decode cX11_passDay 40 = .ok (.istore_n 1, 1) := by decide +kernel
theorem dX11_passDay_41 : decode cX11_passDay 41 = .ok (.iload_n 1, 1) := by decide +kernel
theorem dX11_passDay_42 : decode cX11_passDay 42 = .ok (.aload_n 0, 1) := by decide +kernel
theorem dX11_passDay_43 : decode cX11_passDay 43 = .ok (.bipush 6, 2) := by decide +kernel
theorem dX11_passDay_45 : decode cX11_passDay 45 = .ok (.iaload, 1) := by decide +kernel
theorem dX11_passDay_46 : decode cX11_passDay 46 = .ok (.if_icmp .ge 42, 3) := by decide +kernel
theorem dX11_passDay_49 : decode cX11_passDay 49 = .ok (.aload_n 0, 1) := by decide +kernel
theorem dX11_passDay_50 : decode cX11_passDay 50 = .ok (.iconst 0, 1) := by decide +kernel
theorem dX11_passDay_51 : decode cX11_passDay 51 = .ok (.aload_n 0, 1) := by decide +kernel
theorem dX11_passDay_52 : decode cX11_passDay 52 = .ok (.iconst 0, 1) := by decide +kernel
theorem dX11_passDay_53 : decode cX11_passDay 53 = .ok (.iaload, 1) := by decide +kernel
theorem dX11_passDay_54 : decode cX11_passDay 54 = .ok (.invokestatic 125, 3) := by decide +kernel
theorem dX11_passDay_57 : decode cX11_passDay 57 = .ok (.iastore, 1) := by decide +kernel
theorem dX11_passDay_58 : decode cX11_passDay 58 = .ok (.aload_n 0, 1) := by decide +kernel
theorem dX11_passDay_59 : decode cX11_passDay 59 = .ok (.aload_n 0, 1) := by decide +kernel
theorem dX11_passDay_60 : decode cX11_passDay 60 = .ok (.iconst 0, 1) := by decide +kernel
theorem dX11_passDay_61 : decode cX11_passDay 61 = .ok (.iaload, 1) := by decide +kernel
theorem dX11_passDay_62 : decode cX11_passDay 62 = .ok (.invokestatic 128, 3) := by decide +kernel
theorem dX11_passDay_65 : decode cX11_passDay 65 = .ok (.istore_n 2, 1) := by decide +kernel
theorem dX11_passDay_66 : decode cX11_passDay 66 = .ok (.aload_n 0, 1) := by decide +kernel
theorem dX11_passDay_67 : decode cX11_passDay 67 = .ok (.bipush 17, 2) := by decide +kernel
theorem dX11_passDay_69 : decode cX11_passDay 69 = .ok (.iload_n 2, 1) := by decide +kernel
theorem dX11_passDay_70 : decode cX11_passDay 70 = .ok (.iadd, 1) := by decide +kernel
theorem dX11_passDay_71 : decode cX11_passDay 71 = .ok (.dup2, 1) := by decide +kernel
theorem dX11_passDay_72 : decode cX11_passDay 72 = .ok (.iaload, 1) := by decide +kernel
theorem dX11_passDay_73 : decode cX11_passDay 73 = .ok (.iconst 1, 1) := by decide +kernel
theorem dX11_passDay_74 : decode cX11_passDay 74 = .ok (.iadd, 1) := by decide +kernel
theorem dX11_passDay_75 : decode cX11_passDay 75 = .ok (.iastore, 1) := by decide +kernel
theorem dX11_passDay_76 : decode cX11_passDay 76 = .ok (.aload_n 0, 1) := by decide +kernel
theorem dX11_passDay_77 : decode cX11_passDay 77 = .ok (.iload_n 1, 1) := by decide +kernel
theorem dX11_passDay_78 : decode cX11_passDay 78 = .ok (.iload_n 2, 1) := by decide +kernel
theorem dX11_passDay_79 : decode cX11_passDay 79 = .ok (.invokestatic 131, 3) := by decide +kernel
theorem dX11_passDay_82 : decode cX11_passDay 82 = .ok (.iinc 1 1, 3) := by decide +kernel
theorem dX11_passDay_85 : decode cX11_passDay 85 = .ok (.goto (-44), 3) := by decide +kernel
theorem dX11_passDay_88 : decode cX11_passDay 88 = .ok (.aload_n 0, 1) := by decide +kernel
theorem dX11_passDay_89 : decode cX11_passDay 89 = .ok (.iconst 5, 1) := by decide +kernel
theorem dX11_passDay_90 : decode cX11_passDay 90 = .ok (.iaload, 1) := by decide +kernel
theorem dX11_passDay_91 : decode cX11_passDay 91 = .ok (.bipush 12, 2) := by decide +kernel
theorem dX11_passDay_93 : decode cX11_passDay 93 = .ok (.irem, 1) := by decide +kernel
theorem dX11_passDay_94 : decode cX11_passDay 94 = .ok (.ifCond .ne 7, 3) := by decide +kernel
theorem dX11_passDay_97 : decode cX11_passDay 97 = .ok (.aload_n 0, 1) := by decide +kernel
theorem dX11_passDay_98 : decode cX11_passDay 98 = .ok (.invokestatic 134, 3) := by decide +kernel
theorem dX11_passDay_101 : decode cX11_passDay 101 = .ok (.return_, 1) := by decide +kernel
theorem dX11_passMany_0 : decode cX11_passMany 0 = .ok (.aload_n 0, 1) := by decide +kernel
theorem dX11_passMany_1 : decode cX11_passMany 1 = .ok (.bipush 11, 2) := by decide +kernel
theorem dX11_passMany_3 : decode cX11_passMany 3 = .ok (.iaload, 1) := by decide +kernel
theorem dX11_passMany_4 : decode cX11_passMany 4 = .ok (.istore_n 2, 1) := by decide +kernel
theorem dX11_passMany_5 : decode cX11_passMany 5 = .ok (.iconst 0, 1) := by decide +kernel
theorem dX11_passMany_6 : decode cX11_passMany 6 = .ok (.istore_n 3, 1) := by decide +kernel
theorem dX11_passMany_7 : decode cX11_passMany 7 = .ok (.iload_n 3, 1) := by decide +kernel
theorem dX11_passMany_8 : decode cX11_passMany 8 = .ok (.iload_n 1, 1) := by decide +kernel
theorem dX11_passMany_9 : decode cX11_passMany 9 = .ok (.if_icmp .ge 13, 3) := by decide +kernel
theorem dX11_passMany_12 : decode cX11_passMany 12 = .ok (.aload_n 0, 1) := by decide +kernel
theorem dX11_passMany_13 : decode cX11_passMany 13 = .ok (.invokestatic 138, 3) := by decide +kernel
theorem dX11_passMany_16 : decode cX11_passMany 16 = .ok (.iinc 3 1, 3) := by decide +kernel
theorem dX11_passMany_19 : decode cX11_passMany 19 = .ok (.goto (-12), 3) := by decide +kernel
theorem dX11_passMany_22 : decode cX11_passMany 22 = .ok (.aload_n 0, 1) := by decide +kernel
theorem dX11_passMany_23 : decode cX11_passMany 23 = .ok (.bipush 11, 2) := by decide +kernel
theorem dX11_passMany_25 : decode cX11_passMany 25 = .ok (.iaload, 1) := by decide +kernel
theorem dX11_passMany_26 : decode cX11_passMany 26 = .ok (.iload_n 2, 1) := by decide +kernel
theorem dX11_passMany_27 : decode cX11_passMany 27 = .ok (.isub, 1) := by decide +kernel
theorem dX11_passMany_28 : decode cX11_passMany 28 = .ok (.ireturn, 1) := by decide +kernel
theorem dX11_appendWord_0 : decode cX11_appendWord 0 = .ok (.bipush 24, 2) := by decide +kernel
theorem dX11_appendWord_2 : decode cX11_appendWord 2 = .ok (.istore_n 2, 1) := by decide +kernel
theorem dX11_appendWord_3 : decode cX11_appendWord 3 = .ok (.iload_n 2, 1) := by decide +kernel
theorem dX11_appendWord_4 : decode cX11_appendWord 4 = .ok (.ifCond .lt 35, 3) := by decide +kernel
theorem dX11_appendWord_7 : decode cX11_appendWord 7 = .ok (.aload_n 0, 1) := by decide +kernel
theorem dX11_appendWord_8 : decode cX11_appendWord 8 = .ok (.getfield 29, 3) := by decide +kernel
theorem dX11_appendWord_11 : decode cX11_appendWord 11 = .ok (.aload_n 0, 1) := by decide +kernel
theorem dX11_appendWord_12 : decode cX11_appendWord 12 = .ok (.getfield 49, 3) := by decide +kernel
theorem dX11_appendWord_15 : decode cX11_appendWord 15 = .ok (.iload_n 1, 1) := by decide +kernel
theorem dX11_appendWord_16 : decode cX11_appendWord 16 = .ok (.iload_n 2, 1) := by decide +kernel
theorem dX11_appendWord_17 : decode cX11_appendWord 17 = .ok (.ishr, 1) := by decide +kernel
theorem dX11_appendWord_18 : decode cX11_appendWord 18 = .ok (.sipush 255, 3) := by decide +kernel
theorem dX11_appendWord_21 : decode cX11_appendWord 21 = .ok (.iand, 1) := by decide +kernel
theorem dX11_appendWord_22 : decode cX11_appendWord 22 = .ok (.iastore, 1) := by decide +kernel
theorem dX11_appendWord_23 : decode cX11_appendWord 23 = .ok (.aload_n 0, 1) := by decide +kernel
theorem dX11_appendWord_24 : decode cX11_appendWord 24 = .ok (.dup, 1) := by decide +kernel
theorem dX11_appendWord_25 : decode cX11_appendWord 25 = .ok (.getfield 49, 3) := by decide +kernel
theorem dX11_appendWord_28 : decode cX11_appendWord 28 = .ok (.iconst 1, 1) := by decide +kernel
theorem dX11_appendWord_29 : decode cX11_appendWord 29 = .ok (.iadd, 1) := by decide +kernel
theorem dX11_appendWord_30 : decode cX11_appendWord 30 = .ok (.putfield 49, 3) := by decide +kernel
theorem dX11_appendWord_33 : decode cX11_appendWord 33 = .ok (.iinc 2 (-8), 3) := by decide +kernel
theorem dX11_appendWord_36 : decode cX11_appendWord 36 = .ok (.goto (-33), 3) := by decide +kernel
theorem dX11_appendWord_39 : decode cX11_appendWord 39 = .ok (.return_, 1) := by decide +kernel
theorem dX11_appendInput_0 : decode cX11_appendInput 0 = .ok (.aload_n 0, 1) := by decide +kernel
theorem dX11_appendInput_1 : decode cX11_appendInput 1 = .ok (.iconst 0, 1) := by decide +kernel
theorem dX11_appendInput_2 : decode cX11_appendInput 2 = .ok (.putfield 66, 3) := by decide +kernel
theorem dX11_appendInput_5 : decode cX11_appendInput 5 = .ok (.aload_n 0, 1) := by decide +kernel
theorem dX11_appendInput_6 : decode cX11_appendInput 6 = .ok (.aload_n 0, 1) := by decide +kernel
theorem dX11_appendInput_7 : decode cX11_appendInput 7 = .ok (.getfield 49, 3) := by decide +kernel
theorem dX11_appendInput_10 : decode cX11_appendInput 10 = .ok (.bipush 20, 2) := by decide +kernel
theorem dX11_appendInput_12 : decode cX11_appendInput 12 = .ok (.iadd, 1) := by decide +kernel
theorem dX11_appendInput_13 : decode cX11_appendInput 13 = .ok (.sipush 600, 3) := by decide +kernel
theorem dX11_appendInput_16 : decode cX11_appendInput 16 = .ok (.if_icmp .le 7, 3) := by decide +kernel
theorem dX11_appendInput_19 : decode cX11_appendInput 19 = .ok (.iconst 1, 1) := by decide +kernel
theorem dX11_appendInput_20 : decode cX11_appendInput 20 = .ok (.goto 4, 3) := by decide +kernel
theorem dX11_appendInput_23 : decode cX11_appendInput 23 = .ok (.iconst 0, 1) := by decide +kernel
theorem dX11_appendInput_24 : decode cX11_appendInput 24 = .ok (.iconst 1, 1) := by decide +kernel
theorem dX11_appendInput_25 : decode cX11_appendInput 25 = .ok (.invokevirtual 141, 3) := by decide +kernel
theorem dX11_appendInput_28 : decode cX11_appendInput 28 = .ok (.ifCond .eq 5, 3) := by decide +kernel
theorem dX11_appendInput_31 : decode cX11_appendInput 31 = .ok (.iconst 0, 1) := by decide +kernel
theorem dX11_appendInput_32 : decode cX11_appendInput 32 = .ok (.ireturn, 1) := by decide +kernel
theorem dX11_appendInput_33 : decode cX11_appendInput 33 = .ok (.aload_n 0, 1) := by decide +kernel
theorem dX11_appendInput_34 : decode cX11_appendInput 34 = .ok (.iload_n 1, 1) := by decide +kernel
theorem dX11_appendInput_35 : decode cX11_appendInput 35 = .ok (.invokevirtual 145, 3) := by decide +kernel
theorem dX11_appendInput_38 : decode cX11_appendInput 38 = .ok (.aload_n 0, 1) := by decide +kernel
theorem dX11_appendInput_39 : decode cX11_appendInput 39 = .ok (.iload_n 2, 1) := by decide +kernel
theorem dX11_appendInput_40 : decode cX11_appendInput 40 = .ok (.invokevirtual 145, 3) := by decide +kernel
theorem dX11_appendInput_43 : decode cX11_appendInput 43 = .ok (.aload_n 0, 1) := by decide +kernel
theorem dX11_appendInput_44 : decode cX11_appendInput 44 = .ok (.iload_n 3, 1) := by decide +kernel
theorem dX11_appendInput_45 : decode cX11_appendInput 45 = .ok (.invokevirtual 145, 3) := by decide +kernel
theorem dX11_appendInput_48 : decode cX11_appendInput 48 = .ok (.aload_n 0, 1) := by decide +kernel
theorem dX11_appendInput_49 : decode cX11_appendInput 49 = .ok (.iload 4, 2) := by decide +kernel
theorem dX11_appendInput_51 : decode cX11_appendInput 51 = .ok (.invokevirtual 145, 3) := by decide +kernel
theorem dX11_appendInput_54 : decode cX11_appendInput 54 = .ok (.aload_n 0, 1) := by decide +kernel
theorem dX11_appendInput_55 : decode cX11_appendInput 55 = .ok (.iload 5, 2) := by decide +kernel
theorem dX11_appendInput_57 : decode cX11_appendInput 57 = .ok (.invokevirtual 145, 3) := by decide +kernel
theorem dX11_appendInput_60 : decode cX11_appendInput 60 = .ok (.aload_n 0, 1) := by decide +kernel
theorem dX11_appendInput_61 : decode cX11_appendInput 61 = .ok (.getfield 49, 3) := by decide +kernel
theorem dX11_appendInput_64 : decode cX11_appendInput 64 = .ok (.ireturn, 1) := by decide +kernel
theorem dX11_truncateInput_0 : decode cX11_truncateInput 0 = .ok (.aload_n 0, 1) := by decide +kernel
theorem dX11_truncateInput_1 : decode cX11_truncateInput 1 = .ok (.iload_n 1, 1) := by decide +kernel
theorem dX11_truncateInput_2 : decode cX11_truncateInput 2 = .ok (.iconst 0, 1) := by decide +kernel
theorem dX11_truncateInput_3 : decode cX11_truncateInput 3 = .ok (.aload_n 0, 1) := by decide +kernel
theorem dX11_truncateInput_4 : decode cX11_truncateInput 4 = .ok (.getfield 49, 3) := by decide +kernel
theorem dX11_truncateInput_7 : decode cX11_truncateInput 7 = .ok (.invokevirtual 149, 3) := by decide +kernel
theorem dX11_truncateInput_10 : decode cX11_truncateInput 10 = .ok (.ifCond .eq 5, 3) := by decide +kernel
theorem dX11_truncateInput_13 : decode cX11_truncateInput 13 = .ok (.iconst 0, 1) := by decide +kernel
theorem dX11_truncateInput_14 : decode cX11_truncateInput 14 = .ok (.ireturn, 1) := by decide +kernel
theorem dX11_truncateInput_15 : decode cX11_truncateInput 15 = .ok (.aload_n 0, 1) := by decide +kernel
theorem dX11_truncateInput_16 : decode cX11_truncateInput 16 = .ok (.iload_n 1, 1) := by decide +kernel
theorem dX11_truncateInput_17 : decode cX11_truncateInput 17 = .ok (.putfield 49, 3) := by decide +kernel
theorem dX11_truncateInput_20 : decode cX11_truncateInput 20 = .ok (.iload_n 1, 1) := by decide +kernel
theorem dX11_truncateInput_21 : decode cX11_truncateInput 21 = .ok (.ireturn, 1) := by decide +kernel
theorem dX11_errorCode_0 : decode cX11_errorCode 0 = .ok (.aload_n 0, 1) := by decide +kernel
theorem dX11_errorCode_1 : decode cX11_errorCode 1 = .ok (.iconst 0, 1) := by decide +kernel
theorem dX11_errorCode_2 : decode cX11_errorCode 2 = .ok (.putfield 66, 3) := by decide +kernel
theorem dX11_errorCode_5 : decode cX11_errorCode 5 = .ok (.aload_n 0, 1) := by decide +kernel
theorem dX11_errorCode_6 : decode cX11_errorCode 6 = .ok (.getfield 153, 3) := by decide +kernel
theorem dX11_errorCode_9 : decode cX11_errorCode 9 = .ok (.ireturn, 1) := by decide +kernel
theorem dX11_errorPosition_0 : decode cX11_errorPosition 0 = .ok (.aload_n 0, 1) := by decide +kernel
theorem dX11_errorPosition_1 : decode cX11_errorPosition 1 = .ok (.iconst 0, 1) := by decide +kernel
theorem dX11_errorPosition_2 : decode cX11_errorPosition 2 = .ok (.putfield 66, 3) := by decide +kernel
theorem dX11_errorPosition_5 : decode cX11_errorPosition 5 = .ok (.aload_n 0, 1) := by decide +kernel
theorem dX11_errorPosition_6 : decode cX11_errorPosition 6 = .ok (.getfield 32, 3) := by decide +kernel
theorem dX11_errorPosition_9 : decode cX11_errorPosition 9 = .ok (.ireturn, 1) := by decide +kernel
theorem dX11_byteAt_0 : decode cX11_byteAt 0 = .ok (.iload_n 1, 1) := by decide +kernel
theorem dX11_byteAt_1 : decode cX11_byteAt 1 = .ok (.aload_n 0, 1) := by decide +kernel
theorem dX11_byteAt_2 : decode cX11_byteAt 2 = .ok (.getfield 49, 3) := by decide +kernel
theorem dX11_byteAt_5 : decode cX11_byteAt 5 = .ok (.if_icmp .ge 12, 3) := by decide +kernel
theorem dX11_byteAt_8 : decode cX11_byteAt 8 = .ok (.aload_n 0, 1) := by decide +kernel
theorem dX11_byteAt_9 : decode cX11_byteAt 9 = .ok (.getfield 29, 3) := by decide +kernel
theorem dX11_byteAt_12 : decode cX11_byteAt 12 = .ok (.iload_n 1, 1) := by decide +kernel
theorem dX11_byteAt_13 : decode cX11_byteAt 13 = .ok (.iaload, 1) := by decide +kernel
theorem dX11_byteAt_14 : decode cX11_byteAt 14 = .ok (.goto 4, 3) := by decide +kernel
theorem dX11_byteAt_17 : decode cX11_byteAt 17 = .ok (.iconst (-1), 1) := by decide +kernel
theorem dX11_byteAt_18 : decode cX11_byteAt 18 = .ok (.ireturn, 1) := by decide +kernel
theorem dX11_isLetter_0 : decode cX11_isLetter 0 = .ok (.iload_n 0, 1) := by decide +kernel
theorem dX11_isLetter_1 : decode cX11_isLetter 1 = .ok (.bipush 97, 2) := by decide +kernel
theorem dX11_isLetter_3 : decode cX11_isLetter 3 = .ok (.bipush 122, 2) := by decide +kernel
theorem dX11_isLetter_5 : decode cX11_isLetter 5 = .ok (.invokestatic 156, 3) := by decide +kernel
theorem dX11_isLetter_8 : decode cX11_isLetter 8 = .ok (.ireturn, 1) := by decide +kernel
theorem dX11_advance_0 : decode cX11_advance 0 = .ok (.aload_n 0, 1) := by decide +kernel
theorem dX11_advance_1 : decode cX11_advance 1 = .ok (.aload_n 0, 1) := by decide +kernel
theorem dX11_advance_2 : decode cX11_advance 2 = .ok (.getfield 159, 3) := by decide +kernel
theorem dX11_advance_5 : decode cX11_advance 5 = .ok (.invokevirtual 162, 3) := by decide +kernel
theorem dX11_advance_8 : decode cX11_advance 8 = .ok (.bipush 32, 2) := by decide +kernel
theorem dX11_advance_10 : decode cX11_advance 10 = .ok (.if_icmp .eq 16, 3) := by decide +kernel
theorem dX11_advance_13 : decode cX11_advance 13 = .ok (.aload_n 0, 1) := by decide +kernel
theorem dX11_advance_14 : decode cX11_advance 14 = .ok (.aload_n 0, 1) := by decide +kernel
theorem dX11_advance_15 : decode cX11_advance 15 = .ok (.getfield 159, 3) := by decide +kernel
theorem dX11_advance_18 : decode cX11_advance 18 = .ok (.invokevirtual 162, 3) := by decide +kernel
theorem dX11_advance_21 : decode cX11_advance 21 = .ok (.bipush 10, 2) := by decide +kernel
theorem dX11_advance_23 : decode cX11_advance 23 = .ok (.if_icmp .ne 16, 3) := by decide +kernel
theorem dX11_advance_26 : decode cX11_advance 26 = .ok (.aload_n 0, 1) := by decide +kernel
theorem dX11_advance_27 : decode cX11_advance 27 = .ok (.dup, 1) := by decide +kernel
theorem dX11_advance_28 : decode cX11_advance 28 = .ok (.getfield 159, 3) := by decide +kernel
theorem dX11_advance_31 : decode cX11_advance 31 = .ok (.iconst 1, 1) := by decide +kernel
theorem dX11_advance_32 : decode cX11_advance 32 = .ok (.iadd, 1) := by decide +kernel
theorem dX11_advance_33 : decode cX11_advance 33 = .ok (.putfield 159, 3) := by decide +kernel
theorem dX11_advance_36 : decode cX11_advance 36 = .ok (.goto (-36), 3) := by decide +kernel
theorem dX11_advance_39 : decode cX11_advance 39 = .ok (.aload_n 0, 1) := by decide +kernel
theorem dX11_advance_40 : decode cX11_advance 40 = .ok (.aload_n 0, 1) := by decide +kernel
theorem dX11_advance_41 : decode cX11_advance 41 = .ok (.getfield 159, 3) := by decide +kernel
theorem dX11_advance_44 : decode cX11_advance 44 = .ok (.putfield 165, 3) := by decide +kernel
theorem dX11_advance_47 : decode cX11_advance 47 = .ok (.aload_n 0, 1) := by decide +kernel
theorem dX11_advance_48 : decode cX11_advance 48 = .ok (.iconst 0, 1) := by decide +kernel
theorem dX11_advance_49 : decode cX11_advance 49 = .ok (.putfield 168, 3) := by decide +kernel
theorem dX11_advance_52 : decode cX11_advance 52 = .ok (.aload_n 0, 1) := by decide +kernel
theorem dX11_advance_53 : decode cX11_advance 53 = .ok (.iconst 0, 1) := by decide +kernel
theorem dX11_advance_54 : decode cX11_advance 54 = .ok (.putfield 171, 3) := by decide +kernel
theorem dX11_advance_57 : decode cX11_advance 57 = .ok (.aload_n 0, 1) := by decide +kernel
theorem dX11_advance_58 : decode cX11_advance 58 = .ok (.aload_n 0, 1) := by decide +kernel
theorem dX11_advance_59 : decode cX11_advance 59 = .ok (.getfield 159, 3) := by decide +kernel
theorem dX11_advance_62 : decode cX11_advance 62 = .ok (.invokevirtual 162, 3) := by decide +kernel
theorem dX11_advance_65 : decode cX11_advance 65 = .ok (.istore_n 1, 1) := by decide +kernel
theorem dX11_advance_66 : decode cX11_advance 66 = .ok (.iload_n 1, 1) := by decide +kernel
theorem dX11_advance_67 : decode cX11_advance 67 = .ok (.iconst (-1), 1) := by decide +kernel
theorem dX11_advance_68 : decode cX11_advance 68 = .ok (.if_icmp .ne 11, 3) := by decide +kernel
theorem dX11_advance_71 : decode cX11_advance 71 = .ok (.aload_n 0, 1) := by decide +kernel
theorem dX11_advance_72 : decode cX11_advance 72 = .ok (.iconst 0, 1) := by decide +kernel
theorem dX11_advance_73 : decode cX11_advance 73 = .ok (.putfield 174, 3) := by decide +kernel
theorem dX11_advance_76 : decode cX11_advance 76 = .ok (.goto 153, 3) := by decide +kernel
theorem dX11_advance_79 : decode cX11_advance 79 = .ok (.iload_n 1, 1) := by decide +kernel
theorem dX11_advance_80 : decode cX11_advance 80 = .ok (.invokestatic 177, 3) := by decide +kernel
theorem dX11_advance_83 : decode cX11_advance 83 = .ok (.ifCond .eq 45, 3) := by decide +kernel
theorem dX11_advance_86 : decode cX11_advance 86 = .ok (.aload_n 0, 1) := by decide +kernel
theorem dX11_advance_87 : decode cX11_advance 87 = .ok (.iconst 3, 1) := by decide +kernel
theorem dX11_advance_88 : decode cX11_advance 88 = .ok (.putfield 174, 3) := by decide +kernel
theorem dX11_advance_91 : decode cX11_advance 91 = .ok (.aload_n 0, 1) := by decide +kernel
theorem dX11_advance_92 : decode cX11_advance 92 = .ok (.aload_n 0, 1) := by decide +kernel
theorem dX11_advance_93 : decode cX11_advance 93 = .ok (.getfield 159, 3) := by decide +kernel
theorem dX11_advance_96 : decode cX11_advance 96 = .ok (.invokevirtual 162, 3) := by decide +kernel
theorem dX11_advance_99 : decode cX11_advance 99 = .ok (.invokestatic 177, 3) := by decide +kernel
theorem dX11_advance_102 : decode cX11_advance 102 = .ok (.ifCond .eq 127, 3) := by decide +kernel
theorem dX11_advance_105 : decode cX11_advance 105 = .ok (.aload_n 0, 1) := by decide +kernel
theorem dX11_advance_106 : decode cX11_advance 106 = .ok (.dup, 1) := by decide +kernel
theorem dX11_advance_107 : decode cX11_advance 107 = .ok (.getfield 168, 3) := by decide +kernel
theorem dX11_advance_110 : decode cX11_advance 110 = .ok (.iconst 1, 1) := by decide +kernel
theorem dX11_advance_111 : decode cX11_advance 111 = .ok (.iadd, 1) := by decide +kernel
theorem dX11_advance_112 : decode cX11_advance 112 = .ok (.putfield 168, 3) := by decide +kernel
theorem dX11_advance_115 : decode cX11_advance 115 = .ok (.aload_n 0, 1) := by decide +kernel
theorem dX11_advance_116 : decode cX11_advance 116 = .ok (.dup, 1) := by decide +kernel
theorem dX11_advance_117 : decode cX11_advance 117 = .ok (.getfield 159, 3) := by decide +kernel
theorem dX11_advance_120 : decode cX11_advance 120 = .ok (.iconst 1, 1) := by decide +kernel
theorem dX11_advance_121 : decode cX11_advance 121 = .ok (.iadd, 1) := by decide +kernel
theorem dX11_advance_122 : decode cX11_advance 122 = .ok (.putfield 159, 3) := by decide +kernel
theorem dX11_advance_125 : decode cX11_advance 125 = .ok (.goto (-34), 3) := by decide +kernel
theorem dX11_advance_128 : decode cX11_advance 128 = .ok (.iload_n 1, 1) := by decide +kernel
theorem dX11_advance_129 : decode cX11_advance 129 = .ok (.bipush 48, 2) := by decide +kernel
theorem dX11_advance_131 : decode cX11_advance 131 = .ok (.bipush 57, 2) := by decide +kernel
theorem dX11_advance_133 : decode cX11_advance 133 = .ok (.invokestatic 156, 3) := by decide +kernel
theorem dX11_advance_136 : decode cX11_advance 136 = .ok (.ifCond .eq 78, 3) := by decide +kernel
theorem dX11_advance_139 : decode cX11_advance 139 = .ok (.aload_n 0, 1) := by decide +kernel
theorem dX11_advance_140 : decode cX11_advance 140 = .ok (.iconst 2, 1) := by decide +kernel
theorem dX11_advance_141 : decode cX11_advance 141 = .ok (.putfield 174, 3) := by decide +kernel
theorem dX11_advance_144 : decode cX11_advance 144 = .ok (.aload_n 0, 1) := by decide +kernel
theorem dX11_advance_145 : decode cX11_advance 145 = .ok (.aload_n 0, 1) := by decide +kernel
theorem dX11_advance_146 : decode cX11_advance 146 = .ok (.getfield 159, 3) := by decide +kernel
theorem dX11_advance_149 : decode cX11_advance 149 = .ok (.invokevirtual 162, 3) := by decide +kernel
theorem dX11_advance_152 : decode cX11_advance 152 = .ok (.bipush 48, 2) := by decide +kernel
theorem dX11_advance_154 : decode cX11_advance 154 = .ok (.bipush 57, 2) := by decide +kernel
theorem dX11_advance_156 : decode cX11_advance 156 = .ok (.invokestatic 156, 3) := by decide +kernel
theorem dX11_advance_159 : decode cX11_advance 159 = .ok (.ifCond .eq 70, 3) := by decide +kernel
theorem dX11_advance_162 : decode cX11_advance 162 = .ok (.aload_n 0, 1) := by decide +kernel
theorem dX11_advance_163 : decode cX11_advance 163 = .ok (.aload_n 0, 1) := by decide +kernel
theorem dX11_advance_164 : decode cX11_advance 164 = .ok (.getfield 171, 3) := by decide +kernel
theorem dX11_advance_167 : decode cX11_advance 167 = .ok (.ldc 181, 2) := by decide +kernel
theorem dX11_advance_169 : decode cX11_advance 169 = .ok (.if_icmp .le 10, 3) := by decide +kernel
theorem dX11_advance_172 : decode cX11_advance 172 = .ok (.aload_n 0, 1) := by decide +kernel
theorem dX11_advance_173 : decode cX11_advance 173 = .ok (.getfield 171, 3) := by decide +kernel
theorem dX11_advance_176 : decode cX11_advance 176 = .ok (.goto 22, 3) := by decide +kernel
theorem dX11_advance_179 : decode cX11_advance 179 = .ok (.bipush 10, 2) := by decide +kernel
theorem dX11_advance_181 : decode cX11_advance 181 = .ok (.aload_n 0, 1) := by decide +kernel
theorem dX11_advance_182 : decode cX11_advance 182 = .ok (.getfield 171, 3) := by decide +kernel
theorem dX11_advance_185 : decode cX11_advance 185 = .ok (.imul, 1) := by decide +kernel
theorem dX11_advance_186 : decode cX11_advance 186 = .ok (.aload_n 0, 1) := by decide +kernel
theorem dX11_advance_187 : decode cX11_advance 187 = .ok (.aload_n 0, 1) := by decide +kernel
theorem dX11_advance_188 : decode cX11_advance 188 = .ok (.getfield 159, 3) := by decide +kernel
theorem dX11_advance_191 : decode cX11_advance 191 = .ok (.invokevirtual 162, 3) := by decide +kernel
theorem dX11_advance_194 : decode cX11_advance 194 = .ok (.iadd, 1) := by decide +kernel
theorem dX11_advance_195 : decode cX11_advance 195 = .ok (.bipush 48, 2) := by decide +kernel
theorem dX11_advance_197 : decode cX11_advance 197 = .ok (.isub, 1) := by decide +kernel
theorem dX11_advance_198 : decode cX11_advance 198 = .ok (.putfield 171, 3) := by decide +kernel
theorem dX11_advance_201 : decode cX11_advance 201 = .ok (.aload_n 0, 1) := by decide +kernel
theorem dX11_advance_202 : decode cX11_advance 202 = .ok (.dup, 1) := by decide +kernel
theorem dX11_advance_203 : decode cX11_advance 203 = .ok (.getfield 159, 3) := by decide +kernel
theorem dX11_advance_206 : decode cX11_advance 206 = .ok (.iconst 1, 1) := by decide +kernel
theorem dX11_advance_207 : decode cX11_advance 207 = .ok (.iadd, 1) := by decide +kernel
theorem dX11_advance_208 : decode cX11_advance 208 = .ok (.putfield 159, 3) := by decide +kernel
theorem dX11_advance_211 : decode cX11_advance 211 = .ok (.goto (-67), 3) := by decide +kernel
theorem dX11_advance_214 : decode cX11_advance 214 = .ok (.aload_n 0, 1) := by decide +kernel
theorem dX11_advance_215 : decode cX11_advance 215 = .ok (.iconst 1, 1) := by decide +kernel
theorem dX11_advance_216 : decode cX11_advance 216 = .ok (.putfield 174, 3) := by decide +kernel
theorem dX11_advance_219 : decode cX11_advance 219 = .ok (.aload_n 0, 1) := by decide +kernel
theorem dX11_advance_220 : decode cX11_advance 220 = .ok (.dup, 1) := by decide +kernel
theorem dX11_advance_221 : decode cX11_advance 221 = .ok (.getfield 159, 3) := by decide +kernel
theorem dX11_advance_224 : decode cX11_advance 224 = .ok (.iconst 1, 1) := by decide +kernel
theorem dX11_advance_225 : decode cX11_advance 225 = .ok (.iadd, 1) := by decide +kernel
theorem dX11_advance_226 : decode cX11_advance 226 = .ok (.putfield 159, 3) := by decide +kernel
theorem dX11_advance_229 : decode cX11_advance 229 = .ok (.return_, 1) := by decide +kernel
theorem dX11_is_0 : decode cX11_is 0 = .ok (.aload_n 0, 1) := by decide +kernel
theorem dX11_is_1 : decode cX11_is 1 = .ok (.getfield 174, 3) := by decide +kernel
theorem dX11_is_4 : decode cX11_is 4 = .ok (.iconst 3, 1) := by decide +kernel
theorem dX11_is_5 : decode cX11_is 5 = .ok (.if_icmp .ne 14, 3) := by decide +kernel
theorem dX11_is_8 : decode cX11_is 8 = .ok (.aload_n 0, 1) := by decide +kernel
theorem dX11_is_9 : decode cX11_is 9 = .ok (.getfield 168, 3) := by decide +kernel
theorem dX11_is_12 : decode cX11_is 12 = .ok (.aload_n 1, 1) := by decide +kernel
theorem dX11_is_13 : decode cX11_is 13 = .ok (.invokevirtual 56, 3) := by decide +kernel
theorem dX11_is_16 : decode cX11_is 16 = .ok (.if_icmp .eq 5, 3) := by decide +kernel
theorem dX11_is_19 : decode cX11_is 19 = .ok (.iconst 0, 1) := by decide +kernel
theorem dX11_is_20 : decode cX11_is 20 = .ok (.ireturn, 1) := by decide +kernel
theorem dX11_is_21 : decode cX11_is 21 = .ok (.iconst 0, 1) := by decide +kernel
theorem dX11_is_22 : decode cX11_is 22 = .ok (.istore_n 2, 1) := by decide +kernel
theorem dX11_is_23 : decode cX11_is 23 = .ok (.iload_n 2, 1) := by decide +kernel
theorem dX11_is_24 : decode cX11_is 24 = .ok (.aload_n 0, 1) := by decide +kernel
theorem dX11_is_25 : decode cX11_is 25 = .ok (.getfield 168, 3) := by decide +kernel
theorem dX11_is_28 : decode cX11_is 28 = .ok (.if_icmp .ge 30, 3) := by decide +kernel
theorem dX11_is_31 : decode cX11_is 31 = .ok (.aload_n 0, 1) := by decide +kernel
theorem dX11_is_32 : decode cX11_is 32 = .ok (.getfield 29, 3) := by decide +kernel
theorem dX11_is_35 : decode cX11_is 35 = .ok (.aload_n 0, 1) := by decide +kernel
theorem dX11_is_36 : decode cX11_is 36 = .ok (.getfield 165, 3) := by decide +kernel
theorem dX11_is_39 : decode cX11_is 39 = .ok (.iload_n 2, 1) := by decide +kernel
theorem dX11_is_40 : decode cX11_is 40 = .ok (.iadd, 1) := by decide +kernel
theorem dX11_is_41 : decode cX11_is 41 = .ok (.iaload, 1) := by decide +kernel
theorem dX11_is_42 : decode cX11_is 42 = .ok (.aload_n 1, 1) := by decide +kernel
theorem dX11_is_43 : decode cX11_is 43 = .ok (.iload_n 2, 1) := by decide +kernel
theorem dX11_is_44 : decode cX11_is 44 = .ok (.invokevirtual 62, 3) := by decide +kernel
theorem dX11_is_47 : decode cX11_is 47 = .ok (.if_icmp .eq 5, 3) := by decide +kernel
theorem dX11_is_50 : decode cX11_is 50 = .ok (.iconst 0, 1) := by decide +kernel
theorem dX11_is_51 : decode cX11_is 51 = .ok (.ireturn, 1) := by decide +kernel
theorem dX11_is_52 : decode cX11_is 52 = .ok (.iinc 2 1, 3) := by decide +kernel
theorem dX11_is_55 : decode cX11_is 55 = .ok (.goto (-32), 3) := by decide +kernel
theorem dX11_is_58 : decode cX11_is 58 = .ok (.iconst 1, 1) := by decide +kernel
theorem dX11_is_59 : decode cX11_is 59 = .ok (.ireturn, 1) := by decide +kernel
theorem dX11_check_0 : decode cX11_check 0 = .ok (.aload_n 0, 1) := by decide +kernel
theorem dX11_check_1 : decode cX11_check 1 = .ok (.getfield 153, 3) := by decide +kernel
theorem dX11_check_4 : decode cX11_check 4 = .ok (.ifCond .ne 20, 3) := by decide +kernel
theorem dX11_check_7 : decode cX11_check 7 = .ok (.iload_n 1, 1) := by decide +kernel
theorem dX11_check_8 : decode cX11_check 8 = .ok (.ifCond .ne 16, 3) := by decide +kernel
theorem dX11_check_11 : decode cX11_check 11 = .ok (.aload_n 0, 1) := by decide +kernel
theorem dX11_check_12 : decode cX11_check 12 = .ok (.iload_n 2, 1) := by decide +kernel
theorem dX11_check_13 : decode cX11_check 13 = .ok (.putfield 153, 3) := by decide +kernel
theorem dX11_check_16 : decode cX11_check 16 = .ok (.aload_n 0, 1) := by decide +kernel
theorem dX11_check_17 : decode cX11_check 17 = .ok (.aload_n 0, 1) := by decide +kernel
theorem dX11_check_18 : decode cX11_check 18 = .ok (.getfield 165, 3) := by decide +kernel
theorem dX11_check_21 : decode cX11_check 21 = .ok (.putfield 32, 3) := by decide +kernel
theorem dX11_check_24 : decode cX11_check 24 = .ok (.aload_n 0, 1) := by decide +kernel
theorem dX11_check_25 : decode cX11_check 25 = .ok (.getfield 153, 3) := by decide +kernel
theorem dX11_check_28 : decode cX11_check 28 = .ok (.ifCond .ne 7, 3) := by decide +kernel
theorem dX11_check_31 : decode cX11_check 31 = .ok (.iconst 1, 1) := by decide +kernel
theorem dX11_check_32 : decode cX11_check 32 = .ok (.goto 4, 3) := by decide +kernel
theorem dX11_check_35 : decode cX11_check 35 = .ok (.iconst 0, 1) := by decide +kernel
theorem dX11_check_36 : decode cX11_check 36 = .ok (.ireturn, 1) := by decide +kernel
theorem dX11_next_0 : decode cX11_next 0 = .ok (.aload_n 0, 1) := by decide +kernel
theorem dX11_next_1 : decode cX11_next 1 = .ok (.getfield 153, 3) := by decide +kernel
theorem dX11_next_4 : decode cX11_next 4 = .ok (.ifCond .ne 7, 3) := by decide +kernel
theorem dX11_next_7 : decode cX11_next 7 = .ok (.aload_n 0, 1) := by decide +kernel
theorem dX11_next_8 : decode cX11_next 8 = .ok (.invokevirtual 182, 3) := by decide +kernel
theorem dX11_next_11 : decode cX11_next 11 = .ok (.return_, 1) := by decide +kernel
theorem dX11_look_0 : decode cX11_look 0 = .ok (.aload_n 0, 1) := by decide +kernel
theorem dX11_look_1 : decode cX11_look 1 = .ok (.aload_n 0, 1) := by decide +kernel
theorem dX11_look_2 : decode cX11_look 2 = .ok (.getfield 174, 3) := by decide +kernel
theorem dX11_look_5 : decode cX11_look 5 = .ok (.iconst 2, 1) := by decide +kernel
theorem dX11_look_6 : decode cX11_look 6 = .ok (.if_icmp .ne 7, 3) := by decide +kernel
theorem dX11_look_9 : decode cX11_look 9 = .ok (.iconst 1, 1) := by decide +kernel
theorem dX11_look_10 : decode cX11_look 10 = .ok (.goto 4, 3) := by decide +kernel
theorem dX11_look_13 : decode cX11_look 13 = .ok (.iconst 0, 1) := by decide +kernel
theorem dX11_look_14 : decode cX11_look 14 = .ok (.iconst 1, 1) := by decide +kernel
theorem dX11_look_15 : decode cX11_look 15 = .ok (.invokevirtual 185, 3) := by decide +kernel
theorem dX11_look_18 : decode cX11_look 18 = .ok (.pop, 1) := by decide +kernel
theorem dX11_look_19 : decode cX11_look 19 = .ok (.aload_n 0, 1) := by decide +kernel
theorem dX11_look_20 : decode cX11_look 20 = .ok (.aload_n 0, 1) := by decide +kernel
theorem dX11_look_21 : decode cX11_look 21 = .ok (.getfield 171, 3) := by decide +kernel
theorem dX11_look_24 : decode cX11_look 24 = .ok (.iload_n 1, 1) := by decide +kernel
theorem dX11_look_25 : decode cX11_look 25 = .ok (.iload_n 2, 1) := by decide +kernel
theorem dX11_look_26 : decode cX11_look 26 = .ok (.invokestatic 156, 3) := by decide +kernel
theorem dX11_look_29 : decode cX11_look 29 = .ok (.iconst 2, 1) := by decide +kernel
theorem dX11_look_30 : decode cX11_look 30 = .ok (.invokevirtual 185, 3) := by decide +kernel
theorem dX11_look_33 : decode cX11_look 33 = .ok (.pop, 1) := by decide +kernel
theorem dX11_look_34 : decode cX11_look 34 = .ok (.aload_n 0, 1) := by decide +kernel
theorem dX11_look_35 : decode cX11_look 35 = .ok (.getfield 153, 3) := by decide +kernel
theorem dX11_look_38 : decode cX11_look 38 = .ok (.ifCond .ne 10, 3) := by decide +kernel
theorem dX11_look_41 : decode cX11_look 41 = .ok (.aload_n 0, 1) := by decide +kernel
theorem dX11_look_42 : decode cX11_look 42 = .ok (.getfield 171, 3) := by decide +kernel
theorem dX11_look_45 : decode cX11_look 45 = .ok (.goto 4, 3) := by decide +kernel
theorem dX11_look_48 : decode cX11_look 48 = .ok (.iload_n 1, 1) := by decide +kernel
theorem dX11_look_49 : decode cX11_look 49 = .ok (.ireturn, 1) := by decide +kernel
theorem dX11_number_0 : decode cX11_number 0 = .ok (.aload_n 0, 1) := by decide +kernel
theorem dX11_number_1 : decode cX11_number 1 = .ok (.iload_n 1, 1) := by decide +kernel
theorem dX11_number_2 : decode cX11_number 2 = .ok (.iload_n 2, 1) := by decide +kernel
theorem dX11_number_3 : decode cX11_number 3 = .ok (.invokevirtual 188, 3) := by decide +kernel
theorem dX11_number_6 : decode cX11_number 6 = .ok (.istore_n 3, 1) := by decide +kernel
theorem dX11_number_7 : decode cX11_number 7 = .ok (.aload_n 0, 1) := by decide +kernel
theorem dX11_number_8 : decode cX11_number 8 = .ok (.invokevirtual 192, 3) := by decide +kernel
theorem dX11_number_11 : decode cX11_number 11 = .ok (.iload_n 3, 1) := by decide +kernel
theorem dX11_number_12 : decode cX11_number 12 = .ok (.ireturn, 1) := by decide +kernel
theorem dX11_finish_0 : decode cX11_finish 0 = .ok (.aload_n 0, 1) := by decide +kernel
theorem dX11_finish_1 : decode cX11_finish 1 = .ok (.aload_n 0, 1) := by decide +kernel
theorem dX11_finish_2 : decode cX11_finish 2 = .ok (.getfield 174, 3) := by decide +kernel
theorem dX11_finish_5 : decode cX11_finish 5 = .ok (.iconst 1, 1) := by decide +kernel
theorem dX11_finish_6 : decode cX11_finish 6 = .ok (.if_icmp .ne 21, 3) := by decide +kernel
theorem dX11_finish_9 : decode cX11_finish 9 = .ok (.aload_n 0, 1) := by decide +kernel
theorem dX11_finish_10 : decode cX11_finish 10 = .ok (.getfield 29, 3) := by decide +kernel
theorem dX11_finish_13 : decode cX11_finish 13 = .ok (.aload_n 0, 1) := by decide +kernel
theorem dX11_finish_14 : decode cX11_finish 14 = .ok (.getfield 165, 3) := by decide +kernel
theorem dX11_finish_17 : decode cX11_finish 17 = .ok (.iaload, 1) := by decide +kernel
theorem dX11_finish_18 : decode cX11_finish 18 = .ok (.bipush 59, 2) := by decide +kernel
theorem dX11_finish_20 : decode cX11_finish 20 = .ok (.if_icmp .ne 7, 3) := by decide +kernel
theorem dX11_finish_23 : decode cX11_finish 23 = .ok (.iconst 1, 1) := by decide +kernel
theorem dX11_finish_24 : decode cX11_finish 24 = .ok (.goto 4, 3) := by decide +kernel
theorem dX11_finish_27 : decode cX11_finish 27 = .ok (.iconst 0, 1) := by decide +kernel
theorem dX11_finish_28 : decode cX11_finish 28 = .ok (.iconst 1, 1) := by decide +kernel
theorem dX11_finish_29 : decode cX11_finish 29 = .ok (.invokevirtual 185, 3) := by decide +kernel
theorem dX11_finish_32 : decode cX11_finish 32 = .ok (.pop, 1) := by decide +kernel
theorem dX11_finish_33 : decode cX11_finish 33 = .ok (.aload_n 0, 1) := by decide +kernel
theorem dX11_finish_34 : decode cX11_finish 34 = .ok (.invokevirtual 192, 3) := by decide +kernel
theorem dX11_finish_37 : decode cX11_finish 37 = .ok (.return_, 1) := by decide +kernel
theorem dX11_nameFrom_0 : decode cX11_nameFrom 0 = .ok (.iload_n 2, 1) := by decide +kernel
theorem dX11_nameFrom_1 : decode cX11_nameFrom 1 = .ok (.iconst 1, 1) := by decide +kernel
theorem dX11_nameFrom_2 : decode cX11_nameFrom 2 = .ok (.iconst 4, 1) := by decide +kernel
theorem dX11_nameFrom_3 : decode cX11_nameFrom 3 = .ok (.invokestatic 156, 3) := by decide +kernel
theorem dX11_nameFrom_6 : decode cX11_nameFrom 6 = .ok (.ifCond .ne 5, 3) := by decide +kernel
theorem dX11_nameFrom_9 : decode cX11_nameFrom 9 = .ok (.iconst (-1), 1) := by decide +kernel
theorem dX11_nameFrom_10 : decode cX11_nameFrom 10 = .ok (.ireturn, 1) := by decide +kernel
theorem dX11_nameFrom_11 : decode cX11_nameFrom 11 = .ok (.iconst 0, 1) := by decide +kernel
theorem dX11_nameFrom_12 : decode cX11_nameFrom 12 = .ok (.istore_n 3, 1) := by decide +kernel
theorem dX11_nameFrom_13 : decode cX11_nameFrom 13 = .ok (.iconst 0, 1) := by decide +kernel
theorem dX11_nameFrom_14 : decode cX11_nameFrom 14 = .ok (.istore 4, 2) := by decide +kernel
theorem dX11_nameFrom_16 : decode cX11_nameFrom 16 = .ok (.iload 4, 2) := by decide +kernel
theorem dX11_nameFrom_18 : decode cX11_nameFrom 18 = .ok (.iconst 4, 1) := by decide +kernel
theorem dX11_nameFrom_19 : decode cX11_nameFrom 19 = .ok (.if_icmp .ge 60, 3) := by decide +kernel
theorem dX11_nameFrom_22 : decode cX11_nameFrom 22 = .ok (.iload 4, 2) := by decide +kernel
theorem dX11_nameFrom_24 : decode cX11_nameFrom 24 = .ok (.iload_n 2, 1) := by decide +kernel
theorem dX11_nameFrom_25 : decode cX11_nameFrom 25 = .ok (.if_icmp .ge 20, 3) := by decide +kernel
theorem dX11_nameFrom_28 : decode cX11_nameFrom 28 = .ok (.aload_n 0, 1) := by decide +kernel
theorem dX11_nameFrom_29 : decode cX11_nameFrom 29 = .ok (.getfield 29, 3) := by decide +kernel
theorem dX11_nameFrom_32 : decode cX11_nameFrom 32 = .ok (.iload_n 1, 1) := by decide +kernel
theorem dX11_nameFrom_33 : decode cX11_nameFrom 33 = .ok (.iload 4, 2) := by decide +kernel
theorem dX11_nameFrom_35 : decode cX11_nameFrom 35 = .ok (.iadd, 1) := by decide +kernel
theorem dX11_nameFrom_36 : decode cX11_nameFrom 36 = .ok (.iaload, 1) := by decide +kernel
theorem dX11_nameFrom_37 : decode cX11_nameFrom 37 = .ok (.invokestatic 177, 3) := by decide +kernel
theorem dX11_nameFrom_40 : decode cX11_nameFrom 40 = .ok (.ifCond .ne 5, 3) := by decide +kernel
theorem dX11_nameFrom_43 : decode cX11_nameFrom 43 = .ok (.iconst (-1), 1) := by decide +kernel
theorem dX11_nameFrom_44 : decode cX11_nameFrom 44 = .ok (.ireturn, 1) := by decide +kernel
theorem dX11_nameFrom_45 : decode cX11_nameFrom 45 = .ok (.iload_n 3, 1) := by decide +kernel
theorem dX11_nameFrom_46 : decode cX11_nameFrom 46 = .ok (.bipush 27, 2) := by decide +kernel
theorem dX11_nameFrom_48 : decode cX11_nameFrom 48 = .ok (.imul, 1) := by decide +kernel
theorem dX11_nameFrom_49 : decode cX11_nameFrom 49 = .ok (.iload 4, 2) := by decide +kernel
theorem dX11_nameFrom_51 : decode cX11_nameFrom 51 = .ok (.iload_n 2, 1) := by decide +kernel
theorem dX11_nameFrom_52 : decode cX11_nameFrom 52 = .ok (.if_icmp .ge 18, 3) := by decide +kernel
theorem dX11_nameFrom_55 : decode cX11_nameFrom 55 = .ok (.aload_n 0, 1) := by decide +kernel
theorem dX11_nameFrom_56 : decode cX11_nameFrom 56 = .ok (.getfield 29, 3) := by decide +kernel
theorem dX11_nameFrom_59 : decode cX11_nameFrom 59 = .ok (.iload_n 1, 1) := by decide +kernel
theorem dX11_nameFrom_60 : decode cX11_nameFrom 60 = .ok (.iload 4, 2) := by decide +kernel
theorem dX11_nameFrom_62 : decode cX11_nameFrom 62 = .ok (.iadd, 1) := by decide +kernel
theorem dX11_nameFrom_63 : decode cX11_nameFrom 63 = .ok (.iaload, 1) := by decide +kernel
theorem dX11_nameFrom_64 : decode cX11_nameFrom 64 = .ok (.bipush 96, 2) := by decide +kernel
theorem dX11_nameFrom_66 : decode cX11_nameFrom 66 = .ok (.isub, 1) := by decide +kernel
theorem dX11_nameFrom_67 : decode cX11_nameFrom 67 = .ok (.goto 4, 3) := by decide +kernel
theorem dX11_nameFrom_70 : decode cX11_nameFrom 70 = .ok (.iconst 0, 1) := by decide +kernel
theorem dX11_nameFrom_71 : decode cX11_nameFrom 71 = .ok (.iadd, 1) := by decide +kernel
theorem dX11_nameFrom_72 : decode cX11_nameFrom 72 = .ok (.istore_n 3, 1) := by decide +kernel
theorem dX11_nameFrom_73 : decode cX11_nameFrom 73 = .ok (.iinc 4 1, 3) := by decide +kernel
theorem dX11_nameFrom_76 : decode cX11_nameFrom 76 = .ok (.goto (-60), 3) := by decide +kernel
theorem dX11_nameFrom_79 : decode cX11_nameFrom 79 = .ok (.iload_n 3, 1) := by decide +kernel
theorem dX11_nameFrom_80 : decode cX11_nameFrom 80 = .ok (.ireturn, 1) := by decide +kernel
theorem dX11_villageNamed_0 : decode cX11_villageNamed 0 = .ok (.iconst 0, 1) := by decide +kernel
theorem dX11_villageNamed_1 : decode cX11_villageNamed 1 = .ok (.istore_n 2, 1) := by decide +kernel
theorem dX11_villageNamed_2 : decode cX11_villageNamed 2 = .ok (.iload_n 2, 1) := by decide +kernel
theorem dX11_villageNamed_3 : decode cX11_villageNamed 3 = .ok (.aload_n 0, 1) := by decide +kernel
theorem dX11_villageNamed_4 : decode cX11_villageNamed 4 = .ok (.bipush 6, 2) := by decide +kernel
theorem dX11_villageNamed_6 : decode cX11_villageNamed 6 = .ok (.iaload, 1) := by decide +kernel
theorem dX11_villageNamed_7 : decode cX11_villageNamed 7 = .ok (.if_icmp .ge 23, 3) := by decide +kernel
theorem dX11_villageNamed_10 : decode cX11_villageNamed 10 = .ok (.aload_n 0, 1) := by decide +kernel
theorem dX11_villageNamed_11 : decode cX11_villageNamed 11 = .ok (.iload_n 2, 1) := by decide +kernel
theorem dX11_villageNamed_12 : decode cX11_villageNamed 12 = .ok (.invokestatic 81, 3) := by decide +kernel
theorem dX11_villageNamed_15 : decode cX11_villageNamed 15 = .ok (.iconst 0, 1) := by decide +kernel
theorem dX11_villageNamed_16 : decode cX11_villageNamed 16 = .ok (.iadd, 1) := by decide +kernel
theorem dX11_villageNamed_17 : decode cX11_villageNamed 17 = .ok (.iaload, 1) := by decide +kernel
theorem dX11_villageNamed_18 : decode cX11_villageNamed 18 = .ok (.iload_n 1, 1) := by decide +kernel
theorem dX11_villageNamed_19 : decode cX11_villageNamed 19 = .ok (.if_icmp .ne 5, 3) := by decide +kernel
theorem dX11_villageNamed_22 : decode cX11_villageNamed 22 = .ok (.iload_n 2, 1) := by decide +kernel
theorem dX11_villageNamed_23 : decode cX11_villageNamed 23 = .ok (.ireturn, 1) := by decide +kernel
theorem dX11_villageNamed_24 : decode cX11_villageNamed 24 = .ok (.iinc 2 1, 3) := by decide +kernel
theorem dX11_villageNamed_27 : decode cX11_villageNamed 27 = .ok (.goto (-25), 3) := by decide +kernel
theorem dX11_villageNamed_30 : decode cX11_villageNamed 30 = .ok (.iconst (-1), 1) := by decide +kernel
theorem dX11_villageNamed_31 : decode cX11_villageNamed 31 = .ok (.ireturn, 1) := by decide +kernel
theorem dX11_fairNamed_0 : decode cX11_fairNamed 0 = .ok (.iconst 0, 1) := by decide +kernel
theorem dX11_fairNamed_1 : decode cX11_fairNamed 1 = .ok (.istore_n 2, 1) := by decide +kernel
theorem dX11_fairNamed_2 : decode cX11_fairNamed 2 = .ok (.iload_n 2, 1) := by decide +kernel
theorem dX11_fairNamed_3 : decode cX11_fairNamed 3 = .ok (.aload_n 0, 1) := by decide +kernel
theorem dX11_fairNamed_4 : decode cX11_fairNamed 4 = .ok (.bipush 7, 2) := by decide +kernel
theorem dX11_fairNamed_6 : decode cX11_fairNamed 6 = .ok (.iaload, 1) := by decide +kernel
theorem dX11_fairNamed_7 : decode cX11_fairNamed 7 = .ok (.if_icmp .ge 23, 3) := by decide +kernel
theorem dX11_fairNamed_10 : decode cX11_fairNamed 10 = .ok (.aload_n 0, 1) := by decide +kernel
theorem dX11_fairNamed_11 : decode cX11_fairNamed 11 = .ok (.iload_n 2, 1) := by decide +kernel
theorem dX11_fairNamed_12 : decode cX11_fairNamed 12 = .ok (.invokestatic 98, 3) := by decide +kernel
theorem dX11_fairNamed_15 : decode cX11_fairNamed 15 = .ok (.iconst 0, 1) := by decide +kernel
theorem dX11_fairNamed_16 : decode cX11_fairNamed 16 = .ok (.iadd, 1) := by decide +kernel
theorem dX11_fairNamed_17 : decode cX11_fairNamed 17 = .ok (.iaload, 1) := by decide +kernel
theorem dX11_fairNamed_18 : decode cX11_fairNamed 18 = .ok (.iload_n 1, 1) := by decide +kernel
theorem dX11_fairNamed_19 : decode cX11_fairNamed 19 = .ok (.if_icmp .ne 5, 3) := by decide +kernel
theorem dX11_fairNamed_22 : decode cX11_fairNamed 22 = .ok (.iload_n 2, 1) := by decide +kernel
theorem dX11_fairNamed_23 : decode cX11_fairNamed 23 = .ok (.ireturn, 1) := by decide +kernel
theorem dX11_fairNamed_24 : decode cX11_fairNamed 24 = .ok (.iinc 2 1, 3) := by decide +kernel
theorem dX11_fairNamed_27 : decode cX11_fairNamed 27 = .ok (.goto (-25), 3) := by decide +kernel
theorem dX11_fairNamed_30 : decode cX11_fairNamed 30 = .ok (.iconst (-1), 1) := by decide +kernel
theorem dX11_fairNamed_31 : decode cX11_fairNamed 31 = .ok (.ireturn, 1) := by decide +kernel
theorem dX11_newName_0 : decode cX11_newName 0 = .ok (.aload_n 0, 1) := by decide +kernel
theorem dX11_newName_1 : decode cX11_newName 1 = .ok (.aload_n 0, 1) := by decide +kernel
theorem dX11_newName_2 : decode cX11_newName 2 = .ok (.getfield 174, 3) := by decide +kernel
theorem dX11_newName_5 : decode cX11_newName 5 = .ok (.iconst 3, 1) := by decide +kernel
theorem dX11_newName_6 : decode cX11_newName 6 = .ok (.if_icmp .ne 7, 3) := by decide +kernel
theorem dX11_newName_9 : decode cX11_newName 9 = .ok (.iconst 1, 1) := by decide +kernel
theorem dX11_newName_10 : decode cX11_newName 10 = .ok (.goto 4, 3) := by decide +kernel
theorem dX11_newName_13 : decode cX11_newName 13 = .ok (.iconst 0, 1) := by decide +kernel
theorem dX11_newName_14 : decode cX11_newName 14 = .ok (.iconst 1, 1) := by decide +kernel
theorem dX11_newName_15 : decode cX11_newName 15 = .ok (.invokevirtual 185, 3) := by decide +kernel
theorem dX11_newName_18 : decode cX11_newName 18 = .ok (.pop, 1) := by decide +kernel
theorem dX11_newName_19 : decode cX11_newName 19 = .ok (.aload_n 0, 1) := by decide +kernel
theorem dX11_newName_20 : decode cX11_newName 20 = .ok (.getfield 153, 3) := by decide +kernel
theorem dX11_newName_23 : decode cX11_newName 23 = .ok (.ifCond .ne 18, 3) := by decide +kernel
theorem dX11_newName_26 : decode cX11_newName 26 = .ok (.aload_n 0, 1) := by decide +kernel
theorem dX11_newName_27 : decode cX11_newName 27 = .ok (.aload_n 0, 1) := by decide +kernel
theorem dX11_newName_28 : decode cX11_newName 28 = .ok (.getfield 165, 3) := by decide +kernel
theorem dX11_newName_31 : decode cX11_newName 31 = .ok (.aload_n 0, 1) := by decide +kernel
theorem dX11_newName_32 : decode cX11_newName 32 = .ok (.getfield 168, 3) := by decide +kernel
theorem dX11_newName_35 : decode cX11_newName 35 = .ok (.invokevirtual 195, 3) := by decide +kernel
theorem dX11_newName_38 : decode cX11_newName 38 = .ok (.goto 4, 3) := by decide +kernel
theorem dX11_newName_41 : decode cX11_newName 41 = .ok (.iconst 0, 1) := by decide +kernel
theorem dX11_newName_42 : decode cX11_newName 42 = .ok (.istore_n 1, 1) := by decide +kernel
theorem dX11_newName_43 : decode cX11_newName 43 = .ok (.aload_n 0, 1) := by decide +kernel
theorem dX11_newName_44 : decode cX11_newName 44 = .ok (.iload_n 1, 1) := by decide +kernel
theorem dX11_newName_45 : decode cX11_newName 45 = .ok (.iconst (-1), 1) := by decide +kernel
theorem dX11_newName_46 : decode cX11_newName 46 = .ok (.if_icmp .eq 7, 3) := by decide +kernel
theorem dX11_newName_49 : decode cX11_newName 49 = .ok (.iconst 1, 1) := by decide +kernel
theorem dX11_newName_50 : decode cX11_newName 50 = .ok (.goto 4, 3) := by decide +kernel
theorem dX11_newName_53 : decode cX11_newName 53 = .ok (.iconst 0, 1) := by decide +kernel
theorem dX11_newName_54 : decode cX11_newName 54 = .ok (.iconst 2, 1) := by decide +kernel
theorem dX11_newName_55 : decode cX11_newName 55 = .ok (.invokevirtual 185, 3) := by decide +kernel
theorem dX11_newName_58 : decode cX11_newName 58 = .ok (.pop, 1) := by decide +kernel
theorem dX11_newName_59 : decode cX11_newName 59 = .ok (.aload_n 0, 1) := by decide +kernel
theorem dX11_newName_60 : decode cX11_newName 60 = .ok (.aload_n 0, 1) := by decide +kernel
theorem dX11_newName_61 : decode cX11_newName 61 = .ok (.getfield 153, 3) := by decide +kernel
theorem dX11_newName_64 : decode cX11_newName 64 = .ok (.ifCond .ne 27, 3) := by decide +kernel
theorem dX11_newName_67 : decode cX11_newName 67 = .ok (.aload_n 0, 1) := by decide +kernel
theorem dX11_newName_68 : decode cX11_newName 68 = .ok (.getfield 13, 3) := by decide +kernel
theorem dX11_newName_71 : decode cX11_newName 71 = .ok (.iload_n 1, 1) := by decide +kernel
theorem dX11_newName_72 : decode cX11_newName 72 = .ok (.invokestatic 198, 3) := by decide +kernel
theorem dX11_newName_75 : decode cX11_newName 75 = .ok (.iconst (-1), 1) := by decide +kernel
theorem dX11_newName_76 : decode cX11_newName 76 = .ok (.if_icmp .ne 19, 3) := by decide +kernel
theorem dX11_newName_79 : decode cX11_newName 79 = .ok (.aload_n 0, 1) := by decide +kernel
theorem dX11_newName_80 : decode cX11_newName 80 = .ok (.getfield 13, 3) := by decide +kernel
theorem dX11_newName_83 : decode cX11_newName 83 = .ok (.iload_n 1, 1) := by decide +kernel
theorem dX11_newName_84 : decode cX11_newName 84 = .ok (.invokestatic 201, 3) := by decide +kernel
theorem dX11_newName_87 : decode cX11_newName 87 = .ok (.iconst (-1), 1) := by decide +kernel
theorem dX11_newName_88 : decode cX11_newName 88 = .ok (.if_icmp .ne 7, 3) := by decide +kernel
theorem dX11_newName_91 : decode cX11_newName 91 = .ok (.iconst 1, 1) := by decide +kernel
theorem dX11_newName_92 : decode cX11_newName 92 = .ok (.goto 4, 3) := by decide +kernel
theorem dX11_newName_95 : decode cX11_newName 95 = .ok (.iconst 0, 1) := by decide +kernel
theorem dX11_newName_96 : decode cX11_newName 96 = .ok (.iconst 3, 1) := by decide +kernel
theorem dX11_newName_97 : decode cX11_newName 97 = .ok (.invokevirtual 185, 3) := by decide +kernel
theorem dX11_newName_100 : decode cX11_newName 100 = .ok (.pop, 1) := by decide +kernel
theorem dX11_newName_101 : decode cX11_newName 101 = .ok (.aload_n 0, 1) := by decide +kernel
theorem dX11_newName_102 : decode cX11_newName 102 = .ok (.invokevirtual 192, 3) := by decide +kernel
theorem dX11_newName_105 : decode cX11_newName 105 = .ok (.iload_n 1, 1) := by decide +kernel
theorem dX11_newName_106 : decode cX11_newName 106 = .ok (.ireturn, 1) := by decide +kernel
theorem dX11_villageHere_0 : decode cX11_villageHere 0 = .ok (.aload_n 0, 1) := by decide +kernel
theorem dX11_villageHere_1 : decode cX11_villageHere 1 = .ok (.aload_n 0, 1) := by decide +kernel
theorem dX11_villageHere_2 : decode cX11_villageHere 2 = .ok (.getfield 174, 3) := by decide +kernel
theorem dX11_villageHere_5 : decode cX11_villageHere 5 = .ok (.iconst 3, 1) := by decide +kernel
theorem dX11_villageHere_6 : decode cX11_villageHere 6 = .ok (.if_icmp .ne 7, 3) := by decide +kernel
theorem dX11_villageHere_9 : decode cX11_villageHere 9 = .ok (.iconst 1, 1) := by decide +kernel
theorem dX11_villageHere_10 : decode cX11_villageHere 10 = .ok (.goto 4, 3) := by decide +kernel
theorem dX11_villageHere_13 : decode cX11_villageHere 13 = .ok (.iconst 0, 1) := by decide +kernel
theorem dX11_villageHere_14 : decode cX11_villageHere 14 = .ok (.iconst 1, 1) := by decide +kernel
theorem dX11_villageHere_15 : decode cX11_villageHere 15 = .ok (.invokevirtual 185, 3) := by decide +kernel
theorem dX11_villageHere_18 : decode cX11_villageHere 18 = .ok (.pop, 1) := by decide +kernel
theorem dX11_villageHere_19 : decode cX11_villageHere 19 = .ok (.aload_n 0, 1) := by decide +kernel
theorem dX11_villageHere_20 : decode cX11_villageHere 20 = .ok (.getfield 153, 3) := by decide +kernel
theorem dX11_villageHere_23 : decode cX11_villageHere 23 = .ok (.ifCond .ne 25, 3) := by decide +kernel
theorem dX11_villageHere_26 : decode cX11_villageHere 26 = .ok (.aload_n 0, 1) := by decide +kernel
theorem dX11_villageHere_27 : decode cX11_villageHere 27 = .ok (.getfield 13, 3) := by decide +kernel
theorem dX11_villageHere_30 : decode cX11_villageHere 30 = .ok (.aload_n 0, 1) := by decide +kernel
theorem dX11_villageHere_31 : decode cX11_villageHere 31 = .ok (.aload_n 0, 1) := by decide +kernel
theorem dX11_villageHere_32 : decode cX11_villageHere 32 = .ok (.getfield 165, 3) := by decide +kernel
theorem dX11_villageHere_35 : decode cX11_villageHere 35 = .ok (.aload_n 0, 1) := by decide +kernel
theorem dX11_villageHere_36 : decode cX11_villageHere 36 = .ok (.getfield 168, 3) := by decide +kernel
theorem dX11_villageHere_39 : decode cX11_villageHere 39 = .ok (.invokevirtual 195, 3) := by decide +kernel
theorem dX11_villageHere_42 : decode cX11_villageHere 42 = .ok (.invokestatic 198, 3) := by decide +kernel
theorem dX11_villageHere_45 : decode cX11_villageHere 45 = .ok (.goto 4, 3) := by decide +kernel
theorem dX11_villageHere_48 : decode cX11_villageHere 48 = .ok (.iconst 0, 1) := by decide +kernel
theorem dX11_villageHere_49 : decode cX11_villageHere 49 = .ok (.istore_n 1, 1) := by decide +kernel
theorem dX11_villageHere_50 : decode cX11_villageHere 50 = .ok (.aload_n 0, 1) := by decide +kernel
theorem dX11_villageHere_51 : decode cX11_villageHere 51 = .ok (.iload_n 1, 1) := by decide +kernel
theorem dX11_villageHere_52 : decode cX11_villageHere 52 = .ok (.iconst (-1), 1) := by decide +kernel
theorem dX11_villageHere_53 : decode cX11_villageHere 53 = .ok (.if_icmp .eq 7, 3) := by decide +kernel
theorem dX11_villageHere_56 : decode cX11_villageHere 56 = .ok (.iconst 1, 1) := by decide +kernel
theorem dX11_villageHere_57 : decode cX11_villageHere 57 = .ok (.goto 4, 3) := by decide +kernel
theorem dX11_villageHere_60 : decode cX11_villageHere 60 = .ok (.iconst 0, 1) := by decide +kernel
theorem dX11_villageHere_61 : decode cX11_villageHere 61 = .ok (.iconst 4, 1) := by decide +kernel
theorem dX11_villageHere_62 : decode cX11_villageHere 62 = .ok (.invokevirtual 185, 3) := by decide +kernel
theorem dX11_villageHere_65 : decode cX11_villageHere 65 = .ok (.pop, 1) := by decide +kernel
theorem dX11_villageHere_66 : decode cX11_villageHere 66 = .ok (.aload_n 0, 1) := by decide +kernel
theorem dX11_villageHere_67 : decode cX11_villageHere 67 = .ok (.invokevirtual 192, 3) := by decide +kernel
theorem dX11_villageHere_70 : decode cX11_villageHere 70 = .ok (.aload_n 0, 1) := by decide +kernel
theorem dX11_villageHere_71 : decode cX11_villageHere 71 = .ok (.getfield 153, 3) := by decide +kernel
theorem dX11_villageHere_74 : decode cX11_villageHere 74 = .ok (.ifCond .ne 7, 3) := by decide +kernel
theorem dX11_villageHere_77 : decode cX11_villageHere 77 = .ok (.iload_n 1, 1) := by decide +kernel
theorem dX11_villageHere_78 : decode cX11_villageHere 78 = .ok (.goto 4, 3) := by decide +kernel
theorem dX11_villageHere_81 : decode cX11_villageHere 81 = .ok (.iconst 0, 1) := by decide +kernel
theorem dX11_villageHere_82 : decode cX11_villageHere 82 = .ok (.ireturn, 1) := by decide +kernel
theorem dX11_weatherHere_0 : decode cX11_weatherHere 0 = .ok (.iconst (-1), 1) := by decide +kernel
theorem dX11_weatherHere_1 : decode cX11_weatherHere 1 = .ok (.istore_n 1, 1) := by decide +kernel
theorem dX11_weatherHere_2 : decode cX11_weatherHere 2 = .ok (.aload_n 0, 1) := by decide +kernel
theorem dX11_weatherHere_3 : decode cX11_weatherHere 3 = .ok (.ldc 204, 2) := by decide +kernel
theorem dX11_weatherHere_5 : decode cX11_weatherHere 5 = .ok (.invokevirtual 206, 3) := by decide +kernel
theorem dX11_weatherHere_8 : decode cX11_weatherHere 8 = .ok (.ifCond .eq 8, 3) := by decide +kernel
theorem dX11_weatherHere_11 : decode cX11_weatherHere 11 = .ok (.iconst 0, 1) := by decide +kernel
theorem dX11_weatherHere_12 : decode cX11_weatherHere 12 = .ok (.istore_n 1, 1) := by decide +kernel
theorem dX11_weatherHere_13 : decode cX11_weatherHere 13 = .ok (.goto 28, 3) := by decide +kernel
theorem dX11_weatherHere_16 : decode cX11_weatherHere 16 = .ok (.aload_n 0, 1) := by decide +kernel
theorem dX11_weatherHere_17 : decode cX11_weatherHere 17 = .ok (.ldc 210, 2) := by decide +kernel
theorem dX11_weatherHere_19 : decode cX11_weatherHere 19 = .ok (.invokevirtual 206, 3) := by decide +kernel
theorem dX11_weatherHere_22 : decode cX11_weatherHere 22 = .ok (.ifCond .eq 8, 3) := by decide +kernel
theorem dX11_weatherHere_25 : decode cX11_weatherHere 25 = .ok (.iconst 1, 1) := by decide +kernel
theorem dX11_weatherHere_26 : decode cX11_weatherHere 26 = .ok (.istore_n 1, 1) := by decide +kernel
theorem dX11_weatherHere_27 : decode cX11_weatherHere 27 = .ok (.goto 14, 3) := by decide +kernel
theorem dX11_weatherHere_30 : decode cX11_weatherHere 30 = .ok (.aload_n 0, 1) := by decide +kernel
theorem dX11_weatherHere_31 : decode cX11_weatherHere 31 = .ok (.ldc 212, 2) := by decide +kernel
theorem dX11_weatherHere_33 : decode cX11_weatherHere 33 = .ok (.invokevirtual 206, 3) := by decide +kernel
theorem dX11_weatherHere_36 : decode cX11_weatherHere 36 = .ok (.ifCond .eq 5, 3) := by decide +kernel
theorem dX11_weatherHere_39 : decode cX11_weatherHere 39 = .ok (.iconst 2, 1) := by decide +kernel
theorem dX11_weatherHere_40 : decode cX11_weatherHere 40 = .ok (.istore_n 1, 1) := by decide +kernel
theorem dX11_weatherHere_41 : decode cX11_weatherHere 41 = .ok (.aload_n 0, 1) := by decide +kernel
theorem dX11_weatherHere_42 : decode cX11_weatherHere 42 = .ok (.iload_n 1, 1) := by decide +kernel
theorem dX11_weatherHere_43 : decode cX11_weatherHere 43 = .ok (.iconst (-1), 1) := by decide +kernel
theorem dX11_weatherHere_44 : decode cX11_weatherHere 44 = .ok (.if_icmp .eq 7, 3) := by decide +kernel
theorem dX11_weatherHere_47 : decode cX11_weatherHere 47 = .ok (.iconst 1, 1) := by decide +kernel
theorem dX11_weatherHere_48 : decode cX11_weatherHere 48 = .ok (.goto 4, 3) := by decide +kernel
theorem dX11_weatherHere_51 : decode cX11_weatherHere 51 = .ok (.iconst 0, 1) := by decide +kernel
theorem dX11_weatherHere_52 : decode cX11_weatherHere 52 = .ok (.iconst 1, 1) := by decide +kernel
theorem dX11_weatherHere_53 : decode cX11_weatherHere 53 = .ok (.invokevirtual 185, 3) := by decide +kernel
theorem dX11_weatherHere_56 : decode cX11_weatherHere 56 = .ok (.pop, 1) := by decide +kernel
theorem dX11_weatherHere_57 : decode cX11_weatherHere 57 = .ok (.aload_n 0, 1) := by decide +kernel
theorem dX11_weatherHere_58 : decode cX11_weatherHere 58 = .ok (.invokevirtual 192, 3) := by decide +kernel
theorem dX11_weatherHere_61 : decode cX11_weatherHere 61 = .ok (.iload_n 1, 1) := by decide +kernel
theorem dX11_weatherHere_62 : decode cX11_weatherHere 62 = .ok (.ireturn, 1) := by decide +kernel
theorem dX11_readVillage_0 : decode cX11_readVillage 0 = .ok (.aload_n 0, 1) := by decide +kernel
theorem dX11_readVillage_1 : decode cX11_readVillage 1 = .ok (.aload_n 0, 1) := by decide +kernel
theorem dX11_readVillage_2 : decode cX11_readVillage 2 = .ok (.getfield 13, 3) := by decide +kernel
theorem dX11_readVillage_5 : decode cX11_readVillage 5 = .ok (.bipush 6, 2) := by decide +kernel
theorem dX11_readVillage_7 : decode cX11_readVillage 7 = .ok (.iaload, 1) := by decide +kernel
theorem dX11_readVillage_8 : decode cX11_readVillage 8 = .ok (.bipush 6, 2) := by decide +kernel
theorem dX11_readVillage_10 : decode cX11_readVillage 10 = .ok (.if_icmp .ge 7, 3) := by decide +kernel
theorem dX11_readVillage_13 : decode cX11_readVillage 13 = .ok (.iconst 1, 1) := by decide +kernel
theorem dX11_readVillage_14 : decode cX11_readVillage 14 = .ok (.goto 4, 3) := by decide +kernel
theorem dX11_readVillage_17 : decode cX11_readVillage 17 = .ok (.iconst 0, 1) := by decide +kernel
theorem dX11_readVillage_18 : decode cX11_readVillage 18 = .ok (.iconst 5, 1) := by decide +kernel
theorem dX11_readVillage_19 : decode cX11_readVillage 19 = .ok (.invokevirtual 185, 3) := by decide +kernel
theorem dX11_readVillage_22 : decode cX11_readVillage 22 = .ok (.pop, 1) := by decide +kernel
theorem dX11_readVillage_23 : decode cX11_readVillage 23 = .ok (.aload_n 0, 1) := by decide +kernel
theorem dX11_readVillage_24 : decode cX11_readVillage 24 = .ok (.invokevirtual 192, 3) := by decide +kernel
theorem dX11_readVillage_27 : decode cX11_readVillage 27 = .ok (.aload_n 0, 1) := by decide +kernel
theorem dX11_readVillage_28 : decode cX11_readVillage 28 = .ok (.invokevirtual 214, 3) := by decide +kernel
theorem dX11_readVillage_31 : decode cX11_readVillage 31 = .ok (.istore_n 1, 1) := by decide +kernel
theorem dX11_readVillage_32 : decode cX11_readVillage 32 = .ok (.aload_n 0, 1) := by decide +kernel
theorem dX11_readVillage_33 : decode cX11_readVillage 33 = .ok (.iconst 1, 1) := by decide +kernel
theorem dX11_readVillage_34 : decode cX11_readVillage 34 = .ok (.bipush 99, 2) := by decide +kernel
theorem dX11_readVillage_36 : decode cX11_readVillage 36 = .ok (.invokevirtual 217, 3) := by decide +kernel
theorem dX11_readVillage_39 : decode cX11_readVillage 39 = .ok (.istore_n 2, 1) := by decide +kernel
theorem dX11_readVillage_40 : decode cX11_readVillage 40 = .ok (.aload_n 0, 1) := by decide +kernel
theorem dX11_readVillage_41 : decode cX11_readVillage 41 = .ok (.iconst 0, 1) := by decide +kernel
theorem dX11_readVillage_42 : decode cX11_readVillage 42 = .ok (.bipush 100, 2) := by decide +kernel
theorem dX11_readVillage_44 : decode cX11_readVillage 44 = .ok (.invokevirtual 217, 3) := by decide +kernel
theorem dX11_readVillage_47 : decode cX11_readVillage 47 = .ok (.istore_n 3, 1) := by decide +kernel
theorem dX11_readVillage_48 : decode cX11_readVillage 48 = .ok (.aload_n 0, 1) := by decide +kernel
theorem dX11_readVillage_49 : decode cX11_readVillage 49 = .ok (.invokevirtual 220, 3) := by decide +kernel
theorem dX11_readVillage_52 : decode cX11_readVillage 52 = .ok (.aload_n 0, 1) := by decide +kernel
theorem dX11_readVillage_53 : decode cX11_readVillage 53 = .ok (.getfield 153, 3) := by decide +kernel
theorem dX11_readVillage_56 : decode cX11_readVillage 56 = .ok (.ifCond .ne 56, 3) := by decide +kernel
theorem dX11_readVillage_59 : decode cX11_readVillage 59 = .ok (.aload_n 0, 1) := by decide +kernel
theorem dX11_readVillage_60 : decode cX11_readVillage 60 = .ok (.getfield 13, 3) := by decide +kernel
theorem dX11_readVillage_63 : decode cX11_readVillage 63 = .ok (.bipush 6, 2) := by decide +kernel
theorem dX11_readVillage_65 : decode cX11_readVillage 65 = .ok (.iaload, 1) := by decide +kernel
theorem dX11_readVillage_66 : decode cX11_readVillage 66 = .ok (.invokestatic 81, 3) := by decide +kernel
theorem dX11_readVillage_69 : decode cX11_readVillage 69 = .ok (.istore 4, 2) := by decide +kernel
theorem dX11_readVillage_71 : decode cX11_readVillage 71 = .ok (.aload_n 0, 1) := by decide +kernel
theorem dX11_readVillage_72 : decode cX11_readVillage 72 = .ok (.getfield 13, 3) := by decide +kernel
theorem dX11_readVillage_75 : decode cX11_readVillage 75 = .ok (.iload 4, 2) := by decide +kernel
theorem dX11_readVillage_77 : decode cX11_readVillage 77 = .ok (.iconst 0, 1) := by decide +kernel
theorem dX11_readVillage_78 : decode cX11_readVillage 78 = .ok (.iadd, 1) := by decide +kernel
theorem dX11_readVillage_79 : decode cX11_readVillage 79 = .ok (.iload_n 1, 1) := by decide +kernel
theorem dX11_readVillage_80 : decode cX11_readVillage 80 = .ok (.iastore, 1) := by decide +kernel
theorem dX11_readVillage_81 : decode cX11_readVillage 81 = .ok (.aload_n 0, 1) := by decide +kernel
theorem dX11_readVillage_82 : decode cX11_readVillage 82 = .ok (.getfield 13, 3) := by decide +kernel
theorem dX11_readVillage_85 : decode cX11_readVillage 85 = .ok (.iload 4, 2) := by decide +kernel
theorem dX11_readVillage_87 : decode cX11_readVillage 87 = .ok (.iconst 1, 1) := by decide +kernel
theorem dX11_readVillage_88 : decode cX11_readVillage 88 = .ok (.iadd, 1) := by decide +kernel
theorem dX11_readVillage_89 : decode cX11_readVillage 89 = .ok (.iload_n 2, 1) := by decide +kernel
theorem dX11_readVillage_90 : decode cX11_readVillage 90 = .ok (.iastore, 1) := by decide +kernel
theorem dX11_readVillage_91 : decode cX11_readVillage 91 = .ok (.aload_n 0, 1) := by decide +kernel
theorem dX11_readVillage_92 : decode cX11_readVillage 92 = .ok (.getfield 13, 3) := by decide +kernel
theorem dX11_readVillage_95 : decode cX11_readVillage 95 = .ok (.iload 4, 2) := by decide +kernel
theorem dX11_readVillage_97 : decode cX11_readVillage 97 = .ok (.iconst 2, 1) := by decide +kernel
theorem dX11_readVillage_98 : decode cX11_readVillage 98 = .ok (.iadd, 1) := by decide +kernel
theorem dX11_readVillage_99 : decode cX11_readVillage 99 = .ok (.iload_n 3, 1) := by decide +kernel
theorem dX11_readVillage_100 : decode cX11_readVillage 100 = .ok (.iastore, 1) := by decide +kernel
theorem dX11_readVillage_101 : decode cX11_readVillage 101 = .ok (.aload_n 0, 1) := by decide +kernel
theorem dX11_readVillage_102 : decode cX11_readVillage 102 = .ok (.getfield 13, 3) := by decide +kernel
theorem dX11_readVillage_105 : decode cX11_readVillage 105 = .ok (.bipush 6, 2) := by decide +kernel
theorem dX11_readVillage_107 : decode cX11_readVillage 107 = .ok (.dup2, 1) := by decide +kernel
theorem dX11_readVillage_108 : decode cX11_readVillage 108 = .ok (.iaload, 1) := by decide +kernel
theorem dX11_readVillage_109 : decode cX11_readVillage 109 = .ok (.iconst 1, 1) := by decide +kernel
theorem dX11_readVillage_110 : decode cX11_readVillage 110 = .ok (.iadd, 1) := by decide +kernel
theorem dX11_readVillage_111 : decode cX11_readVillage 111 = .ok (.iastore, 1) := by decide +kernel
theorem dX11_readVillage_112 : decode cX11_readVillage 112 = .ok (.return_, 1) := by decide +kernel
theorem dX11_readFair_0 : decode cX11_readFair 0 = .ok (.aload_n 0, 1) := by decide +kernel
theorem dX11_readFair_1 : decode cX11_readFair 1 = .ok (.aload_n 0, 1) := by decide +kernel
theorem dX11_readFair_2 : decode cX11_readFair 2 = .ok (.getfield 13, 3) := by decide +kernel
theorem dX11_readFair_5 : decode cX11_readFair 5 = .ok (.bipush 7, 2) := by decide +kernel
theorem dX11_readFair_7 : decode cX11_readFair 7 = .ok (.iaload, 1) := by decide +kernel
theorem dX11_readFair_8 : decode cX11_readFair 8 = .ok (.bipush 6, 2) := by decide +kernel
theorem dX11_readFair_10 : decode cX11_readFair 10 = .ok (.if_icmp .ge 7, 3) := by decide +kernel
theorem dX11_readFair_13 : decode cX11_readFair 13 = .ok (.iconst 1, 1) := by decide +kernel
theorem dX11_readFair_14 : decode cX11_readFair 14 = .ok (.goto 4, 3) := by decide +kernel
theorem dX11_readFair_17 : decode cX11_readFair 17 = .ok (.iconst 0, 1) := by decide +kernel
theorem dX11_readFair_18 : decode cX11_readFair 18 = .ok (.iconst 5, 1) := by decide +kernel
theorem dX11_readFair_19 : decode cX11_readFair 19 = .ok (.invokevirtual 185, 3) := by decide +kernel
theorem dX11_readFair_22 : decode cX11_readFair 22 = .ok (.pop, 1) := by decide +kernel
theorem dX11_readFair_23 : decode cX11_readFair 23 = .ok (.aload_n 0, 1) := by decide +kernel
theorem dX11_readFair_24 : decode cX11_readFair 24 = .ok (.invokevirtual 192, 3) := by decide +kernel
theorem dX11_readFair_27 : decode cX11_readFair 27 = .ok (.aload_n 0, 1) := by decide +kernel
theorem dX11_readFair_28 : decode cX11_readFair 28 = .ok (.invokevirtual 214, 3) := by decide +kernel
theorem dX11_readFair_31 : decode cX11_readFair 31 = .ok (.istore_n 1, 1) := by decide +kernel
theorem dX11_readFair_32 : decode cX11_readFair 32 = .ok (.aload_n 0, 1) := by decide +kernel
theorem dX11_readFair_33 : decode cX11_readFair 33 = .ok (.invokevirtual 223, 3) := by decide +kernel
theorem dX11_readFair_36 : decode cX11_readFair 36 = .ok (.istore_n 2, 1) := by decide +kernel
theorem dX11_readFair_37 : decode cX11_readFair 37 = .ok (.aload_n 0, 1) := by decide +kernel
theorem dX11_readFair_38 : decode cX11_readFair 38 = .ok (.iconst 1, 1) := by decide +kernel
theorem dX11_readFair_39 : decode cX11_readFair 39 = .ok (.bipush 12, 2) := by decide +kernel
theorem dX11_readFair_41 : decode cX11_readFair 41 = .ok (.invokevirtual 217, 3) := by decide +kernel
theorem dX11_readFair_44 : decode cX11_readFair 44 = .ok (.istore_n 3, 1) := by decide +kernel
theorem dX11_readFair_45 : decode cX11_readFair 45 = .ok (.aload_n 0, 1) := by decide +kernel
theorem dX11_readFair_46 : decode cX11_readFair 46 = .ok (.iconst 1, 1) := by decide +kernel
theorem dX11_readFair_47 : decode cX11_readFair 47 = .ok (.bipush 99, 2) := by decide +kernel
theorem dX11_readFair_49 : decode cX11_readFair 49 = .ok (.invokevirtual 217, 3) := by decide +kernel
theorem dX11_readFair_52 : decode cX11_readFair 52 = .ok (.istore 4, 2) := by decide +kernel
theorem dX11_readFair_54 : decode cX11_readFair 54 = .ok (.aload_n 0, 1) := by decide +kernel
theorem dX11_readFair_55 : decode cX11_readFair 55 = .ok (.iconst 1, 1) := by decide +kernel
theorem dX11_readFair_56 : decode cX11_readFair 56 = .ok (.bipush 20, 2) := by decide +kernel
theorem dX11_readFair_58 : decode cX11_readFair 58 = .ok (.invokevirtual 217, 3) := by decide +kernel
theorem dX11_readFair_61 : decode cX11_readFair 61 = .ok (.istore 5, 2) := by decide +kernel
theorem dX11_readFair_63 : decode cX11_readFair 63 = .ok (.aload_n 0, 1) := by decide +kernel
theorem dX11_readFair_64 : decode cX11_readFair 64 = .ok (.invokevirtual 220, 3) := by decide +kernel
theorem dX11_readFair_67 : decode cX11_readFair 67 = .ok (.aload_n 0, 1) := by decide +kernel
theorem dX11_readFair_68 : decode cX11_readFair 68 = .ok (.getfield 153, 3) := by decide +kernel
theorem dX11_readFair_71 : decode cX11_readFair 71 = .ok (.ifCond .ne 78, 3) := by decide +kernel
theorem dX11_readFair_74 : decode cX11_readFair 74 = .ok (.aload_n 0, 1) := by decide +kernel
theorem dX11_readFair_75 : decode cX11_readFair 75 = .ok (.getfield 13, 3) := by decide +kernel
theorem dX11_readFair_78 : decode cX11_readFair 78 = .ok (.bipush 7, 2) := by decide +kernel
theorem dX11_readFair_80 : decode cX11_readFair 80 = .ok (.iaload, 1) := by decide +kernel
theorem dX11_readFair_81 : decode cX11_readFair 81 = .ok (.invokestatic 98, 3) := by decide +kernel
theorem dX11_readFair_84 : decode cX11_readFair 84 = .ok (.istore 6, 2) := by decide +kernel
theorem dX11_readFair_86 : decode cX11_readFair 86 = .ok (.aload_n 0, 1) := by decide +kernel
theorem dX11_readFair_87 : decode cX11_readFair 87 = .ok (.getfield 13, 3) := by decide +kernel
theorem dX11_readFair_90 : decode cX11_readFair 90 = .ok (.iload 6, 2) := by decide +kernel
theorem dX11_readFair_92 : decode cX11_readFair 92 = .ok (.iconst 0, 1) := by decide +kernel
theorem dX11_readFair_93 : decode cX11_readFair 93 = .ok (.iadd, 1) := by decide +kernel
theorem dX11_readFair_94 : decode cX11_readFair 94 = .ok (.iload_n 1, 1) := by decide +kernel
theorem dX11_readFair_95 : decode cX11_readFair 95 = .ok (.iastore, 1) := by decide +kernel
theorem dX11_readFair_96 : decode cX11_readFair 96 = .ok (.aload_n 0, 1) := by decide +kernel
theorem dX11_readFair_97 : decode cX11_readFair 97 = .ok (.getfield 13, 3) := by decide +kernel
theorem dX11_readFair_100 : decode cX11_readFair 100 = .ok (.iload 6, 2) := by decide +kernel
theorem dX11_readFair_102 : decode cX11_readFair 102 = .ok (.iconst 1, 1) := by decide +kernel
theorem dX11_readFair_103 : decode cX11_readFair 103 = .ok (.iadd, 1) := by decide +kernel
theorem dX11_readFair_104 : decode cX11_readFair 104 = .ok (.iload_n 2, 1) := by decide +kernel
theorem dX11_readFair_105 : decode cX11_readFair 105 = .ok (.iastore, 1) := by decide +kernel
theorem dX11_readFair_106 : decode cX11_readFair 106 = .ok (.aload_n 0, 1) := by decide +kernel
theorem dX11_readFair_107 : decode cX11_readFair 107 = .ok (.getfield 13, 3) := by decide +kernel
theorem dX11_readFair_110 : decode cX11_readFair 110 = .ok (.iload 6, 2) := by decide +kernel
theorem dX11_readFair_112 : decode cX11_readFair 112 = .ok (.iconst 2, 1) := by decide +kernel
theorem dX11_readFair_113 : decode cX11_readFair 113 = .ok (.iadd, 1) := by decide +kernel
theorem dX11_readFair_114 : decode cX11_readFair 114 = .ok (.iload_n 3, 1) := by decide +kernel
theorem dX11_readFair_115 : decode cX11_readFair 115 = .ok (.iastore, 1) := by decide +kernel
theorem dX11_readFair_116 : decode cX11_readFair 116 = .ok (.aload_n 0, 1) := by decide +kernel
theorem dX11_readFair_117 : decode cX11_readFair 117 = .ok (.getfield 13, 3) := by decide +kernel
theorem dX11_readFair_120 : decode cX11_readFair 120 = .ok (.iload 6, 2) := by decide +kernel
theorem dX11_readFair_122 : decode cX11_readFair 122 = .ok (.iconst 3, 1) := by decide +kernel
theorem dX11_readFair_123 : decode cX11_readFair 123 = .ok (.iadd, 1) := by decide +kernel
theorem dX11_readFair_124 : decode cX11_readFair 124 = .ok (.iload 4, 2) := by decide +kernel
theorem dX11_readFair_126 : decode cX11_readFair 126 = .ok (.iastore, 1) := by decide +kernel
theorem dX11_readFair_127 : decode cX11_readFair 127 = .ok (.aload_n 0, 1) := by decide +kernel
theorem dX11_readFair_128 : decode cX11_readFair 128 = .ok (.getfield 13, 3) := by decide +kernel
theorem dX11_readFair_131 : decode cX11_readFair 131 = .ok (.iload 6, 2) := by decide +kernel
theorem dX11_readFair_133 : decode cX11_readFair 133 = .ok (.iconst 4, 1) := by decide +kernel
theorem dX11_readFair_134 : decode cX11_readFair 134 = .ok (.iadd, 1) := by decide +kernel
theorem dX11_readFair_135 : decode cX11_readFair 135 = .ok (.iload 5, 2) := by decide +kernel
theorem dX11_readFair_137 : decode cX11_readFair 137 = .ok (.iastore, 1) := by decide +kernel
theorem dX11_readFair_138 : decode cX11_readFair 138 = .ok (.aload_n 0, 1) := by decide +kernel
theorem dX11_readFair_139 : decode cX11_readFair 139 = .ok (.getfield 13, 3) := by decide +kernel
theorem dX11_readFair_142 : decode cX11_readFair 142 = .ok (.bipush 7, 2) := by decide +kernel
theorem dX11_readFair_144 : decode cX11_readFair 144 = .ok (.dup2, 1) := by decide +kernel
theorem dX11_readFair_145 : decode cX11_readFair 145 = .ok (.iaload, 1) := by decide +kernel
theorem dX11_readFair_146 : decode cX11_readFair 146 = .ok (.iconst 1, 1) := by decide +kernel
theorem dX11_readFair_147 : decode cX11_readFair 147 = .ok (.iadd, 1) := by decide +kernel
theorem dX11_readFair_148 : decode cX11_readFair 148 = .ok (.iastore, 1) := by decide +kernel
theorem dX11_readFair_149 : decode cX11_readFair 149 = .ok (.return_, 1) := by decide +kernel
theorem dX11_readSay_0 : decode cX11_readSay 0 = .ok (.aload_n 0, 1) := by decide +kernel
theorem dX11_readSay_1 : decode cX11_readSay 1 = .ok (.invokevirtual 192, 3) := by decide +kernel
theorem dX11_readSay_4 : decode cX11_readSay 4 = .ok (.aload_n 0, 1) := by decide +kernel
theorem dX11_readSay_5 : decode cX11_readSay 5 = .ok (.invokevirtual 223, 3) := by decide +kernel
theorem dX11_readSay_8 : decode cX11_readSay 8 = .ok (.istore_n 1, 1) := by decide +kernel
theorem dX11_readSay_9 : decode cX11_readSay 9 = .ok (.aload_n 0, 1) := by decide +kernel
theorem dX11_readSay_10 : decode cX11_readSay 10 = .ok (.iconst 0, 1) := by decide +kernel
theorem dX11_readSay_11 : decode cX11_readSay 11 = .ok (.sipush 9999, 3) := by decide +kernel
theorem dX11_readSay_14 : decode cX11_readSay 14 = .ok (.invokevirtual 217, 3) := by decide +kernel
theorem dX11_readSay_17 : decode cX11_readSay 17 = .ok (.istore_n 2, 1) := by decide +kernel
theorem dX11_readSay_18 : decode cX11_readSay 18 = .ok (.aload_n 0, 1) := by decide +kernel
theorem dX11_readSay_19 : decode cX11_readSay 19 = .ok (.invokevirtual 226, 3) := by decide +kernel
theorem dX11_readSay_22 : decode cX11_readSay 22 = .ok (.istore_n 3, 1) := by decide +kernel
theorem dX11_readSay_23 : decode cX11_readSay 23 = .ok (.aload_n 0, 1) := by decide +kernel
theorem dX11_readSay_24 : decode cX11_readSay 24 = .ok (.aload_n 0, 1) := by decide +kernel
theorem dX11_readSay_25 : decode cX11_readSay 25 = .ok (.getfield 174, 3) := by decide +kernel
theorem dX11_readSay_28 : decode cX11_readSay 28 = .ok (.iconst 1, 1) := by decide +kernel
theorem dX11_readSay_29 : decode cX11_readSay 29 = .ok (.if_icmp .ne 21, 3) := by decide +kernel
theorem dX11_readSay_32 : decode cX11_readSay 32 = .ok (.aload_n 0, 1) := by decide +kernel
theorem dX11_readSay_33 : decode cX11_readSay 33 = .ok (.getfield 29, 3) := by decide +kernel
theorem dX11_readSay_36 : decode cX11_readSay 36 = .ok (.aload_n 0, 1) := by decide +kernel
theorem dX11_readSay_37 : decode cX11_readSay 37 = .ok (.getfield 165, 3) := by decide +kernel
theorem dX11_readSay_40 : decode cX11_readSay 40 = .ok (.iaload, 1) := by decide +kernel
theorem dX11_readSay_41 : decode cX11_readSay 41 = .ok (.bipush 59, 2) := by decide +kernel
theorem dX11_readSay_43 : decode cX11_readSay 43 = .ok (.if_icmp .ne 7, 3) := by decide +kernel
theorem dX11_readSay_46 : decode cX11_readSay 46 = .ok (.iconst 1, 1) := by decide +kernel
theorem dX11_readSay_47 : decode cX11_readSay 47 = .ok (.goto 4, 3) := by decide +kernel
theorem dX11_readSay_50 : decode cX11_readSay 50 = .ok (.iconst 0, 1) := by decide +kernel
theorem dX11_readSay_51 : decode cX11_readSay 51 = .ok (.iconst 1, 1) := by decide +kernel
theorem dX11_readSay_52 : decode cX11_readSay 52 = .ok (.invokevirtual 185, 3) := by decide +kernel
theorem dX11_readSay_55 : decode cX11_readSay 55 = .ok (.pop, 1) := by decide +kernel
theorem dX11_readSay_56 : decode cX11_readSay 56 = .ok (.aload_n 0, 1) := by decide +kernel
theorem dX11_readSay_57 : decode cX11_readSay 57 = .ok (.aload_n 0, 1) := by decide +kernel
theorem dX11_readSay_58 : decode cX11_readSay 58 = .ok (.getfield 153, 3) := by decide +kernel
theorem dX11_readSay_61 : decode cX11_readSay 61 = .ok (.ifCond .ne 15, 3) := by decide +kernel
theorem dX11_readSay_64 : decode cX11_readSay 64 = .ok (.aload_n 0, 1) := by decide +kernel
theorem dX11_readSay_65 : decode cX11_readSay 65 = .ok (.getfield 13, 3) := by decide +kernel
theorem dX11_readSay_68 : decode cX11_readSay 68 = .ok (.iload_n 1, 1) := by decide +kernel
theorem dX11_readSay_69 : decode cX11_readSay 69 = .ok (.iload_n 2, 1) := by decide +kernel
theorem dX11_readSay_70 : decode cX11_readSay 70 = .ok (.invokestatic 229, 3) := by decide +kernel
theorem dX11_readSay_73 : decode cX11_readSay 73 = .ok (.ifCond .ne 7, 3) := by decide +kernel
theorem dX11_readSay_76 : decode cX11_readSay 76 = .ok (.iconst 1, 1) := by decide +kernel
theorem dX11_readSay_77 : decode cX11_readSay 77 = .ok (.goto 4, 3) := by decide +kernel
theorem dX11_readSay_80 : decode cX11_readSay 80 = .ok (.iconst 0, 1) := by decide +kernel
theorem dX11_readSay_81 : decode cX11_readSay 81 = .ok (.bipush 6, 2) := by decide +kernel
theorem dX11_readSay_83 : decode cX11_readSay 83 = .ok (.invokevirtual 185, 3) := by decide +kernel
theorem dX11_readSay_86 : decode cX11_readSay 86 = .ok (.pop, 1) := by decide +kernel
theorem dX11_readSay_87 : decode cX11_readSay 87 = .ok (.aload_n 0, 1) := by decide +kernel
theorem dX11_readSay_88 : decode cX11_readSay 88 = .ok (.getfield 153, 3) := by decide +kernel
theorem dX11_readSay_91 : decode cX11_readSay 91 = .ok (.ifCond .ne 21, 3) := by decide +kernel
theorem dX11_readSay_94 : decode cX11_readSay 94 = .ok (.aload_n 0, 1) := by decide +kernel
theorem dX11_readSay_95 : decode cX11_readSay 95 = .ok (.getfield 13, 3) := by decide +kernel
theorem dX11_readSay_98 : decode cX11_readSay 98 = .ok (.iload_n 1, 1) := by decide +kernel
theorem dX11_readSay_99 : decode cX11_readSay 99 = .ok (.iload_n 2, 1) := by decide +kernel
theorem dX11_readSay_100 : decode cX11_readSay 100 = .ok (.iload_n 3, 1) := by decide +kernel
theorem dX11_readSay_101 : decode cX11_readSay 101 = .ok (.invokestatic 232, 3) := by decide +kernel
theorem dX11_readSay_104 : decode cX11_readSay 104 = .ok (.ifCond .ge 8, 3) := by decide +kernel
theorem dX11_readSay_107 : decode cX11_readSay 107 = .ok (.aload_n 0, 1) := by decide +kernel
theorem dX11_readSay_108 : decode cX11_readSay 108 = .ok (.iconst 1, 1) := by decide +kernel
theorem dX11_readSay_109 : decode cX11_readSay 109 = .ok (.putfield 153, 3) := by decide +kernel
theorem dX11_readSay_112 : decode cX11_readSay 112 = .ok (.aload_n 0, 1) := by decide +kernel
theorem dX11_readSay_113 : decode cX11_readSay 113 = .ok (.invokevirtual 192, 3) := by decide +kernel
theorem dX11_readSay_116 : decode cX11_readSay 116 = .ok (.return_, 1) := by decide +kernel
theorem dX11_readRetract_0 : decode cX11_readRetract 0 = .ok (.aload_n 0, 1) := by decide +kernel
theorem dX11_readRetract_1 : decode cX11_readRetract 1 = .ok (.invokevirtual 192, 3) := by decide +kernel
theorem dX11_readRetract_4 : decode cX11_readRetract 4 = .ok (.aload_n 0, 1) := by decide +kernel
theorem dX11_readRetract_5 : decode cX11_readRetract 5 = .ok (.aload_n 0, 1) := by decide +kernel
theorem dX11_readRetract_6 : decode cX11_readRetract 6 = .ok (.getfield 174, 3) := by decide +kernel
theorem dX11_readRetract_9 : decode cX11_readRetract 9 = .ok (.iconst 2, 1) := by decide +kernel
theorem dX11_readRetract_10 : decode cX11_readRetract 10 = .ok (.if_icmp .ne 7, 3) := by decide +kernel
theorem dX11_readRetract_13 : decode cX11_readRetract 13 = .ok (.iconst 1, 1) := by decide +kernel
theorem dX11_readRetract_14 : decode cX11_readRetract 14 = .ok (.goto 4, 3) := by decide +kernel
theorem dX11_readRetract_17 : decode cX11_readRetract 17 = .ok (.iconst 0, 1) := by decide +kernel
theorem dX11_readRetract_18 : decode cX11_readRetract 18 = .ok (.iconst 1, 1) := by decide +kernel
theorem dX11_readRetract_19 : decode cX11_readRetract 19 = .ok (.invokevirtual 185, 3) := by decide +kernel
theorem dX11_readRetract_22 : decode cX11_readRetract 22 = .ok (.pop, 1) := by decide +kernel
theorem dX11_readRetract_23 : decode cX11_readRetract 23 = .ok (.aload_n 0, 1) := by decide +kernel
theorem dX11_readRetract_24 : decode cX11_readRetract 24 = .ok (.aload_n 0, 1) := by decide +kernel
theorem dX11_readRetract_25 : decode cX11_readRetract 25 = .ok (.getfield 153, 3) := by decide +kernel
theorem dX11_readRetract_28 : decode cX11_readRetract 28 = .ok (.ifCond .ne 17, 3) := by decide +kernel
theorem dX11_readRetract_31 : decode cX11_readRetract 31 = .ok (.aload_n 0, 1) := by decide +kernel
theorem dX11_readRetract_32 : decode cX11_readRetract 32 = .ok (.getfield 171, 3) := by decide +kernel
theorem dX11_readRetract_35 : decode cX11_readRetract 35 = .ok (.aload_n 0, 1) := by decide +kernel
theorem dX11_readRetract_36 : decode cX11_readRetract 36 = .ok (.getfield 13, 3) := by decide +kernel
theorem dX11_readRetract_39 : decode cX11_readRetract 39 = .ok (.invokestatic 236, 3) := by decide +kernel
theorem dX11_readRetract_42 : decode cX11_readRetract 42 = .ok (.if_icmp .ge 7, 3) := by decide +kernel
theorem dX11_readRetract_45 : decode cX11_readRetract 45 = .ok (.iconst 1, 1) := by decide +kernel
theorem dX11_readRetract_46 : decode cX11_readRetract 46 = .ok (.goto 4, 3) := by decide +kernel
theorem dX11_readRetract_49 : decode cX11_readRetract 49 = .ok (.iconst 0, 1) := by decide +kernel
theorem dX11_readRetract_50 : decode cX11_readRetract 50 = .ok (.iconst 4, 1) := by decide +kernel
theorem dX11_readRetract_51 : decode cX11_readRetract 51 = .ok (.invokevirtual 185, 3) := by decide +kernel
theorem dX11_readRetract_54 : decode cX11_readRetract 54 = .ok (.pop, 1) := by decide +kernel
theorem dX11_readRetract_55 : decode cX11_readRetract 55 = .ok (.aload_n 0, 1) := by decide +kernel
theorem dX11_readRetract_56 : decode cX11_readRetract 56 = .ok (.getfield 153, 3) := by decide +kernel
theorem dX11_readRetract_59 : decode cX11_readRetract 59 = .ok (.ifCond .ne 10, 3) := by decide +kernel
theorem dX11_readRetract_62 : decode cX11_readRetract 62 = .ok (.aload_n 0, 1) := by decide +kernel
theorem dX11_readRetract_63 : decode cX11_readRetract 63 = .ok (.getfield 171, 3) := by decide +kernel
theorem dX11_readRetract_66 : decode cX11_readRetract 66 = .ok (.goto 4, 3) := by decide +kernel
theorem dX11_readRetract_69 : decode cX11_readRetract 69 = .ok (.iconst 0, 1) := by decide +kernel
theorem dX11_readRetract_70 : decode cX11_readRetract 70 = .ok (.istore_n 1, 1) := by decide +kernel
theorem dX11_readRetract_71 : decode cX11_readRetract 71 = .ok (.aload_n 0, 1) := by decide +kernel
theorem dX11_readRetract_72 : decode cX11_readRetract 72 = .ok (.aload_n 0, 1) := by decide +kernel
theorem dX11_readRetract_73 : decode cX11_readRetract 73 = .ok (.getfield 153, 3) := by decide +kernel
theorem dX11_readRetract_76 : decode cX11_readRetract 76 = .ok (.ifCond .ne 20, 3) := by decide +kernel
theorem dX11_readRetract_79 : decode cX11_readRetract 79 = .ok (.aload_n 0, 1) := by decide +kernel
theorem dX11_readRetract_80 : decode cX11_readRetract 80 = .ok (.getfield 13, 3) := by decide +kernel
theorem dX11_readRetract_83 : decode cX11_readRetract 83 = .ok (.iload_n 1, 1) := by decide +kernel
theorem dX11_readRetract_84 : decode cX11_readRetract 84 = .ok (.invokestatic 84, 3) := by decide +kernel
theorem dX11_readRetract_87 : decode cX11_readRetract 87 = .ok (.aload_n 0, 1) := by decide +kernel
theorem dX11_readRetract_88 : decode cX11_readRetract 88 = .ok (.getfield 13, 3) := by decide +kernel
theorem dX11_readRetract_91 : decode cX11_readRetract 91 = .ok (.iconst 4, 1) := by decide +kernel
theorem dX11_readRetract_92 : decode cX11_readRetract 92 = .ok (.iaload, 1) := by decide +kernel
theorem dX11_readRetract_93 : decode cX11_readRetract 93 = .ok (.if_icmp .gt 7, 3) := by decide +kernel
theorem dX11_readRetract_96 : decode cX11_readRetract 96 = .ok (.iconst 1, 1) := by decide +kernel
theorem dX11_readRetract_97 : decode cX11_readRetract 97 = .ok (.goto 4, 3) := by decide +kernel
theorem dX11_readRetract_100 : decode cX11_readRetract 100 = .ok (.iconst 0, 1) := by decide +kernel
theorem dX11_readRetract_101 : decode cX11_readRetract 101 = .ok (.bipush 6, 2) := by decide +kernel
theorem dX11_readRetract_103 : decode cX11_readRetract 103 = .ok (.invokevirtual 185, 3) := by decide +kernel
theorem dX11_readRetract_106 : decode cX11_readRetract 106 = .ok (.pop, 1) := by decide +kernel
theorem dX11_readRetract_107 : decode cX11_readRetract 107 = .ok (.aload_n 0, 1) := by decide +kernel
theorem dX11_readRetract_108 : decode cX11_readRetract 108 = .ok (.invokevirtual 192, 3) := by decide +kernel
theorem dX11_readRetract_111 : decode cX11_readRetract 111 = .ok (.aload_n 0, 1) := by decide +kernel
theorem dX11_readRetract_112 : decode cX11_readRetract 112 = .ok (.invokevirtual 220, 3) := by decide +kernel
theorem dX11_readRetract_115 : decode cX11_readRetract 115 = .ok (.aload_n 0, 1) := by decide +kernel
theorem dX11_readRetract_116 : decode cX11_readRetract 116 = .ok (.getfield 153, 3) := by decide +kernel
theorem dX11_readRetract_119 : decode cX11_readRetract 119 = .ok (.ifCond .ne 19, 3) := by decide +kernel
theorem dX11_readRetract_122 : decode cX11_readRetract 122 = .ok (.aload_n 0, 1) := by decide +kernel
theorem dX11_readRetract_123 : decode cX11_readRetract 123 = .ok (.getfield 13, 3) := by decide +kernel
theorem dX11_readRetract_126 : decode cX11_readRetract 126 = .ok (.iload_n 1, 1) := by decide +kernel
theorem dX11_readRetract_127 : decode cX11_readRetract 127 = .ok (.invokestatic 239, 3) := by decide +kernel
theorem dX11_readRetract_130 : decode cX11_readRetract 130 = .ok (.ifCond .ge 8, 3) := by decide +kernel
theorem dX11_readRetract_133 : decode cX11_readRetract 133 = .ok (.aload_n 0, 1) := by decide +kernel
theorem dX11_readRetract_134 : decode cX11_readRetract 134 = .ok (.iconst 1, 1) := by decide +kernel
theorem dX11_readRetract_135 : decode cX11_readRetract 135 = .ok (.putfield 153, 3) := by decide +kernel
theorem dX11_readRetract_138 : decode cX11_readRetract 138 = .ok (.return_, 1) := by decide +kernel
theorem dX11_readPass_0 : decode cX11_readPass 0 = .ok (.aload_n 0, 1) := by decide +kernel
theorem dX11_readPass_1 : decode cX11_readPass 1 = .ok (.invokevirtual 192, 3) := by decide +kernel
theorem dX11_readPass_4 : decode cX11_readPass 4 = .ok (.aload_n 0, 1) := by decide +kernel
theorem dX11_readPass_5 : decode cX11_readPass 5 = .ok (.iconst 0, 1) := by decide +kernel
theorem dX11_readPass_6 : decode cX11_readPass 6 = .ok (.sipush 200, 3) := by decide +kernel
theorem dX11_readPass_9 : decode cX11_readPass 9 = .ok (.invokevirtual 217, 3) := by decide +kernel
theorem dX11_readPass_12 : decode cX11_readPass 12 = .ok (.istore_n 1, 1) := by decide +kernel
theorem dX11_readPass_13 : decode cX11_readPass 13 = .ok (.aload_n 0, 1) := by decide +kernel
theorem dX11_readPass_14 : decode cX11_readPass 14 = .ok (.invokevirtual 220, 3) := by decide +kernel
theorem dX11_readPass_17 : decode cX11_readPass 17 = .ok (.aload_n 0, 1) := by decide +kernel
theorem dX11_readPass_18 : decode cX11_readPass 18 = .ok (.getfield 153, 3) := by decide +kernel
theorem dX11_readPass_21 : decode cX11_readPass 21 = .ok (.ifCond .ne 19, 3) := by decide +kernel
theorem dX11_readPass_24 : decode cX11_readPass 24 = .ok (.aload_n 0, 1) := by decide +kernel
theorem dX11_readPass_25 : decode cX11_readPass 25 = .ok (.getfield 13, 3) := by decide +kernel
theorem dX11_readPass_28 : decode cX11_readPass 28 = .ok (.iload_n 1, 1) := by decide +kernel
theorem dX11_readPass_29 : decode cX11_readPass 29 = .ok (.invokestatic 242, 3) := by decide +kernel
theorem dX11_readPass_32 : decode cX11_readPass 32 = .ok (.ifCond .ge 8, 3) := by decide +kernel
theorem dX11_readPass_35 : decode cX11_readPass 35 = .ok (.aload_n 0, 1) := by decide +kernel
theorem dX11_readPass_36 : decode cX11_readPass 36 = .ok (.iconst 1, 1) := by decide +kernel
theorem dX11_readPass_37 : decode cX11_readPass 37 = .ok (.putfield 153, 3) := by decide +kernel
theorem dX11_readPass_40 : decode cX11_readPass 40 = .ok (.return_, 1) := by decide +kernel
theorem dX11_readStatement_0 : decode cX11_readStatement 0 = .ok (.aload_n 0, 1) := by decide +kernel
theorem dX11_readStatement_1 : decode cX11_readStatement 1 = .ok (.ldc 245, 2) := by decide +kernel
theorem dX11_readStatement_3 : decode cX11_readStatement 3 = .ok (.invokevirtual 206, 3) := by decide +kernel
theorem dX11_readStatement_6 : decode cX11_readStatement 6 = .ok (.ifCond .eq 10, 3) := by decide +kernel
theorem dX11_readStatement_9 : decode cX11_readStatement 9 = .ok (.aload_n 0, 1) := by decide +kernel
theorem dX11_readStatement_10 : decode cX11_readStatement 10 = .ok (.invokevirtual 247, 3) := by decide +kernel
theorem dX11_readStatement_13 : decode cX11_readStatement 13 = .ok (.goto 76, 3) := by decide +kernel
theorem dX11_readStatement_16 : decode cX11_readStatement 16 = .ok (.aload_n 0, 1) := by decide +kernel
theorem dX11_readStatement_17 : decode cX11_readStatement 17 = .ok (.ldc 250, 2) := by decide +kernel
theorem dX11_readStatement_19 : decode cX11_readStatement 19 = .ok (.invokevirtual 206, 3) := by decide +kernel
theorem dX11_readStatement_22 : decode cX11_readStatement 22 = .ok (.ifCond .eq 10, 3) := by decide +kernel
theorem dX11_readStatement_25 : decode cX11_readStatement 25 = .ok (.aload_n 0, 1) := by decide +kernel
theorem dX11_readStatement_26 : decode cX11_readStatement 26 = .ok (.invokevirtual 252, 3) := by decide +kernel
theorem dX11_readStatement_29 : decode cX11_readStatement 29 = .ok (.goto 60, 3) := by decide +kernel
theorem dX11_readStatement_32 : decode cX11_readStatement 32 = .ok (.aload_n 0, 1) := by decide +kernel
theorem dX11_readStatement_33 : decode cX11_readStatement 33 = .ok (.ldc 255, 2) := by decide +kernel
theorem dX11_readStatement_35 : decode cX11_readStatement 35 = .ok (.invokevirtual 206, 3) := by decide +kernel
theorem dX11_readStatement_38 : decode cX11_readStatement 38 = .ok (.ifCond .eq 10, 3) := by decide +kernel
theorem dX11_readStatement_41 : decode cX11_readStatement 41 = .ok (.aload_n 0, 1) := by decide +kernel
theorem dX11_readStatement_42 : decode cX11_readStatement 42 = .ok (.invokevirtual 257, 3) := by decide +kernel
theorem dX11_readStatement_45 : decode cX11_readStatement 45 = .ok (.goto 44, 3) := by decide +kernel
theorem dX11_readStatement_48 : decode cX11_readStatement 48 = .ok (.aload_n 0, 1) := by decide +kernel
theorem dX11_readStatement_49 : decode cX11_readStatement 49 = .ok (.ldc_w 260, 3) := by decide +kernel
theorem dX11_readStatement_52 : decode cX11_readStatement 52 = .ok (.invokevirtual 206, 3) := by decide +kernel
theorem dX11_readStatement_55 : decode cX11_readStatement 55 = .ok (.ifCond .eq 10, 3) := by decide +kernel
theorem dX11_readStatement_58 : decode cX11_readStatement 58 = .ok (.aload_n 0, 1) := by decide +kernel
theorem dX11_readStatement_59 : decode cX11_readStatement 59 = .ok (.invokevirtual 262, 3) := by decide +kernel
theorem dX11_readStatement_62 : decode cX11_readStatement 62 = .ok (.goto 27, 3) := by decide +kernel
theorem dX11_readStatement_65 : decode cX11_readStatement 65 = .ok (.aload_n 0, 1) := by decide +kernel
theorem dX11_readStatement_66 : decode cX11_readStatement 66 = .ok (.ldc_w 265, 3) := by decide +kernel
theorem dX11_readStatement_69 : decode cX11_readStatement 69 = .ok (.invokevirtual 206, 3) := by decide +kernel
theorem dX11_readStatement_72 : decode cX11_readStatement 72 = .ok (.ifCond .eq 10, 3) := by decide +kernel
theorem dX11_readStatement_75 : decode cX11_readStatement 75 = .ok (.aload_n 0, 1) := by decide +kernel
theorem dX11_readStatement_76 : decode cX11_readStatement 76 = .ok (.invokevirtual 267, 3) := by decide +kernel
theorem dX11_readStatement_79 : decode cX11_readStatement 79 = .ok (.goto 10, 3) := by decide +kernel
theorem dX11_readStatement_82 : decode cX11_readStatement 82 = .ok (.aload_n 0, 1) := by decide +kernel
theorem dX11_readStatement_83 : decode cX11_readStatement 83 = .ok (.iconst 0, 1) := by decide +kernel
theorem dX11_readStatement_84 : decode cX11_readStatement 84 = .ok (.iconst 1, 1) := by decide +kernel
theorem dX11_readStatement_85 : decode cX11_readStatement 85 = .ok (.invokevirtual 185, 3) := by decide +kernel
theorem dX11_readStatement_88 : decode cX11_readStatement 88 = .ok (.pop, 1) := by decide +kernel
theorem dX11_readStatement_89 : decode cX11_readStatement 89 = .ok (.return_, 1) := by decide +kernel
theorem dX11_read_0 : decode cX11_read 0 = .ok (.aload_n 0, 1) := by decide +kernel
theorem dX11_read_1 : decode cX11_read 1 = .ok (.iconst 0, 1) := by decide +kernel
theorem dX11_read_2 : decode cX11_read 2 = .ok (.putfield 153, 3) := by decide +kernel
theorem dX11_read_5 : decode cX11_read 5 = .ok (.aload_n 0, 1) := by decide +kernel
theorem dX11_read_6 : decode cX11_read 6 = .ok (.iconst (-1), 1) := by decide +kernel
theorem dX11_read_7 : decode cX11_read 7 = .ok (.putfield 32, 3) := by decide +kernel
theorem dX11_read_10 : decode cX11_read 10 = .ok (.aload_n 0, 1) := by decide +kernel
theorem dX11_read_11 : decode cX11_read 11 = .ok (.iconst 0, 1) := by decide +kernel
theorem dX11_read_12 : decode cX11_read 12 = .ok (.putfield 159, 3) := by decide +kernel
theorem dX11_read_15 : decode cX11_read 15 = .ok (.iconst 0, 1) := by decide +kernel
theorem dX11_read_16 : decode cX11_read 16 = .ok (.istore_n 1, 1) := by decide +kernel
theorem dX11_read_17 : decode cX11_read 17 = .ok (.iload_n 1, 1) := by decide +kernel
theorem dX11_read_18 : decode cX11_read 18 = .ok (.sipush 242, 3) := by decide +kernel
theorem dX11_read_21 : decode cX11_read 21 = .ok (.if_icmp .ge 16, 3) := by decide +kernel
theorem dX11_read_24 : decode cX11_read 24 = .ok (.aload_n 0, 1) := by decide +kernel
theorem dX11_read_25 : decode cX11_read 25 = .ok (.getfield 13, 3) := by decide +kernel
theorem dX11_read_28 : decode cX11_read 28 = .ok (.iload_n 1, 1) := by decide +kernel
theorem dX11_read_29 : decode cX11_read 29 = .ok (.iconst 0, 1) := by decide +kernel
theorem dX11_read_30 : decode cX11_read 30 = .ok (.iastore, 1) := by decide +kernel
theorem dX11_read_31 : decode cX11_read 31 = .ok (.iinc 1 1, 3) := by decide +kernel
theorem dX11_read_34 : decode cX11_read 34 = .ok (.goto (-17), 3) := by decide +kernel
theorem dX11_read_37 : decode cX11_read 37 = .ok (.aload_n 0, 1) := by decide +kernel
theorem dX11_read_38 : decode cX11_read 38 = .ok (.invokevirtual 182, 3) := by decide +kernel
theorem dX11_read_41 : decode cX11_read 41 = .ok (.aload_n 0, 1) := by decide +kernel
theorem dX11_read_42 : decode cX11_read 42 = .ok (.aload_n 0, 1) := by decide +kernel
theorem dX11_read_43 : decode cX11_read 43 = .ok (.ldc_w 270, 3) := by decide +kernel
theorem dX11_read_46 : decode cX11_read 46 = .ok (.invokevirtual 206, 3) := by decide +kernel
theorem dX11_read_49 : decode cX11_read 49 = .ok (.iconst 1, 1) := by decide +kernel
theorem dX11_read_50 : decode cX11_read 50 = .ok (.invokevirtual 185, 3) := by decide +kernel
theorem dX11_read_53 : decode cX11_read 53 = .ok (.pop, 1) := by decide +kernel
theorem dX11_read_54 : decode cX11_read 54 = .ok (.aload_n 0, 1) := by decide +kernel
theorem dX11_read_55 : decode cX11_read 55 = .ok (.invokevirtual 192, 3) := by decide +kernel
theorem dX11_read_58 : decode cX11_read 58 = .ok (.aload_n 0, 1) := by decide +kernel
theorem dX11_read_59 : decode cX11_read 59 = .ok (.getfield 13, 3) := by decide +kernel
theorem dX11_read_62 : decode cX11_read 62 = .ok (.iconst 0, 1) := by decide +kernel
theorem dX11_read_63 : decode cX11_read 63 = .ok (.aload_n 0, 1) := by decide +kernel
theorem dX11_read_64 : decode cX11_read 64 = .ok (.iconst 0, 1) := by decide +kernel
theorem dX11_read_65 : decode cX11_read 65 = .ok (.sipush 1023, 3) := by decide +kernel
theorem dX11_read_68 : decode cX11_read 68 = .ok (.invokevirtual 217, 3) := by decide +kernel
theorem dX11_read_71 : decode cX11_read 71 = .ok (.iastore, 1) := by decide +kernel
theorem dX11_read_72 : decode cX11_read 72 = .ok (.aload_n 0, 1) := by decide +kernel
theorem dX11_read_73 : decode cX11_read 73 = .ok (.getfield 13, 3) := by decide +kernel
theorem dX11_read_76 : decode cX11_read 76 = .ok (.iconst 1, 1) := by decide +kernel
theorem dX11_read_77 : decode cX11_read 77 = .ok (.aload_n 0, 1) := by decide +kernel
theorem dX11_read_78 : decode cX11_read 78 = .ok (.iconst 0, 1) := by decide +kernel
theorem dX11_read_79 : decode cX11_read 79 = .ok (.bipush 20, 2) := by decide +kernel
theorem dX11_read_81 : decode cX11_read 81 = .ok (.invokevirtual 217, 3) := by decide +kernel
theorem dX11_read_84 : decode cX11_read 84 = .ok (.iastore, 1) := by decide +kernel
theorem dX11_read_85 : decode cX11_read 85 = .ok (.aload_n 0, 1) := by decide +kernel
theorem dX11_read_86 : decode cX11_read 86 = .ok (.getfield 13, 3) := by decide +kernel
theorem dX11_read_89 : decode cX11_read 89 = .ok (.iconst 2, 1) := by decide +kernel
theorem dX11_read_90 : decode cX11_read 90 = .ok (.aload_n 0, 1) := by decide +kernel
theorem dX11_read_91 : decode cX11_read 91 = .ok (.iconst 0, 1) := by decide +kernel
theorem dX11_read_92 : decode cX11_read 92 = .ok (.bipush 20, 2) := by decide +kernel
theorem dX11_read_94 : decode cX11_read 94 = .ok (.invokevirtual 217, 3) := by decide +kernel
theorem dX11_read_97 : decode cX11_read 97 = .ok (.iastore, 1) := by decide +kernel
theorem dX11_read_98 : decode cX11_read 98 = .ok (.aload_n 0, 1) := by decide +kernel
theorem dX11_read_99 : decode cX11_read 99 = .ok (.getfield 13, 3) := by decide +kernel
theorem dX11_read_102 : decode cX11_read 102 = .ok (.iconst 3, 1) := by decide +kernel
theorem dX11_read_103 : decode cX11_read 103 = .ok (.aload_n 0, 1) := by decide +kernel
theorem dX11_read_104 : decode cX11_read 104 = .ok (.iconst 0, 1) := by decide +kernel
theorem dX11_read_105 : decode cX11_read 105 = .ok (.bipush 20, 2) := by decide +kernel
theorem dX11_read_107 : decode cX11_read 107 = .ok (.invokevirtual 188, 3) := by decide +kernel
theorem dX11_read_110 : decode cX11_read 110 = .ok (.iastore, 1) := by decide +kernel
theorem dX11_read_111 : decode cX11_read 111 = .ok (.aload_n 0, 1) := by decide +kernel
theorem dX11_read_112 : decode cX11_read 112 = .ok (.aload_n 0, 1) := by decide +kernel
theorem dX11_read_113 : decode cX11_read 113 = .ok (.getfield 153, 3) := by decide +kernel
theorem dX11_read_116 : decode cX11_read 116 = .ok (.ifCond .ne 13, 3) := by decide +kernel
theorem dX11_read_119 : decode cX11_read 119 = .ok (.aload_n 0, 1) := by decide +kernel
theorem dX11_read_120 : decode cX11_read 120 = .ok (.getfield 13, 3) := by decide +kernel
theorem dX11_read_123 : decode cX11_read 123 = .ok (.invokestatic 108, 3) := by decide +kernel
theorem dX11_read_126 : decode cX11_read 126 = .ok (.ifCond .le 7, 3) := by decide +kernel
theorem dX11_read_129 : decode cX11_read 129 = .ok (.iconst 1, 1) := by decide +kernel
theorem dX11_read_130 : decode cX11_read 130 = .ok (.goto 4, 3) := by decide +kernel
theorem dX11_read_133 : decode cX11_read 133 = .ok (.iconst 0, 1) := by decide +kernel
theorem dX11_read_134 : decode cX11_read 134 = .ok (.iconst 2, 1) := by decide +kernel
theorem dX11_read_135 : decode cX11_read 135 = .ok (.invokevirtual 185, 3) := by decide +kernel
theorem dX11_read_138 : decode cX11_read 138 = .ok (.pop, 1) := by decide +kernel
theorem dX11_read_139 : decode cX11_read 139 = .ok (.aload_n 0, 1) := by decide +kernel
theorem dX11_read_140 : decode cX11_read 140 = .ok (.invokevirtual 192, 3) := by decide +kernel
theorem dX11_read_143 : decode cX11_read 143 = .ok (.aload_n 0, 1) := by decide +kernel
theorem dX11_read_144 : decode cX11_read 144 = .ok (.invokevirtual 220, 3) := by decide +kernel
theorem dX11_read_147 : decode cX11_read 147 = .ok (.aload_n 0, 1) := by decide +kernel
theorem dX11_read_148 : decode cX11_read 148 = .ok (.getfield 153, 3) := by decide +kernel
theorem dX11_read_151 : decode cX11_read 151 = .ok (.ifCond .ne 17, 3) := by decide +kernel
theorem dX11_read_154 : decode cX11_read 154 = .ok (.aload_n 0, 1) := by decide +kernel
theorem dX11_read_155 : decode cX11_read 155 = .ok (.getfield 174, 3) := by decide +kernel
theorem dX11_read_158 : decode cX11_read 158 = .ok (.ifCond .eq 10, 3) := by decide +kernel
theorem dX11_read_161 : decode cX11_read 161 = .ok (.aload_n 0, 1) := by decide +kernel
theorem dX11_read_162 : decode cX11_read 162 = .ok (.invokevirtual 272, 3) := by decide +kernel
theorem dX11_read_165 : decode cX11_read 165 = .ok (.goto (-18), 3) := by decide +kernel
theorem dX11_read_168 : decode cX11_read 168 = .ok (.return_, 1) := by decide +kernel
theorem dX11_load_0 : decode cX11_load 0 = .ok (.aload_n 0, 1) := by decide +kernel
theorem dX11_load_1 : decode cX11_load 1 = .ok (.iconst 0, 1) := by decide +kernel
theorem dX11_load_2 : decode cX11_load 2 = .ok (.putfield 66, 3) := by decide +kernel
theorem dX11_load_5 : decode cX11_load 5 = .ok (.aload_n 0, 1) := by decide +kernel
theorem dX11_load_6 : decode cX11_load 6 = .ok (.invokevirtual 46, 3) := by decide +kernel
theorem dX11_load_9 : decode cX11_load 9 = .ok (.aload_n 0, 1) := by decide +kernel
theorem dX11_load_10 : decode cX11_load 10 = .ok (.iconst 0, 1) := by decide +kernel
theorem dX11_load_11 : decode cX11_load 11 = .ok (.putfield 49, 3) := by decide +kernel
theorem dX11_load_14 : decode cX11_load 14 = .ok (.aload_n 0, 1) := by decide +kernel
theorem dX11_load_15 : decode cX11_load 15 = .ok (.aload_n 0, 1) := by decide +kernel
theorem dX11_load_16 : decode cX11_load 16 = .ok (.getfield 153, 3) := by decide +kernel
theorem dX11_load_19 : decode cX11_load 19 = .ok (.ifCond .eq 7, 3) := by decide +kernel
theorem dX11_load_22 : decode cX11_load 22 = .ok (.iconst 1, 1) := by decide +kernel
theorem dX11_load_23 : decode cX11_load 23 = .ok (.goto 4, 3) := by decide +kernel
theorem dX11_load_26 : decode cX11_load 26 = .ok (.iconst 0, 1) := by decide +kernel
theorem dX11_load_27 : decode cX11_load 27 = .ok (.iconst 1, 1) := by decide +kernel
theorem dX11_load_28 : decode cX11_load 28 = .ok (.invokevirtual 141, 3) := by decide +kernel
theorem dX11_load_31 : decode cX11_load 31 = .ok (.ifCond .eq 5, 3) := by decide +kernel
theorem dX11_load_34 : decode cX11_load 34 = .ok (.iconst 0, 1) := by decide +kernel
theorem dX11_load_35 : decode cX11_load 35 = .ok (.ireturn, 1) := by decide +kernel
theorem dX11_load_36 : decode cX11_load 36 = .ok (.aload_n 0, 1) := by decide +kernel
theorem dX11_load_37 : decode cX11_load 37 = .ok (.invokevirtual 275, 3) := by decide +kernel
theorem dX11_load_40 : decode cX11_load 40 = .ok (.aload_n 0, 1) := by decide +kernel
theorem dX11_load_41 : decode cX11_load 41 = .ok (.getfield 13, 3) := by decide +kernel
theorem dX11_load_44 : decode cX11_load 44 = .ok (.iconst 0, 1) := by decide +kernel
theorem dX11_load_45 : decode cX11_load 45 = .ok (.aload_n 0, 1) := by decide +kernel
theorem dX11_load_46 : decode cX11_load 46 = .ok (.getfield 7, 3) := by decide +kernel
theorem dX11_load_49 : decode cX11_load 49 = .ok (.iconst 0, 1) := by decide +kernel
theorem dX11_load_50 : decode cX11_load 50 = .ok (.invokestatic 52, 3) := by decide +kernel
theorem dX11_load_53 : decode cX11_load 53 = .ok (.aload_n 0, 1) := by decide +kernel
theorem dX11_load_54 : decode cX11_load 54 = .ok (.getfield 7, 3) := by decide +kernel
theorem dX11_load_57 : decode cX11_load 57 = .ok (.bipush 6, 2) := by decide +kernel
theorem dX11_load_59 : decode cX11_load 59 = .ok (.iaload, 1) := by decide +kernel
theorem dX11_load_60 : decode cX11_load 60 = .ok (.ireturn, 1) := by decide +kernel
theorem dX11_remember_0 : decode cX11_remember 0 = .ok (.aload_n 0, 1) := by decide +kernel
theorem dX11_remember_1 : decode cX11_remember 1 = .ok (.getfield 278, 3) := by decide +kernel
theorem dX11_remember_4 : decode cX11_remember 4 = .ok (.bipush 8, 2) := by decide +kernel
theorem dX11_remember_6 : decode cX11_remember 6 = .ok (.if_icmp .ne 26, 3) := by decide +kernel
theorem dX11_remember_9 : decode cX11_remember 9 = .ok (.aload_n 0, 1) := by decide +kernel
theorem dX11_remember_10 : decode cX11_remember 10 = .ok (.aload_n 0, 1) := by decide +kernel
theorem dX11_remember_11 : decode cX11_remember 11 = .ok (.getfield 281, 3) := by decide +kernel
theorem dX11_remember_14 : decode cX11_remember 14 = .ok (.iconst 1, 1) := by decide +kernel
theorem dX11_remember_15 : decode cX11_remember 15 = .ok (.iadd, 1) := by decide +kernel
theorem dX11_remember_16 : decode cX11_remember 16 = .ok (.bipush 8, 2) := by decide +kernel
theorem dX11_remember_18 : decode cX11_remember 18 = .ok (.irem, 1) := by decide +kernel
theorem dX11_remember_19 : decode cX11_remember 19 = .ok (.putfield 281, 3) := by decide +kernel
theorem dX11_remember_22 : decode cX11_remember 22 = .ok (.aload_n 0, 1) := by decide +kernel
theorem dX11_remember_23 : decode cX11_remember 23 = .ok (.dup, 1) := by decide +kernel
theorem dX11_remember_24 : decode cX11_remember 24 = .ok (.getfield 278, 3) := by decide +kernel
theorem dX11_remember_27 : decode cX11_remember 27 = .ok (.iconst 1, 1) := by decide +kernel
theorem dX11_remember_28 : decode cX11_remember 28 = .ok (.isub, 1) := by decide +kernel
theorem dX11_remember_29 : decode cX11_remember 29 = .ok (.putfield 278, 3) := by decide +kernel
theorem dX11_remember_32 : decode cX11_remember 32 = .ok (.aload_n 0, 1) := by decide +kernel
theorem dX11_remember_33 : decode cX11_remember 33 = .ok (.getfield 7, 3) := by decide +kernel
theorem dX11_remember_36 : decode cX11_remember 36 = .ok (.iconst 0, 1) := by decide +kernel
theorem dX11_remember_37 : decode cX11_remember 37 = .ok (.aload_n 0, 1) := by decide +kernel
theorem dX11_remember_38 : decode cX11_remember 38 = .ok (.getfield 19, 3) := by decide +kernel
theorem dX11_remember_41 : decode cX11_remember 41 = .ok (.sipush 242, 3) := by decide +kernel
theorem dX11_remember_44 : decode cX11_remember 44 = .ok (.aload_n 0, 1) := by decide +kernel
theorem dX11_remember_45 : decode cX11_remember 45 = .ok (.getfield 281, 3) := by decide +kernel
theorem dX11_remember_48 : decode cX11_remember 48 = .ok (.aload_n 0, 1) := by decide +kernel
theorem dX11_remember_49 : decode cX11_remember 49 = .ok (.getfield 278, 3) := by decide +kernel
theorem dX11_remember_52 : decode cX11_remember 52 = .ok (.iadd, 1) := by decide +kernel
theorem dX11_remember_53 : decode cX11_remember 53 = .ok (.bipush 8, 2) := by decide +kernel
theorem dX11_remember_55 : decode cX11_remember 55 = .ok (.irem, 1) := by decide +kernel
theorem dX11_remember_56 : decode cX11_remember 56 = .ok (.imul, 1) := by decide +kernel
theorem dX11_remember_57 : decode cX11_remember 57 = .ok (.invokestatic 52, 3) := by decide +kernel
theorem dX11_remember_60 : decode cX11_remember 60 = .ok (.aload_n 0, 1) := by decide +kernel
theorem dX11_remember_61 : decode cX11_remember 61 = .ok (.dup, 1) := by decide +kernel
theorem dX11_remember_62 : decode cX11_remember 62 = .ok (.getfield 278, 3) := by decide +kernel
theorem dX11_remember_65 : decode cX11_remember 65 = .ok (.iconst 1, 1) := by decide +kernel
theorem dX11_remember_66 : decode cX11_remember 66 = .ok (.iadd, 1) := by decide +kernel
theorem dX11_remember_67 : decode cX11_remember 67 = .ok (.putfield 278, 3) := by decide +kernel
theorem dX11_remember_70 : decode cX11_remember 70 = .ok (.return_, 1) := by decide +kernel
theorem dX11_undo_0 : decode cX11_undo 0 = .ok (.aload_n 0, 1) := by decide +kernel
theorem dX11_undo_1 : decode cX11_undo 1 = .ok (.iconst 0, 1) := by decide +kernel
theorem dX11_undo_2 : decode cX11_undo 2 = .ok (.putfield 66, 3) := by decide +kernel
theorem dX11_undo_5 : decode cX11_undo 5 = .ok (.aload_n 0, 1) := by decide +kernel
theorem dX11_undo_6 : decode cX11_undo 6 = .ok (.aload_n 0, 1) := by decide +kernel
theorem dX11_undo_7 : decode cX11_undo 7 = .ok (.getfield 278, 3) := by decide +kernel
theorem dX11_undo_10 : decode cX11_undo 10 = .ok (.ifCond .ne 7, 3) := by decide +kernel
theorem dX11_undo_13 : decode cX11_undo 13 = .ok (.iconst 1, 1) := by decide +kernel
theorem dX11_undo_14 : decode cX11_undo 14 = .ok (.goto 4, 3) := by decide +kernel
theorem dX11_undo_17 : decode cX11_undo 17 = .ok (.iconst 0, 1) := by decide +kernel
theorem dX11_undo_18 : decode cX11_undo 18 = .ok (.iconst 1, 1) := by decide +kernel
theorem dX11_undo_19 : decode cX11_undo 19 = .ok (.invokevirtual 141, 3) := by decide +kernel
theorem dX11_undo_22 : decode cX11_undo 22 = .ok (.ifCond .eq 5, 3) := by decide +kernel
theorem dX11_undo_25 : decode cX11_undo 25 = .ok (.iconst 0, 1) := by decide +kernel
theorem dX11_undo_26 : decode cX11_undo 26 = .ok (.ireturn, 1) := by decide +kernel
theorem dX11_undo_27 : decode cX11_undo 27 = .ok (.aload_n 0, 1) := by decide +kernel
theorem dX11_undo_28 : decode cX11_undo 28 = .ok (.dup, 1) := by decide +kernel
theorem dX11_undo_29 : decode cX11_undo 29 = .ok (.getfield 278, 3) := by decide +kernel
theorem dX11_undo_32 : decode cX11_undo 32 = .ok (.iconst 1, 1) := by decide +kernel
theorem dX11_undo_33 : decode cX11_undo 33 = .ok (.isub, 1) := by decide +kernel
theorem dX11_undo_34 : decode cX11_undo 34 = .ok (.putfield 278, 3) := by decide +kernel
theorem dX11_undo_37 : decode cX11_undo 37 = .ok (.aload_n 0, 1) := by decide +kernel
theorem dX11_undo_38 : decode cX11_undo 38 = .ok (.getfield 19, 3) := by decide +kernel
theorem dX11_undo_41 : decode cX11_undo 41 = .ok (.sipush 242, 3) := by decide +kernel
theorem dX11_undo_44 : decode cX11_undo 44 = .ok (.aload_n 0, 1) := by decide +kernel
theorem dX11_undo_45 : decode cX11_undo 45 = .ok (.getfield 281, 3) := by decide +kernel
theorem dX11_undo_48 : decode cX11_undo 48 = .ok (.aload_n 0, 1) := by decide +kernel
theorem dX11_undo_49 : decode cX11_undo 49 = .ok (.getfield 278, 3) := by decide +kernel
theorem dX11_undo_52 : decode cX11_undo 52 = .ok (.iadd, 1) := by decide +kernel
theorem dX11_undo_53 : decode cX11_undo 53 = .ok (.bipush 8, 2) := by decide +kernel
theorem dX11_undo_55 : decode cX11_undo 55 = .ok (.irem, 1) := by decide +kernel
theorem dX11_undo_56 : decode cX11_undo 56 = .ok (.imul, 1) := by decide +kernel
theorem dX11_undo_57 : decode cX11_undo 57 = .ok (.aload_n 0, 1) := by decide +kernel
theorem dX11_undo_58 : decode cX11_undo 58 = .ok (.getfield 7, 3) := by decide +kernel
theorem dX11_undo_61 : decode cX11_undo 61 = .ok (.iconst 0, 1) := by decide +kernel
theorem dX11_undo_62 : decode cX11_undo 62 = .ok (.invokestatic 52, 3) := by decide +kernel
theorem dX11_undo_65 : decode cX11_undo 65 = .ok (.aload_n 0, 1) := by decide +kernel
theorem dX11_undo_66 : decode cX11_undo 66 = .ok (.getfield 278, 3) := by decide +kernel
theorem dX11_undo_69 : decode cX11_undo 69 = .ok (.ireturn, 1) := by decide +kernel
theorem dX11_noNumber_0 : decode cX11_noNumber 0 = .ok (.aload_n 0, 1) := by decide +kernel
theorem dX11_noNumber_1 : decode cX11_noNumber 1 = .ok (.iconst 0, 1) := by decide +kernel
theorem dX11_noNumber_2 : decode cX11_noNumber 2 = .ok (.putfield 66, 3) := by decide +kernel
theorem dX11_noNumber_5 : decode cX11_noNumber 5 = .ok (.aload_n 0, 1) := by decide +kernel
theorem dX11_noNumber_6 : decode cX11_noNumber 6 = .ok (.iload_n 1, 1) := by decide +kernel
theorem dX11_noNumber_7 : decode cX11_noNumber 7 = .ok (.iload_n 2, 1) := by decide +kernel
theorem dX11_noNumber_8 : decode cX11_noNumber 8 = .ok (.iload_n 3, 1) := by decide +kernel
theorem dX11_noNumber_9 : decode cX11_noNumber 9 = .ok (.invokestatic 156, 3) := by decide +kernel
theorem dX11_noNumber_12 : decode cX11_noNumber 12 = .ok (.ifCond .ne 7, 3) := by decide +kernel
theorem dX11_noNumber_15 : decode cX11_noNumber 15 = .ok (.iconst 1, 1) := by decide +kernel
theorem dX11_noNumber_16 : decode cX11_noNumber 16 = .ok (.goto 4, 3) := by decide +kernel
theorem dX11_noNumber_19 : decode cX11_noNumber 19 = .ok (.iconst 0, 1) := by decide +kernel
theorem dX11_noNumber_20 : decode cX11_noNumber 20 = .ok (.iconst 1, 1) := by decide +kernel
theorem dX11_noNumber_21 : decode cX11_noNumber 21 = .ok (.invokevirtual 141, 3) := by decide +kernel
theorem dX11_noNumber_24 : decode cX11_noNumber 24 = .ok (.ireturn, 1) := by decide +kernel
theorem dX11_noVillage_0 : decode cX11_noVillage 0 = .ok (.aload_n 0, 1) := by decide +kernel
theorem dX11_noVillage_1 : decode cX11_noVillage 1 = .ok (.iload_n 1, 1) := by decide +kernel
theorem dX11_noVillage_2 : decode cX11_noVillage 2 = .ok (.iconst 0, 1) := by decide +kernel
theorem dX11_noVillage_3 : decode cX11_noVillage 3 = .ok (.aload_n 0, 1) := by decide +kernel
theorem dX11_noVillage_4 : decode cX11_noVillage 4 = .ok (.getfield 7, 3) := by decide +kernel
theorem dX11_noVillage_7 : decode cX11_noVillage 7 = .ok (.bipush 6, 2) := by decide +kernel
theorem dX11_noVillage_9 : decode cX11_noVillage 9 = .ok (.iaload, 1) := by decide +kernel
theorem dX11_noVillage_10 : decode cX11_noVillage 10 = .ok (.iconst 1, 1) := by decide +kernel
theorem dX11_noVillage_11 : decode cX11_noVillage 11 = .ok (.isub, 1) := by decide +kernel
theorem dX11_noVillage_12 : decode cX11_noVillage 12 = .ok (.invokevirtual 149, 3) := by decide +kernel
theorem dX11_noVillage_15 : decode cX11_noVillage 15 = .ok (.ireturn, 1) := by decide +kernel
theorem dX11_noFair_0 : decode cX11_noFair 0 = .ok (.aload_n 0, 1) := by decide +kernel
theorem dX11_noFair_1 : decode cX11_noFair 1 = .ok (.iload_n 1, 1) := by decide +kernel
theorem dX11_noFair_2 : decode cX11_noFair 2 = .ok (.iconst 0, 1) := by decide +kernel
theorem dX11_noFair_3 : decode cX11_noFair 3 = .ok (.aload_n 0, 1) := by decide +kernel
theorem dX11_noFair_4 : decode cX11_noFair 4 = .ok (.getfield 7, 3) := by decide +kernel
theorem dX11_noFair_7 : decode cX11_noFair 7 = .ok (.bipush 7, 2) := by decide +kernel
theorem dX11_noFair_9 : decode cX11_noFair 9 = .ok (.iaload, 1) := by decide +kernel
theorem dX11_noFair_10 : decode cX11_noFair 10 = .ok (.iconst 1, 1) := by decide +kernel
theorem dX11_noFair_11 : decode cX11_noFair 11 = .ok (.isub, 1) := by decide +kernel
theorem dX11_noFair_12 : decode cX11_noFair 12 = .ok (.invokevirtual 149, 3) := by decide +kernel
theorem dX11_noFair_15 : decode cX11_noFair 15 = .ok (.ireturn, 1) := by decide +kernel
theorem dX11_noWeather_0 : decode cX11_noWeather 0 = .ok (.aload_n 0, 1) := by decide +kernel
theorem dX11_noWeather_1 : decode cX11_noWeather 1 = .ok (.iload_n 1, 1) := by decide +kernel
theorem dX11_noWeather_2 : decode cX11_noWeather 2 = .ok (.iconst 0, 1) := by decide +kernel
theorem dX11_noWeather_3 : decode cX11_noWeather 3 = .ok (.iconst 2, 1) := by decide +kernel
theorem dX11_noWeather_4 : decode cX11_noWeather 4 = .ok (.invokevirtual 149, 3) := by decide +kernel
theorem dX11_noWeather_7 : decode cX11_noWeather 7 = .ok (.ireturn, 1) := by decide +kernel
theorem dX11_noPage_0 : decode cX11_noPage 0 = .ok (.aload_n 0, 1) := by decide +kernel
theorem dX11_noPage_1 : decode cX11_noPage 1 = .ok (.iload_n 1, 1) := by decide +kernel
theorem dX11_noPage_2 : decode cX11_noPage 2 = .ok (.iconst 0, 1) := by decide +kernel
theorem dX11_noPage_3 : decode cX11_noPage 3 = .ok (.aload_n 0, 1) := by decide +kernel
theorem dX11_noPage_4 : decode cX11_noPage 4 = .ok (.getfield 7, 3) := by decide +kernel
theorem dX11_noPage_7 : decode cX11_noPage 7 = .ok (.invokestatic 236, 3) := by decide +kernel
theorem dX11_noPage_10 : decode cX11_noPage 10 = .ok (.iconst 1, 1) := by decide +kernel
theorem dX11_noPage_11 : decode cX11_noPage 11 = .ok (.isub, 1) := by decide +kernel
theorem dX11_noPage_12 : decode cX11_noPage 12 = .ok (.invokevirtual 149, 3) := by decide +kernel
theorem dX11_noPage_15 : decode cX11_noPage 15 = .ok (.ireturn, 1) := by decide +kernel
theorem dX11_noForecast_0 : decode cX11_noForecast 0 = .ok (.aload_n 0, 1) := by decide +kernel
theorem dX11_noForecast_1 : decode cX11_noForecast 1 = .ok (.iload_n 1, 1) := by decide +kernel
theorem dX11_noForecast_2 : decode cX11_noForecast 2 = .ok (.invokevirtual 284, 3) := by decide +kernel
theorem dX11_noForecast_5 : decode cX11_noForecast 5 = .ok (.ifCond .ne 29, 3) := by decide +kernel
theorem dX11_noForecast_8 : decode cX11_noForecast 8 = .ok (.aload_n 0, 1) := by decide +kernel
theorem dX11_noForecast_9 : decode cX11_noForecast 9 = .ok (.aload_n 0, 1) := by decide +kernel
theorem dX11_noForecast_10 : decode cX11_noForecast 10 = .ok (.getfield 7, 3) := by decide +kernel
theorem dX11_noForecast_13 : decode cX11_noForecast 13 = .ok (.iload_n 1, 1) := by decide +kernel
theorem dX11_noForecast_14 : decode cX11_noForecast 14 = .ok (.iload_n 2, 1) := by decide +kernel
theorem dX11_noForecast_15 : decode cX11_noForecast 15 = .ok (.invokestatic 73, 3) := by decide +kernel
theorem dX11_noForecast_18 : decode cX11_noForecast 18 = .ok (.iconst (-1), 1) := by decide +kernel
theorem dX11_noForecast_19 : decode cX11_noForecast 19 = .ok (.if_icmp .ne 7, 3) := by decide +kernel
theorem dX11_noForecast_22 : decode cX11_noForecast 22 = .ok (.iconst 1, 1) := by decide +kernel
theorem dX11_noForecast_23 : decode cX11_noForecast 23 = .ok (.goto 4, 3) := by decide +kernel
theorem dX11_noForecast_26 : decode cX11_noForecast 26 = .ok (.iconst 0, 1) := by decide +kernel
theorem dX11_noForecast_27 : decode cX11_noForecast 27 = .ok (.iconst 2, 1) := by decide +kernel
theorem dX11_noForecast_28 : decode cX11_noForecast 28 = .ok (.invokevirtual 141, 3) := by decide +kernel
theorem dX11_noForecast_31 : decode cX11_noForecast 31 = .ok (.ifCond .eq 7, 3) := by decide +kernel
theorem dX11_noForecast_34 : decode cX11_noForecast 34 = .ok (.iconst 1, 1) := by decide +kernel
theorem dX11_noForecast_35 : decode cX11_noForecast 35 = .ok (.goto 4, 3) := by decide +kernel
theorem dX11_noForecast_38 : decode cX11_noForecast 38 = .ok (.iconst 0, 1) := by decide +kernel
theorem dX11_noForecast_39 : decode cX11_noForecast 39 = .ok (.ireturn, 1) := by decide +kernel
theorem dX11_out_0 : decode cX11_out 0 = .ok (.aload_n 0, 1) := by decide +kernel
theorem dX11_out_1 : decode cX11_out 1 = .ok (.iload_n 1, 1) := by decide +kernel
theorem dX11_out_2 : decode cX11_out 2 = .ok (.iload_n 2, 1) := by decide +kernel
theorem dX11_out_3 : decode cX11_out 3 = .ok (.iload_n 3, 1) := by decide +kernel
theorem dX11_out_4 : decode cX11_out 4 = .ok (.invokestatic 156, 3) := by decide +kernel
theorem dX11_out_7 : decode cX11_out 7 = .ok (.ifCond .ne 7, 3) := by decide +kernel
theorem dX11_out_10 : decode cX11_out 10 = .ok (.iconst 1, 1) := by decide +kernel
theorem dX11_out_11 : decode cX11_out 11 = .ok (.goto 4, 3) := by decide +kernel
theorem dX11_out_14 : decode cX11_out 14 = .ok (.iconst 0, 1) := by decide +kernel
theorem dX11_out_15 : decode cX11_out 15 = .ok (.iconst 2, 1) := by decide +kernel
theorem dX11_out_16 : decode cX11_out 16 = .ok (.invokevirtual 141, 3) := by decide +kernel
theorem dX11_out_19 : decode cX11_out 19 = .ok (.ireturn, 1) := by decide +kernel
theorem dX11_day_0 : decode cX11_day 0 = .ok (.aload_n 0, 1) := by decide +kernel
theorem dX11_day_1 : decode cX11_day 1 = .ok (.iconst 0, 1) := by decide +kernel
theorem dX11_day_2 : decode cX11_day 2 = .ok (.putfield 66, 3) := by decide +kernel
theorem dX11_day_5 : decode cX11_day 5 = .ok (.aload_n 0, 1) := by decide +kernel
theorem dX11_day_6 : decode cX11_day 6 = .ok (.getfield 7, 3) := by decide +kernel
theorem dX11_day_9 : decode cX11_day 9 = .ok (.iconst 5, 1) := by decide +kernel
theorem dX11_day_10 : decode cX11_day 10 = .ok (.iaload, 1) := by decide +kernel
theorem dX11_day_11 : decode cX11_day 11 = .ok (.ireturn, 1) := by decide +kernel
theorem dX11_seed_0 : decode cX11_seed 0 = .ok (.aload_n 0, 1) := by decide +kernel
theorem dX11_seed_1 : decode cX11_seed 1 = .ok (.iconst 0, 1) := by decide +kernel
theorem dX11_seed_2 : decode cX11_seed 2 = .ok (.putfield 66, 3) := by decide +kernel
theorem dX11_seed_5 : decode cX11_seed 5 = .ok (.aload_n 0, 1) := by decide +kernel
theorem dX11_seed_6 : decode cX11_seed 6 = .ok (.getfield 7, 3) := by decide +kernel
theorem dX11_seed_9 : decode cX11_seed 9 = .ok (.iconst 0, 1) := by decide +kernel
theorem dX11_seed_10 : decode cX11_seed 10 = .ok (.iaload, 1) := by decide +kernel
theorem dX11_seed_11 : decode cX11_seed 11 = .ok (.ireturn, 1) := by decide +kernel
theorem dX11_coins_0 : decode cX11_coins 0 = .ok (.aload_n 0, 1) := by decide +kernel
theorem dX11_coins_1 : decode cX11_coins 1 = .ok (.iconst 0, 1) := by decide +kernel
theorem dX11_coins_2 : decode cX11_coins 2 = .ok (.putfield 66, 3) := by decide +kernel
theorem dX11_coins_5 : decode cX11_coins 5 = .ok (.aload_n 0, 1) := by decide +kernel
theorem dX11_coins_6 : decode cX11_coins 6 = .ok (.getfield 7, 3) := by decide +kernel
theorem dX11_coins_9 : decode cX11_coins 9 = .ok (.iconst 4, 1) := by decide +kernel
theorem dX11_coins_10 : decode cX11_coins 10 = .ok (.iaload, 1) := by decide +kernel
theorem dX11_coins_11 : decode cX11_coins 11 = .ok (.ireturn, 1) := by decide +kernel
theorem dX11_villageCount_0 : decode cX11_villageCount 0 = .ok (.aload_n 0, 1) := by decide +kernel
theorem dX11_villageCount_1 : decode cX11_villageCount 1 = .ok (.iconst 0, 1) := by decide +kernel
theorem dX11_villageCount_2 : decode cX11_villageCount 2 = .ok (.putfield 66, 3) := by decide +kernel
theorem dX11_villageCount_5 : decode cX11_villageCount 5 = .ok (.aload_n 0, 1) := by decide +kernel
theorem dX11_villageCount_6 : decode cX11_villageCount 6 = .ok (.getfield 7, 3) := by decide +kernel
theorem dX11_villageCount_9 : decode cX11_villageCount 9 = .ok (.bipush 6, 2) := by decide +kernel
theorem dX11_villageCount_11 : decode cX11_villageCount 11 = .ok (.iaload, 1) := by decide +kernel
theorem dX11_villageCount_12 : decode cX11_villageCount 12 = .ok (.ireturn, 1) := by decide +kernel
theorem dX11_fairCount_0 : decode cX11_fairCount 0 = .ok (.aload_n 0, 1) := by decide +kernel
theorem dX11_fairCount_1 : decode cX11_fairCount 1 = .ok (.iconst 0, 1) := by decide +kernel
theorem dX11_fairCount_2 : decode cX11_fairCount 2 = .ok (.putfield 66, 3) := by decide +kernel
theorem dX11_fairCount_5 : decode cX11_fairCount 5 = .ok (.aload_n 0, 1) := by decide +kernel
theorem dX11_fairCount_6 : decode cX11_fairCount 6 = .ok (.getfield 7, 3) := by decide +kernel
theorem dX11_fairCount_9 : decode cX11_fairCount 9 = .ok (.bipush 7, 2) := by decide +kernel
theorem dX11_fairCount_11 : decode cX11_fairCount 11 = .ok (.iaload, 1) := by decide +kernel
theorem dX11_fairCount_12 : decode cX11_fairCount 12 = .ok (.ireturn, 1) := by decide +kernel
theorem dX11_findName_0 : decode cX11_findName 0 = .ok (.aload_n 0, 1) := by decide +kernel
theorem dX11_findName_1 : decode cX11_findName 1 = .ok (.iconst 0, 1) := by decide +kernel
theorem dX11_findName_2 : decode cX11_findName 2 = .ok (.putfield 66, 3) := by decide +kernel
theorem dX11_findName_5 : decode cX11_findName 5 = .ok (.aload_n 0, 1) := by decide +kernel
theorem dX11_findName_6 : decode cX11_findName 6 = .ok (.iconst 0, 1) := by decide +kernel
theorem dX11_findName_7 : decode cX11_findName 7 = .ok (.aload_n 0, 1) := by decide +kernel
theorem dX11_findName_8 : decode cX11_findName 8 = .ok (.getfield 49, 3) := by decide +kernel
theorem dX11_findName_11 : decode cX11_findName 11 = .ok (.invokevirtual 195, 3) := by decide +kernel
theorem dX11_findName_14 : decode cX11_findName 14 = .ok (.istore_n 1, 1) := by decide +kernel
theorem dX11_findName_15 : decode cX11_findName 15 = .ok (.iload_n 1, 1) := by decide +kernel
theorem dX11_findName_16 : decode cX11_findName 16 = .ok (.iconst (-1), 1) := by decide +kernel
theorem dX11_findName_17 : decode cX11_findName 17 = .ok (.if_icmp .ne 5, 3) := by decide +kernel
theorem dX11_findName_20 : decode cX11_findName 20 = .ok (.iconst (-1), 1) := by decide +kernel
theorem dX11_findName_21 : decode cX11_findName 21 = .ok (.ireturn, 1) := by decide +kernel
theorem dX11_findName_22 : decode cX11_findName 22 = .ok (.aload_n 0, 1) := by decide +kernel
theorem dX11_findName_23 : decode cX11_findName 23 = .ok (.getfield 7, 3) := by decide +kernel
theorem dX11_findName_26 : decode cX11_findName 26 = .ok (.iload_n 1, 1) := by decide +kernel
theorem dX11_findName_27 : decode cX11_findName 27 = .ok (.invokestatic 198, 3) := by decide +kernel
theorem dX11_findName_30 : decode cX11_findName 30 = .ok (.istore_n 2, 1) := by decide +kernel
theorem dX11_findName_31 : decode cX11_findName 31 = .ok (.iload_n 2, 1) := by decide +kernel
theorem dX11_findName_32 : decode cX11_findName 32 = .ok (.iconst (-1), 1) := by decide +kernel
theorem dX11_findName_33 : decode cX11_findName 33 = .ok (.if_icmp .eq 5, 3) := by decide +kernel
theorem dX11_findName_36 : decode cX11_findName 36 = .ok (.iload_n 2, 1) := by decide +kernel
theorem dX11_findName_37 : decode cX11_findName 37 = .ok (.ireturn, 1) := by decide +kernel
theorem dX11_findName_38 : decode cX11_findName 38 = .ok (.aload_n 0, 1) := by decide +kernel
theorem dX11_findName_39 : decode cX11_findName 39 = .ok (.getfield 7, 3) := by decide +kernel
theorem dX11_findName_42 : decode cX11_findName 42 = .ok (.iload_n 1, 1) := by decide +kernel
theorem dX11_findName_43 : decode cX11_findName 43 = .ok (.invokestatic 201, 3) := by decide +kernel
theorem dX11_findName_46 : decode cX11_findName 46 = .ok (.istore_n 3, 1) := by decide +kernel
theorem dX11_findName_47 : decode cX11_findName 47 = .ok (.iload_n 3, 1) := by decide +kernel
theorem dX11_findName_48 : decode cX11_findName 48 = .ok (.iconst (-1), 1) := by decide +kernel
theorem dX11_findName_49 : decode cX11_findName 49 = .ok (.if_icmp .eq 8, 3) := by decide +kernel
theorem dX11_findName_52 : decode cX11_findName 52 = .ok (.bipush 100, 2) := by decide +kernel
theorem dX11_findName_54 : decode cX11_findName 54 = .ok (.iload_n 3, 1) := by decide +kernel
theorem dX11_findName_55 : decode cX11_findName 55 = .ok (.iadd, 1) := by decide +kernel
theorem dX11_findName_56 : decode cX11_findName 56 = .ok (.ireturn, 1) := by decide +kernel
theorem dX11_findName_57 : decode cX11_findName 57 = .ok (.iconst (-1), 1) := by decide +kernel
theorem dX11_findName_58 : decode cX11_findName 58 = .ok (.ireturn, 1) := by decide +kernel
theorem dX11_peopleOf_0 : decode cX11_peopleOf 0 = .ok (.aload_n 0, 1) := by decide +kernel
theorem dX11_peopleOf_1 : decode cX11_peopleOf 1 = .ok (.iload_n 1, 1) := by decide +kernel
theorem dX11_peopleOf_2 : decode cX11_peopleOf 2 = .ok (.invokevirtual 284, 3) := by decide +kernel
theorem dX11_peopleOf_5 : decode cX11_peopleOf 5 = .ok (.ifCond .eq 5, 3) := by decide +kernel
theorem dX11_peopleOf_8 : decode cX11_peopleOf 8 = .ok (.iconst 0, 1) := by decide +kernel
theorem dX11_peopleOf_9 : decode cX11_peopleOf 9 = .ok (.ireturn, 1) := by decide +kernel
theorem dX11_peopleOf_10 : decode cX11_peopleOf 10 = .ok (.aload_n 0, 1) := by decide +kernel
theorem dX11_peopleOf_11 : decode cX11_peopleOf 11 = .ok (.getfield 7, 3) := by decide +kernel
theorem dX11_peopleOf_14 : decode cX11_peopleOf 14 = .ok (.iload_n 1, 1) := by decide +kernel
theorem dX11_peopleOf_15 : decode cX11_peopleOf 15 = .ok (.invokestatic 81, 3) := by decide +kernel
theorem dX11_peopleOf_18 : decode cX11_peopleOf 18 = .ok (.iconst 1, 1) := by decide +kernel
theorem dX11_peopleOf_19 : decode cX11_peopleOf 19 = .ok (.iadd, 1) := by decide +kernel
theorem dX11_peopleOf_20 : decode cX11_peopleOf 20 = .ok (.iaload, 1) := by decide +kernel
theorem dX11_peopleOf_21 : decode cX11_peopleOf 21 = .ok (.ireturn, 1) := by decide +kernel
theorem dX11_trustOf_0 : decode cX11_trustOf 0 = .ok (.aload_n 0, 1) := by decide +kernel
theorem dX11_trustOf_1 : decode cX11_trustOf 1 = .ok (.iload_n 1, 1) := by decide +kernel
theorem dX11_trustOf_2 : decode cX11_trustOf 2 = .ok (.invokevirtual 284, 3) := by decide +kernel
theorem dX11_trustOf_5 : decode cX11_trustOf 5 = .ok (.ifCond .eq 5, 3) := by decide +kernel
theorem dX11_trustOf_8 : decode cX11_trustOf 8 = .ok (.iconst 0, 1) := by decide +kernel
theorem dX11_trustOf_9 : decode cX11_trustOf 9 = .ok (.ireturn, 1) := by decide +kernel
theorem dX11_trustOf_10 : decode cX11_trustOf 10 = .ok (.aload_n 0, 1) := by decide +kernel
theorem dX11_trustOf_11 : decode cX11_trustOf 11 = .ok (.getfield 7, 3) := by decide +kernel
theorem dX11_trustOf_14 : decode cX11_trustOf 14 = .ok (.iload_n 1, 1) := by decide +kernel
theorem dX11_trustOf_15 : decode cX11_trustOf 15 = .ok (.invokestatic 81, 3) := by decide +kernel
theorem dX11_trustOf_18 : decode cX11_trustOf 18 = .ok (.iconst 2, 1) := by decide +kernel
theorem dX11_trustOf_19 : decode cX11_trustOf 19 = .ok (.iadd, 1) := by decide +kernel
theorem dX11_trustOf_20 : decode cX11_trustOf 20 = .ok (.iaload, 1) := by decide +kernel
theorem dX11_trustOf_21 : decode cX11_trustOf 21 = .ok (.ireturn, 1) := by decide +kernel
theorem dX11_forecastsFor_0 : decode cX11_forecastsFor 0 = .ok (.aload_n 0, 1) := by decide +kernel
theorem dX11_forecastsFor_1 : decode cX11_forecastsFor 1 = .ok (.iload_n 1, 1) := by decide +kernel
theorem dX11_forecastsFor_2 : decode cX11_forecastsFor 2 = .ok (.invokevirtual 284, 3) := by decide +kernel
theorem dX11_forecastsFor_5 : decode cX11_forecastsFor 5 = .ok (.ifCond .eq 5, 3) := by decide +kernel
theorem dX11_forecastsFor_8 : decode cX11_forecastsFor 8 = .ok (.iconst 0, 1) := by decide +kernel
theorem dX11_forecastsFor_9 : decode cX11_forecastsFor 9 = .ok (.ireturn, 1) := by decide +kernel
theorem dX11_forecastsFor_10 : decode cX11_forecastsFor 10 = .ok (.iconst 0, 1) := by decide +kernel
theorem dX11_forecastsFor_11 : decode cX11_forecastsFor 11 = .ok (.istore_n 2, 1) := by decide +kernel
theorem dX11_forecastsFor_12 : decode cX11_forecastsFor 12 = .ok (.iconst 0, 1) := by decide +kernel
theorem dX11_forecastsFor_13 : decode cX11_forecastsFor 13 = .ok (.istore_n 3, 1) := by decide +kernel
theorem dX11_forecastsFor_14 : decode cX11_forecastsFor 14 = .ok (.iload_n 3, 1) := by decide +kernel
theorem dX11_forecastsFor_15 : decode cX11_forecastsFor 15 = .ok (.aload_n 0, 1) := by decide +kernel
theorem dX11_forecastsFor_16 : decode cX11_forecastsFor 16 = .ok (.getfield 7, 3) := by decide +kernel
theorem dX11_forecastsFor_19 : decode cX11_forecastsFor 19 = .ok (.bipush 8, 2) := by decide +kernel
theorem dX11_forecastsFor_21 : decode cX11_forecastsFor 21 = .ok (.iaload, 1) := by decide +kernel
theorem dX11_forecastsFor_22 : decode cX11_forecastsFor 22 = .ok (.if_icmp .ge 32, 3) := by decide +kernel
theorem dX11_forecastsFor_25 : decode cX11_forecastsFor 25 = .ok (.iload_n 2, 1) := by decide +kernel
theorem dX11_forecastsFor_26 : decode cX11_forecastsFor 26 = .ok (.aload_n 0, 1) := by decide +kernel
theorem dX11_forecastsFor_27 : decode cX11_forecastsFor 27 = .ok (.getfield 7, 3) := by decide +kernel
theorem dX11_forecastsFor_30 : decode cX11_forecastsFor 30 = .ok (.iload_n 3, 1) := by decide +kernel
theorem dX11_forecastsFor_31 : decode cX11_forecastsFor 31 = .ok (.invokestatic 69, 3) := by decide +kernel
theorem dX11_forecastsFor_34 : decode cX11_forecastsFor 34 = .ok (.iconst 0, 1) := by decide +kernel
theorem dX11_forecastsFor_35 : decode cX11_forecastsFor 35 = .ok (.iadd, 1) := by decide +kernel
theorem dX11_forecastsFor_36 : decode cX11_forecastsFor 36 = .ok (.iaload, 1) := by decide +kernel
theorem dX11_forecastsFor_37 : decode cX11_forecastsFor 37 = .ok (.iload_n 1, 1) := by decide +kernel
theorem dX11_forecastsFor_38 : decode cX11_forecastsFor 38 = .ok (.if_icmp .ne 7, 3) := by decide +kernel
theorem dX11_forecastsFor_41 : decode cX11_forecastsFor 41 = .ok (.iconst 1, 1) := by decide +kernel
theorem dX11_forecastsFor_42 : decode cX11_forecastsFor 42 = .ok (.goto 4, 3) := by decide +kernel
theorem dX11_forecastsFor_45 : decode cX11_forecastsFor 45 = .ok (.iconst 0, 1) := by decide +kernel
theorem dX11_forecastsFor_46 : decode cX11_forecastsFor 46 = .ok (.iadd, 1) := by decide +kernel
theorem dX11_forecastsFor_47 : decode cX11_forecastsFor 47 = .ok (.istore_n 2, 1) := by decide +kernel
theorem dX11_forecastsFor_48 : decode cX11_forecastsFor 48 = .ok (.iinc 3 1, 3) := by decide +kernel
theorem dX11_forecastsFor_51 : decode cX11_forecastsFor 51 = .ok (.goto (-37), 3) := by decide +kernel
theorem dX11_forecastsFor_54 : decode cX11_forecastsFor 54 = .ok (.iload_n 2, 1) := by decide +kernel
theorem dX11_forecastsFor_55 : decode cX11_forecastsFor 55 = .ok (.ireturn, 1) := by decide +kernel
theorem dX11_fairVillage_0 : decode cX11_fairVillage 0 = .ok (.aload_n 0, 1) := by decide +kernel
theorem dX11_fairVillage_1 : decode cX11_fairVillage 1 = .ok (.iload_n 1, 1) := by decide +kernel
theorem dX11_fairVillage_2 : decode cX11_fairVillage 2 = .ok (.invokevirtual 287, 3) := by decide +kernel
theorem dX11_fairVillage_5 : decode cX11_fairVillage 5 = .ok (.ifCond .eq 5, 3) := by decide +kernel
theorem dX11_fairVillage_8 : decode cX11_fairVillage 8 = .ok (.iconst 0, 1) := by decide +kernel
theorem dX11_fairVillage_9 : decode cX11_fairVillage 9 = .ok (.ireturn, 1) := by decide +kernel
theorem dX11_fairVillage_10 : decode cX11_fairVillage 10 = .ok (.aload_n 0, 1) := by decide +kernel
theorem dX11_fairVillage_11 : decode cX11_fairVillage 11 = .ok (.getfield 7, 3) := by decide +kernel
theorem dX11_fairVillage_14 : decode cX11_fairVillage 14 = .ok (.iload_n 1, 1) := by decide +kernel
theorem dX11_fairVillage_15 : decode cX11_fairVillage 15 = .ok (.invokestatic 98, 3) := by decide +kernel
theorem dX11_fairVillage_18 : decode cX11_fairVillage 18 = .ok (.iconst 1, 1) := by decide +kernel
theorem dX11_fairVillage_19 : decode cX11_fairVillage 19 = .ok (.iadd, 1) := by decide +kernel
theorem dX11_fairVillage_20 : decode cX11_fairVillage 20 = .ok (.iaload, 1) := by decide +kernel
theorem dX11_fairVillage_21 : decode cX11_fairVillage 21 = .ok (.ireturn, 1) := by decide +kernel
theorem dX11_periodOf_0 : decode cX11_periodOf 0 = .ok (.aload_n 0, 1) := by decide +kernel
theorem dX11_periodOf_1 : decode cX11_periodOf 1 = .ok (.iload_n 1, 1) := by decide +kernel
theorem dX11_periodOf_2 : decode cX11_periodOf 2 = .ok (.invokevirtual 287, 3) := by decide +kernel
theorem dX11_periodOf_5 : decode cX11_periodOf 5 = .ok (.ifCond .eq 5, 3) := by decide +kernel
theorem dX11_periodOf_8 : decode cX11_periodOf 8 = .ok (.iconst 0, 1) := by decide +kernel
theorem dX11_periodOf_9 : decode cX11_periodOf 9 = .ok (.ireturn, 1) := by decide +kernel
theorem dX11_periodOf_10 : decode cX11_periodOf 10 = .ok (.aload_n 0, 1) := by decide +kernel
theorem dX11_periodOf_11 : decode cX11_periodOf 11 = .ok (.getfield 7, 3) := by decide +kernel
theorem dX11_periodOf_14 : decode cX11_periodOf 14 = .ok (.iload_n 1, 1) := by decide +kernel
theorem dX11_periodOf_15 : decode cX11_periodOf 15 = .ok (.invokestatic 98, 3) := by decide +kernel
theorem dX11_periodOf_18 : decode cX11_periodOf 18 = .ok (.iconst 2, 1) := by decide +kernel
theorem dX11_periodOf_19 : decode cX11_periodOf 19 = .ok (.iadd, 1) := by decide +kernel
theorem dX11_periodOf_20 : decode cX11_periodOf 20 = .ok (.iaload, 1) := by decide +kernel
theorem dX11_periodOf_21 : decode cX11_periodOf 21 = .ok (.ireturn, 1) := by decide +kernel
theorem dX11_stockOf_0 : decode cX11_stockOf 0 = .ok (.aload_n 0, 1) := by decide +kernel
theorem dX11_stockOf_1 : decode cX11_stockOf 1 = .ok (.iload_n 1, 1) := by decide +kernel
theorem dX11_stockOf_2 : decode cX11_stockOf 2 = .ok (.invokevirtual 287, 3) := by decide +kernel
theorem dX11_stockOf_5 : decode cX11_stockOf 5 = .ok (.ifCond .eq 5, 3) := by decide +kernel
theorem dX11_stockOf_8 : decode cX11_stockOf 8 = .ok (.iconst 0, 1) := by decide +kernel
theorem dX11_stockOf_9 : decode cX11_stockOf 9 = .ok (.ireturn, 1) := by decide +kernel
theorem dX11_stockOf_10 : decode cX11_stockOf 10 = .ok (.aload_n 0, 1) := by decide +kernel
theorem dX11_stockOf_11 : decode cX11_stockOf 11 = .ok (.getfield 7, 3) := by decide +kernel
theorem dX11_stockOf_14 : decode cX11_stockOf 14 = .ok (.iload_n 1, 1) := by decide +kernel
theorem dX11_stockOf_15 : decode cX11_stockOf 15 = .ok (.invokestatic 98, 3) := by decide +kernel
theorem dX11_stockOf_18 : decode cX11_stockOf 18 = .ok (.iconst 3, 1) := by decide +kernel
theorem dX11_stockOf_19 : decode cX11_stockOf 19 = .ok (.iadd, 1) := by decide +kernel
theorem dX11_stockOf_20 : decode cX11_stockOf 20 = .ok (.iaload, 1) := by decide +kernel
theorem dX11_stockOf_21 : decode cX11_stockOf 21 = .ok (.ireturn, 1) := by decide +kernel
theorem dX11_priceOf_0 : decode cX11_priceOf 0 = .ok (.aload_n 0, 1) := by decide +kernel
theorem dX11_priceOf_1 : decode cX11_priceOf 1 = .ok (.iload_n 1, 1) := by decide +kernel
theorem dX11_priceOf_2 : decode cX11_priceOf 2 = .ok (.invokevirtual 287, 3) := by decide +kernel
theorem dX11_priceOf_5 : decode cX11_priceOf 5 = .ok (.ifCond .eq 5, 3) := by decide +kernel
theorem dX11_priceOf_8 : decode cX11_priceOf 8 = .ok (.iconst 0, 1) := by decide +kernel
theorem dX11_priceOf_9 : decode cX11_priceOf 9 = .ok (.ireturn, 1) := by decide +kernel
theorem dX11_priceOf_10 : decode cX11_priceOf 10 = .ok (.aload_n 0, 1) := by decide +kernel
theorem dX11_priceOf_11 : decode cX11_priceOf 11 = .ok (.getfield 7, 3) := by decide +kernel
theorem dX11_priceOf_14 : decode cX11_priceOf 14 = .ok (.iload_n 1, 1) := by decide +kernel
theorem dX11_priceOf_15 : decode cX11_priceOf 15 = .ok (.invokestatic 98, 3) := by decide +kernel
theorem dX11_priceOf_18 : decode cX11_priceOf 18 = .ok (.iconst 4, 1) := by decide +kernel
theorem dX11_priceOf_19 : decode cX11_priceOf 19 = .ok (.iadd, 1) := by decide +kernel
theorem dX11_priceOf_20 : decode cX11_priceOf 20 = .ok (.iaload, 1) := by decide +kernel
theorem dX11_priceOf_21 : decode cX11_priceOf 21 = .ok (.ireturn, 1) := by decide +kernel
theorem dX11_daysUntilFair_0 : decode cX11_daysUntilFair 0 = .ok (.aload_n 0, 1) := by decide +kernel
theorem dX11_daysUntilFair_1 : decode cX11_daysUntilFair 1 = .ok (.iload_n 1, 1) := by decide +kernel
theorem dX11_daysUntilFair_2 : decode cX11_daysUntilFair 2 = .ok (.invokevirtual 287, 3) := by decide +kernel
theorem dX11_daysUntilFair_5 : decode cX11_daysUntilFair 5 = .ok (.ifCond .eq 5, 3) := by decide +kernel
theorem dX11_daysUntilFair_8 : decode cX11_daysUntilFair 8 = .ok (.iconst 0, 1) := by decide +kernel
theorem dX11_daysUntilFair_9 : decode cX11_daysUntilFair 9 = .ok (.ireturn, 1) := by decide +kernel
theorem dX11_daysUntilFair_10 : decode cX11_daysUntilFair 10 = .ok (.iconst 1, 1) := by decide +kernel
theorem dX11_daysUntilFair_11 : decode cX11_daysUntilFair 11 = .ok (.istore_n 2, 1) := by decide +kernel
theorem dX11_daysUntilFair_12 : decode cX11_daysUntilFair 12 = .ok (.aload_n 0, 1) := by decide +kernel
theorem dX11_daysUntilFair_13 : decode cX11_daysUntilFair 13 = .ok (.getfield 7, 3) := by decide +kernel
theorem dX11_daysUntilFair_16 : decode cX11_daysUntilFair 16 = .ok (.iload_n 1, 1) := by decide +kernel
theorem dX11_daysUntilFair_17 : decode cX11_daysUntilFair 17 = .ok (.aload_n 0, 1) := by decide +kernel
theorem dX11_daysUntilFair_18 : decode cX11_daysUntilFair 18 = .ok (.getfield 7, 3) := by decide +kernel
theorem dX11_daysUntilFair_21 : decode cX11_daysUntilFair 21 = .ok (.iconst 5, 1) := by decide +kernel
theorem dX11_daysUntilFair_22 : decode cX11_daysUntilFair 22 = .ok (.iaload, 1) := by decide +kernel
theorem dX11_daysUntilFair_23 : decode cX11_daysUntilFair 23 = .ok (.iload_n 2, 1) := by decide +kernel
theorem dX11_daysUntilFair_24 : decode cX11_daysUntilFair 24 = .ok (.iadd, 1) := by decide +kernel
theorem dX11_daysUntilFair_25 : decode cX11_daysUntilFair 25 = .ok (.invokestatic 118, 3) := by decide +kernel
theorem dX11_daysUntilFair_28 : decode cX11_daysUntilFair 28 = .ok (.ifCond .ne 9, 3) := by decide +kernel
theorem dX11_daysUntilFair_31 : decode cX11_daysUntilFair 31 = .ok (.iinc 2 1, 3) := by decide +kernel
theorem dX11_daysUntilFair_34 : decode cX11_daysUntilFair 34 = .ok (.goto (-22), 3) := by decide +kernel
theorem dX11_daysUntilFair_37 : decode cX11_daysUntilFair 37 = .ok (.iload_n 2, 1) := by decide +kernel
theorem dX11_daysUntilFair_38 : decode cX11_daysUntilFair 38 = .ok (.ireturn, 1) := by decide +kernel
theorem dX11_oddsOf_0 : decode cX11_oddsOf 0 = .ok (.aload_n 0, 1) := by decide +kernel
theorem dX11_oddsOf_1 : decode cX11_oddsOf 1 = .ok (.iload_n 1, 1) := by decide +kernel
theorem dX11_oddsOf_2 : decode cX11_oddsOf 2 = .ok (.invokevirtual 290, 3) := by decide +kernel
theorem dX11_oddsOf_5 : decode cX11_oddsOf 5 = .ok (.ifCond .eq 5, 3) := by decide +kernel
theorem dX11_oddsOf_8 : decode cX11_oddsOf 8 = .ok (.iconst 0, 1) := by decide +kernel
theorem dX11_oddsOf_9 : decode cX11_oddsOf 9 = .ok (.ireturn, 1) := by decide +kernel
theorem dX11_oddsOf_10 : decode cX11_oddsOf 10 = .ok (.aload_n 0, 1) := by decide +kernel
theorem dX11_oddsOf_11 : decode cX11_oddsOf 11 = .ok (.getfield 7, 3) := by decide +kernel
theorem dX11_oddsOf_14 : decode cX11_oddsOf 14 = .ok (.iconst 1, 1) := by decide +kernel
theorem dX11_oddsOf_15 : decode cX11_oddsOf 15 = .ok (.iload_n 1, 1) := by decide +kernel
theorem dX11_oddsOf_16 : decode cX11_oddsOf 16 = .ok (.iadd, 1) := by decide +kernel
theorem dX11_oddsOf_17 : decode cX11_oddsOf 17 = .ok (.iaload, 1) := by decide +kernel
theorem dX11_oddsOf_18 : decode cX11_oddsOf 18 = .ok (.ireturn, 1) := by decide +kernel
theorem dX11_chanceOf_0 : decode cX11_chanceOf 0 = .ok (.aload_n 0, 1) := by decide +kernel
theorem dX11_chanceOf_1 : decode cX11_chanceOf 1 = .ok (.iload_n 1, 1) := by decide +kernel
theorem dX11_chanceOf_2 : decode cX11_chanceOf 2 = .ok (.invokevirtual 290, 3) := by decide +kernel
theorem dX11_chanceOf_5 : decode cX11_chanceOf 5 = .ok (.ifCond .eq 5, 3) := by decide +kernel
theorem dX11_chanceOf_8 : decode cX11_chanceOf 8 = .ok (.dconst 0, 1) := by decide +kernel
theorem dX11_chanceOf_9 : decode cX11_chanceOf 9 = .ok (.dreturn, 1) := by decide +kernel
theorem dX11_chanceOf_10 : decode cX11_chanceOf 10 = .ok (.aload_n 0, 1) := by decide +kernel
theorem dX11_chanceOf_11 : decode cX11_chanceOf 11 = .ok (.getfield 7, 3) := by decide +kernel
theorem dX11_chanceOf_14 : decode cX11_chanceOf 14 = .ok (.iconst 1, 1) := by decide +kernel
theorem dX11_chanceOf_15 : decode cX11_chanceOf 15 = .ok (.iload_n 1, 1) := by decide +kernel
theorem dX11_chanceOf_16 : decode cX11_chanceOf 16 = .ok (.iadd, 1) := by decide +kernel
theorem dX11_chanceOf_17 : decode cX11_chanceOf 17 = .ok (.iaload, 1) := by decide +kernel
theorem dX11_chanceOf_18 : decode cX11_chanceOf 18 = .ok (.i2d, 1) := by decide +kernel
theorem dX11_chanceOf_19 : decode cX11_chanceOf 19 = .ok (.aload_n 0, 1) := by decide +kernel
theorem dX11_chanceOf_20 : decode cX11_chanceOf 20 = .ok (.getfield 7, 3) := by decide +kernel
theorem dX11_chanceOf_23 : decode cX11_chanceOf 23 = .ok (.invokestatic 108, 3) := by decide +kernel
theorem dX11_chanceOf_26 : decode cX11_chanceOf 26 = .ok (.i2d, 1) := by decide +kernel
theorem dX11_chanceOf_27 : decode cX11_chanceOf 27 = .ok (.ddiv, 1) := by decide +kernel
theorem dX11_chanceOf_28 : decode cX11_chanceOf 28 = .ok (.dreturn, 1) := by decide +kernel
theorem dX11_drawnThisYear_0 : decode cX11_drawnThisYear 0 = .ok (.aload_n 0, 1) := by decide +kernel
theorem dX11_drawnThisYear_1 : decode cX11_drawnThisYear 1 = .ok (.iload_n 1, 1) := by decide +kernel
theorem dX11_drawnThisYear_2 : decode cX11_drawnThisYear 2 = .ok (.invokevirtual 290, 3) := by decide +kernel
theorem dX11_drawnThisYear_5 : decode cX11_drawnThisYear 5 = .ok (.ifCond .eq 5, 3) := by decide +kernel
theorem dX11_drawnThisYear_8 : decode cX11_drawnThisYear 8 = .ok (.iconst 0, 1) := by decide +kernel
theorem dX11_drawnThisYear_9 : decode cX11_drawnThisYear 9 = .ok (.ireturn, 1) := by decide +kernel
theorem dX11_drawnThisYear_10 : decode cX11_drawnThisYear 10 = .ok (.aload_n 0, 1) := by decide +kernel
theorem dX11_drawnThisYear_11 : decode cX11_drawnThisYear 11 = .ok (.getfield 7, 3) := by decide +kernel
theorem dX11_drawnThisYear_14 : decode cX11_drawnThisYear 14 = .ok (.bipush 17, 2) := by decide +kernel
theorem dX11_drawnThisYear_16 : decode cX11_drawnThisYear 16 = .ok (.iload_n 1, 1) := by decide +kernel
theorem dX11_drawnThisYear_17 : decode cX11_drawnThisYear 17 = .ok (.iadd, 1) := by decide +kernel
theorem dX11_drawnThisYear_18 : decode cX11_drawnThisYear 18 = .ok (.iaload, 1) := by decide +kernel
theorem dX11_drawnThisYear_19 : decode cX11_drawnThisYear 19 = .ok (.ireturn, 1) := by decide +kernel
theorem dX11_likeliestWeather_0 : decode cX11_likeliestWeather 0 = .ok (.aload_n 0, 1) := by decide +kernel
theorem dX11_likeliestWeather_1 : decode cX11_likeliestWeather 1 = .ok (.iconst 0, 1) := by decide +kernel
theorem dX11_likeliestWeather_2 : decode cX11_likeliestWeather 2 = .ok (.putfield 66, 3) := by decide +kernel
theorem dX11_likeliestWeather_5 : decode cX11_likeliestWeather 5 = .ok (.iconst 0, 1) := by decide +kernel
theorem dX11_likeliestWeather_6 : decode cX11_likeliestWeather 6 = .ok (.istore_n 1, 1) := by decide +kernel
theorem dX11_likeliestWeather_7 : decode cX11_likeliestWeather 7 = .ok (.iconst 1, 1) := by decide +kernel
theorem dX11_likeliestWeather_8 : decode cX11_likeliestWeather 8 = .ok (.istore_n 2, 1) := by decide +kernel
theorem dX11_likeliestWeather_9 : decode cX11_likeliestWeather 9 = .ok (.iload_n 2, 1) := by decide +kernel
theorem dX11_likeliestWeather_10 : decode cX11_likeliestWeather 10 = .ok (.iconst 3, 1) := by decide +kernel
theorem dX11_likeliestWeather_11 : decode cX11_likeliestWeather 11 = .ok (.if_icmp .ge 34, 3) := by decide +kernel
theorem dX11_likeliestWeather_14 : decode cX11_likeliestWeather 14 = .ok (.aload_n 0, 1) := by decide +kernel
theorem dX11_likeliestWeather_15 : decode cX11_likeliestWeather 15 = .ok (.getfield 7, 3) := by decide +kernel
theorem dX11_likeliestWeather_18 : decode cX11_likeliestWeather 18 = .ok (.iconst 1, 1) := by decide +kernel
theorem dX11_likeliestWeather_19 : decode cX11_likeliestWeather 19 = .ok (.iload_n 2, 1) := by decide +kernel
theorem dX11_likeliestWeather_20 : decode cX11_likeliestWeather 20 = .ok (.iadd, 1) := by decide +kernel
theorem dX11_likeliestWeather_21 : decode cX11_likeliestWeather 21 = .ok (.iaload, 1) := by decide +kernel
theorem dX11_likeliestWeather_22 : decode cX11_likeliestWeather 22 = .ok (.aload_n 0, 1) := by decide +kernel
theorem dX11_likeliestWeather_23 : decode cX11_likeliestWeather 23 = .ok (.getfield 7, 3) := by decide +kernel
theorem dX11_likeliestWeather_26 : decode cX11_likeliestWeather 26 = .ok (.iconst 1, 1) := by decide +kernel
theorem dX11_likeliestWeather_27 : decode cX11_likeliestWeather 27 = .ok (.iload_n 1, 1) := by decide +kernel
theorem dX11_likeliestWeather_28 : decode cX11_likeliestWeather 28 = .ok (.iadd, 1) := by decide +kernel
theorem dX11_likeliestWeather_29 : decode cX11_likeliestWeather 29 = .ok (.iaload, 1) := by decide +kernel
theorem dX11_likeliestWeather_30 : decode cX11_likeliestWeather 30 = .ok (.if_icmp .le 7, 3) := by decide +kernel
theorem dX11_likeliestWeather_33 : decode cX11_likeliestWeather 33 = .ok (.iload_n 2, 1) := by decide +kernel
theorem dX11_likeliestWeather_34 : decode cX11_likeliestWeather 34 = .ok (.goto 4, 3) := by decide +kernel
theorem dX11_likeliestWeather_37 : decode cX11_likeliestWeather 37 = .ok (.iload_n 1, 1) := by decide +kernel
theorem dX11_likeliestWeather_38 : decode cX11_likeliestWeather 38 = .ok (.istore_n 1, 1) := by decide +kernel
theorem dX11_likeliestWeather_39 : decode cX11_likeliestWeather 39 = .ok (.iinc 2 1, 3) := by decide +kernel
theorem dX11_likeliestWeather_42 : decode cX11_likeliestWeather 42 = .ok (.goto (-33), 3) := by decide +kernel
theorem dX11_likeliestWeather_45 : decode cX11_likeliestWeather 45 = .ok (.iload_n 1, 1) := by decide +kernel
theorem dX11_likeliestWeather_46 : decode cX11_likeliestWeather 46 = .ok (.ireturn, 1) := by decide +kernel
theorem dX11_tomorrowIn_0 : decode cX11_tomorrowIn 0 = .ok (.aload_n 0, 1) := by decide +kernel
theorem dX11_tomorrowIn_1 : decode cX11_tomorrowIn 1 = .ok (.iload_n 1, 1) := by decide +kernel
theorem dX11_tomorrowIn_2 : decode cX11_tomorrowIn 2 = .ok (.invokevirtual 284, 3) := by decide +kernel
theorem dX11_tomorrowIn_5 : decode cX11_tomorrowIn 5 = .ok (.ifCond .eq 5, 3) := by decide +kernel
theorem dX11_tomorrowIn_8 : decode cX11_tomorrowIn 8 = .ok (.iconst 0, 1) := by decide +kernel
theorem dX11_tomorrowIn_9 : decode cX11_tomorrowIn 9 = .ok (.ireturn, 1) := by decide +kernel
theorem dX11_tomorrowIn_10 : decode cX11_tomorrowIn 10 = .ok (.aload_n 0, 1) := by decide +kernel
theorem dX11_tomorrowIn_11 : decode cX11_tomorrowIn 11 = .ok (.getfield 7, 3) := by decide +kernel
theorem dX11_tomorrowIn_14 : decode cX11_tomorrowIn 14 = .ok (.iconst 0, 1) := by decide +kernel
theorem dX11_tomorrowIn_15 : decode cX11_tomorrowIn 15 = .ok (.iaload, 1) := by decide +kernel
theorem dX11_tomorrowIn_16 : decode cX11_tomorrowIn 16 = .ok (.istore_n 2, 1) := by decide +kernel
theorem dX11_tomorrowIn_17 : decode cX11_tomorrowIn 17 = .ok (.iconst 0, 1) := by decide +kernel
theorem dX11_tomorrowIn_18 : decode cX11_tomorrowIn 18 = .ok (.istore_n 3, 1) := by decide +kernel
theorem dX11_tomorrowIn_19 : decode cX11_tomorrowIn 19 = .ok (.iload_n 3, 1) := by decide +kernel
theorem dX11_tomorrowIn_20 : decode cX11_tomorrowIn 20 = .ok (.iload_n 1, 1) := by decide +kernel
theorem dX11_tomorrowIn_21 : decode cX11_tomorrowIn 21 = .ok (.if_icmp .gt 14, 3) := by decide +kernel
theorem dX11_tomorrowIn_24 : decode cX11_tomorrowIn 24 = .ok (.iload_n 2, 1) := by decide +kernel
theorem dX11_tomorrowIn_25 : decode cX11_tomorrowIn 25 = .ok (.invokestatic 125, 3) := by decide +kernel
theorem dX11_tomorrowIn_28 : decode cX11_tomorrowIn 28 = .ok (.istore_n 2, 1) := by decide +kernel
theorem dX11_tomorrowIn_29 : decode cX11_tomorrowIn 29 = .ok (.iinc 3 1, 3) := by decide +kernel
theorem dX11_tomorrowIn_32 : decode cX11_tomorrowIn 32 = .ok (.goto (-13), 3) := by decide +kernel
theorem dX11_tomorrowIn_35 : decode cX11_tomorrowIn 35 = .ok (.aload_n 0, 1) := by decide +kernel
theorem dX11_tomorrowIn_36 : decode cX11_tomorrowIn 36 = .ok (.getfield 7, 3) := by decide +kernel
theorem dX11_tomorrowIn_39 : decode cX11_tomorrowIn 39 = .ok (.iload_n 2, 1) := by decide +kernel
theorem dX11_tomorrowIn_40 : decode cX11_tomorrowIn 40 = .ok (.invokestatic 128, 3) := by decide +kernel
theorem dX11_tomorrowIn_43 : decode cX11_tomorrowIn 43 = .ok (.ireturn, 1) := by decide +kernel
theorem dX11_forecastCount_0 : decode cX11_forecastCount 0 = .ok (.aload_n 0, 1) := by decide +kernel
theorem dX11_forecastCount_1 : decode cX11_forecastCount 1 = .ok (.iconst 0, 1) := by decide +kernel
theorem dX11_forecastCount_2 : decode cX11_forecastCount 2 = .ok (.putfield 66, 3) := by decide +kernel
theorem dX11_forecastCount_5 : decode cX11_forecastCount 5 = .ok (.aload_n 0, 1) := by decide +kernel
theorem dX11_forecastCount_6 : decode cX11_forecastCount 6 = .ok (.getfield 7, 3) := by decide +kernel
theorem dX11_forecastCount_9 : decode cX11_forecastCount 9 = .ok (.bipush 8, 2) := by decide +kernel
theorem dX11_forecastCount_11 : decode cX11_forecastCount 11 = .ok (.iaload, 1) := by decide +kernel
theorem dX11_forecastCount_12 : decode cX11_forecastCount 12 = .ok (.ireturn, 1) := by decide +kernel
theorem dX11_hasForecast_0 : decode cX11_hasForecast 0 = .ok (.aload_n 0, 1) := by decide +kernel
theorem dX11_hasForecast_1 : decode cX11_hasForecast 1 = .ok (.iload_n 1, 1) := by decide +kernel
theorem dX11_hasForecast_2 : decode cX11_hasForecast 2 = .ok (.invokevirtual 284, 3) := by decide +kernel
theorem dX11_hasForecast_5 : decode cX11_hasForecast 5 = .ok (.ifCond .eq 5, 3) := by decide +kernel
theorem dX11_hasForecast_8 : decode cX11_hasForecast 8 = .ok (.iconst 0, 1) := by decide +kernel
theorem dX11_hasForecast_9 : decode cX11_hasForecast 9 = .ok (.ireturn, 1) := by decide +kernel
theorem dX11_hasForecast_10 : decode cX11_hasForecast 10 = .ok (.aload_n 0, 1) := by decide +kernel
theorem dX11_hasForecast_11 : decode cX11_hasForecast 11 = .ok (.getfield 7, 3) := by decide +kernel
theorem dX11_hasForecast_14 : decode cX11_hasForecast 14 = .ok (.iload_n 1, 1) := by decide +kernel
theorem dX11_hasForecast_15 : decode cX11_hasForecast 15 = .ok (.iload_n 2, 1) := by decide +kernel
theorem dX11_hasForecast_16 : decode cX11_hasForecast 16 = .ok (.invokestatic 73, 3) := by decide +kernel
theorem dX11_hasForecast_19 : decode cX11_hasForecast 19 = .ok (.iconst (-1), 1) := by decide +kernel
theorem dX11_hasForecast_20 : decode cX11_hasForecast 20 = .ok (.if_icmp .eq 7, 3) := by decide +kernel
theorem dX11_hasForecast_23 : decode cX11_hasForecast 23 = .ok (.iconst 1, 1) := by decide +kernel
theorem dX11_hasForecast_24 : decode cX11_hasForecast 24 = .ok (.goto 4, 3) := by decide +kernel
theorem dX11_hasForecast_27 : decode cX11_hasForecast 27 = .ok (.iconst 0, 1) := by decide +kernel
theorem dX11_hasForecast_28 : decode cX11_hasForecast 28 = .ok (.ireturn, 1) := by decide +kernel
theorem dX11_weatherOf_0 : decode cX11_weatherOf 0 = .ok (.aload_n 0, 1) := by decide +kernel
theorem dX11_weatherOf_1 : decode cX11_weatherOf 1 = .ok (.iload_n 1, 1) := by decide +kernel
theorem dX11_weatherOf_2 : decode cX11_weatherOf 2 = .ok (.iload_n 2, 1) := by decide +kernel
theorem dX11_weatherOf_3 : decode cX11_weatherOf 3 = .ok (.invokevirtual 293, 3) := by decide +kernel
theorem dX11_weatherOf_6 : decode cX11_weatherOf 6 = .ok (.ifCond .eq 5, 3) := by decide +kernel
theorem dX11_weatherOf_9 : decode cX11_weatherOf 9 = .ok (.iconst 0, 1) := by decide +kernel
theorem dX11_weatherOf_10 : decode cX11_weatherOf 10 = .ok (.ireturn, 1) := by decide +kernel
theorem dX11_weatherOf_11 : decode cX11_weatherOf 11 = .ok (.aload_n 0, 1) := by decide +kernel
theorem dX11_weatherOf_12 : decode cX11_weatherOf 12 = .ok (.getfield 7, 3) := by decide +kernel
theorem dX11_weatherOf_15 : decode cX11_weatherOf 15 = .ok (.iload_n 1, 1) := by decide +kernel
theorem dX11_weatherOf_16 : decode cX11_weatherOf 16 = .ok (.iload_n 2, 1) := by decide +kernel
theorem dX11_weatherOf_17 : decode cX11_weatherOf 17 = .ok (.invokestatic 73, 3) := by decide +kernel
theorem dX11_weatherOf_20 : decode cX11_weatherOf 20 = .ok (.istore_n 3, 1) := by decide +kernel
theorem dX11_weatherOf_21 : decode cX11_weatherOf 21 = .ok (.aload_n 0, 1) := by decide +kernel
theorem dX11_weatherOf_22 : decode cX11_weatherOf 22 = .ok (.getfield 7, 3) := by decide +kernel
theorem dX11_weatherOf_25 : decode cX11_weatherOf 25 = .ok (.iload_n 3, 1) := by decide +kernel
theorem dX11_weatherOf_26 : decode cX11_weatherOf 26 = .ok (.invokestatic 69, 3) := by decide +kernel
theorem dX11_weatherOf_29 : decode cX11_weatherOf 29 = .ok (.iconst 2, 1) := by decide +kernel
theorem dX11_weatherOf_30 : decode cX11_weatherOf 30 = .ok (.iadd, 1) := by decide +kernel
theorem dX11_weatherOf_31 : decode cX11_weatherOf 31 = .ok (.iaload, 1) := by decide +kernel
theorem dX11_weatherOf_32 : decode cX11_weatherOf 32 = .ok (.ireturn, 1) := by decide +kernel
theorem dX11_soldOf_0 : decode cX11_soldOf 0 = .ok (.aload_n 0, 1) := by decide +kernel
theorem dX11_soldOf_1 : decode cX11_soldOf 1 = .ok (.iload_n 1, 1) := by decide +kernel
theorem dX11_soldOf_2 : decode cX11_soldOf 2 = .ok (.iload_n 2, 1) := by decide +kernel
theorem dX11_soldOf_3 : decode cX11_soldOf 3 = .ok (.invokevirtual 293, 3) := by decide +kernel
theorem dX11_soldOf_6 : decode cX11_soldOf 6 = .ok (.ifCond .eq 5, 3) := by decide +kernel
theorem dX11_soldOf_9 : decode cX11_soldOf 9 = .ok (.iconst 0, 1) := by decide +kernel
theorem dX11_soldOf_10 : decode cX11_soldOf 10 = .ok (.ireturn, 1) := by decide +kernel
theorem dX11_soldOf_11 : decode cX11_soldOf 11 = .ok (.aload_n 0, 1) := by decide +kernel
theorem dX11_soldOf_12 : decode cX11_soldOf 12 = .ok (.getfield 7, 3) := by decide +kernel
theorem dX11_soldOf_15 : decode cX11_soldOf 15 = .ok (.iload_n 1, 1) := by decide +kernel
theorem dX11_soldOf_16 : decode cX11_soldOf 16 = .ok (.iload_n 2, 1) := by decide +kernel
theorem dX11_soldOf_17 : decode cX11_soldOf 17 = .ok (.invokestatic 73, 3) := by decide +kernel
theorem dX11_soldOf_20 : decode cX11_soldOf 20 = .ok (.istore_n 3, 1) := by decide +kernel
theorem dX11_soldOf_21 : decode cX11_soldOf 21 = .ok (.aload_n 0, 1) := by decide +kernel
theorem dX11_soldOf_22 : decode cX11_soldOf 22 = .ok (.getfield 7, 3) := by decide +kernel
theorem dX11_soldOf_25 : decode cX11_soldOf 25 = .ok (.iload_n 3, 1) := by decide +kernel
theorem dX11_soldOf_26 : decode cX11_soldOf 26 = .ok (.invokestatic 69, 3) := by decide +kernel
theorem dX11_soldOf_29 : decode cX11_soldOf 29 = .ok (.iconst 3, 1) := by decide +kernel
theorem dX11_soldOf_30 : decode cX11_soldOf 30 = .ok (.iadd, 1) := by decide +kernel
theorem dX11_soldOf_31 : decode cX11_soldOf 31 = .ok (.iaload, 1) := by decide +kernel
theorem dX11_soldOf_32 : decode cX11_soldOf 32 = .ok (.ireturn, 1) := by decide +kernel
theorem dX11_paidOf_0 : decode cX11_paidOf 0 = .ok (.aload_n 0, 1) := by decide +kernel
theorem dX11_paidOf_1 : decode cX11_paidOf 1 = .ok (.iload_n 1, 1) := by decide +kernel
theorem dX11_paidOf_2 : decode cX11_paidOf 2 = .ok (.iload_n 2, 1) := by decide +kernel
theorem dX11_paidOf_3 : decode cX11_paidOf 3 = .ok (.invokevirtual 293, 3) := by decide +kernel
theorem dX11_paidOf_6 : decode cX11_paidOf 6 = .ok (.ifCond .eq 5, 3) := by decide +kernel
theorem dX11_paidOf_9 : decode cX11_paidOf 9 = .ok (.iconst 0, 1) := by decide +kernel
theorem dX11_paidOf_10 : decode cX11_paidOf 10 = .ok (.ireturn, 1) := by decide +kernel
theorem dX11_paidOf_11 : decode cX11_paidOf 11 = .ok (.aload_n 0, 1) := by decide +kernel
theorem dX11_paidOf_12 : decode cX11_paidOf 12 = .ok (.getfield 7, 3) := by decide +kernel
theorem dX11_paidOf_15 : decode cX11_paidOf 15 = .ok (.iload_n 1, 1) := by decide +kernel
theorem dX11_paidOf_16 : decode cX11_paidOf 16 = .ok (.iload_n 2, 1) := by decide +kernel
theorem dX11_paidOf_17 : decode cX11_paidOf 17 = .ok (.invokestatic 73, 3) := by decide +kernel
theorem dX11_paidOf_20 : decode cX11_paidOf 20 = .ok (.istore_n 3, 1) := by decide +kernel
theorem dX11_paidOf_21 : decode cX11_paidOf 21 = .ok (.aload_n 0, 1) := by decide +kernel
theorem dX11_paidOf_22 : decode cX11_paidOf 22 = .ok (.getfield 7, 3) := by decide +kernel
theorem dX11_paidOf_25 : decode cX11_paidOf 25 = .ok (.iload_n 3, 1) := by decide +kernel
theorem dX11_paidOf_26 : decode cX11_paidOf 26 = .ok (.invokestatic 69, 3) := by decide +kernel
theorem dX11_paidOf_29 : decode cX11_paidOf 29 = .ok (.iconst 4, 1) := by decide +kernel
theorem dX11_paidOf_30 : decode cX11_paidOf 30 = .ok (.iadd, 1) := by decide +kernel
theorem dX11_paidOf_31 : decode cX11_paidOf 31 = .ok (.iaload, 1) := by decide +kernel
theorem dX11_paidOf_32 : decode cX11_paidOf 32 = .ok (.ireturn, 1) := by decide +kernel
theorem dX11_pageOf_0 : decode cX11_pageOf 0 = .ok (.aload_n 0, 1) := by decide +kernel
theorem dX11_pageOf_1 : decode cX11_pageOf 1 = .ok (.iload_n 1, 1) := by decide +kernel
theorem dX11_pageOf_2 : decode cX11_pageOf 2 = .ok (.iload_n 2, 1) := by decide +kernel
theorem dX11_pageOf_3 : decode cX11_pageOf 3 = .ok (.invokevirtual 293, 3) := by decide +kernel
theorem dX11_pageOf_6 : decode cX11_pageOf 6 = .ok (.ifCond .eq 5, 3) := by decide +kernel
theorem dX11_pageOf_9 : decode cX11_pageOf 9 = .ok (.iconst 0, 1) := by decide +kernel
theorem dX11_pageOf_10 : decode cX11_pageOf 10 = .ok (.ireturn, 1) := by decide +kernel
theorem dX11_pageOf_11 : decode cX11_pageOf 11 = .ok (.aload_n 0, 1) := by decide +kernel
theorem dX11_pageOf_12 : decode cX11_pageOf 12 = .ok (.getfield 7, 3) := by decide +kernel
theorem dX11_pageOf_15 : decode cX11_pageOf 15 = .ok (.iload_n 1, 1) := by decide +kernel
theorem dX11_pageOf_16 : decode cX11_pageOf 16 = .ok (.iload_n 2, 1) := by decide +kernel
theorem dX11_pageOf_17 : decode cX11_pageOf 17 = .ok (.invokestatic 73, 3) := by decide +kernel
theorem dX11_pageOf_20 : decode cX11_pageOf 20 = .ok (.iconst 4, 1) := by decide +kernel
theorem dX11_pageOf_21 : decode cX11_pageOf 21 = .ok (.idiv, 1) := by decide +kernel
theorem dX11_pageOf_22 : decode cX11_pageOf 22 = .ok (.ireturn, 1) := by decide +kernel
theorem dX11_told_0 : decode cX11_told 0 = .ok (.bipush 10, 2) := by decide +kernel
theorem dX11_told_2 : decode cX11_told 2 = .ok (.aload_n 0, 1) := by decide +kernel
theorem dX11_told_3 : decode cX11_told 3 = .ok (.getfield 7, 3) := by decide +kernel
theorem dX11_told_6 : decode cX11_told 6 = .ok (.iload_n 1, 1) := by decide +kernel
theorem dX11_told_7 : decode cX11_told 7 = .ok (.invokestatic 69, 3) := by decide +kernel
theorem dX11_told_10 : decode cX11_told 10 = .ok (.iconst 1, 1) := by decide +kernel
theorem dX11_told_11 : decode cX11_told 11 = .ok (.iadd, 1) := by decide +kernel
theorem dX11_told_12 : decode cX11_told 12 = .ok (.iaload, 1) := by decide +kernel
theorem dX11_told_13 : decode cX11_told 13 = .ok (.imul, 1) := by decide +kernel
theorem dX11_told_14 : decode cX11_told 14 = .ok (.aload_n 0, 1) := by decide +kernel
theorem dX11_told_15 : decode cX11_told 15 = .ok (.getfield 7, 3) := by decide +kernel
theorem dX11_told_18 : decode cX11_told 18 = .ok (.iload_n 1, 1) := by decide +kernel
theorem dX11_told_19 : decode cX11_told 19 = .ok (.invokestatic 69, 3) := by decide +kernel
theorem dX11_told_22 : decode cX11_told 22 = .ok (.iconst 0, 1) := by decide +kernel
theorem dX11_told_23 : decode cX11_told 23 = .ok (.iadd, 1) := by decide +kernel
theorem dX11_told_24 : decode cX11_told 24 = .ok (.iaload, 1) := by decide +kernel
theorem dX11_told_25 : decode cX11_told 25 = .ok (.iadd, 1) := by decide +kernel
theorem dX11_told_26 : decode cX11_told 26 = .ok (.ireturn, 1) := by decide +kernel
theorem dX11_forecastAt_0 : decode cX11_forecastAt 0 = .ok (.aload_n 0, 1) := by decide +kernel
theorem dX11_forecastAt_1 : decode cX11_forecastAt 1 = .ok (.iload_n 1, 1) := by decide +kernel
theorem dX11_forecastAt_2 : decode cX11_forecastAt 2 = .ok (.iconst 0, 1) := by decide +kernel
theorem dX11_forecastAt_3 : decode cX11_forecastAt 3 = .ok (.aload_n 0, 1) := by decide +kernel
theorem dX11_forecastAt_4 : decode cX11_forecastAt 4 = .ok (.getfield 7, 3) := by decide +kernel
theorem dX11_forecastAt_7 : decode cX11_forecastAt 7 = .ok (.bipush 8, 2) := by decide +kernel
theorem dX11_forecastAt_9 : decode cX11_forecastAt 9 = .ok (.iaload, 1) := by decide +kernel
theorem dX11_forecastAt_10 : decode cX11_forecastAt 10 = .ok (.iconst 1, 1) := by decide +kernel
theorem dX11_forecastAt_11 : decode cX11_forecastAt 11 = .ok (.isub, 1) := by decide +kernel
theorem dX11_forecastAt_12 : decode cX11_forecastAt 12 = .ok (.invokevirtual 149, 3) := by decide +kernel
theorem dX11_forecastAt_15 : decode cX11_forecastAt 15 = .ok (.ifCond .eq 5, 3) := by decide +kernel
theorem dX11_forecastAt_18 : decode cX11_forecastAt 18 = .ok (.iconst 0, 1) := by decide +kernel
theorem dX11_forecastAt_19 : decode cX11_forecastAt 19 = .ok (.ireturn, 1) := by decide +kernel
theorem dX11_forecastAt_20 : decode cX11_forecastAt 20 = .ok (.aload_n 0, 1) := by decide +kernel
theorem dX11_forecastAt_21 : decode cX11_forecastAt 21 = .ok (.iload_n 1, 1) := by decide +kernel
theorem dX11_forecastAt_22 : decode cX11_forecastAt 22 = .ok (.invokevirtual 297, 3) := by decide +kernel
theorem dX11_forecastAt_25 : decode cX11_forecastAt 25 = .ok (.ireturn, 1) := by decide +kernel
theorem dX11_pageCount_0 : decode cX11_pageCount 0 = .ok (.aload_n 0, 1) := by decide +kernel
theorem dX11_pageCount_1 : decode cX11_pageCount 1 = .ok (.iconst 0, 1) := by decide +kernel
theorem dX11_pageCount_2 : decode cX11_pageCount 2 = .ok (.putfield 66, 3) := by decide +kernel
theorem dX11_pageCount_5 : decode cX11_pageCount 5 = .ok (.aload_n 0, 1) := by decide +kernel
theorem dX11_pageCount_6 : decode cX11_pageCount 6 = .ok (.getfield 7, 3) := by decide +kernel
theorem dX11_pageCount_9 : decode cX11_pageCount 9 = .ok (.invokestatic 236, 3) := by decide +kernel
theorem dX11_pageCount_12 : decode cX11_pageCount 12 = .ok (.ireturn, 1) := by decide +kernel
theorem dX11_refundOf_0 : decode cX11_refundOf 0 = .ok (.aload_n 0, 1) := by decide +kernel
theorem dX11_refundOf_1 : decode cX11_refundOf 1 = .ok (.iload_n 1, 1) := by decide +kernel
theorem dX11_refundOf_2 : decode cX11_refundOf 2 = .ok (.invokevirtual 300, 3) := by decide +kernel
theorem dX11_refundOf_5 : decode cX11_refundOf 5 = .ok (.ifCond .eq 5, 3) := by decide +kernel
theorem dX11_refundOf_8 : decode cX11_refundOf 8 = .ok (.iconst 0, 1) := by decide +kernel
theorem dX11_refundOf_9 : decode cX11_refundOf 9 = .ok (.ireturn, 1) := by decide +kernel
theorem dX11_refundOf_10 : decode cX11_refundOf 10 = .ok (.aload_n 0, 1) := by decide +kernel
theorem dX11_refundOf_11 : decode cX11_refundOf 11 = .ok (.getfield 7, 3) := by decide +kernel
theorem dX11_refundOf_14 : decode cX11_refundOf 14 = .ok (.iload_n 1, 1) := by decide +kernel
theorem dX11_refundOf_15 : decode cX11_refundOf 15 = .ok (.invokestatic 84, 3) := by decide +kernel
theorem dX11_refundOf_18 : decode cX11_refundOf 18 = .ok (.ireturn, 1) := by decide +kernel
theorem dX11_canRetract_0 : decode cX11_canRetract 0 = .ok (.aload_n 0, 1) := by decide +kernel
theorem dX11_canRetract_1 : decode cX11_canRetract 1 = .ok (.iload_n 1, 1) := by decide +kernel
theorem dX11_canRetract_2 : decode cX11_canRetract 2 = .ok (.invokevirtual 300, 3) := by decide +kernel
theorem dX11_canRetract_5 : decode cX11_canRetract 5 = .ok (.ifCond .eq 5, 3) := by decide +kernel
theorem dX11_canRetract_8 : decode cX11_canRetract 8 = .ok (.iconst 0, 1) := by decide +kernel
theorem dX11_canRetract_9 : decode cX11_canRetract 9 = .ok (.ireturn, 1) := by decide +kernel
theorem dX11_canRetract_10 : decode cX11_canRetract 10 = .ok (.aload_n 0, 1) := by decide +kernel
theorem dX11_canRetract_11 : decode cX11_canRetract 11 = .ok (.getfield 7, 3) := by decide +kernel
theorem dX11_canRetract_14 : decode cX11_canRetract 14 = .ok (.iload_n 1, 1) := by decide +kernel
theorem dX11_canRetract_15 : decode cX11_canRetract 15 = .ok (.invokestatic 84, 3) := by decide +kernel
theorem dX11_canRetract_18 : decode cX11_canRetract 18 = .ok (.aload_n 0, 1) := by decide +kernel
theorem dX11_canRetract_19 : decode cX11_canRetract 19 = .ok (.getfield 7, 3) := by decide +kernel
theorem dX11_canRetract_22 : decode cX11_canRetract 22 = .ok (.iconst 4, 1) := by decide +kernel
theorem dX11_canRetract_23 : decode cX11_canRetract 23 = .ok (.iaload, 1) := by decide +kernel
theorem dX11_canRetract_24 : decode cX11_canRetract 24 = .ok (.if_icmp .gt 7, 3) := by decide +kernel
theorem dX11_canRetract_27 : decode cX11_canRetract 27 = .ok (.iconst 1, 1) := by decide +kernel
theorem dX11_canRetract_28 : decode cX11_canRetract 28 = .ok (.goto 4, 3) := by decide +kernel
theorem dX11_canRetract_31 : decode cX11_canRetract 31 = .ok (.iconst 0, 1) := by decide +kernel
theorem dX11_canRetract_32 : decode cX11_canRetract 32 = .ok (.ireturn, 1) := by decide +kernel
theorem dX11_printRefusal_0 : decode cX11_printRefusal 0 = .ok (.aload_n 0, 1) := by decide +kernel
theorem dX11_printRefusal_1 : decode cX11_printRefusal 1 = .ok (.iload_n 1, 1) := by decide +kernel
theorem dX11_printRefusal_2 : decode cX11_printRefusal 2 = .ok (.invokevirtual 284, 3) := by decide +kernel
theorem dX11_printRefusal_5 : decode cX11_printRefusal 5 = .ok (.ifCond .eq 5, 3) := by decide +kernel
theorem dX11_printRefusal_8 : decode cX11_printRefusal 8 = .ok (.iconst 0, 1) := by decide +kernel
theorem dX11_printRefusal_9 : decode cX11_printRefusal 9 = .ok (.ireturn, 1) := by decide +kernel
theorem dX11_printRefusal_10 : decode cX11_printRefusal 10 = .ok (.aload_n 0, 1) := by decide +kernel
theorem dX11_printRefusal_11 : decode cX11_printRefusal 11 = .ok (.getfield 7, 3) := by decide +kernel
theorem dX11_printRefusal_14 : decode cX11_printRefusal 14 = .ok (.iload_n 1, 1) := by decide +kernel
theorem dX11_printRefusal_15 : decode cX11_printRefusal 15 = .ok (.iload_n 2, 1) := by decide +kernel
theorem dX11_printRefusal_16 : decode cX11_printRefusal 16 = .ok (.invokestatic 229, 3) := by decide +kernel
theorem dX11_printRefusal_19 : decode cX11_printRefusal 19 = .ok (.ireturn, 1) := by decide +kernel
theorem dX11_regretCount_0 : decode cX11_regretCount 0 = .ok (.aload_n 0, 1) := by decide +kernel
theorem dX11_regretCount_1 : decode cX11_regretCount 1 = .ok (.iconst 0, 1) := by decide +kernel
theorem dX11_regretCount_2 : decode cX11_regretCount 2 = .ok (.putfield 66, 3) := by decide +kernel
theorem dX11_regretCount_5 : decode cX11_regretCount 5 = .ok (.aload_n 0, 1) := by decide +kernel
theorem dX11_regretCount_6 : decode cX11_regretCount 6 = .ok (.getfield 7, 3) := by decide +kernel
theorem dX11_regretCount_9 : decode cX11_regretCount 9 = .ok (.bipush 9, 2) := by decide +kernel
theorem dX11_regretCount_11 : decode cX11_regretCount 11 = .ok (.iaload, 1) := by decide +kernel
theorem dX11_regretCount_12 : decode cX11_regretCount 12 = .ok (.ireturn, 1) := by decide +kernel
theorem dX11_regretAt_0 : decode cX11_regretAt 0 = .ok (.aload_n 0, 1) := by decide +kernel
theorem dX11_regretAt_1 : decode cX11_regretAt 1 = .ok (.iload_n 1, 1) := by decide +kernel
theorem dX11_regretAt_2 : decode cX11_regretAt 2 = .ok (.iconst 0, 1) := by decide +kernel
theorem dX11_regretAt_3 : decode cX11_regretAt 3 = .ok (.aload_n 0, 1) := by decide +kernel
theorem dX11_regretAt_4 : decode cX11_regretAt 4 = .ok (.getfield 7, 3) := by decide +kernel
theorem dX11_regretAt_7 : decode cX11_regretAt 7 = .ok (.bipush 9, 2) := by decide +kernel
theorem dX11_regretAt_9 : decode cX11_regretAt 9 = .ok (.iaload, 1) := by decide +kernel
theorem dX11_regretAt_10 : decode cX11_regretAt 10 = .ok (.iconst 1, 1) := by decide +kernel
theorem dX11_regretAt_11 : decode cX11_regretAt 11 = .ok (.isub, 1) := by decide +kernel
theorem dX11_regretAt_12 : decode cX11_regretAt 12 = .ok (.invokevirtual 149, 3) := by decide +kernel
theorem dX11_regretAt_15 : decode cX11_regretAt 15 = .ok (.ifCond .eq 5, 3) := by decide +kernel
theorem dX11_regretAt_18 : decode cX11_regretAt 18 = .ok (.iconst 0, 1) := by decide +kernel
theorem dX11_regretAt_19 : decode cX11_regretAt 19 = .ok (.ireturn, 1) := by decide +kernel
theorem dX11_regretAt_20 : decode cX11_regretAt 20 = .ok (.bipush 10, 2) := by decide +kernel
theorem dX11_regretAt_22 : decode cX11_regretAt 22 = .ok (.aload_n 0, 1) := by decide +kernel
theorem dX11_regretAt_23 : decode cX11_regretAt 23 = .ok (.getfield 7, 3) := by decide +kernel
theorem dX11_regretAt_26 : decode cX11_regretAt 26 = .ok (.iload_n 1, 1) := by decide +kernel
theorem dX11_regretAt_27 : decode cX11_regretAt 27 = .ok (.invokestatic 112, 3) := by decide +kernel
theorem dX11_regretAt_30 : decode cX11_regretAt 30 = .ok (.iconst 0, 1) := by decide +kernel
theorem dX11_regretAt_31 : decode cX11_regretAt 31 = .ok (.iadd, 1) := by decide +kernel
theorem dX11_regretAt_32 : decode cX11_regretAt 32 = .ok (.iaload, 1) := by decide +kernel
theorem dX11_regretAt_33 : decode cX11_regretAt 33 = .ok (.imul, 1) := by decide +kernel
theorem dX11_regretAt_34 : decode cX11_regretAt 34 = .ok (.aload_n 0, 1) := by decide +kernel
theorem dX11_regretAt_35 : decode cX11_regretAt 35 = .ok (.getfield 7, 3) := by decide +kernel
theorem dX11_regretAt_38 : decode cX11_regretAt 38 = .ok (.iload_n 1, 1) := by decide +kernel
theorem dX11_regretAt_39 : decode cX11_regretAt 39 = .ok (.invokestatic 112, 3) := by decide +kernel
theorem dX11_regretAt_42 : decode cX11_regretAt 42 = .ok (.iconst 1, 1) := by decide +kernel
theorem dX11_regretAt_43 : decode cX11_regretAt 43 = .ok (.iadd, 1) := by decide +kernel
theorem dX11_regretAt_44 : decode cX11_regretAt 44 = .ok (.iaload, 1) := by decide +kernel
theorem dX11_regretAt_45 : decode cX11_regretAt 45 = .ok (.iadd, 1) := by decide +kernel
theorem dX11_regretAt_46 : decode cX11_regretAt 46 = .ok (.ireturn, 1) := by decide +kernel
theorem dX11_hits_0 : decode cX11_hits 0 = .ok (.aload_n 0, 1) := by decide +kernel
theorem dX11_hits_1 : decode cX11_hits 1 = .ok (.iconst 0, 1) := by decide +kernel
theorem dX11_hits_2 : decode cX11_hits 2 = .ok (.putfield 66, 3) := by decide +kernel
theorem dX11_hits_5 : decode cX11_hits 5 = .ok (.aload_n 0, 1) := by decide +kernel
theorem dX11_hits_6 : decode cX11_hits 6 = .ok (.getfield 7, 3) := by decide +kernel
theorem dX11_hits_9 : decode cX11_hits 9 = .ok (.bipush 10, 2) := by decide +kernel
theorem dX11_hits_11 : decode cX11_hits 11 = .ok (.iaload, 1) := by decide +kernel
theorem dX11_hits_12 : decode cX11_hits 12 = .ok (.ireturn, 1) := by decide +kernel
theorem dX11_regrets_0 : decode cX11_regrets 0 = .ok (.aload_n 0, 1) := by decide +kernel
theorem dX11_regrets_1 : decode cX11_regrets 1 = .ok (.iconst 0, 1) := by decide +kernel
theorem dX11_regrets_2 : decode cX11_regrets 2 = .ok (.putfield 66, 3) := by decide +kernel
theorem dX11_regrets_5 : decode cX11_regrets 5 = .ok (.aload_n 0, 1) := by decide +kernel
theorem dX11_regrets_6 : decode cX11_regrets 6 = .ok (.getfield 7, 3) := by decide +kernel
theorem dX11_regrets_9 : decode cX11_regrets 9 = .ok (.bipush 11, 2) := by decide +kernel
theorem dX11_regrets_11 : decode cX11_regrets 11 = .ok (.iaload, 1) := by decide +kernel
theorem dX11_regrets_12 : decode cX11_regrets 12 = .ok (.ireturn, 1) := by decide +kernel
theorem dX11_retractions_0 : decode cX11_retractions 0 = .ok (.aload_n 0, 1) := by decide +kernel
theorem dX11_retractions_1 : decode cX11_retractions 1 = .ok (.iconst 0, 1) := by decide +kernel
theorem dX11_retractions_2 : decode cX11_retractions 2 = .ok (.putfield 66, 3) := by decide +kernel
theorem dX11_retractions_5 : decode cX11_retractions 5 = .ok (.aload_n 0, 1) := by decide +kernel
theorem dX11_retractions_6 : decode cX11_retractions 6 = .ok (.getfield 7, 3) := by decide +kernel
theorem dX11_retractions_9 : decode cX11_retractions 9 = .ok (.bipush 12, 2) := by decide +kernel
theorem dX11_retractions_11 : decode cX11_retractions 11 = .ok (.iaload, 1) := by decide +kernel
theorem dX11_retractions_12 : decode cX11_retractions 12 = .ok (.ireturn, 1) := by decide +kernel
theorem dX11_coinsAfter_0 : decode cX11_coinsAfter 0 = .ok (.aload_n 0, 1) := by decide +kernel
theorem dX11_coinsAfter_1 : decode cX11_coinsAfter 1 = .ok (.iload_n 1, 1) := by decide +kernel
theorem dX11_coinsAfter_2 : decode cX11_coinsAfter 2 = .ok (.iconst 0, 1) := by decide +kernel
theorem dX11_coinsAfter_3 : decode cX11_coinsAfter 3 = .ok (.sipush 200, 3) := by decide +kernel
theorem dX11_coinsAfter_6 : decode cX11_coinsAfter 6 = .ok (.invokevirtual 149, 3) := by decide +kernel
theorem dX11_coinsAfter_9 : decode cX11_coinsAfter 9 = .ok (.ifCond .eq 5, 3) := by decide +kernel
theorem dX11_coinsAfter_12 : decode cX11_coinsAfter 12 = .ok (.iconst 0, 1) := by decide +kernel
theorem dX11_coinsAfter_13 : decode cX11_coinsAfter 13 = .ok (.ireturn, 1) := by decide +kernel
theorem dX11_coinsAfter_14 : decode cX11_coinsAfter 14 = .ok (.aload_n 0, 1) := by decide +kernel
theorem dX11_coinsAfter_15 : decode cX11_coinsAfter 15 = .ok (.getfield 7, 3) := by decide +kernel
theorem dX11_coinsAfter_18 : decode cX11_coinsAfter 18 = .ok (.iconst 0, 1) := by decide +kernel
theorem dX11_coinsAfter_19 : decode cX11_coinsAfter 19 = .ok (.aload_n 0, 1) := by decide +kernel
theorem dX11_coinsAfter_20 : decode cX11_coinsAfter 20 = .ok (.getfield 16, 3) := by decide +kernel
theorem dX11_coinsAfter_23 : decode cX11_coinsAfter 23 = .ok (.iconst 0, 1) := by decide +kernel
theorem dX11_coinsAfter_24 : decode cX11_coinsAfter 24 = .ok (.invokestatic 52, 3) := by decide +kernel
theorem dX11_coinsAfter_27 : decode cX11_coinsAfter 27 = .ok (.aload_n 0, 1) := by decide +kernel
theorem dX11_coinsAfter_28 : decode cX11_coinsAfter 28 = .ok (.getfield 16, 3) := by decide +kernel
theorem dX11_coinsAfter_31 : decode cX11_coinsAfter 31 = .ok (.iload_n 1, 1) := by decide +kernel
theorem dX11_coinsAfter_32 : decode cX11_coinsAfter 32 = .ok (.invokestatic 242, 3) := by decide +kernel
theorem dX11_coinsAfter_35 : decode cX11_coinsAfter 35 = .ok (.ifCond .ge 7, 3) := by decide +kernel
theorem dX11_coinsAfter_38 : decode cX11_coinsAfter 38 = .ok (.iconst (-1), 1) := by decide +kernel
theorem dX11_coinsAfter_39 : decode cX11_coinsAfter 39 = .ok (.goto 9, 3) := by decide +kernel
theorem dX11_coinsAfter_42 : decode cX11_coinsAfter 42 = .ok (.aload_n 0, 1) := by decide +kernel
theorem dX11_coinsAfter_43 : decode cX11_coinsAfter 43 = .ok (.getfield 16, 3) := by decide +kernel
theorem dX11_coinsAfter_46 : decode cX11_coinsAfter 46 = .ok (.iconst 4, 1) := by decide +kernel
theorem dX11_coinsAfter_47 : decode cX11_coinsAfter 47 = .ok (.iaload, 1) := by decide +kernel
theorem dX11_coinsAfter_48 : decode cX11_coinsAfter 48 = .ok (.ireturn, 1) := by decide +kernel
theorem dX11_trustAfter_0 : decode cX11_trustAfter 0 = .ok (.aload_n 0, 1) := by decide +kernel
theorem dX11_trustAfter_1 : decode cX11_trustAfter 1 = .ok (.iload_n 1, 1) := by decide +kernel
theorem dX11_trustAfter_2 : decode cX11_trustAfter 2 = .ok (.invokevirtual 284, 3) := by decide +kernel
theorem dX11_trustAfter_5 : decode cX11_trustAfter 5 = .ok (.ifCond .ne 15, 3) := by decide +kernel
theorem dX11_trustAfter_8 : decode cX11_trustAfter 8 = .ok (.aload_n 0, 1) := by decide +kernel
theorem dX11_trustAfter_9 : decode cX11_trustAfter 9 = .ok (.iload_n 2, 1) := by decide +kernel
theorem dX11_trustAfter_10 : decode cX11_trustAfter 10 = .ok (.iconst 0, 1) := by decide +kernel
theorem dX11_trustAfter_11 : decode cX11_trustAfter 11 = .ok (.sipush 200, 3) := by decide +kernel
theorem dX11_trustAfter_14 : decode cX11_trustAfter 14 = .ok (.invokevirtual 303, 3) := by decide +kernel
theorem dX11_trustAfter_17 : decode cX11_trustAfter 17 = .ok (.ifCond .eq 5, 3) := by decide +kernel
theorem dX11_trustAfter_20 : decode cX11_trustAfter 20 = .ok (.iconst 0, 1) := by decide +kernel
theorem dX11_trustAfter_21 : decode cX11_trustAfter 21 = .ok (.ireturn, 1) := by decide +kernel
theorem dX11_trustAfter_22 : decode cX11_trustAfter 22 = .ok (.aload_n 0, 1) := by decide +kernel
theorem dX11_trustAfter_23 : decode cX11_trustAfter 23 = .ok (.getfield 7, 3) := by decide +kernel
theorem dX11_trustAfter_26 : decode cX11_trustAfter 26 = .ok (.iconst 0, 1) := by decide +kernel
theorem dX11_trustAfter_27 : decode cX11_trustAfter 27 = .ok (.aload_n 0, 1) := by decide +kernel
theorem dX11_trustAfter_28 : decode cX11_trustAfter 28 = .ok (.getfield 16, 3) := by decide +kernel
theorem dX11_trustAfter_31 : decode cX11_trustAfter 31 = .ok (.iconst 0, 1) := by decide +kernel
theorem dX11_trustAfter_32 : decode cX11_trustAfter 32 = .ok (.invokestatic 52, 3) := by decide +kernel
theorem dX11_trustAfter_35 : decode cX11_trustAfter 35 = .ok (.aload_n 0, 1) := by decide +kernel
theorem dX11_trustAfter_36 : decode cX11_trustAfter 36 = .ok (.getfield 16, 3) := by decide +kernel
theorem dX11_trustAfter_39 : decode cX11_trustAfter 39 = .ok (.iload_n 2, 1) := by decide +kernel
theorem dX11_trustAfter_40 : decode cX11_trustAfter 40 = .ok (.invokestatic 242, 3) := by decide +kernel
theorem dX11_trustAfter_43 : decode cX11_trustAfter 43 = .ok (.ifCond .ge 7, 3) := by decide +kernel
theorem dX11_trustAfter_46 : decode cX11_trustAfter 46 = .ok (.iconst (-1), 1) := by decide +kernel
theorem dX11_trustAfter_47 : decode cX11_trustAfter 47 = .ok (.goto 14, 3) := by decide +kernel
theorem dX11_trustAfter_50 : decode cX11_trustAfter 50 = .ok (.aload_n 0, 1) := by decide +kernel
theorem dX11_trustAfter_51 : decode cX11_trustAfter 51 = .ok (.getfield 16, 3) := by decide +kernel
theorem dX11_trustAfter_54 : decode cX11_trustAfter 54 = .ok (.iload_n 1, 1) := by decide +kernel
theorem dX11_trustAfter_55 : decode cX11_trustAfter 55 = .ok (.invokestatic 81, 3) := by decide +kernel
theorem dX11_trustAfter_58 : decode cX11_trustAfter 58 = .ok (.iconst 2, 1) := by decide +kernel
theorem dX11_trustAfter_59 : decode cX11_trustAfter 59 = .ok (.iadd, 1) := by decide +kernel
theorem dX11_trustAfter_60 : decode cX11_trustAfter 60 = .ok (.iaload, 1) := by decide +kernel
theorem dX11_trustAfter_61 : decode cX11_trustAfter 61 = .ok (.ireturn, 1) := by decide +kernel
theorem dX11_daysUntilEmpty_0 : decode cX11_daysUntilEmpty 0 = .ok (.aload_n 0, 1) := by decide +kernel
theorem dX11_daysUntilEmpty_1 : decode cX11_daysUntilEmpty 1 = .ok (.iconst 0, 1) := by decide +kernel
theorem dX11_daysUntilEmpty_2 : decode cX11_daysUntilEmpty 2 = .ok (.putfield 66, 3) := by decide +kernel
theorem dX11_daysUntilEmpty_5 : decode cX11_daysUntilEmpty 5 = .ok (.aload_n 0, 1) := by decide +kernel
theorem dX11_daysUntilEmpty_6 : decode cX11_daysUntilEmpty 6 = .ok (.getfield 7, 3) := by decide +kernel
theorem dX11_daysUntilEmpty_9 : decode cX11_daysUntilEmpty 9 = .ok (.iconst 0, 1) := by decide +kernel
theorem dX11_daysUntilEmpty_10 : decode cX11_daysUntilEmpty 10 = .ok (.aload_n 0, 1) := by decide +kernel
theorem dX11_daysUntilEmpty_11 : decode cX11_daysUntilEmpty 11 = .ok (.getfield 16, 3) := by decide +kernel
theorem dX11_daysUntilEmpty_14 : decode cX11_daysUntilEmpty 14 = .ok (.iconst 0, 1) := by decide +kernel
theorem dX11_daysUntilEmpty_15 : decode cX11_daysUntilEmpty 15 = .ok (.invokestatic 52, 3) := by decide +kernel
theorem dX11_daysUntilEmpty_18 : decode cX11_daysUntilEmpty 18 = .ok (.iconst 0, 1) := by decide +kernel
theorem dX11_daysUntilEmpty_19 : decode cX11_daysUntilEmpty 19 = .ok (.istore_n 1, 1) := by decide +kernel
theorem dX11_daysUntilEmpty_20 : decode cX11_daysUntilEmpty 20 = .ok (.aload_n 0, 1) := by decide +kernel
theorem dX11_daysUntilEmpty_21 : decode cX11_daysUntilEmpty 21 = .ok (.getfield 16, 3) := by decide +kernel
theorem dX11_daysUntilEmpty_24 : decode cX11_daysUntilEmpty 24 = .ok (.bipush 8, 2) := by decide +kernel
theorem dX11_daysUntilEmpty_26 : decode cX11_daysUntilEmpty 26 = .ok (.iaload, 1) := by decide +kernel
theorem dX11_daysUntilEmpty_27 : decode cX11_daysUntilEmpty 27 = .ok (.ifCond .le 16, 3) := by decide +kernel
theorem dX11_daysUntilEmpty_30 : decode cX11_daysUntilEmpty 30 = .ok (.aload_n 0, 1) := by decide +kernel
theorem dX11_daysUntilEmpty_31 : decode cX11_daysUntilEmpty 31 = .ok (.getfield 16, 3) := by decide +kernel
theorem dX11_daysUntilEmpty_34 : decode cX11_daysUntilEmpty 34 = .ok (.invokestatic 138, 3) := by decide +kernel
theorem dX11_daysUntilEmpty_37 : decode cX11_daysUntilEmpty 37 = .ok (.iinc 1 1, 3) := by decide +kernel
theorem dX11_daysUntilEmpty_40 : decode cX11_daysUntilEmpty 40 = .ok (.goto (-20), 3) := by decide +kernel
theorem dX11_daysUntilEmpty_43 : decode cX11_daysUntilEmpty 43 = .ok (.iload_n 1, 1) := by decide +kernel
theorem dX11_daysUntilEmpty_44 : decode cX11_daysUntilEmpty 44 = .ok (.ireturn, 1) := by decide +kernel
theorem dX11_bestSeller_0 : decode cX11_bestSeller 0 = .ok (.aload_n 0, 1) := by decide +kernel
theorem dX11_bestSeller_1 : decode cX11_bestSeller 1 = .ok (.iconst 0, 1) := by decide +kernel
theorem dX11_bestSeller_2 : decode cX11_bestSeller 2 = .ok (.putfield 66, 3) := by decide +kernel
theorem dX11_bestSeller_5 : decode cX11_bestSeller 5 = .ok (.iconst (-1), 1) := by decide +kernel
theorem dX11_bestSeller_6 : decode cX11_bestSeller 6 = .ok (.istore_n 1, 1) := by decide +kernel
theorem dX11_bestSeller_7 : decode cX11_bestSeller 7 = .ok (.iconst 0, 1) := by decide +kernel
theorem dX11_bestSeller_8 : decode cX11_bestSeller 8 = .ok (.istore_n 2, 1) := by decide +kernel
theorem dX11_bestSeller_9 : decode cX11_bestSeller 9 = .ok (.iload_n 2, 1) := by decide +kernel
theorem dX11_bestSeller_10 : decode cX11_bestSeller 10 = .ok (.aload_n 0, 1) := by decide +kernel
theorem dX11_bestSeller_11 : decode cX11_bestSeller 11 = .ok (.getfield 7, 3) := by decide +kernel
theorem dX11_bestSeller_14 : decode cX11_bestSeller 14 = .ok (.bipush 8, 2) := by decide +kernel
theorem dX11_bestSeller_16 : decode cX11_bestSeller 16 = .ok (.iaload, 1) := by decide +kernel
theorem dX11_bestSeller_17 : decode cX11_bestSeller 17 = .ok (.if_icmp .ge 45, 3) := by decide +kernel
theorem dX11_bestSeller_20 : decode cX11_bestSeller 20 = .ok (.iload_n 1, 1) := by decide +kernel
theorem dX11_bestSeller_21 : decode cX11_bestSeller 21 = .ok (.iconst (-1), 1) := by decide +kernel
theorem dX11_bestSeller_22 : decode cX11_bestSeller 22 = .ok (.if_icmp .eq 28, 3) := by decide +kernel
theorem dX11_bestSeller_25 : decode cX11_bestSeller 25 = .ok (.aload_n 0, 1) := by decide +kernel
theorem dX11_bestSeller_26 : decode cX11_bestSeller 26 = .ok (.getfield 7, 3) := by decide +kernel
theorem dX11_bestSeller_29 : decode cX11_bestSeller 29 = .ok (.iload_n 2, 1) := by decide +kernel
theorem dX11_bestSeller_30 : decode cX11_bestSeller 30 = .ok (.invokestatic 69, 3) := by decide +kernel
theorem dX11_bestSeller_33 : decode cX11_bestSeller 33 = .ok (.iconst 3, 1) := by decide +kernel
theorem dX11_bestSeller_34 : decode cX11_bestSeller 34 = .ok (.iadd, 1) := by decide +kernel
theorem dX11_bestSeller_35 : decode cX11_bestSeller 35 = .ok (.iaload, 1) := by decide +kernel
theorem dX11_bestSeller_36 : decode cX11_bestSeller 36 = .ok (.aload_n 0, 1) := by decide +kernel
theorem dX11_bestSeller_37 : decode cX11_bestSeller 37 = .ok (.getfield 7, 3) := by decide +kernel
theorem dX11_bestSeller_40 : decode cX11_bestSeller 40 = .ok (.iload_n 1, 1) := by decide +kernel
theorem dX11_bestSeller_41 : decode cX11_bestSeller 41 = .ok (.invokestatic 69, 3) := by decide +kernel
theorem dX11_bestSeller_44 : decode cX11_bestSeller 44 = .ok (.iconst 3, 1) := by decide +kernel
theorem dX11_bestSeller_45 : decode cX11_bestSeller 45 = .ok (.iadd, 1) := by decide +kernel
theorem dX11_bestSeller_46 : decode cX11_bestSeller 46 = .ok (.iaload, 1) := by decide +kernel
theorem dX11_bestSeller_47 : decode cX11_bestSeller 47 = .ok (.if_icmp .le 7, 3) := by decide +kernel
theorem dX11_bestSeller_50 : decode cX11_bestSeller 50 = .ok (.iload_n 2, 1) := by decide +kernel
theorem dX11_bestSeller_51 : decode cX11_bestSeller 51 = .ok (.goto 4, 3) := by decide +kernel
theorem dX11_bestSeller_54 : decode cX11_bestSeller 54 = .ok (.iload_n 1, 1) := by decide +kernel
theorem dX11_bestSeller_55 : decode cX11_bestSeller 55 = .ok (.istore_n 1, 1) := by decide +kernel
theorem dX11_bestSeller_56 : decode cX11_bestSeller 56 = .ok (.iinc 2 1, 3) := by decide +kernel
theorem dX11_bestSeller_59 : decode cX11_bestSeller 59 = .ok (.goto (-50), 3) := by decide +kernel
theorem dX11_bestSeller_62 : decode cX11_bestSeller 62 = .ok (.iload_n 1, 1) := by decide +kernel
theorem dX11_bestSeller_63 : decode cX11_bestSeller 63 = .ok (.iconst (-1), 1) := by decide +kernel
theorem dX11_bestSeller_64 : decode cX11_bestSeller 64 = .ok (.if_icmp .ne 7, 3) := by decide +kernel
theorem dX11_bestSeller_67 : decode cX11_bestSeller 67 = .ok (.iconst (-1), 1) := by decide +kernel
theorem dX11_bestSeller_68 : decode cX11_bestSeller 68 = .ok (.goto 8, 3) := by decide +kernel
theorem dX11_bestSeller_71 : decode cX11_bestSeller 71 = .ok (.aload_n 0, 1) := by decide +kernel
theorem dX11_bestSeller_72 : decode cX11_bestSeller 72 = .ok (.iload_n 1, 1) := by decide +kernel
theorem dX11_bestSeller_73 : decode cX11_bestSeller 73 = .ok (.invokevirtual 297, 3) := by decide +kernel
theorem dX11_bestSeller_76 : decode cX11_bestSeller 76 = .ok (.ireturn, 1) := by decide +kernel
theorem dX11_copyDifference_0 : decode cX11_copyDifference 0 = .ok (.aload_n 0, 1) := by decide +kernel
theorem dX11_copyDifference_1 : decode cX11_copyDifference 1 = .ok (.iconst 0, 1) := by decide +kernel
theorem dX11_copyDifference_2 : decode cX11_copyDifference 2 = .ok (.putfield 66, 3) := by decide +kernel
theorem dX11_copyDifference_5 : decode cX11_copyDifference 5 = .ok (.aload_n 0, 1) := by decide +kernel
theorem dX11_copyDifference_6 : decode cX11_copyDifference 6 = .ok (.getfield 7, 3) := by decide +kernel
theorem dX11_copyDifference_9 : decode cX11_copyDifference 9 = .ok (.bipush 13, 2) := by decide +kernel
theorem dX11_copyDifference_11 : decode cX11_copyDifference 11 = .ok (.iaload, 1) := by decide +kernel
theorem dX11_copyDifference_12 : decode cX11_copyDifference 12 = .ok (.aload_n 0, 1) := by decide +kernel
theorem dX11_copyDifference_13 : decode cX11_copyDifference 13 = .ok (.getfield 7, 3) := by decide +kernel
theorem dX11_copyDifference_16 : decode cX11_copyDifference 16 = .ok (.bipush 14, 2) := by decide +kernel
theorem dX11_copyDifference_18 : decode cX11_copyDifference 18 = .ok (.iaload, 1) := by decide +kernel
theorem dX11_copyDifference_19 : decode cX11_copyDifference 19 = .ok (.isub, 1) := by decide +kernel
theorem dX11_copyDifference_20 : decode cX11_copyDifference 20 = .ok (.istore_n 1, 1) := by decide +kernel
theorem dX11_copyDifference_21 : decode cX11_copyDifference 21 = .ok (.iconst 0, 1) := by decide +kernel
theorem dX11_copyDifference_22 : decode cX11_copyDifference 22 = .ok (.istore_n 2, 1) := by decide +kernel
theorem dX11_copyDifference_23 : decode cX11_copyDifference 23 = .ok (.iload_n 2, 1) := by decide +kernel
theorem dX11_copyDifference_24 : decode cX11_copyDifference 24 = .ok (.aload_n 0, 1) := by decide +kernel
theorem dX11_copyDifference_25 : decode cX11_copyDifference 25 = .ok (.getfield 7, 3) := by decide +kernel
theorem dX11_copyDifference_28 : decode cX11_copyDifference 28 = .ok (.bipush 8, 2) := by decide +kernel
theorem dX11_copyDifference_30 : decode cX11_copyDifference 30 = .ok (.iaload, 1) := by decide +kernel
theorem dX11_copyDifference_31 : decode cX11_copyDifference 31 = .ok (.if_icmp .ge 23, 3) := by decide +kernel
theorem dX11_copyDifference_34 : decode cX11_copyDifference 34 = .ok (.iload_n 1, 1) := by decide +kernel
theorem dX11_copyDifference_35 : decode cX11_copyDifference 35 = .ok (.aload_n 0, 1) := by decide +kernel
theorem dX11_copyDifference_36 : decode cX11_copyDifference 36 = .ok (.getfield 7, 3) := by decide +kernel
theorem dX11_copyDifference_39 : decode cX11_copyDifference 39 = .ok (.iload_n 2, 1) := by decide +kernel
theorem dX11_copyDifference_40 : decode cX11_copyDifference 40 = .ok (.invokestatic 69, 3) := by decide +kernel
theorem dX11_copyDifference_43 : decode cX11_copyDifference 43 = .ok (.iconst 3, 1) := by decide +kernel
theorem dX11_copyDifference_44 : decode cX11_copyDifference 44 = .ok (.iadd, 1) := by decide +kernel
theorem dX11_copyDifference_45 : decode cX11_copyDifference 45 = .ok (.iaload, 1) := by decide +kernel
theorem dX11_copyDifference_46 : decode cX11_copyDifference 46 = .ok (.isub, 1) := by decide +kernel
theorem dX11_copyDifference_47 : decode cX11_copyDifference 47 = .ok (.istore_n 1, 1) := by decide +kernel
theorem dX11_copyDifference_48 : decode cX11_copyDifference 48 = .ok (.iinc 2 1, 3) := by decide +kernel
theorem dX11_copyDifference_51 : decode cX11_copyDifference 51 = .ok (.goto (-28), 3) := by decide +kernel
theorem dX11_copyDifference_54 : decode cX11_copyDifference 54 = .ok (.iload_n 1, 1) := by decide +kernel
theorem dX11_copyDifference_55 : decode cX11_copyDifference 55 = .ok (.ireturn, 1) := by decide +kernel
theorem dX11_coinDifference_0 : decode cX11_coinDifference 0 = .ok (.aload_n 0, 1) := by decide +kernel
theorem dX11_coinDifference_1 : decode cX11_coinDifference 1 = .ok (.iconst 0, 1) := by decide +kernel
theorem dX11_coinDifference_2 : decode cX11_coinDifference 2 = .ok (.putfield 66, 3) := by decide +kernel
theorem dX11_coinDifference_5 : decode cX11_coinDifference 5 = .ok (.aload_n 0, 1) := by decide +kernel
theorem dX11_coinDifference_6 : decode cX11_coinDifference 6 = .ok (.getfield 7, 3) := by decide +kernel
theorem dX11_coinDifference_9 : decode cX11_coinDifference 9 = .ok (.bipush 15, 2) := by decide +kernel
theorem dX11_coinDifference_11 : decode cX11_coinDifference 11 = .ok (.iaload, 1) := by decide +kernel
theorem dX11_coinDifference_12 : decode cX11_coinDifference 12 = .ok (.aload_n 0, 1) := by decide +kernel
theorem dX11_coinDifference_13 : decode cX11_coinDifference 13 = .ok (.getfield 7, 3) := by decide +kernel
theorem dX11_coinDifference_16 : decode cX11_coinDifference 16 = .ok (.bipush 16, 2) := by decide +kernel
theorem dX11_coinDifference_18 : decode cX11_coinDifference 18 = .ok (.iaload, 1) := by decide +kernel
theorem dX11_coinDifference_19 : decode cX11_coinDifference 19 = .ok (.isub, 1) := by decide +kernel
theorem dX11_coinDifference_20 : decode cX11_coinDifference 20 = .ok (.aload_n 0, 1) := by decide +kernel
theorem dX11_coinDifference_21 : decode cX11_coinDifference 21 = .ok (.getfield 7, 3) := by decide +kernel
theorem dX11_coinDifference_24 : decode cX11_coinDifference 24 = .ok (.iconst 4, 1) := by decide +kernel
theorem dX11_coinDifference_25 : decode cX11_coinDifference 25 = .ok (.iaload, 1) := by decide +kernel
theorem dX11_coinDifference_26 : decode cX11_coinDifference 26 = .ok (.isub, 1) := by decide +kernel
theorem dX11_coinDifference_27 : decode cX11_coinDifference 27 = .ok (.ireturn, 1) := by decide +kernel
theorem dX11_alikeBehind_0 : decode cX11_alikeBehind 0 = .ok (.iconst 0, 1) := by decide +kernel
theorem dX11_alikeBehind_1 : decode cX11_alikeBehind 1 = .ok (.istore_n 2, 1) := by decide +kernel
theorem dX11_alikeBehind_2 : decode cX11_alikeBehind 2 = .ok (.iload_n 1, 1) := by decide +kernel
theorem dX11_alikeBehind_3 : decode cX11_alikeBehind 3 = .ok (.iconst 1, 1) := by decide +kernel
theorem dX11_alikeBehind_4 : decode cX11_alikeBehind 4 = .ok (.iadd, 1) := by decide +kernel
theorem dX11_alikeBehind_5 : decode cX11_alikeBehind 5 = .ok (.istore_n 3, 1) := by decide +kernel
theorem dX11_alikeBehind_6 : decode cX11_alikeBehind 6 = .ok (.iload_n 3, 1) := by decide +kernel
theorem dX11_alikeBehind_7 : decode cX11_alikeBehind 7 = .ok (.aload_n 0, 1) := by decide +kernel
theorem dX11_alikeBehind_8 : decode cX11_alikeBehind 8 = .ok (.getfield 7, 3) := by decide +kernel
theorem dX11_alikeBehind_11 : decode cX11_alikeBehind 11 = .ok (.bipush 8, 2) := by decide +kernel
theorem dX11_alikeBehind_13 : decode cX11_alikeBehind 13 = .ok (.iaload, 1) := by decide +kernel
theorem dX11_alikeBehind_14 : decode cX11_alikeBehind 14 = .ok (.if_icmp .ge 25, 3) := by decide +kernel
theorem dX11_alikeBehind_17 : decode cX11_alikeBehind 17 = .ok (.aload_n 0, 1) := by decide +kernel
theorem dX11_alikeBehind_18 : decode cX11_alikeBehind 18 = .ok (.iload_n 3, 1) := by decide +kernel
theorem dX11_alikeBehind_19 : decode cX11_alikeBehind 19 = .ok (.invokevirtual 297, 3) := by decide +kernel
theorem dX11_alikeBehind_22 : decode cX11_alikeBehind 22 = .ok (.aload_n 0, 1) := by decide +kernel
theorem dX11_alikeBehind_23 : decode cX11_alikeBehind 23 = .ok (.iload_n 1, 1) := by decide +kernel
theorem dX11_alikeBehind_24 : decode cX11_alikeBehind 24 = .ok (.invokevirtual 297, 3) := by decide +kernel
theorem dX11_alikeBehind_27 : decode cX11_alikeBehind 27 = .ok (.if_icmp .ne 6, 3) := by decide +kernel
theorem dX11_alikeBehind_30 : decode cX11_alikeBehind 30 = .ok (.iinc 2 1, 3) := by decide +kernel
theorem dX11_alikeBehind_33 : decode cX11_alikeBehind 33 = .ok (.iinc 3 1, 3) := by decide +kernel
theorem dX11_alikeBehind_36 : decode cX11_alikeBehind 36 = .ok (.goto (-30), 3) := by decide +kernel
theorem dX11_alikeBehind_39 : decode cX11_alikeBehind 39 = .ok (.iload_n 2, 1) := by decide +kernel
theorem dX11_alikeBehind_40 : decode cX11_alikeBehind 40 = .ok (.ireturn, 1) := by decide +kernel
theorem dX11_bookErrors_0 : decode cX11_bookErrors 0 = .ok (.aload_n 0, 1) := by decide +kernel
theorem dX11_bookErrors_1 : decode cX11_bookErrors 1 = .ok (.iconst 0, 1) := by decide +kernel
theorem dX11_bookErrors_2 : decode cX11_bookErrors 2 = .ok (.putfield 66, 3) := by decide +kernel
theorem dX11_bookErrors_5 : decode cX11_bookErrors 5 = .ok (.iconst 0, 1) := by decide +kernel
theorem dX11_bookErrors_6 : decode cX11_bookErrors 6 = .ok (.istore_n 1, 1) := by decide +kernel
theorem dX11_bookErrors_7 : decode cX11_bookErrors 7 = .ok (.iconst 0, 1) := by decide +kernel
theorem dX11_bookErrors_8 : decode cX11_bookErrors 8 = .ok (.istore_n 2, 1) := by decide +kernel
theorem dX11_bookErrors_9 : decode cX11_bookErrors 9 = .ok (.iload_n 2, 1) := by decide +kernel
theorem dX11_bookErrors_10 : decode cX11_bookErrors 10 = .ok (.aload_n 0, 1) := by decide +kernel
theorem dX11_bookErrors_11 : decode cX11_bookErrors 11 = .ok (.getfield 7, 3) := by decide +kernel
theorem dX11_bookErrors_14 : decode cX11_bookErrors 14 = .ok (.bipush 8, 2) := by decide +kernel
theorem dX11_bookErrors_16 : decode cX11_bookErrors 16 = .ok (.iaload, 1) := by decide +kernel
theorem dX11_bookErrors_17 : decode cX11_bookErrors 17 = .ok (.if_icmp .ge 52, 3) := by decide +kernel
theorem dX11_bookErrors_20 : decode cX11_bookErrors 20 = .ok (.iload_n 2, 1) := by decide +kernel
theorem dX11_bookErrors_21 : decode cX11_bookErrors 21 = .ok (.invokestatic 69, 3) := by decide +kernel
theorem dX11_bookErrors_24 : decode cX11_bookErrors 24 = .ok (.istore_n 3, 1) := by decide +kernel
theorem dX11_bookErrors_25 : decode cX11_bookErrors 25 = .ok (.aload_n 0, 1) := by decide +kernel
theorem dX11_bookErrors_26 : decode cX11_bookErrors 26 = .ok (.getfield 7, 3) := by decide +kernel
theorem dX11_bookErrors_29 : decode cX11_bookErrors 29 = .ok (.aload_n 0, 1) := by decide +kernel
theorem dX11_bookErrors_30 : decode cX11_bookErrors 30 = .ok (.getfield 7, 3) := by decide +kernel
theorem dX11_bookErrors_33 : decode cX11_bookErrors 33 = .ok (.iload_n 3, 1) := by decide +kernel
theorem dX11_bookErrors_34 : decode cX11_bookErrors 34 = .ok (.iconst 0, 1) := by decide +kernel
theorem dX11_bookErrors_35 : decode cX11_bookErrors 35 = .ok (.iadd, 1) := by decide +kernel
theorem dX11_bookErrors_36 : decode cX11_bookErrors 36 = .ok (.iaload, 1) := by decide +kernel
theorem dX11_bookErrors_37 : decode cX11_bookErrors 37 = .ok (.aload_n 0, 1) := by decide +kernel
theorem dX11_bookErrors_38 : decode cX11_bookErrors 38 = .ok (.getfield 7, 3) := by decide +kernel
theorem dX11_bookErrors_41 : decode cX11_bookErrors 41 = .ok (.iload_n 3, 1) := by decide +kernel
theorem dX11_bookErrors_42 : decode cX11_bookErrors 42 = .ok (.iconst 1, 1) := by decide +kernel
theorem dX11_bookErrors_43 : decode cX11_bookErrors 43 = .ok (.iadd, 1) := by decide +kernel
theorem dX11_bookErrors_44 : decode cX11_bookErrors 44 = .ok (.iaload, 1) := by decide +kernel
theorem dX11_bookErrors_45 : decode cX11_bookErrors 45 = .ok (.invokestatic 73, 3) := by decide +kernel
theorem dX11_bookErrors_48 : decode cX11_bookErrors 48 = .ok (.iconst (-1), 1) := by decide +kernel
theorem dX11_bookErrors_49 : decode cX11_bookErrors 49 = .ok (.if_icmp .ne 6, 3) := by decide +kernel
theorem dX11_bookErrors_52 : decode cX11_bookErrors 52 = .ok (.iinc 1 1, 3) := by decide +kernel
theorem dX11_bookErrors_55 : decode cX11_bookErrors 55 = .ok (.iload_n 1, 1) := by decide +kernel
theorem dX11_bookErrors_56 : decode cX11_bookErrors 56 = .ok (.aload_n 0, 1) := by decide +kernel
theorem dX11_bookErrors_57 : decode cX11_bookErrors 57 = .ok (.iload_n 2, 1) := by decide +kernel
theorem dX11_bookErrors_58 : decode cX11_bookErrors 58 = .ok (.invokevirtual 306, 3) := by decide +kernel
theorem dX11_bookErrors_61 : decode cX11_bookErrors 61 = .ok (.iadd, 1) := by decide +kernel
theorem dX11_bookErrors_62 : decode cX11_bookErrors 62 = .ok (.istore_n 1, 1) := by decide +kernel
theorem dX11_bookErrors_63 : decode cX11_bookErrors 63 = .ok (.iinc 2 1, 3) := by decide +kernel
theorem dX11_bookErrors_66 : decode cX11_bookErrors 66 = .ok (.goto (-57), 3) := by decide +kernel
theorem dX11_bookErrors_69 : decode cX11_bookErrors 69 = .ok (.iload_n 1, 1) := by decide +kernel
theorem dX11_bookErrors_70 : decode cX11_bookErrors 70 = .ok (.ireturn, 1) := by decide +kernel
theorem dX11_hitShare_0 : decode cX11_hitShare 0 = .ok (.aload_n 0, 1) := by decide +kernel
theorem dX11_hitShare_1 : decode cX11_hitShare 1 = .ok (.iconst 0, 1) := by decide +kernel
theorem dX11_hitShare_2 : decode cX11_hitShare 2 = .ok (.putfield 66, 3) := by decide +kernel
theorem dX11_hitShare_5 : decode cX11_hitShare 5 = .ok (.aload_n 0, 1) := by decide +kernel
theorem dX11_hitShare_6 : decode cX11_hitShare 6 = .ok (.getfield 7, 3) := by decide +kernel
theorem dX11_hitShare_9 : decode cX11_hitShare 9 = .ok (.bipush 10, 2) := by decide +kernel
theorem dX11_hitShare_11 : decode cX11_hitShare 11 = .ok (.iaload, 1) := by decide +kernel
theorem dX11_hitShare_12 : decode cX11_hitShare 12 = .ok (.aload_n 0, 1) := by decide +kernel
theorem dX11_hitShare_13 : decode cX11_hitShare 13 = .ok (.getfield 7, 3) := by decide +kernel
theorem dX11_hitShare_16 : decode cX11_hitShare 16 = .ok (.bipush 11, 2) := by decide +kernel
theorem dX11_hitShare_18 : decode cX11_hitShare 18 = .ok (.iaload, 1) := by decide +kernel
theorem dX11_hitShare_19 : decode cX11_hitShare 19 = .ok (.iadd, 1) := by decide +kernel
theorem dX11_hitShare_20 : decode cX11_hitShare 20 = .ok (.istore_n 1, 1) := by decide +kernel
theorem dX11_hitShare_21 : decode cX11_hitShare 21 = .ok (.iload_n 1, 1) := by decide +kernel
theorem dX11_hitShare_22 : decode cX11_hitShare 22 = .ok (.ifCond .ne 7, 3) := by decide +kernel
theorem dX11_hitShare_25 : decode cX11_hitShare 25 = .ok (.fconst 0, 1) := by decide +kernel
theorem dX11_hitShare_26 : decode cX11_hitShare 26 = .ok (.goto 14, 3) := by decide +kernel
theorem dX11_hitShare_29 : decode cX11_hitShare 29 = .ok (.aload_n 0, 1) := by decide +kernel
theorem dX11_hitShare_30 : decode cX11_hitShare 30 = .ok (.getfield 7, 3) := by decide +kernel
theorem dX11_hitShare_33 : decode cX11_hitShare 33 = .ok (.bipush 10, 2) := by decide +kernel
theorem dX11_hitShare_35 : decode cX11_hitShare 35 = .ok (.iaload, 1) := by decide +kernel
theorem dX11_hitShare_36 : decode cX11_hitShare 36 = .ok (.i2f, 1) := by decide +kernel
theorem dX11_hitShare_37 : decode cX11_hitShare 37 = .ok (.iload_n 1, 1) := by decide +kernel
theorem dX11_hitShare_38 : decode cX11_hitShare 38 = .ok (.i2f, 1) := by decide +kernel
theorem dX11_hitShare_39 : decode cX11_hitShare 39 = .ok (.fdiv, 1) := by decide +kernel
theorem dX11_hitShare_40 : decode cX11_hitShare 40 = .ok (.freturn, 1) := by decide +kernel
theorem dX11_averageTrust_0 : decode cX11_averageTrust 0 = .ok (.aload_n 0, 1) := by decide +kernel
theorem dX11_averageTrust_1 : decode cX11_averageTrust 1 = .ok (.iconst 0, 1) := by decide +kernel
theorem dX11_averageTrust_2 : decode cX11_averageTrust 2 = .ok (.putfield 66, 3) := by decide +kernel
theorem dX11_averageTrust_5 : decode cX11_averageTrust 5 = .ok (.iconst 0, 1) := by decide +kernel
theorem dX11_averageTrust_6 : decode cX11_averageTrust 6 = .ok (.istore_n 1, 1) := by decide +kernel
theorem dX11_averageTrust_7 : decode cX11_averageTrust 7 = .ok (.iconst 0, 1) := by decide +kernel
theorem dX11_averageTrust_8 : decode cX11_averageTrust 8 = .ok (.istore_n 2, 1) := by decide +kernel
theorem dX11_averageTrust_9 : decode cX11_averageTrust 9 = .ok (.iload_n 2, 1) := by decide +kernel
theorem dX11_averageTrust_10 : decode cX11_averageTrust 10 = .ok (.aload_n 0, 1) := by decide +kernel
theorem dX11_averageTrust_11 : decode cX11_averageTrust 11 = .ok (.getfield 7, 3) := by decide +kernel
theorem dX11_averageTrust_14 : decode cX11_averageTrust 14 = .ok (.bipush 6, 2) := by decide +kernel
theorem dX11_averageTrust_16 : decode cX11_averageTrust 16 = .ok (.iaload, 1) := by decide +kernel
theorem dX11_averageTrust_17 : decode cX11_averageTrust 17 = .ok (.if_icmp .ge 23, 3) := by decide +kernel
theorem dX11_averageTrust_20 : decode cX11_averageTrust 20 = .ok (.iload_n 1, 1) := by decide +kernel
theorem dX11_averageTrust_21 : decode cX11_averageTrust 21 = .ok (.aload_n 0, 1) := by decide +kernel
theorem dX11_averageTrust_22 : decode cX11_averageTrust 22 = .ok (.getfield 7, 3) := by decide +kernel
theorem dX11_averageTrust_25 : decode cX11_averageTrust 25 = .ok (.iload_n 2, 1) := by decide +kernel
theorem dX11_averageTrust_26 : decode cX11_averageTrust 26 = .ok (.invokestatic 81, 3) := by decide +kernel
theorem dX11_averageTrust_29 : decode cX11_averageTrust 29 = .ok (.iconst 2, 1) := by decide +kernel
theorem dX11_averageTrust_30 : decode cX11_averageTrust 30 = .ok (.iadd, 1) := by decide +kernel
theorem dX11_averageTrust_31 : decode cX11_averageTrust 31 = .ok (.iaload, 1) := by decide +kernel
theorem dX11_averageTrust_32 : decode cX11_averageTrust 32 = .ok (.iadd, 1) := by decide +kernel
theorem dX11_averageTrust_33 : decode cX11_averageTrust 33 = .ok (.istore_n 1, 1) := by decide +kernel
theorem dX11_averageTrust_34 : decode cX11_averageTrust 34 = .ok (.iinc 2 1, 3) := by decide +kernel
theorem dX11_averageTrust_37 : decode cX11_averageTrust 37 = .ok (.goto (-28), 3) := by decide +kernel
theorem dX11_averageTrust_40 : decode cX11_averageTrust 40 = .ok (.aload_n 0, 1) := by decide +kernel
theorem dX11_averageTrust_41 : decode cX11_averageTrust 41 = .ok (.getfield 7, 3) := by decide +kernel
theorem dX11_averageTrust_44 : decode cX11_averageTrust 44 = .ok (.bipush 6, 2) := by decide +kernel
theorem dX11_averageTrust_46 : decode cX11_averageTrust 46 = .ok (.iaload, 1) := by decide +kernel
theorem dX11_averageTrust_47 : decode cX11_averageTrust 47 = .ok (.ifCond .ne 7, 3) := by decide +kernel
theorem dX11_averageTrust_50 : decode cX11_averageTrust 50 = .ok (.dconst 0, 1) := by decide +kernel
theorem dX11_averageTrust_51 : decode cX11_averageTrust 51 = .ok (.goto 14, 3) := by decide +kernel
theorem dX11_averageTrust_54 : decode cX11_averageTrust 54 = .ok (.iload_n 1, 1) := by decide +kernel
theorem dX11_averageTrust_55 : decode cX11_averageTrust 55 = .ok (.i2d, 1) := by decide +kernel
theorem dX11_averageTrust_56 : decode cX11_averageTrust 56 = .ok (.aload_n 0, 1) := by decide +kernel
theorem dX11_averageTrust_57 : decode cX11_averageTrust 57 = .ok (.getfield 7, 3) := by decide +kernel
theorem dX11_averageTrust_60 : decode cX11_averageTrust 60 = .ok (.bipush 6, 2) := by decide +kernel
theorem dX11_averageTrust_62 : decode cX11_averageTrust 62 = .ok (.iaload, 1) := by decide +kernel
theorem dX11_averageTrust_63 : decode cX11_averageTrust 63 = .ok (.i2d, 1) := by decide +kernel
theorem dX11_averageTrust_64 : decode cX11_averageTrust 64 = .ok (.ddiv, 1) := by decide +kernel
theorem dX11_averageTrust_65 : decode cX11_averageTrust 65 = .ok (.dreturn, 1) := by decide +kernel
theorem dX11_print_0 : decode cX11_print 0 = .ok (.aload_n 0, 1) := by decide +kernel
theorem dX11_print_1 : decode cX11_print 1 = .ok (.iload_n 1, 1) := by decide +kernel
theorem dX11_print_2 : decode cX11_print 2 = .ok (.invokevirtual 284, 3) := by decide +kernel
theorem dX11_print_5 : decode cX11_print 5 = .ok (.ifCond .ne 38, 3) := by decide +kernel
theorem dX11_print_8 : decode cX11_print 8 = .ok (.aload_n 0, 1) := by decide +kernel
theorem dX11_print_9 : decode cX11_print 9 = .ok (.iload_n 3, 1) := by decide +kernel
theorem dX11_print_10 : decode cX11_print 10 = .ok (.iconst 0, 1) := by decide +kernel
theorem dX11_print_11 : decode cX11_print 11 = .ok (.iconst 2, 1) := by decide +kernel
theorem dX11_print_12 : decode cX11_print 12 = .ok (.invokevirtual 303, 3) := by decide +kernel
theorem dX11_print_15 : decode cX11_print 15 = .ok (.ifCond .ne 28, 3) := by decide +kernel
theorem dX11_print_18 : decode cX11_print 18 = .ok (.aload_n 0, 1) := by decide +kernel
theorem dX11_print_19 : decode cX11_print 19 = .ok (.aload_n 0, 1) := by decide +kernel
theorem dX11_print_20 : decode cX11_print 20 = .ok (.getfield 7, 3) := by decide +kernel
theorem dX11_print_23 : decode cX11_print 23 = .ok (.iload_n 1, 1) := by decide +kernel
theorem dX11_print_24 : decode cX11_print 24 = .ok (.iload_n 2, 1) := by decide +kernel
theorem dX11_print_25 : decode cX11_print 25 = .ok (.invokestatic 229, 3) := by decide +kernel
theorem dX11_print_28 : decode cX11_print 28 = .ok (.ifCond .eq 7, 3) := by decide +kernel
theorem dX11_print_31 : decode cX11_print 31 = .ok (.iconst 1, 1) := by decide +kernel
theorem dX11_print_32 : decode cX11_print 32 = .ok (.goto 4, 3) := by decide +kernel
theorem dX11_print_35 : decode cX11_print 35 = .ok (.iconst 0, 1) := by decide +kernel
theorem dX11_print_36 : decode cX11_print 36 = .ok (.iconst 3, 1) := by decide +kernel
theorem dX11_print_37 : decode cX11_print 37 = .ok (.invokevirtual 141, 3) := by decide +kernel
theorem dX11_print_40 : decode cX11_print 40 = .ok (.ifCond .eq 5, 3) := by decide +kernel
theorem dX11_print_43 : decode cX11_print 43 = .ok (.iconst 0, 1) := by decide +kernel
theorem dX11_print_44 : decode cX11_print 44 = .ok (.ireturn, 1) := by decide +kernel
theorem dX11_print_45 : decode cX11_print 45 = .ok (.aload_n 0, 1) := by decide +kernel
theorem dX11_print_46 : decode cX11_print 46 = .ok (.invokevirtual 275, 3) := by decide +kernel
theorem dX11_print_49 : decode cX11_print 49 = .ok (.aload_n 0, 1) := by decide +kernel
theorem dX11_print_50 : decode cX11_print 50 = .ok (.getfield 7, 3) := by decide +kernel
theorem dX11_print_53 : decode cX11_print 53 = .ok (.iload_n 1, 1) := by decide +kernel
theorem dX11_print_54 : decode cX11_print 54 = .ok (.iload_n 2, 1) := by decide +kernel
theorem dX11_print_55 : decode cX11_print 55 = .ok (.iload_n 3, 1) := by decide +kernel
theorem dX11_print_56 : decode cX11_print 56 = .ok (.invokestatic 232, 3) := by decide +kernel
theorem dX11_print_59 : decode cX11_print 59 = .ok (.ireturn, 1) := by decide +kernel
theorem dX11_retract_0 : decode cX11_retract 0 = .ok (.aload_n 0, 1) := by decide +kernel
theorem dX11_retract_1 : decode cX11_retract 1 = .ok (.iload_n 1, 1) := by decide +kernel
theorem dX11_retract_2 : decode cX11_retract 2 = .ok (.invokevirtual 300, 3) := by decide +kernel
theorem dX11_retract_5 : decode cX11_retract 5 = .ok (.ifCond .ne 33, 3) := by decide +kernel
theorem dX11_retract_8 : decode cX11_retract 8 = .ok (.aload_n 0, 1) := by decide +kernel
theorem dX11_retract_9 : decode cX11_retract 9 = .ok (.aload_n 0, 1) := by decide +kernel
theorem dX11_retract_10 : decode cX11_retract 10 = .ok (.getfield 7, 3) := by decide +kernel
theorem dX11_retract_13 : decode cX11_retract 13 = .ok (.iload_n 1, 1) := by decide +kernel
theorem dX11_retract_14 : decode cX11_retract 14 = .ok (.invokestatic 84, 3) := by decide +kernel
theorem dX11_retract_17 : decode cX11_retract 17 = .ok (.aload_n 0, 1) := by decide +kernel
theorem dX11_retract_18 : decode cX11_retract 18 = .ok (.getfield 7, 3) := by decide +kernel
theorem dX11_retract_21 : decode cX11_retract 21 = .ok (.iconst 4, 1) := by decide +kernel
theorem dX11_retract_22 : decode cX11_retract 22 = .ok (.iaload, 1) := by decide +kernel
theorem dX11_retract_23 : decode cX11_retract 23 = .ok (.if_icmp .le 7, 3) := by decide +kernel
theorem dX11_retract_26 : decode cX11_retract 26 = .ok (.iconst 1, 1) := by decide +kernel
theorem dX11_retract_27 : decode cX11_retract 27 = .ok (.goto 4, 3) := by decide +kernel
theorem dX11_retract_30 : decode cX11_retract 30 = .ok (.iconst 0, 1) := by decide +kernel
theorem dX11_retract_31 : decode cX11_retract 31 = .ok (.iconst 2, 1) := by decide +kernel
theorem dX11_retract_32 : decode cX11_retract 32 = .ok (.invokevirtual 141, 3) := by decide +kernel
theorem dX11_retract_35 : decode cX11_retract 35 = .ok (.ifCond .eq 5, 3) := by decide +kernel
theorem dX11_retract_38 : decode cX11_retract 38 = .ok (.iconst 0, 1) := by decide +kernel
theorem dX11_retract_39 : decode cX11_retract 39 = .ok (.ireturn, 1) := by decide +kernel
theorem dX11_retract_40 : decode cX11_retract 40 = .ok (.aload_n 0, 1) := by decide +kernel
theorem dX11_retract_41 : decode cX11_retract 41 = .ok (.invokevirtual 275, 3) := by decide +kernel
theorem dX11_retract_44 : decode cX11_retract 44 = .ok (.aload_n 0, 1) := by decide +kernel
theorem dX11_retract_45 : decode cX11_retract 45 = .ok (.getfield 7, 3) := by decide +kernel
theorem dX11_retract_48 : decode cX11_retract 48 = .ok (.iload_n 1, 1) := by decide +kernel
theorem dX11_retract_49 : decode cX11_retract 49 = .ok (.invokestatic 239, 3) := by decide +kernel
theorem dX11_retract_52 : decode cX11_retract 52 = .ok (.ireturn, 1) := by decide +kernel
theorem dX11_setTrust_0 : decode cX11_setTrust 0 = .ok (.aload_n 0, 1) := by decide +kernel
theorem dX11_setTrust_1 : decode cX11_setTrust 1 = .ok (.iload_n 1, 1) := by decide +kernel
theorem dX11_setTrust_2 : decode cX11_setTrust 2 = .ok (.invokevirtual 284, 3) := by decide +kernel
theorem dX11_setTrust_5 : decode cX11_setTrust 5 = .ok (.ifCond .ne 14, 3) := by decide +kernel
theorem dX11_setTrust_8 : decode cX11_setTrust 8 = .ok (.aload_n 0, 1) := by decide +kernel
theorem dX11_setTrust_9 : decode cX11_setTrust 9 = .ok (.iload_n 2, 1) := by decide +kernel
theorem dX11_setTrust_10 : decode cX11_setTrust 10 = .ok (.iconst 0, 1) := by decide +kernel
theorem dX11_setTrust_11 : decode cX11_setTrust 11 = .ok (.bipush 100, 2) := by decide +kernel
theorem dX11_setTrust_13 : decode cX11_setTrust 13 = .ok (.invokevirtual 303, 3) := by decide +kernel
theorem dX11_setTrust_16 : decode cX11_setTrust 16 = .ok (.ifCond .eq 5, 3) := by decide +kernel
theorem dX11_setTrust_19 : decode cX11_setTrust 19 = .ok (.iconst 0, 1) := by decide +kernel
theorem dX11_setTrust_20 : decode cX11_setTrust 20 = .ok (.ireturn, 1) := by decide +kernel
theorem dX11_setTrust_21 : decode cX11_setTrust 21 = .ok (.aload_n 0, 1) := by decide +kernel
theorem dX11_setTrust_22 : decode cX11_setTrust 22 = .ok (.invokevirtual 275, 3) := by decide +kernel
theorem dX11_setTrust_25 : decode cX11_setTrust 25 = .ok (.aload_n 0, 1) := by decide +kernel
theorem dX11_setTrust_26 : decode cX11_setTrust 26 = .ok (.getfield 7, 3) := by decide +kernel
theorem dX11_setTrust_29 : decode cX11_setTrust 29 = .ok (.iload_n 1, 1) := by decide +kernel
theorem dX11_setTrust_30 : decode cX11_setTrust 30 = .ok (.invokestatic 81, 3) := by decide +kernel
theorem dX11_setTrust_33 : decode cX11_setTrust 33 = .ok (.iconst 2, 1) := by decide +kernel
theorem dX11_setTrust_34 : decode cX11_setTrust 34 = .ok (.iadd, 1) := by decide +kernel
theorem dX11_setTrust_35 : decode cX11_setTrust 35 = .ok (.iaload, 1) := by decide +kernel
theorem dX11_setTrust_36 : decode cX11_setTrust 36 = .ok (.istore_n 3, 1) := by decide +kernel
theorem dX11_setTrust_37 : decode cX11_setTrust 37 = .ok (.aload_n 0, 1) := by decide +kernel
theorem dX11_setTrust_38 : decode cX11_setTrust 38 = .ok (.getfield 7, 3) := by decide +kernel
theorem dX11_setTrust_41 : decode cX11_setTrust 41 = .ok (.iload_n 1, 1) := by decide +kernel
theorem dX11_setTrust_42 : decode cX11_setTrust 42 = .ok (.invokestatic 81, 3) := by decide +kernel
theorem dX11_setTrust_45 : decode cX11_setTrust 45 = .ok (.iconst 2, 1) := by decide +kernel
theorem dX11_setTrust_46 : decode cX11_setTrust 46 = .ok (.iadd, 1) := by decide +kernel
theorem dX11_setTrust_47 : decode cX11_setTrust 47 = .ok (.iload_n 2, 1) := by decide +kernel
theorem dX11_setTrust_48 : decode cX11_setTrust 48 = .ok (.iastore, 1) := by decide +kernel
theorem dX11_setTrust_49 : decode cX11_setTrust 49 = .ok (.iload_n 3, 1) := by decide +kernel
theorem dX11_setTrust_50 : decode cX11_setTrust 50 = .ok (.ireturn, 1) := by decide +kernel
theorem dX11_setPeople_0 : decode cX11_setPeople 0 = .ok (.aload_n 0, 1) := by decide +kernel
theorem dX11_setPeople_1 : decode cX11_setPeople 1 = .ok (.iload_n 1, 1) := by decide +kernel
theorem dX11_setPeople_2 : decode cX11_setPeople 2 = .ok (.invokevirtual 284, 3) := by decide +kernel
theorem dX11_setPeople_5 : decode cX11_setPeople 5 = .ok (.ifCond .ne 14, 3) := by decide +kernel
theorem dX11_setPeople_8 : decode cX11_setPeople 8 = .ok (.aload_n 0, 1) := by decide +kernel
theorem dX11_setPeople_9 : decode cX11_setPeople 9 = .ok (.iload_n 2, 1) := by decide +kernel
theorem dX11_setPeople_10 : decode cX11_setPeople 10 = .ok (.iconst 1, 1) := by decide +kernel
theorem dX11_setPeople_11 : decode cX11_setPeople 11 = .ok (.bipush 99, 2) := by decide +kernel
theorem dX11_setPeople_13 : decode cX11_setPeople 13 = .ok (.invokevirtual 303, 3) := by decide +kernel
theorem dX11_setPeople_16 : decode cX11_setPeople 16 = .ok (.ifCond .eq 5, 3) := by decide +kernel
theorem dX11_setPeople_19 : decode cX11_setPeople 19 = .ok (.iconst 0, 1) := by decide +kernel
theorem dX11_setPeople_20 : decode cX11_setPeople 20 = .ok (.ireturn, 1) := by decide +kernel
theorem dX11_setPeople_21 : decode cX11_setPeople 21 = .ok (.aload_n 0, 1) := by decide +kernel
theorem dX11_setPeople_22 : decode cX11_setPeople 22 = .ok (.invokevirtual 275, 3) := by decide +kernel
theorem dX11_setPeople_25 : decode cX11_setPeople 25 = .ok (.aload_n 0, 1) := by decide +kernel
theorem dX11_setPeople_26 : decode cX11_setPeople 26 = .ok (.getfield 7, 3) := by decide +kernel
theorem dX11_setPeople_29 : decode cX11_setPeople 29 = .ok (.iload_n 1, 1) := by decide +kernel
theorem dX11_setPeople_30 : decode cX11_setPeople 30 = .ok (.invokestatic 81, 3) := by decide +kernel
theorem dX11_setPeople_33 : decode cX11_setPeople 33 = .ok (.iconst 1, 1) := by decide +kernel
theorem dX11_setPeople_34 : decode cX11_setPeople 34 = .ok (.iadd, 1) := by decide +kernel
theorem dX11_setPeople_35 : decode cX11_setPeople 35 = .ok (.iaload, 1) := by decide +kernel
theorem dX11_setPeople_36 : decode cX11_setPeople 36 = .ok (.istore_n 3, 1) := by decide +kernel
theorem dX11_setPeople_37 : decode cX11_setPeople 37 = .ok (.aload_n 0, 1) := by decide +kernel
theorem dX11_setPeople_38 : decode cX11_setPeople 38 = .ok (.getfield 7, 3) := by decide +kernel
theorem dX11_setPeople_41 : decode cX11_setPeople 41 = .ok (.iload_n 1, 1) := by decide +kernel
theorem dX11_setPeople_42 : decode cX11_setPeople 42 = .ok (.invokestatic 81, 3) := by decide +kernel
theorem dX11_setPeople_45 : decode cX11_setPeople 45 = .ok (.iconst 1, 1) := by decide +kernel
theorem dX11_setPeople_46 : decode cX11_setPeople 46 = .ok (.iadd, 1) := by decide +kernel
theorem dX11_setPeople_47 : decode cX11_setPeople 47 = .ok (.iload_n 2, 1) := by decide +kernel
theorem dX11_setPeople_48 : decode cX11_setPeople 48 = .ok (.iastore, 1) := by decide +kernel
theorem dX11_setPeople_49 : decode cX11_setPeople 49 = .ok (.iload_n 3, 1) := by decide +kernel
theorem dX11_setPeople_50 : decode cX11_setPeople 50 = .ok (.ireturn, 1) := by decide +kernel
theorem dX11_setOdds_0 : decode cX11_setOdds 0 = .ok (.aload_n 0, 1) := by decide +kernel
theorem dX11_setOdds_1 : decode cX11_setOdds 1 = .ok (.iload_n 1, 1) := by decide +kernel
theorem dX11_setOdds_2 : decode cX11_setOdds 2 = .ok (.invokevirtual 290, 3) := by decide +kernel
theorem dX11_setOdds_5 : decode cX11_setOdds 5 = .ok (.ifCond .ne 60, 3) := by decide +kernel
theorem dX11_setOdds_8 : decode cX11_setOdds 8 = .ok (.aload_n 0, 1) := by decide +kernel
theorem dX11_setOdds_9 : decode cX11_setOdds 9 = .ok (.iload_n 2, 1) := by decide +kernel
theorem dX11_setOdds_10 : decode cX11_setOdds 10 = .ok (.iconst 0, 1) := by decide +kernel
theorem dX11_setOdds_11 : decode cX11_setOdds 11 = .ok (.bipush 20, 2) := by decide +kernel
theorem dX11_setOdds_13 : decode cX11_setOdds 13 = .ok (.invokestatic 156, 3) := by decide +kernel
theorem dX11_setOdds_16 : decode cX11_setOdds 16 = .ok (.ifCond .ne 7, 3) := by decide +kernel
theorem dX11_setOdds_19 : decode cX11_setOdds 19 = .ok (.iconst 1, 1) := by decide +kernel
theorem dX11_setOdds_20 : decode cX11_setOdds 20 = .ok (.goto 4, 3) := by decide +kernel
theorem dX11_setOdds_23 : decode cX11_setOdds 23 = .ok (.iconst 0, 1) := by decide +kernel
theorem dX11_setOdds_24 : decode cX11_setOdds 24 = .ok (.iconst 1, 1) := by decide +kernel
theorem dX11_setOdds_25 : decode cX11_setOdds 25 = .ok (.invokevirtual 141, 3) := by decide +kernel
theorem dX11_setOdds_28 : decode cX11_setOdds 28 = .ok (.ifCond .ne 37, 3) := by decide +kernel
theorem dX11_setOdds_31 : decode cX11_setOdds 31 = .ok (.aload_n 0, 1) := by decide +kernel
theorem dX11_setOdds_32 : decode cX11_setOdds 32 = .ok (.aload_n 0, 1) := by decide +kernel
theorem dX11_setOdds_33 : decode cX11_setOdds 33 = .ok (.getfield 7, 3) := by decide +kernel
theorem dX11_setOdds_36 : decode cX11_setOdds 36 = .ok (.invokestatic 108, 3) := by decide +kernel
theorem dX11_setOdds_39 : decode cX11_setOdds 39 = .ok (.aload_n 0, 1) := by decide +kernel
theorem dX11_setOdds_40 : decode cX11_setOdds 40 = .ok (.getfield 7, 3) := by decide +kernel
theorem dX11_setOdds_43 : decode cX11_setOdds 43 = .ok (.iconst 1, 1) := by decide +kernel
theorem dX11_setOdds_44 : decode cX11_setOdds 44 = .ok (.iload_n 1, 1) := by decide +kernel
theorem dX11_setOdds_45 : decode cX11_setOdds 45 = .ok (.iadd, 1) := by decide +kernel
theorem dX11_setOdds_46 : decode cX11_setOdds 46 = .ok (.iaload, 1) := by decide +kernel
theorem dX11_setOdds_47 : decode cX11_setOdds 47 = .ok (.isub, 1) := by decide +kernel
theorem dX11_setOdds_48 : decode cX11_setOdds 48 = .ok (.iload_n 2, 1) := by decide +kernel
theorem dX11_setOdds_49 : decode cX11_setOdds 49 = .ok (.iadd, 1) := by decide +kernel
theorem dX11_setOdds_50 : decode cX11_setOdds 50 = .ok (.ifCond .ne 7, 3) := by decide +kernel
theorem dX11_setOdds_53 : decode cX11_setOdds 53 = .ok (.iconst 1, 1) := by decide +kernel
theorem dX11_setOdds_54 : decode cX11_setOdds 54 = .ok (.goto 4, 3) := by decide +kernel
theorem dX11_setOdds_57 : decode cX11_setOdds 57 = .ok (.iconst 0, 1) := by decide +kernel
theorem dX11_setOdds_58 : decode cX11_setOdds 58 = .ok (.iconst 2, 1) := by decide +kernel
theorem dX11_setOdds_59 : decode cX11_setOdds 59 = .ok (.invokevirtual 141, 3) := by decide +kernel
theorem dX11_setOdds_62 : decode cX11_setOdds 62 = .ok (.ifCond .eq 5, 3) := by decide +kernel
theorem dX11_setOdds_65 : decode cX11_setOdds 65 = .ok (.iconst 0, 1) := by decide +kernel
theorem dX11_setOdds_66 : decode cX11_setOdds 66 = .ok (.ireturn, 1) := by decide +kernel
theorem dX11_setOdds_67 : decode cX11_setOdds 67 = .ok (.aload_n 0, 1) := by decide +kernel
theorem dX11_setOdds_68 : decode cX11_setOdds 68 = .ok (.invokevirtual 275, 3) := by decide +kernel
theorem dX11_setOdds_71 : decode cX11_setOdds 71 = .ok (.aload_n 0, 1) := by decide +kernel
theorem dX11_setOdds_72 : decode cX11_setOdds 72 = .ok (.getfield 7, 3) := by decide +kernel
theorem dX11_setOdds_75 : decode cX11_setOdds 75 = .ok (.iconst 1, 1) := by decide +kernel
theorem dX11_setOdds_76 : decode cX11_setOdds 76 = .ok (.iload_n 1, 1) := by decide +kernel
theorem dX11_setOdds_77 : decode cX11_setOdds 77 = .ok (.iadd, 1) := by decide +kernel
theorem dX11_setOdds_78 : decode cX11_setOdds 78 = .ok (.iaload, 1) := by decide +kernel
theorem dX11_setOdds_79 : decode cX11_setOdds 79 = .ok (.istore_n 3, 1) := by decide +kernel
theorem dX11_setOdds_80 : decode cX11_setOdds 80 = .ok (.aload_n 0, 1) := by decide +kernel
theorem dX11_setOdds_81 : decode cX11_setOdds 81 = .ok (.getfield 7, 3) := by decide +kernel
theorem dX11_setOdds_84 : decode cX11_setOdds 84 = .ok (.iconst 1, 1) := by decide +kernel
theorem dX11_setOdds_85 : decode cX11_setOdds 85 = .ok (.iload_n 1, 1) := by decide +kernel
theorem dX11_setOdds_86 : decode cX11_setOdds 86 = .ok (.iadd, 1) := by decide +kernel
theorem dX11_setOdds_87 : decode cX11_setOdds 87 = .ok (.iload_n 2, 1) := by decide +kernel
theorem dX11_setOdds_88 : decode cX11_setOdds 88 = .ok (.iastore, 1) := by decide +kernel
theorem dX11_setOdds_89 : decode cX11_setOdds 89 = .ok (.iload_n 3, 1) := by decide +kernel
theorem dX11_setOdds_90 : decode cX11_setOdds 90 = .ok (.ireturn, 1) := by decide +kernel
theorem dX11_pass_0 : decode cX11_pass 0 = .ok (.aload_n 0, 1) := by decide +kernel
theorem dX11_pass_1 : decode cX11_pass 1 = .ok (.iload_n 1, 1) := by decide +kernel
theorem dX11_pass_2 : decode cX11_pass 2 = .ok (.iconst 1, 1) := by decide +kernel
theorem dX11_pass_3 : decode cX11_pass 3 = .ok (.sipush 200, 3) := by decide +kernel
theorem dX11_pass_6 : decode cX11_pass 6 = .ok (.invokevirtual 149, 3) := by decide +kernel
theorem dX11_pass_9 : decode cX11_pass 9 = .ok (.ifCond .eq 5, 3) := by decide +kernel
theorem dX11_pass_12 : decode cX11_pass 12 = .ok (.iconst 0, 1) := by decide +kernel
theorem dX11_pass_13 : decode cX11_pass 13 = .ok (.ireturn, 1) := by decide +kernel
theorem dX11_pass_14 : decode cX11_pass 14 = .ok (.aload_n 0, 1) := by decide +kernel
theorem dX11_pass_15 : decode cX11_pass 15 = .ok (.invokevirtual 275, 3) := by decide +kernel
theorem dX11_pass_18 : decode cX11_pass 18 = .ok (.aload_n 0, 1) := by decide +kernel
theorem dX11_pass_19 : decode cX11_pass 19 = .ok (.getfield 7, 3) := by decide +kernel
theorem dX11_pass_22 : decode cX11_pass 22 = .ok (.iload_n 1, 1) := by decide +kernel
theorem dX11_pass_23 : decode cX11_pass 23 = .ok (.invokestatic 242, 3) := by decide +kernel
theorem dX11_pass_26 : decode cX11_pass 26 = .ok (.ireturn, 1) := by decide +kernel
theorem dX11_put_0 : decode cX11_put 0 = .ok (.aload_n 0, 1) := by decide +kernel
theorem dX11_put_1 : decode cX11_put 1 = .ok (.getfield 36, 3) := by decide +kernel
theorem dX11_put_4 : decode cX11_put 4 = .ok (.aload_n 0, 1) := by decide +kernel
theorem dX11_put_5 : decode cX11_put 5 = .ok (.getfield 309, 3) := by decide +kernel
theorem dX11_put_8 : decode cX11_put 8 = .ok (.iload_n 1, 1) := by decide +kernel
theorem dX11_put_9 : decode cX11_put 9 = .ok (.i2b, 1) := by decide +kernel
theorem dX11_put_10 : decode cX11_put 10 = .ok (.bastore, 1) := by decide +kernel
theorem dX11_put_11 : decode cX11_put 11 = .ok (.aload_n 0, 1) := by decide +kernel
theorem dX11_put_12 : decode cX11_put 12 = .ok (.dup, 1) := by decide +kernel
theorem dX11_put_13 : decode cX11_put 13 = .ok (.getfield 309, 3) := by decide +kernel
theorem dX11_put_16 : decode cX11_put 16 = .ok (.iconst 1, 1) := by decide +kernel
theorem dX11_put_17 : decode cX11_put 17 = .ok (.iadd, 1) := by decide +kernel
theorem dX11_put_18 : decode cX11_put 18 = .ok (.putfield 309, 3) := by decide +kernel
theorem dX11_put_21 : decode cX11_put 21 = .ok (.return_, 1) := by decide +kernel
theorem dX11_printNumber_0 : decode cX11_printNumber 0 = .ok (.iconst 1, 1) := by decide +kernel
theorem dX11_printNumber_1 : decode cX11_printNumber 1 = .ok (.istore_n 2, 1) := by decide +kernel
theorem dX11_printNumber_2 : decode cX11_printNumber 2 = .ok (.iload_n 1, 1) := by decide +kernel
theorem dX11_printNumber_3 : decode cX11_printNumber 3 = .ok (.iload_n 2, 1) := by decide +kernel
theorem dX11_printNumber_4 : decode cX11_printNumber 4 = .ok (.idiv, 1) := by decide +kernel
theorem dX11_printNumber_5 : decode cX11_printNumber 5 = .ok (.bipush 9, 2) := by decide +kernel
theorem dX11_printNumber_7 : decode cX11_printNumber 7 = .ok (.if_icmp .le 11, 3) := by decide +kernel
theorem dX11_printNumber_10 : decode cX11_printNumber 10 = .ok (.iload_n 2, 1) := by decide +kernel
theorem dX11_printNumber_11 : decode cX11_printNumber 11 = .ok (.bipush 10, 2) := by decide +kernel
theorem dX11_printNumber_13 : decode cX11_printNumber 13 = .ok (.imul, 1) := by decide +kernel
theorem dX11_printNumber_14 : decode cX11_printNumber 14 = .ok (.istore_n 2, 1) := by decide +kernel
theorem dX11_printNumber_15 : decode cX11_printNumber 15 = .ok (.goto (-13), 3) := by decide +kernel
theorem dX11_printNumber_18 : decode cX11_printNumber 18 = .ok (.iload_n 2, 1) := by decide +kernel
theorem dX11_printNumber_19 : decode cX11_printNumber 19 = .ok (.istore_n 3, 1) := by decide +kernel
theorem dX11_printNumber_20 : decode cX11_printNumber 20 = .ok (.iload_n 3, 1) := by decide +kernel
theorem dX11_printNumber_21 : decode cX11_printNumber 21 = .ok (.ifCond .le 24, 3) := by decide +kernel
theorem dX11_printNumber_24 : decode cX11_printNumber 24 = .ok (.aload_n 0, 1) := by decide +kernel
theorem dX11_printNumber_25 : decode cX11_printNumber 25 = .ok (.bipush 48, 2) := by decide +kernel
theorem dX11_printNumber_27 : decode cX11_printNumber 27 = .ok (.iload_n 1, 1) := by decide +kernel
theorem dX11_printNumber_28 : decode cX11_printNumber 28 = .ok (.iload_n 3, 1) := by decide +kernel
theorem dX11_printNumber_29 : decode cX11_printNumber 29 = .ok (.idiv, 1) := by decide +kernel
theorem dX11_printNumber_30 : decode cX11_printNumber 30 = .ok (.bipush 10, 2) := by decide +kernel
theorem dX11_printNumber_32 : decode cX11_printNumber 32 = .ok (.irem, 1) := by decide +kernel
theorem dX11_printNumber_33 : decode cX11_printNumber 33 = .ok (.iadd, 1) := by decide +kernel
theorem dX11_printNumber_34 : decode cX11_printNumber 34 = .ok (.invokevirtual 312, 3) := by decide +kernel
theorem dX11_printNumber_37 : decode cX11_printNumber 37 = .ok (.iload_n 3, 1) := by decide +kernel
theorem dX11_printNumber_38 : decode cX11_printNumber 38 = .ok (.bipush 10, 2) := by decide +kernel
theorem dX11_printNumber_40 : decode cX11_printNumber 40 = .ok (.idiv, 1) := by decide +kernel
theorem dX11_printNumber_41 : decode cX11_printNumber 41 = .ok (.istore_n 3, 1) := by decide +kernel
theorem dX11_printNumber_42 : decode cX11_printNumber 42 = .ok (.goto (-22), 3) := by decide +kernel
theorem dX11_printNumber_45 : decode cX11_printNumber 45 = .ok (.return_, 1) := by decide +kernel
theorem dX11_printName_0 : decode cX11_printName 0 = .ok (.sipush 19683, 3) := by decide +kernel
theorem dX11_printName_3 : decode cX11_printName 3 = .ok (.istore_n 2, 1) := by decide +kernel
theorem dX11_printName_4 : decode cX11_printName 4 = .ok (.iload_n 2, 1) := by decide +kernel
theorem dX11_printName_5 : decode cX11_printName 5 = .ok (.ifCond .le 30, 3) := by decide +kernel
theorem dX11_printName_8 : decode cX11_printName 8 = .ok (.iload_n 1, 1) := by decide +kernel
theorem dX11_printName_9 : decode cX11_printName 9 = .ok (.iload_n 2, 1) := by decide +kernel
theorem dX11_printName_10 : decode cX11_printName 10 = .ok (.idiv, 1) := by decide +kernel
theorem dX11_printName_11 : decode cX11_printName 11 = .ok (.bipush 27, 2) := by decide +kernel
theorem dX11_printName_13 : decode cX11_printName 13 = .ok (.irem, 1) := by decide +kernel
theorem dX11_printName_14 : decode cX11_printName 14 = .ok (.istore_n 3, 1) := by decide +kernel
theorem dX11_printName_15 : decode cX11_printName 15 = .ok (.iload_n 3, 1) := by decide +kernel
theorem dX11_printName_16 : decode cX11_printName 16 = .ok (.ifCond .le 11, 3) := by decide +kernel
theorem dX11_printName_19 : decode cX11_printName 19 = .ok (.aload_n 0, 1) := by decide +kernel
theorem dX11_printName_20 : decode cX11_printName 20 = .ok (.bipush 96, 2) := by decide +kernel
theorem dX11_printName_22 : decode cX11_printName 22 = .ok (.iload_n 3, 1) := by decide +kernel
theorem dX11_printName_23 : decode cX11_printName 23 = .ok (.iadd, 1) := by decide +kernel
theorem dX11_printName_24 : decode cX11_printName 24 = .ok (.invokevirtual 312, 3) := by decide +kernel
theorem dX11_printName_27 : decode cX11_printName 27 = .ok (.iload_n 2, 1) := by decide +kernel
theorem dX11_printName_28 : decode cX11_printName 28 = .ok (.bipush 27, 2) := by decide +kernel
theorem dX11_printName_30 : decode cX11_printName 30 = .ok (.idiv, 1) := by decide +kernel
theorem dX11_printName_31 : decode cX11_printName 31 = .ok (.istore_n 2, 1) := by decide +kernel
theorem dX11_printName_32 : decode cX11_printName 32 = .ok (.goto (-28), 3) := by decide +kernel
theorem dX11_printName_35 : decode cX11_printName 35 = .ok (.return_, 1) := by decide +kernel
theorem dX11_letterOf_0 : decode cX11_letterOf 0 = .ok (.iload_n 0, 1) := by decide +kernel
theorem dX11_letterOf_1 : decode cX11_letterOf 1 = .ok (.ifCond .ne 6, 3) := by decide +kernel
theorem dX11_letterOf_4 : decode cX11_letterOf 4 = .ok (.bipush 115, 2) := by decide +kernel
theorem dX11_letterOf_6 : decode cX11_letterOf 6 = .ok (.ireturn, 1) := by decide +kernel
theorem dX11_letterOf_7 : decode cX11_letterOf 7 = .ok (.iload_n 0, 1) := by decide +kernel
theorem dX11_letterOf_8 : decode cX11_letterOf 8 = .ok (.iconst 1, 1) := by decide +kernel
theorem dX11_letterOf_9 : decode cX11_letterOf 9 = .ok (.if_icmp .ne 8, 3) := by decide +kernel
theorem dX11_letterOf_12 : decode cX11_letterOf 12 = .ok (.bipush 114, 2) := by decide +kernel
theorem dX11_letterOf_14 : decode cX11_letterOf 14 = .ok (.goto 5, 3) := by decide +kernel
theorem dX11_letterOf_17 : decode cX11_letterOf 17 = .ok (.bipush 116, 2) := by decide +kernel
theorem dX11_letterOf_19 : decode cX11_letterOf 19 = .ok (.ireturn, 1) := by decide +kernel
theorem dX11_writePage_0 : decode cX11_writePage 0 = .ok (.aload_n 0, 1) := by decide +kernel
theorem dX11_writePage_1 : decode cX11_writePage 1 = .ok (.iload_n 1, 1) := by decide +kernel
theorem dX11_writePage_2 : decode cX11_writePage 2 = .ok (.invokevirtual 300, 3) := by decide +kernel
theorem dX11_writePage_5 : decode cX11_writePage 5 = .ok (.ifCond .eq 5, 3) := by decide +kernel
theorem dX11_writePage_8 : decode cX11_writePage 8 = .ok (.iconst 0, 1) := by decide +kernel
theorem dX11_writePage_9 : decode cX11_writePage 9 = .ok (.ireturn, 1) := by decide +kernel
theorem dX11_writePage_10 : decode cX11_writePage 10 = .ok (.aload_n 0, 1) := by decide +kernel
theorem dX11_writePage_11 : decode cX11_writePage 11 = .ok (.iconst 0, 1) := by decide +kernel
theorem dX11_writePage_12 : decode cX11_writePage 12 = .ok (.putfield 309, 3) := by decide +kernel
theorem dX11_writePage_15 : decode cX11_writePage 15 = .ok (.iconst 4, 1) := by decide +kernel
theorem dX11_writePage_16 : decode cX11_writePage 16 = .ok (.iload_n 1, 1) := by decide +kernel
theorem dX11_writePage_17 : decode cX11_writePage 17 = .ok (.imul, 1) := by decide +kernel
theorem dX11_writePage_18 : decode cX11_writePage 18 = .ok (.istore_n 2, 1) := by decide +kernel
theorem dX11_writePage_19 : decode cX11_writePage 19 = .ok (.iload_n 2, 1) := by decide +kernel
theorem dX11_writePage_20 : decode cX11_writePage 20 = .ok (.aload_n 0, 1) := by decide +kernel
theorem dX11_writePage_21 : decode cX11_writePage 21 = .ok (.getfield 7, 3) := by decide +kernel
theorem dX11_writePage_24 : decode cX11_writePage 24 = .ok (.iload_n 1, 1) := by decide +kernel
theorem dX11_writePage_25 : decode cX11_writePage 25 = .ok (.invokestatic 77, 3) := by decide +kernel
theorem dX11_writePage_28 : decode cX11_writePage 28 = .ok (.if_icmp .ge 82, 3) := by decide +kernel
theorem dX11_writePage_31 : decode cX11_writePage 31 = .ok (.aload_n 0, 1) := by decide +kernel
theorem dX11_writePage_32 : decode cX11_writePage 32 = .ok (.getfield 309, 3) := by decide +kernel
theorem dX11_writePage_35 : decode cX11_writePage 35 = .ok (.ifCond .le 9, 3) := by decide +kernel
theorem dX11_writePage_38 : decode cX11_writePage 38 = .ok (.aload_n 0, 1) := by decide +kernel
theorem dX11_writePage_39 : decode cX11_writePage 39 = .ok (.bipush 32, 2) := by decide +kernel
theorem dX11_writePage_41 : decode cX11_writePage 41 = .ok (.invokevirtual 312, 3) := by decide +kernel
theorem dX11_writePage_44 : decode cX11_writePage 44 = .ok (.aload_n 0, 1) := by decide +kernel
theorem dX11_writePage_45 : decode cX11_writePage 45 = .ok (.aload_n 0, 1) := by decide +kernel
theorem dX11_writePage_46 : decode cX11_writePage 46 = .ok (.getfield 7, 3) := by decide +kernel
theorem dX11_writePage_49 : decode cX11_writePage 49 = .ok (.aload_n 0, 1) := by decide +kernel
theorem dX11_writePage_50 : decode cX11_writePage 50 = .ok (.getfield 7, 3) := by decide +kernel
theorem dX11_writePage_53 : decode cX11_writePage 53 = .ok (.iload_n 2, 1) := by decide +kernel
theorem dX11_writePage_54 : decode cX11_writePage 54 = .ok (.invokestatic 69, 3) := by decide +kernel
theorem dX11_writePage_57 : decode cX11_writePage 57 = .ok (.iconst 0, 1) := by decide +kernel
theorem dX11_writePage_58 : decode cX11_writePage 58 = .ok (.iadd, 1) := by decide +kernel
theorem dX11_writePage_59 : decode cX11_writePage 59 = .ok (.iaload, 1) := by decide +kernel
theorem dX11_writePage_60 : decode cX11_writePage 60 = .ok (.invokestatic 81, 3) := by decide +kernel
theorem dX11_writePage_63 : decode cX11_writePage 63 = .ok (.iconst 0, 1) := by decide +kernel
theorem dX11_writePage_64 : decode cX11_writePage 64 = .ok (.iadd, 1) := by decide +kernel
theorem dX11_writePage_65 : decode cX11_writePage 65 = .ok (.iaload, 1) := by decide +kernel
theorem dX11_writePage_66 : decode cX11_writePage 66 = .ok (.invokevirtual 315, 3) := by decide +kernel
theorem dX11_writePage_69 : decode cX11_writePage 69 = .ok (.aload_n 0, 1) := by decide +kernel
theorem dX11_writePage_70 : decode cX11_writePage 70 = .ok (.aload_n 0, 1) := by decide +kernel
theorem dX11_writePage_71 : decode cX11_writePage 71 = .ok (.getfield 7, 3) := by decide +kernel
theorem dX11_writePage_74 : decode cX11_writePage 74 = .ok (.iload_n 2, 1) := by decide +kernel
theorem dX11_writePage_75 : decode cX11_writePage 75 = .ok (.invokestatic 69, 3) := by decide +kernel
theorem dX11_writePage_78 : decode cX11_writePage 78 = .ok (.iconst 1, 1) := by decide +kernel
theorem dX11_writePage_79 : decode cX11_writePage 79 = .ok (.iadd, 1) := by decide +kernel
theorem dX11_writePage_80 : decode cX11_writePage 80 = .ok (.iaload, 1) := by decide +kernel
theorem dX11_writePage_81 : decode cX11_writePage 81 = .ok (.invokevirtual 318, 3) := by decide +kernel
theorem dX11_writePage_84 : decode cX11_writePage 84 = .ok (.aload_n 0, 1) := by decide +kernel
theorem dX11_writePage_85 : decode cX11_writePage 85 = .ok (.getfield 7, 3) := by decide +kernel
theorem dX11_writePage_88 : decode cX11_writePage 88 = .ok (.iload_n 2, 1) := by decide +kernel
theorem dX11_writePage_89 : decode cX11_writePage 89 = .ok (.invokestatic 69, 3) := by decide +kernel
theorem dX11_writePage_92 : decode cX11_writePage 92 = .ok (.iconst 2, 1) := by decide +kernel
theorem dX11_writePage_93 : decode cX11_writePage 93 = .ok (.iadd, 1) := by decide +kernel
theorem dX11_writePage_94 : decode cX11_writePage 94 = .ok (.iaload, 1) := by decide +kernel
theorem dX11_writePage_95 : decode cX11_writePage 95 = .ok (.istore_n 3, 1) := by decide +kernel
theorem dX11_writePage_96 : decode cX11_writePage 96 = .ok (.aload_n 0, 1) := by decide +kernel
theorem dX11_writePage_97 : decode cX11_writePage 97 = .ok (.iload_n 3, 1) := by decide +kernel
theorem dX11_writePage_98 : decode cX11_writePage 98 = .ok (.invokestatic 321, 3) := by decide +kernel
theorem dX11_writePage_101 : decode cX11_writePage 101 = .ok (.invokevirtual 312, 3) := by decide +kernel
theorem dX11_writePage_104 : decode cX11_writePage 104 = .ok (.iinc 2 1, 3) := by decide +kernel
theorem dX11_writePage_107 : decode cX11_writePage 107 = .ok (.goto (-88), 3) := by decide +kernel
theorem dX11_writePage_110 : decode cX11_writePage 110 = .ok (.aload_n 0, 1) := by decide +kernel
theorem dX11_writePage_111 : decode cX11_writePage 111 = .ok (.getfield 309, 3) := by decide +kernel
theorem dX11_writePage_114 : decode cX11_writePage 114 = .ok (.ireturn, 1) := by decide +kernel
theorem dX11_outputByte_0 : decode cX11_outputByte 0 = .ok (.aload_n 0, 1) := by decide +kernel
theorem dX11_outputByte_1 : decode cX11_outputByte 1 = .ok (.iload_n 1, 1) := by decide +kernel
theorem dX11_outputByte_2 : decode cX11_outputByte 2 = .ok (.iconst 0, 1) := by decide +kernel
theorem dX11_outputByte_3 : decode cX11_outputByte 3 = .ok (.aload_n 0, 1) := by decide +kernel
theorem dX11_outputByte_4 : decode cX11_outputByte 4 = .ok (.getfield 309, 3) := by decide +kernel
theorem dX11_outputByte_7 : decode cX11_outputByte 7 = .ok (.iconst 1, 1) := by decide +kernel
theorem dX11_outputByte_8 : decode cX11_outputByte 8 = .ok (.isub, 1) := by decide +kernel
theorem dX11_outputByte_9 : decode cX11_outputByte 9 = .ok (.invokevirtual 149, 3) := by decide +kernel
theorem dX11_outputByte_12 : decode cX11_outputByte 12 = .ok (.ifCond .eq 5, 3) := by decide +kernel
theorem dX11_outputByte_15 : decode cX11_outputByte 15 = .ok (.iconst 0, 1) := by decide +kernel
theorem dX11_outputByte_16 : decode cX11_outputByte 16 = .ok (.ireturn, 1) := by decide +kernel
theorem dX11_outputByte_17 : decode cX11_outputByte 17 = .ok (.aload_n 0, 1) := by decide +kernel
theorem dX11_outputByte_18 : decode cX11_outputByte 18 = .ok (.getfield 36, 3) := by decide +kernel
theorem dX11_outputByte_21 : decode cX11_outputByte 21 = .ok (.iload_n 1, 1) := by decide +kernel
theorem dX11_outputByte_22 : decode cX11_outputByte 22 = .ok (.baload, 1) := by decide +kernel
theorem dX11_outputByte_23 : decode cX11_outputByte 23 = .ok (.ireturn, 1) := by decide +kernel
theorem dX11_save_0 : decode cX11_save 0 = .ok (.aload_n 0, 1) := by decide +kernel
theorem dX11_save_1 : decode cX11_save 1 = .ok (.iload_n 1, 1) := by decide +kernel
theorem dX11_save_2 : decode cX11_save 2 = .ok (.iconst 0, 1) := by decide +kernel
theorem dX11_save_3 : decode cX11_save 3 = .ok (.iconst 1, 1) := by decide +kernel
theorem dX11_save_4 : decode cX11_save 4 = .ok (.invokevirtual 149, 3) := by decide +kernel
theorem dX11_save_7 : decode cX11_save 7 = .ok (.ifCond .eq 5, 3) := by decide +kernel
theorem dX11_save_10 : decode cX11_save 10 = .ok (.iconst 0, 1) := by decide +kernel
theorem dX11_save_11 : decode cX11_save 11 = .ok (.ireturn, 1) := by decide +kernel
theorem dX11_save_12 : decode cX11_save 12 = .ok (.aload_n 0, 1) := by decide +kernel
theorem dX11_save_13 : decode cX11_save 13 = .ok (.getfield 7, 3) := by decide +kernel
theorem dX11_save_16 : decode cX11_save 16 = .ok (.iconst 0, 1) := by decide +kernel
theorem dX11_save_17 : decode cX11_save 17 = .ok (.aload_n 0, 1) := by decide +kernel
theorem dX11_save_18 : decode cX11_save 18 = .ok (.getfield 22, 3) := by decide +kernel
theorem dX11_save_21 : decode cX11_save 21 = .ok (.sipush 242, 3) := by decide +kernel
theorem dX11_save_24 : decode cX11_save 24 = .ok (.iload_n 1, 1) := by decide +kernel
theorem dX11_save_25 : decode cX11_save 25 = .ok (.imul, 1) := by decide +kernel
theorem dX11_save_26 : decode cX11_save 26 = .ok (.invokestatic 52, 3) := by decide +kernel
theorem dX11_save_29 : decode cX11_save 29 = .ok (.aload_n 0, 1) := by decide +kernel
theorem dX11_save_30 : decode cX11_save 30 = .ok (.getfield 25, 3) := by decide +kernel
theorem dX11_save_33 : decode cX11_save 33 = .ok (.iload_n 1, 1) := by decide +kernel
theorem dX11_save_34 : decode cX11_save 34 = .ok (.iconst 1, 1) := by decide +kernel
theorem dX11_save_35 : decode cX11_save 35 = .ok (.bastore, 1) := by decide +kernel
theorem dX11_save_36 : decode cX11_save 36 = .ok (.aload_n 0, 1) := by decide +kernel
theorem dX11_save_37 : decode cX11_save 37 = .ok (.getfield 7, 3) := by decide +kernel
theorem dX11_save_40 : decode cX11_save 40 = .ok (.iconst 5, 1) := by decide +kernel
theorem dX11_save_41 : decode cX11_save 41 = .ok (.iaload, 1) := by decide +kernel
theorem dX11_save_42 : decode cX11_save 42 = .ok (.ireturn, 1) := by decide +kernel
theorem dX11_restore_0 : decode cX11_restore 0 = .ok (.aload_n 0, 1) := by decide +kernel
theorem dX11_restore_1 : decode cX11_restore 1 = .ok (.iload_n 1, 1) := by decide +kernel
theorem dX11_restore_2 : decode cX11_restore 2 = .ok (.iconst 0, 1) := by decide +kernel
theorem dX11_restore_3 : decode cX11_restore 3 = .ok (.iconst 1, 1) := by decide +kernel
theorem dX11_restore_4 : decode cX11_restore 4 = .ok (.invokevirtual 149, 3) := by decide +kernel
theorem dX11_restore_7 : decode cX11_restore 7 = .ok (.ifCond .ne 25, 3) := by decide +kernel
theorem dX11_restore_10 : decode cX11_restore 10 = .ok (.aload_n 0, 1) := by decide +kernel
theorem dX11_restore_11 : decode cX11_restore 11 = .ok (.aload_n 0, 1) := by decide +kernel
theorem dX11_restore_12 : decode cX11_restore 12 = .ok (.getfield 25, 3) := by decide +kernel
theorem dX11_restore_15 : decode cX11_restore 15 = .ok (.iload_n 1, 1) := by decide +kernel
theorem dX11_restore_16 : decode cX11_restore 16 = .ok (.baload, 1) := by decide +kernel
theorem dX11_restore_17 : decode cX11_restore 17 = .ok (.ifCond .ne 7, 3) := by decide +kernel
theorem dX11_restore_20 : decode cX11_restore 20 = .ok (.iconst 1, 1) := by decide +kernel
theorem dX11_restore_21 : decode cX11_restore 21 = .ok (.goto 4, 3) := by decide +kernel
theorem dX11_restore_24 : decode cX11_restore 24 = .ok (.iconst 0, 1) := by decide +kernel
theorem dX11_restore_25 : decode cX11_restore 25 = .ok (.iconst 2, 1) := by decide +kernel
theorem dX11_restore_26 : decode cX11_restore 26 = .ok (.invokevirtual 141, 3) := by decide +kernel
theorem dX11_restore_29 : decode cX11_restore 29 = .ok (.ifCond .eq 5, 3) := by decide +kernel
theorem dX11_restore_32 : decode cX11_restore 32 = .ok (.iconst 0, 1) := by decide +kernel
theorem dX11_restore_33 : decode cX11_restore 33 = .ok (.ireturn, 1) := by decide +kernel
theorem dX11_restore_34 : decode cX11_restore 34 = .ok (.aload_n 0, 1) := by decide +kernel
theorem dX11_restore_35 : decode cX11_restore 35 = .ok (.invokevirtual 275, 3) := by decide +kernel
theorem dX11_restore_38 : decode cX11_restore 38 = .ok (.aload_n 0, 1) := by decide +kernel
theorem dX11_restore_39 : decode cX11_restore 39 = .ok (.getfield 22, 3) := by decide +kernel
theorem dX11_restore_42 : decode cX11_restore 42 = .ok (.sipush 242, 3) := by decide +kernel
theorem dX11_restore_45 : decode cX11_restore 45 = .ok (.iload_n 1, 1) := by decide +kernel
theorem dX11_restore_46 : decode cX11_restore 46 = .ok (.imul, 1) := by decide +kernel
theorem dX11_restore_47 : decode cX11_restore 47 = .ok (.aload_n 0, 1) := by decide +kernel
theorem dX11_restore_48 : decode cX11_restore 48 = .ok (.getfield 7, 3) := by decide +kernel
theorem dX11_restore_51 : decode cX11_restore 51 = .ok (.iconst 0, 1) := by decide +kernel
theorem dX11_restore_52 : decode cX11_restore 52 = .ok (.invokestatic 52, 3) := by decide +kernel
theorem dX11_restore_55 : decode cX11_restore 55 = .ok (.aload_n 0, 1) := by decide +kernel
theorem dX11_restore_56 : decode cX11_restore 56 = .ok (.getfield 7, 3) := by decide +kernel
theorem dX11_restore_59 : decode cX11_restore 59 = .ok (.iconst 5, 1) := by decide +kernel
theorem dX11_restore_60 : decode cX11_restore 60 = .ok (.iaload, 1) := by decide +kernel
theorem dX11_restore_61 : decode cX11_restore 61 = .ok (.ireturn, 1) := by decide +kernel
theorem dJ9_max_7cf53_0 : decode cJ9_max_7cf53 0 = .ok (.iload_n 0, 1) := by decide +kernel
theorem dJ9_max_7cf53_1 : decode cJ9_max_7cf53 1 = .ok (.iload_n 1, 1) := by decide +kernel
theorem dJ9_max_7cf53_2 : decode cJ9_max_7cf53 2 = .ok (.if_icmp .lt 7, 3) := by decide +kernel
theorem dJ9_max_7cf53_5 : decode cJ9_max_7cf53 5 = .ok (.iload_n 0, 1) := by decide +kernel
theorem dJ9_max_7cf53_6 : decode cJ9_max_7cf53 6 = .ok (.goto 4, 3) := by decide +kernel
theorem dJ9_max_7cf53_9 : decode cJ9_max_7cf53 9 = .ok (.iload_n 1, 1) := by decide +kernel
theorem dJ9_max_7cf53_10 : decode cJ9_max_7cf53 10 = .ok (.ireturn, 1) := by decide +kernel
theorem dJ9_min_7cf53_0 : decode cJ9_min_7cf53 0 = .ok (.iload_n 0, 1) := by decide +kernel
theorem dJ9_min_7cf53_1 : decode cJ9_min_7cf53 1 = .ok (.iload_n 1, 1) := by decide +kernel
theorem dJ9_min_7cf53_2 : decode cJ9_min_7cf53 2 = .ok (.if_icmp .gt 7, 3) := by decide +kernel
theorem dJ9_min_7cf53_5 : decode cJ9_min_7cf53 5 = .ok (.iload_n 0, 1) := by decide +kernel
theorem dJ9_min_7cf53_6 : decode cJ9_min_7cf53 6 = .ok (.goto 4, 3) := by decide +kernel
theorem dJ9_min_7cf53_9 : decode cJ9_min_7cf53 9 = .ok (.iload_n 1, 1) := by decide +kernel
theorem dJ9_min_7cf53_10 : decode cJ9_min_7cf53 10 = .ok (.ireturn, 1) := by decide +kernel
theorem dJ0_length_8abf5_0 : decode cJ0_length_8abf5 0 = .ok (.aload_n 0, 1) := by decide +kernel
theorem dJ0_length_8abf5_1 : decode cJ0_length_8abf5 1 = .ok (.getfield 9, 3) := by decide +kernel
theorem dJ0_length_8abf5_4 : decode cJ0_length_8abf5 4 = .ok (.arraylength, 1) := by decide +kernel
theorem dJ0_length_8abf5_5 : decode cJ0_length_8abf5 5 = .ok (.aload_n 0, 1) := by decide +kernel
theorem dJ0_length_8abf5_6 : decode cJ0_length_8abf5 6 = .ok (.invokevirtual 335, 3) := by decide +kernel
theorem dJ0_length_8abf5_9 : decode cJ0_length_8abf5 9 = .ok (.ishr, 1) := by decide +kernel
theorem dJ0_length_8abf5_10 : decode cJ0_length_8abf5 10 = .ok (.ireturn, 1) := by decide +kernel
theorem dJ0_charAt_5068e_0 : decode cJ0_charAt_5068e 0 = .ok (.aload_n 0, 1) := by decide +kernel
theorem dJ0_charAt_5068e_1 : decode cJ0_charAt_5068e 1 = .ok (.invokevirtual 492, 3) := by decide +kernel
theorem dJ0_charAt_5068e_4 : decode cJ0_charAt_5068e 4 = .ok (.ifCond .eq 12, 3) := by decide +kernel
theorem dJ0_charAt_5068e_7 : decode cJ0_charAt_5068e 7 = .ok (.aload_n 0, 1) := by decide +kernel
theorem dJ0_charAt_5068e_8 : decode cJ0_charAt_5068e 8 = .ok (.getfield 9, 3) := by decide +kernel
theorem dJ0_charAt_5068e_11 : decode cJ0_charAt_5068e 11 = .ok (.iload_n 1, 1) := by decide +kernel
theorem dJ0_charAt_5068e_12 : decode cJ0_charAt_5068e 12 = .ok (.invokestatic 495, 3) := by decide +kernel
theorem dJ0_charAt_5068e_15 : decode cJ0_charAt_5068e 15 = .ok (.ireturn, 1) := by decide +kernel
theorem dJ0_charAt_5068e_16 : decode cJ0_charAt_5068e 16 = .ok (.aload_n 0, 1) := by decide +kernel
theorem dJ0_charAt_5068e_17 : decode cJ0_charAt_5068e 17 = .ok (.getfield 9, 3) := by decide +kernel
theorem dJ0_charAt_5068e_20 : decode cJ0_charAt_5068e 20 = .ok (.iload_n 1, 1) := by decide +kernel
theorem dJ0_charAt_5068e_21 : decode cJ0_charAt_5068e 21 = .ok (.invokestatic 498, 3) := by decide +kernel
theorem dJ0_charAt_5068e_24 : decode cJ0_charAt_5068e 24 = .ok (.ireturn, 1) := by decide +kernel
theorem dJ0_coder_7d493_0 : decode cJ0_coder_7d493 0 = .ok (.getstatic 38, 3) := by decide +kernel
theorem dJ0_coder_7d493_3 : decode cJ0_coder_7d493 3 = .ok (.ifCond .eq 10, 3) := by decide +kernel
theorem dJ0_coder_7d493_6 : decode cJ0_coder_7d493 6 = .ok (.aload_n 0, 1) := by decide +kernel
theorem dJ0_coder_7d493_7 : decode cJ0_coder_7d493 7 = .ok (.getfield 15, 3) := by decide +kernel
theorem dJ0_coder_7d493_10 : decode cJ0_coder_7d493 10 = .ok (.goto 4, 3) := by decide +kernel
theorem dJ0_coder_7d493_13 : decode cJ0_coder_7d493 13 = .ok (.iconst 1, 1) := by decide +kernel
theorem dJ0_coder_7d493_14 : decode cJ0_coder_7d493 14 = .ok (.ireturn, 1) := by decide +kernel
theorem dJ0_isLatin1_aae02_0 : decode cJ0_isLatin1_aae02 0 = .ok (.getstatic 38, 3) := by decide +kernel
theorem dJ0_isLatin1_aae02_3 : decode cJ0_isLatin1_aae02 3 = .ok (.ifCond .eq 14, 3) := by decide +kernel
theorem dJ0_isLatin1_aae02_6 : decode cJ0_isLatin1_aae02 6 = .ok (.aload_n 0, 1) := by decide +kernel
theorem dJ0_isLatin1_aae02_7 : decode cJ0_isLatin1_aae02 7 = .ok (.getfield 15, 3) := by decide +kernel
theorem dJ0_isLatin1_aae02_10 : decode cJ0_isLatin1_aae02 10 = .ok (.ifCond .ne 7, 3) := by decide +kernel
theorem dJ0_isLatin1_aae02_13 : decode cJ0_isLatin1_aae02 13 = .ok (.iconst 1, 1) := by decide +kernel
theorem dJ0_isLatin1_aae02_14 : decode cJ0_isLatin1_aae02 14 = .ok (.goto 4, 3) := by decide +kernel
theorem dJ0_isLatin1_aae02_17 : decode cJ0_isLatin1_aae02 17 = .ok (.iconst 0, 1) := by decide +kernel
theorem dJ0_isLatin1_aae02_18 : decode cJ0_isLatin1_aae02 18 = .ok (.ireturn, 1) := by decide +kernel
theorem dJ0_checkIndex_df160_0 : decode cJ0_checkIndex_df160 0 = .ok (.iload_n 0, 1) := by decide +kernel
theorem dJ0_checkIndex_df160_1 : decode cJ0_checkIndex_df160 1 = .ok (.iload_n 1, 1) := by decide +kernel
theorem dJ0_checkIndex_df160_2 : decode cJ0_checkIndex_df160 2 = .ok (.getstatic 1053, 3) := by decide +kernel
theorem dJ0_checkIndex_df160_5 : decode cJ0_checkIndex_df160 5 = .ok (.invokestatic 1059, 3) := by decide +kernel
theorem dJ0_checkIndex_df160_8 : decode cJ0_checkIndex_df160 8 = .ok (.pop, 1) := by decide +kernel
theorem dJ0_checkIndex_df160_9 : decode cJ0_checkIndex_df160 9 = .ok (.return_, 1) := by decide +kernel
theorem dJ1_charAt_3b067_0 : decode cJ1_charAt_3b067 0 = .ok (.iload_n 1, 1) := by decide +kernel
theorem dJ1_charAt_3b067_1 : decode cJ1_charAt_3b067 1 = .ok (.aload_n 0, 1) := by decide +kernel
theorem dJ1_charAt_3b067_2 : decode cJ1_charAt_3b067 2 = .ok (.arraylength, 1) := by decide +kernel
theorem dJ1_charAt_3b067_3 : decode cJ1_charAt_3b067 3 = .ok (.invokestatic 9, 3) := by decide +kernel
theorem dJ1_charAt_3b067_6 : decode cJ1_charAt_3b067 6 = .ok (.aload_n 0, 1) := by decide +kernel
theorem dJ1_charAt_3b067_7 : decode cJ1_charAt_3b067 7 = .ok (.iload_n 1, 1) := by decide +kernel
theorem dJ1_charAt_3b067_8 : decode cJ1_charAt_3b067 8 = .ok (.baload, 1) := by decide +kernel
theorem dJ1_charAt_3b067_9 : decode cJ1_charAt_3b067 9 = .ok (.sipush 255, 3) := by decide +kernel
theorem dJ1_charAt_3b067_12 : decode cJ1_charAt_3b067 12 = .ok (.iand, 1) := by decide +kernel
theorem dJ1_charAt_3b067_13 : decode cJ1_charAt_3b067 13 = .ok (.i2c, 1) := by decide +kernel
theorem dJ1_charAt_3b067_14 : decode cJ1_charAt_3b067 14 = .ok (.ireturn, 1) := by decide +kernel
theorem dJ2_getChar_3b067_0 : decode cJ2_getChar_3b067 0 = .ok (.getstatic 44, 3) := by decide +kernel
theorem dJ2_getChar_3b067_3 : decode cJ2_getChar_3b067 3 = .ok (.ifCond .ne 25, 3) := by decide +kernel
theorem dJ2_getChar_3b067_6 : decode cJ2_getChar_3b067 6 = .ok (.iload_n 1, 1) := by decide +kernel
theorem dJ2_getChar_3b067_7 : decode cJ2_getChar_3b067 7 = .ok (.ifCond .lt 11, 3) := by decide +kernel
theorem dJ2_getChar_3b067_10 : decode cJ2_getChar_3b067 10 = .ok (.iload_n 1, 1) := by decide +kernel
theorem dJ2_getChar_3b067_11 : decode cJ2_getChar_3b067 11 = .ok (.aload_n 0, 1) := by decide +kernel
theorem dJ2_getChar_3b067_12 : decode cJ2_getChar_3b067 12 = .ok (.invokestatic 48, 3) := by decide +kernel
theorem dJ2_getChar_3b067_15 : decode cJ2_getChar_3b067 15 = .ok (.if_icmp .lt 13, 3) := by decide +kernel
theorem dJ2_getChar_3b067_18 : decode cJ2_getChar_3b067 18 = .ok (.new 52, 3) := by decide +kernel
theorem dJ2_getChar_3b067_21 : decode cJ2_getChar_3b067 21 = .ok (.dup, 1) := by decide +kernel
theorem dJ2_getChar_3b067_22 : decode cJ2_getChar_3b067 22 = .ok (.ldc 54, 2) := by decide +kernel
theorem dJ2_getChar_3b067_24 : decode cJ2_getChar_3b067 24 = .ok (.invokespecial 56, 3) := by decide +kernel
theorem dJ2_getChar_3b067_27 : decode cJ2_getChar_3b067 27 = .ok (.athrow, 1) := by decide +kernel
theorem dJ2_getChar_3b067_28 : decode cJ2_getChar_3b067 28 = .ok (.iload_n 1, 1) := by decide +kernel
theorem dJ2_getChar_3b067_29 : decode cJ2_getChar_3b067 29 = .ok (.iconst 1, 1) := by decide +kernel
theorem dJ2_getChar_3b067_30 : decode cJ2_getChar_3b067 30 = .ok (.ishl, 1) := by decide +kernel
theorem dJ2_getChar_3b067_31 : decode cJ2_getChar_3b067 31 = .ok (.istore_n 1, 1) := by decide +kernel
theorem dJ2_getChar_3b067_32 : decode cJ2_getChar_3b067 32 = .ok (.aload_n 0, 1) := by decide +kernel
theorem dJ2_getChar_3b067_33 : decode cJ2_getChar_3b067 33 = .ok (.iload_n 1, 1) := by decide +kernel
theorem dJ2_getChar_3b067_34 : decode cJ2_getChar_3b067 34 = .ok (.iinc 1 1, 3) := by decide +kernel
theorem dJ2_getChar_3b067_37 : decode cJ2_getChar_3b067 37 = .ok (.baload, 1) := by decide +kernel
theorem dJ2_getChar_3b067_38 : decode cJ2_getChar_3b067 38 = .ok (.sipush 255, 3) := by decide +kernel
theorem dJ2_getChar_3b067_41 : decode cJ2_getChar_3b067 41 = .ok (.iand, 1) := by decide +kernel
theorem dJ2_getChar_3b067_42 : decode cJ2_getChar_3b067 42 = .ok (.getstatic 59, 3) := by decide +kernel
theorem dJ2_getChar_3b067_45 : decode cJ2_getChar_3b067 45 = .ok (.ishl, 1) := by decide +kernel
theorem dJ2_getChar_3b067_46 : decode cJ2_getChar_3b067 46 = .ok (.aload_n 0, 1) := by decide +kernel
theorem dJ2_getChar_3b067_47 : decode cJ2_getChar_3b067 47 = .ok (.iload_n 1, 1) := by decide +kernel
theorem dJ2_getChar_3b067_48 : decode cJ2_getChar_3b067 48 = .ok (.baload, 1) := by decide +kernel
theorem dJ2_getChar_3b067_49 : decode cJ2_getChar_3b067 49 = .ok (.sipush 255, 3) := by decide +kernel
theorem dJ2_getChar_3b067_52 : decode cJ2_getChar_3b067 52 = .ok (.iand, 1) := by decide +kernel
theorem dJ2_getChar_3b067_53 : decode cJ2_getChar_3b067 53 = .ok (.getstatic 63, 3) := by decide +kernel
theorem dJ2_getChar_3b067_56 : decode cJ2_getChar_3b067 56 = .ok (.ishl, 1) := by decide +kernel
theorem dJ2_getChar_3b067_57 : decode cJ2_getChar_3b067 57 = .ok (.ior, 1) := by decide +kernel
theorem dJ2_getChar_3b067_58 : decode cJ2_getChar_3b067 58 = .ok (.i2c, 1) := by decide +kernel
theorem dJ2_getChar_3b067_59 : decode cJ2_getChar_3b067 59 = .ok (.ireturn, 1) := by decide +kernel
theorem dJ2_length_9d52b_0 : decode cJ2_length_9d52b 0 = .ok (.aload_n 0, 1) := by decide +kernel
theorem dJ2_length_9d52b_1 : decode cJ2_length_9d52b 1 = .ok (.arraylength, 1) := by decide +kernel
theorem dJ2_length_9d52b_2 : decode cJ2_length_9d52b 2 = .ok (.iconst 1, 1) := by decide +kernel
theorem dJ2_length_9d52b_3 : decode cJ2_length_9d52b 3 = .ok (.ishr, 1) := by decide +kernel
theorem dJ2_length_9d52b_4 : decode cJ2_length_9d52b 4 = .ok (.ireturn, 1) := by decide +kernel
theorem dJ2_charAt_3b067_0 : decode cJ2_charAt_3b067 0 = .ok (.iload_n 1, 1) := by decide +kernel
theorem dJ2_charAt_3b067_1 : decode cJ2_charAt_3b067 1 = .ok (.aload_n 0, 1) := by decide +kernel
theorem dJ2_charAt_3b067_2 : decode cJ2_charAt_3b067 2 = .ok (.invokestatic 67, 3) := by decide +kernel
theorem dJ2_charAt_3b067_5 : decode cJ2_charAt_3b067 5 = .ok (.aload_n 0, 1) := by decide +kernel
theorem dJ2_charAt_3b067_6 : decode cJ2_charAt_3b067 6 = .ok (.iload_n 1, 1) := by decide +kernel
theorem dJ2_charAt_3b067_7 : decode cJ2_charAt_3b067 7 = .ok (.invokestatic 71, 3) := by decide +kernel
theorem dJ2_charAt_3b067_10 : decode cJ2_charAt_3b067 10 = .ok (.ireturn, 1) := by decide +kernel
theorem dJ2_checkIndex_2214a_0 : decode cJ2_checkIndex_2214a 0 = .ok (.iload_n 0, 1) := by decide +kernel
theorem dJ2_checkIndex_2214a_1 : decode cJ2_checkIndex_2214a 1 = .ok (.aload_n 1, 1) := by decide +kernel
theorem dJ2_checkIndex_2214a_2 : decode cJ2_checkIndex_2214a 2 = .ok (.invokestatic 48, 3) := by decide +kernel
theorem dJ2_checkIndex_2214a_5 : decode cJ2_checkIndex_2214a 5 = .ok (.invokestatic 414, 3) := by decide +kernel
theorem dJ2_checkIndex_2214a_8 : decode cJ2_checkIndex_2214a 8 = .ok (.return_, 1) := by decide +kernel
theorem dJ3_checkIndex_8e157_0 : decode cJ3_checkIndex_8e157 0 = .ok (.iload_n 0, 1) := by decide +kernel
theorem dJ3_checkIndex_8e157_1 : decode cJ3_checkIndex_8e157 1 = .ok (.ifCond .lt 8, 3) := by decide +kernel
theorem dJ3_checkIndex_8e157_4 : decode cJ3_checkIndex_8e157 4 = .ok (.iload_n 0, 1) := by decide +kernel
theorem dJ3_checkIndex_8e157_5 : decode cJ3_checkIndex_8e157 5 = .ok (.iload_n 1, 1) := by decide +kernel
theorem dJ3_checkIndex_8e157_6 : decode cJ3_checkIndex_8e157 6 = .ok (.if_icmp .lt 10, 3) := by decide +kernel
theorem dJ3_checkIndex_8e157_9 : decode cJ3_checkIndex_8e157 9 = .ok (.aload_n 2, 1) := by decide +kernel
theorem dJ3_checkIndex_8e157_10 : decode cJ3_checkIndex_8e157 10 = .ok (.iload_n 0, 1) := by decide +kernel
theorem dJ3_checkIndex_8e157_11 : decode cJ3_checkIndex_8e157 11 = .ok (.iload_n 1, 1) := by decide +kernel
theorem dJ3_checkIndex_8e157_12 : decode cJ3_checkIndex_8e157 12 = .ok (.invokestatic 95, 3) := by decide +kernel
theorem dJ3_checkIndex_8e157_15 : decode cJ3_checkIndex_8e157 15 = .ok (.athrow, 1) := by decide +kernel
theorem dJ3_checkIndex_8e157_16 : decode cJ3_checkIndex_8e157 16 = .ok (.iload_n 0, 1) := by decide +kernel
theorem dJ3_checkIndex_8e157_17 : decode cJ3_checkIndex_8e157 17 = .ok (.ireturn, 1) := by decide +kernel
theorem dL_appendInput_0 : decode cL_appendInput 0 = .ok (.aload 6, 2) := by decide +kernel
theorem dL_appendInput_2 : decode cL_appendInput 2 = .ok (.iconst 0, 1) := by decide +kernel
theorem dL_appendInput_3 : decode cL_appendInput 3 = .ok (.aload_n 0, 1) := by decide +kernel
theorem dL_appendInput_4 : decode cL_appendInput 4 = .ok (.iload_n 1, 1) := by decide +kernel
theorem dL_appendInput_5 : decode cL_appendInput 5 = .ok (.iload_n 2, 1) := by decide +kernel
theorem dL_appendInput_6 : decode cL_appendInput 6 = .ok (.iload_n 3, 1) := by decide +kernel
theorem dL_appendInput_7 : decode cL_appendInput 7 = .ok (.iload 4, 2) := by decide +kernel
theorem dL_appendInput_9 : decode cL_appendInput 9 = .ok (.iload 5, 2) := by decide +kernel
theorem dL_appendInput_11 : decode cL_appendInput 11 = .ok (.invokevirtual 7, 3) := by decide +kernel
theorem dL_appendInput_14 : decode cL_appendInput 14 = .ok (.i2l, 1) := by decide +kernel
theorem dL_appendInput_15 : decode cL_appendInput 15 = .ok (.lastore, 1) := by decide +kernel
theorem dL_appendInput_16 : decode cL_appendInput 16 = .ok (.goto 7, 3) := by decide +kernel
theorem dL_appendInput_19 : decode cL_appendInput 19 = .ok (.astore 7, 2) := by decide +kernel
theorem dL_appendInput_21 : decode cL_appendInput 21 = .ok (.iconst 1, 1) := by decide +kernel
theorem dL_appendInput_22 : decode cL_appendInput 22 = .ok (.ireturn, 1) := by decide +kernel
theorem dL_appendInput_23 : decode cL_appendInput 23 = .ok (.iconst 0, 1) := by decide +kernel
theorem dL_appendInput_24 : decode cL_appendInput 24 = .ok (.ireturn, 1) := by decide +kernel
theorem dL_truncateInput_0 : decode cL_truncateInput 0 = .ok (.aload_n 2, 1) := by decide +kernel
theorem dL_truncateInput_1 : decode cL_truncateInput 1 = .ok (.iconst 0, 1) := by decide +kernel
theorem dL_truncateInput_2 : decode cL_truncateInput 2 = .ok (.aload_n 0, 1) := by decide +kernel
theorem dL_truncateInput_3 : decode cL_truncateInput 3 = .ok (.iload_n 1, 1) := by decide +kernel
theorem dL_truncateInput_4 : decode cL_truncateInput 4 = .ok (.invokevirtual 15, 3) := by decide +kernel
theorem dL_truncateInput_7 : decode cL_truncateInput 7 = .ok (.i2l, 1) := by decide +kernel
theorem dL_truncateInput_8 : decode cL_truncateInput 8 = .ok (.lastore, 1) := by decide +kernel
theorem dL_truncateInput_9 : decode cL_truncateInput 9 = .ok (.goto 6, 3) := by decide +kernel
theorem dL_truncateInput_12 : decode cL_truncateInput 12 = .ok (.astore_n 3, 1) := by decide +kernel
theorem dL_truncateInput_13 : decode cL_truncateInput 13 = .ok (.iconst 1, 1) := by decide +kernel
theorem dL_truncateInput_14 : decode cL_truncateInput 14 = .ok (.ireturn, 1) := by decide +kernel
theorem dL_truncateInput_15 : decode cL_truncateInput 15 = .ok (.iconst 0, 1) := by decide +kernel
theorem dL_truncateInput_16 : decode cL_truncateInput 16 = .ok (.ireturn, 1) := by decide +kernel
theorem dL_load_0 : decode cL_load 0 = .ok (.aload_n 1, 1) := by decide +kernel
theorem dL_load_1 : decode cL_load 1 = .ok (.iconst 0, 1) := by decide +kernel
theorem dL_load_2 : decode cL_load 2 = .ok (.aload_n 0, 1) := by decide +kernel
theorem dL_load_3 : decode cL_load 3 = .ok (.invokevirtual 21, 3) := by decide +kernel
theorem dL_load_6 : decode cL_load 6 = .ok (.i2l, 1) := by decide +kernel
theorem dL_load_7 : decode cL_load 7 = .ok (.lastore, 1) := by decide +kernel
theorem dL_load_8 : decode cL_load 8 = .ok (.goto 6, 3) := by decide +kernel
theorem dL_load_11 : decode cL_load 11 = .ok (.astore_n 2, 1) := by decide +kernel
theorem dL_load_12 : decode cL_load 12 = .ok (.iconst 1, 1) := by decide +kernel
theorem dL_load_13 : decode cL_load 13 = .ok (.ireturn, 1) := by decide +kernel
theorem dL_load_14 : decode cL_load 14 = .ok (.iconst 0, 1) := by decide +kernel
theorem dL_load_15 : decode cL_load 15 = .ok (.ireturn, 1) := by decide +kernel
theorem dL_peopleOf_0 : decode cL_peopleOf 0 = .ok (.aload_n 2, 1) := by decide +kernel
theorem dL_peopleOf_1 : decode cL_peopleOf 1 = .ok (.iconst 0, 1) := by decide +kernel
theorem dL_peopleOf_2 : decode cL_peopleOf 2 = .ok (.aload_n 0, 1) := by decide +kernel
theorem dL_peopleOf_3 : decode cL_peopleOf 3 = .ok (.iload_n 1, 1) := by decide +kernel
theorem dL_peopleOf_4 : decode cL_peopleOf 4 = .ok (.invokevirtual 25, 3) := by decide +kernel
theorem dL_peopleOf_7 : decode cL_peopleOf 7 = .ok (.i2l, 1) := by decide +kernel
theorem dL_peopleOf_8 : decode cL_peopleOf 8 = .ok (.lastore, 1) := by decide +kernel
theorem dL_peopleOf_9 : decode cL_peopleOf 9 = .ok (.goto 6, 3) := by decide +kernel
theorem dL_peopleOf_12 : decode cL_peopleOf 12 = .ok (.astore_n 3, 1) := by decide +kernel
theorem dL_peopleOf_13 : decode cL_peopleOf 13 = .ok (.iconst 1, 1) := by decide +kernel
theorem dL_peopleOf_14 : decode cL_peopleOf 14 = .ok (.ireturn, 1) := by decide +kernel
theorem dL_peopleOf_15 : decode cL_peopleOf 15 = .ok (.iconst 0, 1) := by decide +kernel
theorem dL_peopleOf_16 : decode cL_peopleOf 16 = .ok (.ireturn, 1) := by decide +kernel
theorem dL_trustOf_0 : decode cL_trustOf 0 = .ok (.aload_n 2, 1) := by decide +kernel
theorem dL_trustOf_1 : decode cL_trustOf 1 = .ok (.iconst 0, 1) := by decide +kernel
theorem dL_trustOf_2 : decode cL_trustOf 2 = .ok (.aload_n 0, 1) := by decide +kernel
theorem dL_trustOf_3 : decode cL_trustOf 3 = .ok (.iload_n 1, 1) := by decide +kernel
theorem dL_trustOf_4 : decode cL_trustOf 4 = .ok (.invokevirtual 30, 3) := by decide +kernel
theorem dL_trustOf_7 : decode cL_trustOf 7 = .ok (.i2l, 1) := by decide +kernel
theorem dL_trustOf_8 : decode cL_trustOf 8 = .ok (.lastore, 1) := by decide +kernel
theorem dL_trustOf_9 : decode cL_trustOf 9 = .ok (.goto 6, 3) := by decide +kernel
theorem dL_trustOf_12 : decode cL_trustOf 12 = .ok (.astore_n 3, 1) := by decide +kernel
theorem dL_trustOf_13 : decode cL_trustOf 13 = .ok (.iconst 1, 1) := by decide +kernel
theorem dL_trustOf_14 : decode cL_trustOf 14 = .ok (.ireturn, 1) := by decide +kernel
theorem dL_trustOf_15 : decode cL_trustOf 15 = .ok (.iconst 0, 1) := by decide +kernel
theorem dL_trustOf_16 : decode cL_trustOf 16 = .ok (.ireturn, 1) := by decide +kernel
theorem dL_forecastsFor_0 : decode cL_forecastsFor 0 = .ok (.aload_n 2, 1) := by decide +kernel
theorem dL_forecastsFor_1 : decode cL_forecastsFor 1 = .ok (.iconst 0, 1) := by decide +kernel
theorem dL_forecastsFor_2 : decode cL_forecastsFor 2 = .ok (.aload_n 0, 1) := by decide +kernel
theorem dL_forecastsFor_3 : decode cL_forecastsFor 3 = .ok (.iload_n 1, 1) := by decide +kernel
theorem dL_forecastsFor_4 : decode cL_forecastsFor 4 = .ok (.invokevirtual 33, 3) := by decide +kernel
theorem dL_forecastsFor_7 : decode cL_forecastsFor 7 = .ok (.i2l, 1) := by decide +kernel
theorem dL_forecastsFor_8 : decode cL_forecastsFor 8 = .ok (.lastore, 1) := by decide +kernel
theorem dL_forecastsFor_9 : decode cL_forecastsFor 9 = .ok (.goto 6, 3) := by decide +kernel
theorem dL_forecastsFor_12 : decode cL_forecastsFor 12 = .ok (.astore_n 3, 1) := by decide +kernel
theorem dL_forecastsFor_13 : decode cL_forecastsFor 13 = .ok (.iconst 1, 1) := by decide +kernel
theorem dL_forecastsFor_14 : decode cL_forecastsFor 14 = .ok (.ireturn, 1) := by decide +kernel
theorem dL_forecastsFor_15 : decode cL_forecastsFor 15 = .ok (.iconst 0, 1) := by decide +kernel
theorem dL_forecastsFor_16 : decode cL_forecastsFor 16 = .ok (.ireturn, 1) := by decide +kernel
theorem dL_fairVillage_0 : decode cL_fairVillage 0 = .ok (.aload_n 2, 1) := by decide +kernel
theorem dL_fairVillage_1 : decode cL_fairVillage 1 = .ok (.iconst 0, 1) := by decide +kernel
theorem dL_fairVillage_2 : decode cL_fairVillage 2 = .ok (.aload_n 0, 1) := by decide +kernel
theorem dL_fairVillage_3 : decode cL_fairVillage 3 = .ok (.iload_n 1, 1) := by decide +kernel
theorem dL_fairVillage_4 : decode cL_fairVillage 4 = .ok (.invokevirtual 36, 3) := by decide +kernel
theorem dL_fairVillage_7 : decode cL_fairVillage 7 = .ok (.i2l, 1) := by decide +kernel
theorem dL_fairVillage_8 : decode cL_fairVillage 8 = .ok (.lastore, 1) := by decide +kernel
theorem dL_fairVillage_9 : decode cL_fairVillage 9 = .ok (.goto 6, 3) := by decide +kernel
theorem dL_fairVillage_12 : decode cL_fairVillage 12 = .ok (.astore_n 3, 1) := by decide +kernel
theorem dL_fairVillage_13 : decode cL_fairVillage 13 = .ok (.iconst 1, 1) := by decide +kernel
theorem dL_fairVillage_14 : decode cL_fairVillage 14 = .ok (.ireturn, 1) := by decide +kernel
theorem dL_fairVillage_15 : decode cL_fairVillage 15 = .ok (.iconst 0, 1) := by decide +kernel
theorem dL_fairVillage_16 : decode cL_fairVillage 16 = .ok (.ireturn, 1) := by decide +kernel
theorem dL_periodOf_0 : decode cL_periodOf 0 = .ok (.aload_n 2, 1) := by decide +kernel
theorem dL_periodOf_1 : decode cL_periodOf 1 = .ok (.iconst 0, 1) := by decide +kernel
theorem dL_periodOf_2 : decode cL_periodOf 2 = .ok (.aload_n 0, 1) := by decide +kernel
theorem dL_periodOf_3 : decode cL_periodOf 3 = .ok (.iload_n 1, 1) := by decide +kernel
theorem dL_periodOf_4 : decode cL_periodOf 4 = .ok (.invokevirtual 39, 3) := by decide +kernel
theorem dL_periodOf_7 : decode cL_periodOf 7 = .ok (.i2l, 1) := by decide +kernel
theorem dL_periodOf_8 : decode cL_periodOf 8 = .ok (.lastore, 1) := by decide +kernel
theorem dL_periodOf_9 : decode cL_periodOf 9 = .ok (.goto 6, 3) := by decide +kernel
theorem dL_periodOf_12 : decode cL_periodOf 12 = .ok (.astore_n 3, 1) := by decide +kernel
theorem dL_periodOf_13 : decode cL_periodOf 13 = .ok (.iconst 1, 1) := by decide +kernel
theorem dL_periodOf_14 : decode cL_periodOf 14 = .ok (.ireturn, 1) := by decide +kernel
theorem dL_periodOf_15 : decode cL_periodOf 15 = .ok (.iconst 0, 1) := by decide +kernel
theorem dL_periodOf_16 : decode cL_periodOf 16 = .ok (.ireturn, 1) := by decide +kernel
theorem dL_stockOf_0 : decode cL_stockOf 0 = .ok (.aload_n 2, 1) := by decide +kernel
theorem dL_stockOf_1 : decode cL_stockOf 1 = .ok (.iconst 0, 1) := by decide +kernel
theorem dL_stockOf_2 : decode cL_stockOf 2 = .ok (.aload_n 0, 1) := by decide +kernel
theorem dL_stockOf_3 : decode cL_stockOf 3 = .ok (.iload_n 1, 1) := by decide +kernel
theorem dL_stockOf_4 : decode cL_stockOf 4 = .ok (.invokevirtual 42, 3) := by decide +kernel
theorem dL_stockOf_7 : decode cL_stockOf 7 = .ok (.i2l, 1) := by decide +kernel
theorem dL_stockOf_8 : decode cL_stockOf 8 = .ok (.lastore, 1) := by decide +kernel
theorem dL_stockOf_9 : decode cL_stockOf 9 = .ok (.goto 6, 3) := by decide +kernel
theorem dL_stockOf_12 : decode cL_stockOf 12 = .ok (.astore_n 3, 1) := by decide +kernel
theorem dL_stockOf_13 : decode cL_stockOf 13 = .ok (.iconst 1, 1) := by decide +kernel
theorem dL_stockOf_14 : decode cL_stockOf 14 = .ok (.ireturn, 1) := by decide +kernel
theorem dL_stockOf_15 : decode cL_stockOf 15 = .ok (.iconst 0, 1) := by decide +kernel
theorem dL_stockOf_16 : decode cL_stockOf 16 = .ok (.ireturn, 1) := by decide +kernel
theorem dL_priceOf_0 : decode cL_priceOf 0 = .ok (.aload_n 2, 1) := by decide +kernel
theorem dL_priceOf_1 : decode cL_priceOf 1 = .ok (.iconst 0, 1) := by decide +kernel
theorem dL_priceOf_2 : decode cL_priceOf 2 = .ok (.aload_n 0, 1) := by decide +kernel
theorem dL_priceOf_3 : decode cL_priceOf 3 = .ok (.iload_n 1, 1) := by decide +kernel
theorem dL_priceOf_4 : decode cL_priceOf 4 = .ok (.invokevirtual 45, 3) := by decide +kernel
theorem dL_priceOf_7 : decode cL_priceOf 7 = .ok (.i2l, 1) := by decide +kernel
theorem dL_priceOf_8 : decode cL_priceOf 8 = .ok (.lastore, 1) := by decide +kernel
theorem dL_priceOf_9 : decode cL_priceOf 9 = .ok (.goto 6, 3) := by decide +kernel
theorem dL_priceOf_12 : decode cL_priceOf 12 = .ok (.astore_n 3, 1) := by decide +kernel
theorem dL_priceOf_13 : decode cL_priceOf 13 = .ok (.iconst 1, 1) := by decide +kernel
theorem dL_priceOf_14 : decode cL_priceOf 14 = .ok (.ireturn, 1) := by decide +kernel
theorem dL_priceOf_15 : decode cL_priceOf 15 = .ok (.iconst 0, 1) := by decide +kernel
theorem dL_priceOf_16 : decode cL_priceOf 16 = .ok (.ireturn, 1) := by decide +kernel
theorem dL_daysUntilFair_0 : decode cL_daysUntilFair 0 = .ok (.aload_n 2, 1) := by decide +kernel
theorem dL_daysUntilFair_1 : decode cL_daysUntilFair 1 = .ok (.iconst 0, 1) := by decide +kernel
theorem dL_daysUntilFair_2 : decode cL_daysUntilFair 2 = .ok (.aload_n 0, 1) := by decide +kernel
theorem dL_daysUntilFair_3 : decode cL_daysUntilFair 3 = .ok (.iload_n 1, 1) := by decide +kernel
theorem dL_daysUntilFair_4 : decode cL_daysUntilFair 4 = .ok (.invokevirtual 48, 3) := by decide +kernel
theorem dL_daysUntilFair_7 : decode cL_daysUntilFair 7 = .ok (.i2l, 1) := by decide +kernel
theorem dL_daysUntilFair_8 : decode cL_daysUntilFair 8 = .ok (.lastore, 1) := by decide +kernel
theorem dL_daysUntilFair_9 : decode cL_daysUntilFair 9 = .ok (.goto 6, 3) := by decide +kernel
theorem dL_daysUntilFair_12 : decode cL_daysUntilFair 12 = .ok (.astore_n 3, 1) := by decide +kernel
theorem dL_daysUntilFair_13 : decode cL_daysUntilFair 13 = .ok (.iconst 1, 1) := by decide +kernel
theorem dL_daysUntilFair_14 : decode cL_daysUntilFair 14 = .ok (.ireturn, 1) := by decide +kernel
theorem dL_daysUntilFair_15 : decode cL_daysUntilFair 15 = .ok (.iconst 0, 1) := by decide +kernel
theorem dL_daysUntilFair_16 : decode cL_daysUntilFair 16 = .ok (.ireturn, 1) := by decide +kernel
theorem dL_oddsOf_0 : decode cL_oddsOf 0 = .ok (.aload_n 2, 1) := by decide +kernel
theorem dL_oddsOf_1 : decode cL_oddsOf 1 = .ok (.iconst 0, 1) := by decide +kernel
theorem dL_oddsOf_2 : decode cL_oddsOf 2 = .ok (.aload_n 0, 1) := by decide +kernel
theorem dL_oddsOf_3 : decode cL_oddsOf 3 = .ok (.iload_n 1, 1) := by decide +kernel
theorem dL_oddsOf_4 : decode cL_oddsOf 4 = .ok (.invokevirtual 51, 3) := by decide +kernel
theorem dL_oddsOf_7 : decode cL_oddsOf 7 = .ok (.i2l, 1) := by decide +kernel
theorem dL_oddsOf_8 : decode cL_oddsOf 8 = .ok (.lastore, 1) := by decide +kernel
theorem dL_oddsOf_9 : decode cL_oddsOf 9 = .ok (.goto 6, 3) := by decide +kernel
theorem dL_oddsOf_12 : decode cL_oddsOf 12 = .ok (.astore_n 3, 1) := by decide +kernel
theorem dL_oddsOf_13 : decode cL_oddsOf 13 = .ok (.iconst 1, 1) := by decide +kernel
theorem dL_oddsOf_14 : decode cL_oddsOf 14 = .ok (.ireturn, 1) := by decide +kernel
theorem dL_oddsOf_15 : decode cL_oddsOf 15 = .ok (.iconst 0, 1) := by decide +kernel
theorem dL_oddsOf_16 : decode cL_oddsOf 16 = .ok (.ireturn, 1) := by decide +kernel
theorem dL_chanceOf_0 : decode cL_chanceOf 0 = .ok (.aload_n 2, 1) := by decide +kernel
theorem dL_chanceOf_1 : decode cL_chanceOf 1 = .ok (.iconst 0, 1) := by decide +kernel
theorem dL_chanceOf_2 : decode cL_chanceOf 2 = .ok (.aload_n 0, 1) := by decide +kernel
theorem dL_chanceOf_3 : decode cL_chanceOf 3 = .ok (.iload_n 1, 1) := by decide +kernel
theorem dL_chanceOf_4 : decode cL_chanceOf 4 = .ok (.invokevirtual 54, 3) := by decide +kernel
theorem dL_chanceOf_7 : decode cL_chanceOf 7 = .ok (.dastore, 1) := by decide +kernel
theorem dL_chanceOf_8 : decode cL_chanceOf 8 = .ok (.goto 6, 3) := by decide +kernel
theorem dL_chanceOf_11 : decode cL_chanceOf 11 = .ok (.astore_n 3, 1) := by decide +kernel
theorem dL_chanceOf_12 : decode cL_chanceOf 12 = .ok (.iconst 1, 1) := by decide +kernel
theorem dL_chanceOf_13 : decode cL_chanceOf 13 = .ok (.ireturn, 1) := by decide +kernel
theorem dL_chanceOf_14 : decode cL_chanceOf 14 = .ok (.iconst 0, 1) := by decide +kernel
theorem dL_chanceOf_15 : decode cL_chanceOf 15 = .ok (.ireturn, 1) := by decide +kernel
theorem dL_drawnThisYear_0 : decode cL_drawnThisYear 0 = .ok (.aload_n 2, 1) := by decide +kernel
theorem dL_drawnThisYear_1 : decode cL_drawnThisYear 1 = .ok (.iconst 0, 1) := by decide +kernel
theorem dL_drawnThisYear_2 : decode cL_drawnThisYear 2 = .ok (.aload_n 0, 1) := by decide +kernel
theorem dL_drawnThisYear_3 : decode cL_drawnThisYear 3 = .ok (.iload_n 1, 1) := by decide +kernel
theorem dL_drawnThisYear_4 : decode cL_drawnThisYear 4 = .ok (.invokevirtual 58, 3) := by decide +kernel
theorem dL_drawnThisYear_7 : decode cL_drawnThisYear 7 = .ok (.i2l, 1) := by decide +kernel
theorem dL_drawnThisYear_8 : decode cL_drawnThisYear 8 = .ok (.lastore, 1) := by decide +kernel
theorem dL_drawnThisYear_9 : decode cL_drawnThisYear 9 = .ok (.goto 6, 3) := by decide +kernel
theorem dL_drawnThisYear_12 : decode cL_drawnThisYear 12 = .ok (.astore_n 3, 1) := by decide +kernel
theorem dL_drawnThisYear_13 : decode cL_drawnThisYear 13 = .ok (.iconst 1, 1) := by decide +kernel
theorem dL_drawnThisYear_14 : decode cL_drawnThisYear 14 = .ok (.ireturn, 1) := by decide +kernel
theorem dL_drawnThisYear_15 : decode cL_drawnThisYear 15 = .ok (.iconst 0, 1) := by decide +kernel
theorem dL_drawnThisYear_16 : decode cL_drawnThisYear 16 = .ok (.ireturn, 1) := by decide +kernel
theorem dL_hasForecast_0 : decode cL_hasForecast 0 = .ok (.aload_n 3, 1) := by decide +kernel
theorem dL_hasForecast_1 : decode cL_hasForecast 1 = .ok (.iconst 0, 1) := by decide +kernel
theorem dL_hasForecast_2 : decode cL_hasForecast 2 = .ok (.aload_n 0, 1) := by decide +kernel
theorem dL_hasForecast_3 : decode cL_hasForecast 3 = .ok (.iload_n 1, 1) := by decide +kernel
theorem dL_hasForecast_4 : decode cL_hasForecast 4 = .ok (.iload_n 2, 1) := by decide +kernel
theorem dL_hasForecast_5 : decode cL_hasForecast 5 = .ok (.invokevirtual 61, 3) := by decide +kernel
theorem dL_hasForecast_8 : decode cL_hasForecast 8 = .ok (.ifCond .eq 7, 3) := by decide +kernel
theorem dL_hasForecast_11 : decode cL_hasForecast 11 = .ok (.lconst 1, 1) := by decide +kernel
theorem dL_hasForecast_12 : decode cL_hasForecast 12 = .ok (.goto 4, 3) := by decide +kernel
theorem dL_hasForecast_15 : decode cL_hasForecast 15 = .ok (.lconst 0, 1) := by decide +kernel
theorem dL_hasForecast_16 : decode cL_hasForecast 16 = .ok (.lastore, 1) := by decide +kernel
theorem dL_hasForecast_17 : decode cL_hasForecast 17 = .ok (.goto 7, 3) := by decide +kernel
theorem dL_hasForecast_20 : decode cL_hasForecast 20 = .ok (.astore 4, 2) := by decide +kernel
theorem dL_hasForecast_22 : decode cL_hasForecast 22 = .ok (.iconst 1, 1) := by decide +kernel
theorem dL_hasForecast_23 : decode cL_hasForecast 23 = .ok (.ireturn, 1) := by decide +kernel
theorem dL_hasForecast_24 : decode cL_hasForecast 24 = .ok (.iconst 0, 1) := by decide +kernel
theorem dL_hasForecast_25 : decode cL_hasForecast 25 = .ok (.ireturn, 1) := by decide +kernel
theorem dL_weatherOf_0 : decode cL_weatherOf 0 = .ok (.aload_n 3, 1) := by decide +kernel
theorem dL_weatherOf_1 : decode cL_weatherOf 1 = .ok (.iconst 0, 1) := by decide +kernel
theorem dL_weatherOf_2 : decode cL_weatherOf 2 = .ok (.aload_n 0, 1) := by decide +kernel
theorem dL_weatherOf_3 : decode cL_weatherOf 3 = .ok (.iload_n 1, 1) := by decide +kernel
theorem dL_weatherOf_4 : decode cL_weatherOf 4 = .ok (.iload_n 2, 1) := by decide +kernel
theorem dL_weatherOf_5 : decode cL_weatherOf 5 = .ok (.invokevirtual 65, 3) := by decide +kernel
theorem dL_weatherOf_8 : decode cL_weatherOf 8 = .ok (.i2l, 1) := by decide +kernel
theorem dL_weatherOf_9 : decode cL_weatherOf 9 = .ok (.lastore, 1) := by decide +kernel
theorem dL_weatherOf_10 : decode cL_weatherOf 10 = .ok (.goto 11, 3) := by decide +kernel
theorem dL_weatherOf_13 : decode cL_weatherOf 13 = .ok (.astore 4, 2) := by decide +kernel
theorem dL_weatherOf_15 : decode cL_weatherOf 15 = .ok (.iconst 1, 1) := by decide +kernel
theorem dL_weatherOf_16 : decode cL_weatherOf 16 = .ok (.ireturn, 1) := by decide +kernel
theorem dL_weatherOf_17 : decode cL_weatherOf 17 = .ok (.astore 4, 2) := by decide +kernel
theorem dL_weatherOf_19 : decode cL_weatherOf 19 = .ok (.iconst 2, 1) := by decide +kernel
theorem dL_weatherOf_20 : decode cL_weatherOf 20 = .ok (.ireturn, 1) := by decide +kernel
theorem dL_weatherOf_21 : decode cL_weatherOf 21 = .ok (.iconst 0, 1) := by decide +kernel
theorem dL_weatherOf_22 : decode cL_weatherOf 22 = .ok (.ireturn, 1) := by decide +kernel
theorem dL_soldOf_0 : decode cL_soldOf 0 = .ok (.aload_n 3, 1) := by decide +kernel
theorem dL_soldOf_1 : decode cL_soldOf 1 = .ok (.iconst 0, 1) := by decide +kernel
theorem dL_soldOf_2 : decode cL_soldOf 2 = .ok (.aload_n 0, 1) := by decide +kernel
theorem dL_soldOf_3 : decode cL_soldOf 3 = .ok (.iload_n 1, 1) := by decide +kernel
theorem dL_soldOf_4 : decode cL_soldOf 4 = .ok (.iload_n 2, 1) := by decide +kernel
theorem dL_soldOf_5 : decode cL_soldOf 5 = .ok (.invokevirtual 71, 3) := by decide +kernel
theorem dL_soldOf_8 : decode cL_soldOf 8 = .ok (.i2l, 1) := by decide +kernel
theorem dL_soldOf_9 : decode cL_soldOf 9 = .ok (.lastore, 1) := by decide +kernel
theorem dL_soldOf_10 : decode cL_soldOf 10 = .ok (.goto 11, 3) := by decide +kernel
theorem dL_soldOf_13 : decode cL_soldOf 13 = .ok (.astore 4, 2) := by decide +kernel
theorem dL_soldOf_15 : decode cL_soldOf 15 = .ok (.iconst 1, 1) := by decide +kernel
theorem dL_soldOf_16 : decode cL_soldOf 16 = .ok (.ireturn, 1) := by decide +kernel
theorem dL_soldOf_17 : decode cL_soldOf 17 = .ok (.astore 4, 2) := by decide +kernel
theorem dL_soldOf_19 : decode cL_soldOf 19 = .ok (.iconst 2, 1) := by decide +kernel
theorem dL_soldOf_20 : decode cL_soldOf 20 = .ok (.ireturn, 1) := by decide +kernel
theorem dL_soldOf_21 : decode cL_soldOf 21 = .ok (.iconst 0, 1) := by decide +kernel
theorem dL_soldOf_22 : decode cL_soldOf 22 = .ok (.ireturn, 1) := by decide +kernel
theorem dL_paidOf_0 : decode cL_paidOf 0 = .ok (.aload_n 3, 1) := by decide +kernel
theorem dL_paidOf_1 : decode cL_paidOf 1 = .ok (.iconst 0, 1) := by decide +kernel
theorem dL_paidOf_2 : decode cL_paidOf 2 = .ok (.aload_n 0, 1) := by decide +kernel
theorem dL_paidOf_3 : decode cL_paidOf 3 = .ok (.iload_n 1, 1) := by decide +kernel
theorem dL_paidOf_4 : decode cL_paidOf 4 = .ok (.iload_n 2, 1) := by decide +kernel
theorem dL_paidOf_5 : decode cL_paidOf 5 = .ok (.invokevirtual 74, 3) := by decide +kernel
theorem dL_paidOf_8 : decode cL_paidOf 8 = .ok (.i2l, 1) := by decide +kernel
theorem dL_paidOf_9 : decode cL_paidOf 9 = .ok (.lastore, 1) := by decide +kernel
theorem dL_paidOf_10 : decode cL_paidOf 10 = .ok (.goto 11, 3) := by decide +kernel
theorem dL_paidOf_13 : decode cL_paidOf 13 = .ok (.astore 4, 2) := by decide +kernel
theorem dL_paidOf_15 : decode cL_paidOf 15 = .ok (.iconst 1, 1) := by decide +kernel
theorem dL_paidOf_16 : decode cL_paidOf 16 = .ok (.ireturn, 1) := by decide +kernel
theorem dL_paidOf_17 : decode cL_paidOf 17 = .ok (.astore 4, 2) := by decide +kernel
theorem dL_paidOf_19 : decode cL_paidOf 19 = .ok (.iconst 2, 1) := by decide +kernel
theorem dL_paidOf_20 : decode cL_paidOf 20 = .ok (.ireturn, 1) := by decide +kernel
theorem dL_paidOf_21 : decode cL_paidOf 21 = .ok (.iconst 0, 1) := by decide +kernel
theorem dL_paidOf_22 : decode cL_paidOf 22 = .ok (.ireturn, 1) := by decide +kernel
theorem dL_pageOf_0 : decode cL_pageOf 0 = .ok (.aload_n 3, 1) := by decide +kernel
theorem dL_pageOf_1 : decode cL_pageOf 1 = .ok (.iconst 0, 1) := by decide +kernel
theorem dL_pageOf_2 : decode cL_pageOf 2 = .ok (.aload_n 0, 1) := by decide +kernel
theorem dL_pageOf_3 : decode cL_pageOf 3 = .ok (.iload_n 1, 1) := by decide +kernel
theorem dL_pageOf_4 : decode cL_pageOf 4 = .ok (.iload_n 2, 1) := by decide +kernel
theorem dL_pageOf_5 : decode cL_pageOf 5 = .ok (.invokevirtual 77, 3) := by decide +kernel
theorem dL_pageOf_8 : decode cL_pageOf 8 = .ok (.i2l, 1) := by decide +kernel
theorem dL_pageOf_9 : decode cL_pageOf 9 = .ok (.lastore, 1) := by decide +kernel
theorem dL_pageOf_10 : decode cL_pageOf 10 = .ok (.goto 11, 3) := by decide +kernel
theorem dL_pageOf_13 : decode cL_pageOf 13 = .ok (.astore 4, 2) := by decide +kernel
theorem dL_pageOf_15 : decode cL_pageOf 15 = .ok (.iconst 1, 1) := by decide +kernel
theorem dL_pageOf_16 : decode cL_pageOf 16 = .ok (.ireturn, 1) := by decide +kernel
theorem dL_pageOf_17 : decode cL_pageOf 17 = .ok (.astore 4, 2) := by decide +kernel
theorem dL_pageOf_19 : decode cL_pageOf 19 = .ok (.iconst 2, 1) := by decide +kernel
theorem dL_pageOf_20 : decode cL_pageOf 20 = .ok (.ireturn, 1) := by decide +kernel
theorem dL_pageOf_21 : decode cL_pageOf 21 = .ok (.iconst 0, 1) := by decide +kernel
theorem dL_pageOf_22 : decode cL_pageOf 22 = .ok (.ireturn, 1) := by decide +kernel
theorem dL_forecastAt_0 : decode cL_forecastAt 0 = .ok (.aload_n 2, 1) := by decide +kernel
theorem dL_forecastAt_1 : decode cL_forecastAt 1 = .ok (.iconst 0, 1) := by decide +kernel
theorem dL_forecastAt_2 : decode cL_forecastAt 2 = .ok (.aload_n 0, 1) := by decide +kernel
theorem dL_forecastAt_3 : decode cL_forecastAt 3 = .ok (.iload_n 1, 1) := by decide +kernel
theorem dL_forecastAt_4 : decode cL_forecastAt 4 = .ok (.invokevirtual 80, 3) := by decide +kernel
theorem dL_forecastAt_7 : decode cL_forecastAt 7 = .ok (.i2l, 1) := by decide +kernel
theorem dL_forecastAt_8 : decode cL_forecastAt 8 = .ok (.lastore, 1) := by decide +kernel
theorem dL_forecastAt_9 : decode cL_forecastAt 9 = .ok (.goto 6, 3) := by decide +kernel
theorem dL_forecastAt_12 : decode cL_forecastAt 12 = .ok (.astore_n 3, 1) := by decide +kernel
theorem dL_forecastAt_13 : decode cL_forecastAt 13 = .ok (.iconst 1, 1) := by decide +kernel
theorem dL_forecastAt_14 : decode cL_forecastAt 14 = .ok (.ireturn, 1) := by decide +kernel
theorem dL_forecastAt_15 : decode cL_forecastAt 15 = .ok (.iconst 0, 1) := by decide +kernel
theorem dL_forecastAt_16 : decode cL_forecastAt 16 = .ok (.ireturn, 1) := by decide +kernel
theorem dL_refundOf_0 : decode cL_refundOf 0 = .ok (.aload_n 2, 1) := by decide +kernel
theorem dL_refundOf_1 : decode cL_refundOf 1 = .ok (.iconst 0, 1) := by decide +kernel
theorem dL_refundOf_2 : decode cL_refundOf 2 = .ok (.aload_n 0, 1) := by decide +kernel
theorem dL_refundOf_3 : decode cL_refundOf 3 = .ok (.iload_n 1, 1) := by decide +kernel
theorem dL_refundOf_4 : decode cL_refundOf 4 = .ok (.invokevirtual 83, 3) := by decide +kernel
theorem dL_refundOf_7 : decode cL_refundOf 7 = .ok (.i2l, 1) := by decide +kernel
theorem dL_refundOf_8 : decode cL_refundOf 8 = .ok (.lastore, 1) := by decide +kernel
theorem dL_refundOf_9 : decode cL_refundOf 9 = .ok (.goto 6, 3) := by decide +kernel
theorem dL_refundOf_12 : decode cL_refundOf 12 = .ok (.astore_n 3, 1) := by decide +kernel
theorem dL_refundOf_13 : decode cL_refundOf 13 = .ok (.iconst 1, 1) := by decide +kernel
theorem dL_refundOf_14 : decode cL_refundOf 14 = .ok (.ireturn, 1) := by decide +kernel
theorem dL_refundOf_15 : decode cL_refundOf 15 = .ok (.iconst 0, 1) := by decide +kernel
theorem dL_refundOf_16 : decode cL_refundOf 16 = .ok (.ireturn, 1) := by decide +kernel
theorem dL_canRetract_0 : decode cL_canRetract 0 = .ok (.aload_n 2, 1) := by decide +kernel
theorem dL_canRetract_1 : decode cL_canRetract 1 = .ok (.iconst 0, 1) := by decide +kernel
theorem dL_canRetract_2 : decode cL_canRetract 2 = .ok (.aload_n 0, 1) := by decide +kernel
theorem dL_canRetract_3 : decode cL_canRetract 3 = .ok (.iload_n 1, 1) := by decide +kernel
theorem dL_canRetract_4 : decode cL_canRetract 4 = .ok (.invokevirtual 86, 3) := by decide +kernel
theorem dL_canRetract_7 : decode cL_canRetract 7 = .ok (.ifCond .eq 7, 3) := by decide +kernel
theorem dL_canRetract_10 : decode cL_canRetract 10 = .ok (.lconst 1, 1) := by decide +kernel
theorem dL_canRetract_11 : decode cL_canRetract 11 = .ok (.goto 4, 3) := by decide +kernel
theorem dL_canRetract_14 : decode cL_canRetract 14 = .ok (.lconst 0, 1) := by decide +kernel
theorem dL_canRetract_15 : decode cL_canRetract 15 = .ok (.lastore, 1) := by decide +kernel
theorem dL_canRetract_16 : decode cL_canRetract 16 = .ok (.goto 6, 3) := by decide +kernel
theorem dL_canRetract_19 : decode cL_canRetract 19 = .ok (.astore_n 3, 1) := by decide +kernel
theorem dL_canRetract_20 : decode cL_canRetract 20 = .ok (.iconst 1, 1) := by decide +kernel
theorem dL_canRetract_21 : decode cL_canRetract 21 = .ok (.ireturn, 1) := by decide +kernel
theorem dL_canRetract_22 : decode cL_canRetract 22 = .ok (.iconst 0, 1) := by decide +kernel
theorem dL_canRetract_23 : decode cL_canRetract 23 = .ok (.ireturn, 1) := by decide +kernel
theorem dL_printRefusal_0 : decode cL_printRefusal 0 = .ok (.aload_n 3, 1) := by decide +kernel
theorem dL_printRefusal_1 : decode cL_printRefusal 1 = .ok (.iconst 0, 1) := by decide +kernel
theorem dL_printRefusal_2 : decode cL_printRefusal 2 = .ok (.aload_n 0, 1) := by decide +kernel
theorem dL_printRefusal_3 : decode cL_printRefusal 3 = .ok (.iload_n 1, 1) := by decide +kernel
theorem dL_printRefusal_4 : decode cL_printRefusal 4 = .ok (.iload_n 2, 1) := by decide +kernel
theorem dL_printRefusal_5 : decode cL_printRefusal 5 = .ok (.invokevirtual 90, 3) := by decide +kernel
theorem dL_printRefusal_8 : decode cL_printRefusal 8 = .ok (.i2l, 1) := by decide +kernel
theorem dL_printRefusal_9 : decode cL_printRefusal 9 = .ok (.lastore, 1) := by decide +kernel
theorem dL_printRefusal_10 : decode cL_printRefusal 10 = .ok (.goto 7, 3) := by decide +kernel
theorem dL_printRefusal_13 : decode cL_printRefusal 13 = .ok (.astore 4, 2) := by decide +kernel
theorem dL_printRefusal_15 : decode cL_printRefusal 15 = .ok (.iconst 1, 1) := by decide +kernel
theorem dL_printRefusal_16 : decode cL_printRefusal 16 = .ok (.ireturn, 1) := by decide +kernel
theorem dL_printRefusal_17 : decode cL_printRefusal 17 = .ok (.iconst 0, 1) := by decide +kernel
theorem dL_printRefusal_18 : decode cL_printRefusal 18 = .ok (.ireturn, 1) := by decide +kernel
theorem dL_tomorrowIn_0 : decode cL_tomorrowIn 0 = .ok (.aload_n 2, 1) := by decide +kernel
theorem dL_tomorrowIn_1 : decode cL_tomorrowIn 1 = .ok (.iconst 0, 1) := by decide +kernel
theorem dL_tomorrowIn_2 : decode cL_tomorrowIn 2 = .ok (.aload_n 0, 1) := by decide +kernel
theorem dL_tomorrowIn_3 : decode cL_tomorrowIn 3 = .ok (.iload_n 1, 1) := by decide +kernel
theorem dL_tomorrowIn_4 : decode cL_tomorrowIn 4 = .ok (.invokevirtual 93, 3) := by decide +kernel
theorem dL_tomorrowIn_7 : decode cL_tomorrowIn 7 = .ok (.i2l, 1) := by decide +kernel
theorem dL_tomorrowIn_8 : decode cL_tomorrowIn 8 = .ok (.lastore, 1) := by decide +kernel
theorem dL_tomorrowIn_9 : decode cL_tomorrowIn 9 = .ok (.goto 6, 3) := by decide +kernel
theorem dL_tomorrowIn_12 : decode cL_tomorrowIn 12 = .ok (.astore_n 3, 1) := by decide +kernel
theorem dL_tomorrowIn_13 : decode cL_tomorrowIn 13 = .ok (.iconst 1, 1) := by decide +kernel
theorem dL_tomorrowIn_14 : decode cL_tomorrowIn 14 = .ok (.ireturn, 1) := by decide +kernel
theorem dL_tomorrowIn_15 : decode cL_tomorrowIn 15 = .ok (.iconst 0, 1) := by decide +kernel
theorem dL_tomorrowIn_16 : decode cL_tomorrowIn 16 = .ok (.ireturn, 1) := by decide +kernel
theorem dL_regretAt_0 : decode cL_regretAt 0 = .ok (.aload_n 2, 1) := by decide +kernel
theorem dL_regretAt_1 : decode cL_regretAt 1 = .ok (.iconst 0, 1) := by decide +kernel
theorem dL_regretAt_2 : decode cL_regretAt 2 = .ok (.aload_n 0, 1) := by decide +kernel
theorem dL_regretAt_3 : decode cL_regretAt 3 = .ok (.iload_n 1, 1) := by decide +kernel
theorem dL_regretAt_4 : decode cL_regretAt 4 = .ok (.invokevirtual 96, 3) := by decide +kernel
theorem dL_regretAt_7 : decode cL_regretAt 7 = .ok (.i2l, 1) := by decide +kernel
theorem dL_regretAt_8 : decode cL_regretAt 8 = .ok (.lastore, 1) := by decide +kernel
theorem dL_regretAt_9 : decode cL_regretAt 9 = .ok (.goto 6, 3) := by decide +kernel
theorem dL_regretAt_12 : decode cL_regretAt 12 = .ok (.astore_n 3, 1) := by decide +kernel
theorem dL_regretAt_13 : decode cL_regretAt 13 = .ok (.iconst 1, 1) := by decide +kernel
theorem dL_regretAt_14 : decode cL_regretAt 14 = .ok (.ireturn, 1) := by decide +kernel
theorem dL_regretAt_15 : decode cL_regretAt 15 = .ok (.iconst 0, 1) := by decide +kernel
theorem dL_regretAt_16 : decode cL_regretAt 16 = .ok (.ireturn, 1) := by decide +kernel
theorem dL_coinsAfter_0 : decode cL_coinsAfter 0 = .ok (.aload_n 2, 1) := by decide +kernel
theorem dL_coinsAfter_1 : decode cL_coinsAfter 1 = .ok (.iconst 0, 1) := by decide +kernel
theorem dL_coinsAfter_2 : decode cL_coinsAfter 2 = .ok (.aload_n 0, 1) := by decide +kernel
theorem dL_coinsAfter_3 : decode cL_coinsAfter 3 = .ok (.iload_n 1, 1) := by decide +kernel
theorem dL_coinsAfter_4 : decode cL_coinsAfter 4 = .ok (.invokevirtual 99, 3) := by decide +kernel
theorem dL_coinsAfter_7 : decode cL_coinsAfter 7 = .ok (.i2l, 1) := by decide +kernel
theorem dL_coinsAfter_8 : decode cL_coinsAfter 8 = .ok (.lastore, 1) := by decide +kernel
theorem dL_coinsAfter_9 : decode cL_coinsAfter 9 = .ok (.goto 6, 3) := by decide +kernel
theorem dL_coinsAfter_12 : decode cL_coinsAfter 12 = .ok (.astore_n 3, 1) := by decide +kernel
theorem dL_coinsAfter_13 : decode cL_coinsAfter 13 = .ok (.iconst 1, 1) := by decide +kernel
theorem dL_coinsAfter_14 : decode cL_coinsAfter 14 = .ok (.ireturn, 1) := by decide +kernel
theorem dL_coinsAfter_15 : decode cL_coinsAfter 15 = .ok (.iconst 0, 1) := by decide +kernel
theorem dL_coinsAfter_16 : decode cL_coinsAfter 16 = .ok (.ireturn, 1) := by decide +kernel
theorem dL_trustAfter_0 : decode cL_trustAfter 0 = .ok (.aload_n 3, 1) := by decide +kernel
theorem dL_trustAfter_1 : decode cL_trustAfter 1 = .ok (.iconst 0, 1) := by decide +kernel
theorem dL_trustAfter_2 : decode cL_trustAfter 2 = .ok (.aload_n 0, 1) := by decide +kernel
theorem dL_trustAfter_3 : decode cL_trustAfter 3 = .ok (.iload_n 1, 1) := by decide +kernel
theorem dL_trustAfter_4 : decode cL_trustAfter 4 = .ok (.iload_n 2, 1) := by decide +kernel
theorem dL_trustAfter_5 : decode cL_trustAfter 5 = .ok (.invokevirtual 102, 3) := by decide +kernel
theorem dL_trustAfter_8 : decode cL_trustAfter 8 = .ok (.i2l, 1) := by decide +kernel
theorem dL_trustAfter_9 : decode cL_trustAfter 9 = .ok (.lastore, 1) := by decide +kernel
theorem dL_trustAfter_10 : decode cL_trustAfter 10 = .ok (.goto 11, 3) := by decide +kernel
theorem dL_trustAfter_13 : decode cL_trustAfter 13 = .ok (.astore 4, 2) := by decide +kernel
theorem dL_trustAfter_15 : decode cL_trustAfter 15 = .ok (.iconst 1, 1) := by decide +kernel
theorem dL_trustAfter_16 : decode cL_trustAfter 16 = .ok (.ireturn, 1) := by decide +kernel
theorem dL_trustAfter_17 : decode cL_trustAfter 17 = .ok (.astore 4, 2) := by decide +kernel
theorem dL_trustAfter_19 : decode cL_trustAfter 19 = .ok (.iconst 2, 1) := by decide +kernel
theorem dL_trustAfter_20 : decode cL_trustAfter 20 = .ok (.ireturn, 1) := by decide +kernel
theorem dL_trustAfter_21 : decode cL_trustAfter 21 = .ok (.iconst 0, 1) := by decide +kernel
theorem dL_trustAfter_22 : decode cL_trustAfter 22 = .ok (.ireturn, 1) := by decide +kernel
theorem dL_print_0 : decode cL_print 0 = .ok (.aload 4, 2) := by decide +kernel
theorem dL_print_2 : decode cL_print 2 = .ok (.iconst 0, 1) := by decide +kernel
theorem dL_print_3 : decode cL_print 3 = .ok (.aload_n 0, 1) := by decide +kernel
theorem dL_print_4 : decode cL_print 4 = .ok (.iload_n 1, 1) := by decide +kernel
theorem dL_print_5 : decode cL_print 5 = .ok (.iload_n 2, 1) := by decide +kernel
theorem dL_print_6 : decode cL_print 6 = .ok (.iload_n 3, 1) := by decide +kernel
theorem dL_print_7 : decode cL_print 7 = .ok (.invokevirtual 105, 3) := by decide +kernel
theorem dL_print_10 : decode cL_print 10 = .ok (.i2l, 1) := by decide +kernel
theorem dL_print_11 : decode cL_print 11 = .ok (.lastore, 1) := by decide +kernel
theorem dL_print_12 : decode cL_print 12 = .ok (.goto 15, 3) := by decide +kernel
theorem dL_print_15 : decode cL_print 15 = .ok (.astore 5, 2) := by decide +kernel
theorem dL_print_17 : decode cL_print 17 = .ok (.iconst 1, 1) := by decide +kernel
theorem dL_print_18 : decode cL_print 18 = .ok (.ireturn, 1) := by decide +kernel
theorem dL_print_19 : decode cL_print 19 = .ok (.astore 5, 2) := by decide +kernel
theorem dL_print_21 : decode cL_print 21 = .ok (.iconst 2, 1) := by decide +kernel
theorem dL_print_22 : decode cL_print 22 = .ok (.ireturn, 1) := by decide +kernel
theorem dL_print_23 : decode cL_print 23 = .ok (.astore 5, 2) := by decide +kernel
theorem dL_print_25 : decode cL_print 25 = .ok (.iconst 3, 1) := by decide +kernel
theorem dL_print_26 : decode cL_print 26 = .ok (.ireturn, 1) := by decide +kernel
theorem dL_print_27 : decode cL_print 27 = .ok (.iconst 0, 1) := by decide +kernel
theorem dL_print_28 : decode cL_print 28 = .ok (.ireturn, 1) := by decide +kernel
theorem dL_retract_0 : decode cL_retract 0 = .ok (.aload_n 2, 1) := by decide +kernel
theorem dL_retract_1 : decode cL_retract 1 = .ok (.iconst 0, 1) := by decide +kernel
theorem dL_retract_2 : decode cL_retract 2 = .ok (.aload_n 0, 1) := by decide +kernel
theorem dL_retract_3 : decode cL_retract 3 = .ok (.iload_n 1, 1) := by decide +kernel
theorem dL_retract_4 : decode cL_retract 4 = .ok (.invokevirtual 109, 3) := by decide +kernel
theorem dL_retract_7 : decode cL_retract 7 = .ok (.i2l, 1) := by decide +kernel
theorem dL_retract_8 : decode cL_retract 8 = .ok (.lastore, 1) := by decide +kernel
theorem dL_retract_9 : decode cL_retract 9 = .ok (.goto 9, 3) := by decide +kernel
theorem dL_retract_12 : decode cL_retract 12 = .ok (.astore_n 3, 1) := by decide +kernel
theorem dL_retract_13 : decode cL_retract 13 = .ok (.iconst 1, 1) := by decide +kernel
theorem dL_retract_14 : decode cL_retract 14 = .ok (.ireturn, 1) := by decide +kernel
theorem dL_retract_15 : decode cL_retract 15 = .ok (.astore_n 3, 1) := by decide +kernel
theorem dL_retract_16 : decode cL_retract 16 = .ok (.iconst 2, 1) := by decide +kernel
theorem dL_retract_17 : decode cL_retract 17 = .ok (.ireturn, 1) := by decide +kernel
theorem dL_retract_18 : decode cL_retract 18 = .ok (.iconst 0, 1) := by decide +kernel
theorem dL_retract_19 : decode cL_retract 19 = .ok (.ireturn, 1) := by decide +kernel
theorem dL_setTrust_0 : decode cL_setTrust 0 = .ok (.aload_n 3, 1) := by decide +kernel
theorem dL_setTrust_1 : decode cL_setTrust 1 = .ok (.iconst 0, 1) := by decide +kernel
theorem dL_setTrust_2 : decode cL_setTrust 2 = .ok (.aload_n 0, 1) := by decide +kernel
theorem dL_setTrust_3 : decode cL_setTrust 3 = .ok (.iload_n 1, 1) := by decide +kernel
theorem dL_setTrust_4 : decode cL_setTrust 4 = .ok (.iload_n 2, 1) := by decide +kernel
theorem dL_setTrust_5 : decode cL_setTrust 5 = .ok (.invokevirtual 112, 3) := by decide +kernel
theorem dL_setTrust_8 : decode cL_setTrust 8 = .ok (.i2l, 1) := by decide +kernel
theorem dL_setTrust_9 : decode cL_setTrust 9 = .ok (.lastore, 1) := by decide +kernel
theorem dL_setTrust_10 : decode cL_setTrust 10 = .ok (.goto 11, 3) := by decide +kernel
theorem dL_setTrust_13 : decode cL_setTrust 13 = .ok (.astore 4, 2) := by decide +kernel
theorem dL_setTrust_15 : decode cL_setTrust 15 = .ok (.iconst 1, 1) := by decide +kernel
theorem dL_setTrust_16 : decode cL_setTrust 16 = .ok (.ireturn, 1) := by decide +kernel
theorem dL_setTrust_17 : decode cL_setTrust 17 = .ok (.astore 4, 2) := by decide +kernel
theorem dL_setTrust_19 : decode cL_setTrust 19 = .ok (.iconst 2, 1) := by decide +kernel
theorem dL_setTrust_20 : decode cL_setTrust 20 = .ok (.ireturn, 1) := by decide +kernel
theorem dL_setTrust_21 : decode cL_setTrust 21 = .ok (.iconst 0, 1) := by decide +kernel
theorem dL_setTrust_22 : decode cL_setTrust 22 = .ok (.ireturn, 1) := by decide +kernel
theorem dL_setPeople_0 : decode cL_setPeople 0 = .ok (.aload_n 3, 1) := by decide +kernel
theorem dL_setPeople_1 : decode cL_setPeople 1 = .ok (.iconst 0, 1) := by decide +kernel
theorem dL_setPeople_2 : decode cL_setPeople 2 = .ok (.aload_n 0, 1) := by decide +kernel
theorem dL_setPeople_3 : decode cL_setPeople 3 = .ok (.iload_n 1, 1) := by decide +kernel
theorem dL_setPeople_4 : decode cL_setPeople 4 = .ok (.iload_n 2, 1) := by decide +kernel
theorem dL_setPeople_5 : decode cL_setPeople 5 = .ok (.invokevirtual 115, 3) := by decide +kernel
theorem dL_setPeople_8 : decode cL_setPeople 8 = .ok (.i2l, 1) := by decide +kernel
theorem dL_setPeople_9 : decode cL_setPeople 9 = .ok (.lastore, 1) := by decide +kernel
theorem dL_setPeople_10 : decode cL_setPeople 10 = .ok (.goto 11, 3) := by decide +kernel
theorem dL_setPeople_13 : decode cL_setPeople 13 = .ok (.astore 4, 2) := by decide +kernel
theorem dL_setPeople_15 : decode cL_setPeople 15 = .ok (.iconst 1, 1) := by decide +kernel
theorem dL_setPeople_16 : decode cL_setPeople 16 = .ok (.ireturn, 1) := by decide +kernel
theorem dL_setPeople_17 : decode cL_setPeople 17 = .ok (.astore 4, 2) := by decide +kernel
theorem dL_setPeople_19 : decode cL_setPeople 19 = .ok (.iconst 2, 1) := by decide +kernel
theorem dL_setPeople_20 : decode cL_setPeople 20 = .ok (.ireturn, 1) := by decide +kernel
theorem dL_setPeople_21 : decode cL_setPeople 21 = .ok (.iconst 0, 1) := by decide +kernel
theorem dL_setPeople_22 : decode cL_setPeople 22 = .ok (.ireturn, 1) := by decide +kernel
theorem dL_setOdds_0 : decode cL_setOdds 0 = .ok (.aload_n 3, 1) := by decide +kernel
theorem dL_setOdds_1 : decode cL_setOdds 1 = .ok (.iconst 0, 1) := by decide +kernel
theorem dL_setOdds_2 : decode cL_setOdds 2 = .ok (.aload_n 0, 1) := by decide +kernel
theorem dL_setOdds_3 : decode cL_setOdds 3 = .ok (.iload_n 1, 1) := by decide +kernel
theorem dL_setOdds_4 : decode cL_setOdds 4 = .ok (.iload_n 2, 1) := by decide +kernel
theorem dL_setOdds_5 : decode cL_setOdds 5 = .ok (.invokevirtual 118, 3) := by decide +kernel
theorem dL_setOdds_8 : decode cL_setOdds 8 = .ok (.i2l, 1) := by decide +kernel
theorem dL_setOdds_9 : decode cL_setOdds 9 = .ok (.lastore, 1) := by decide +kernel
theorem dL_setOdds_10 : decode cL_setOdds 10 = .ok (.goto 11, 3) := by decide +kernel
theorem dL_setOdds_13 : decode cL_setOdds 13 = .ok (.astore 4, 2) := by decide +kernel
theorem dL_setOdds_15 : decode cL_setOdds 15 = .ok (.iconst 1, 1) := by decide +kernel
theorem dL_setOdds_16 : decode cL_setOdds 16 = .ok (.ireturn, 1) := by decide +kernel
theorem dL_setOdds_17 : decode cL_setOdds 17 = .ok (.astore 4, 2) := by decide +kernel
theorem dL_setOdds_19 : decode cL_setOdds 19 = .ok (.iconst 2, 1) := by decide +kernel
theorem dL_setOdds_20 : decode cL_setOdds 20 = .ok (.ireturn, 1) := by decide +kernel
theorem dL_setOdds_21 : decode cL_setOdds 21 = .ok (.iconst 0, 1) := by decide +kernel
theorem dL_setOdds_22 : decode cL_setOdds 22 = .ok (.ireturn, 1) := by decide +kernel
theorem dL_pass_0 : decode cL_pass 0 = .ok (.aload_n 2, 1) := by decide +kernel
theorem dL_pass_1 : decode cL_pass 1 = .ok (.iconst 0, 1) := by decide +kernel
theorem dL_pass_2 : decode cL_pass 2 = .ok (.aload_n 0, 1) := by decide +kernel
theorem dL_pass_3 : decode cL_pass 3 = .ok (.iload_n 1, 1) := by decide +kernel
theorem dL_pass_4 : decode cL_pass 4 = .ok (.invokevirtual 121, 3) := by decide +kernel
theorem dL_pass_7 : decode cL_pass 7 = .ok (.i2l, 1) := by decide +kernel
theorem dL_pass_8 : decode cL_pass 8 = .ok (.lastore, 1) := by decide +kernel
theorem dL_pass_9 : decode cL_pass 9 = .ok (.goto 6, 3) := by decide +kernel
theorem dL_pass_12 : decode cL_pass 12 = .ok (.astore_n 3, 1) := by decide +kernel
theorem dL_pass_13 : decode cL_pass 13 = .ok (.iconst 1, 1) := by decide +kernel
theorem dL_pass_14 : decode cL_pass 14 = .ok (.ireturn, 1) := by decide +kernel
theorem dL_pass_15 : decode cL_pass 15 = .ok (.iconst 0, 1) := by decide +kernel
theorem dL_pass_16 : decode cL_pass 16 = .ok (.ireturn, 1) := by decide +kernel
theorem dL_writePage_0 : decode cL_writePage 0 = .ok (.aload_n 2, 1) := by decide +kernel
theorem dL_writePage_1 : decode cL_writePage 1 = .ok (.iconst 0, 1) := by decide +kernel
theorem dL_writePage_2 : decode cL_writePage 2 = .ok (.aload_n 0, 1) := by decide +kernel
theorem dL_writePage_3 : decode cL_writePage 3 = .ok (.iload_n 1, 1) := by decide +kernel
theorem dL_writePage_4 : decode cL_writePage 4 = .ok (.invokevirtual 124, 3) := by decide +kernel
theorem dL_writePage_7 : decode cL_writePage 7 = .ok (.i2l, 1) := by decide +kernel
theorem dL_writePage_8 : decode cL_writePage 8 = .ok (.lastore, 1) := by decide +kernel
theorem dL_writePage_9 : decode cL_writePage 9 = .ok (.goto 6, 3) := by decide +kernel
theorem dL_writePage_12 : decode cL_writePage 12 = .ok (.astore_n 3, 1) := by decide +kernel
theorem dL_writePage_13 : decode cL_writePage 13 = .ok (.iconst 1, 1) := by decide +kernel
theorem dL_writePage_14 : decode cL_writePage 14 = .ok (.ireturn, 1) := by decide +kernel
theorem dL_writePage_15 : decode cL_writePage 15 = .ok (.iconst 0, 1) := by decide +kernel
theorem dL_writePage_16 : decode cL_writePage 16 = .ok (.ireturn, 1) := by decide +kernel
theorem dL_outputByte_0 : decode cL_outputByte 0 = .ok (.aload_n 2, 1) := by decide +kernel
theorem dL_outputByte_1 : decode cL_outputByte 1 = .ok (.iconst 0, 1) := by decide +kernel
theorem dL_outputByte_2 : decode cL_outputByte 2 = .ok (.aload_n 0, 1) := by decide +kernel
theorem dL_outputByte_3 : decode cL_outputByte 3 = .ok (.iload_n 1, 1) := by decide +kernel
theorem dL_outputByte_4 : decode cL_outputByte 4 = .ok (.invokevirtual 127, 3) := by decide +kernel
theorem dL_outputByte_7 : decode cL_outputByte 7 = .ok (.i2l, 1) := by decide +kernel
theorem dL_outputByte_8 : decode cL_outputByte 8 = .ok (.lastore, 1) := by decide +kernel
theorem dL_outputByte_9 : decode cL_outputByte 9 = .ok (.goto 6, 3) := by decide +kernel
theorem dL_outputByte_12 : decode cL_outputByte 12 = .ok (.astore_n 3, 1) := by decide +kernel
theorem dL_outputByte_13 : decode cL_outputByte 13 = .ok (.iconst 1, 1) := by decide +kernel
theorem dL_outputByte_14 : decode cL_outputByte 14 = .ok (.ireturn, 1) := by decide +kernel
theorem dL_outputByte_15 : decode cL_outputByte 15 = .ok (.iconst 0, 1) := by decide +kernel
theorem dL_outputByte_16 : decode cL_outputByte 16 = .ok (.ireturn, 1) := by decide +kernel
theorem dL_save_0 : decode cL_save 0 = .ok (.aload_n 2, 1) := by decide +kernel
theorem dL_save_1 : decode cL_save 1 = .ok (.iconst 0, 1) := by decide +kernel
theorem dL_save_2 : decode cL_save 2 = .ok (.aload_n 0, 1) := by decide +kernel
theorem dL_save_3 : decode cL_save 3 = .ok (.iload_n 1, 1) := by decide +kernel
theorem dL_save_4 : decode cL_save 4 = .ok (.invokevirtual 130, 3) := by decide +kernel
theorem dL_save_7 : decode cL_save 7 = .ok (.i2l, 1) := by decide +kernel
theorem dL_save_8 : decode cL_save 8 = .ok (.lastore, 1) := by decide +kernel
theorem dL_save_9 : decode cL_save 9 = .ok (.goto 6, 3) := by decide +kernel
theorem dL_save_12 : decode cL_save 12 = .ok (.astore_n 3, 1) := by decide +kernel
theorem dL_save_13 : decode cL_save 13 = .ok (.iconst 1, 1) := by decide +kernel
theorem dL_save_14 : decode cL_save 14 = .ok (.ireturn, 1) := by decide +kernel
theorem dL_save_15 : decode cL_save 15 = .ok (.iconst 0, 1) := by decide +kernel
theorem dL_save_16 : decode cL_save 16 = .ok (.ireturn, 1) := by decide +kernel
theorem dL_restore_0 : decode cL_restore 0 = .ok (.aload_n 2, 1) := by decide +kernel
theorem dL_restore_1 : decode cL_restore 1 = .ok (.iconst 0, 1) := by decide +kernel
theorem dL_restore_2 : decode cL_restore 2 = .ok (.aload_n 0, 1) := by decide +kernel
theorem dL_restore_3 : decode cL_restore 3 = .ok (.iload_n 1, 1) := by decide +kernel
theorem dL_restore_4 : decode cL_restore 4 = .ok (.invokevirtual 133, 3) := by decide +kernel
theorem dL_restore_7 : decode cL_restore 7 = .ok (.i2l, 1) := by decide +kernel
theorem dL_restore_8 : decode cL_restore 8 = .ok (.lastore, 1) := by decide +kernel
theorem dL_restore_9 : decode cL_restore 9 = .ok (.goto 9, 3) := by decide +kernel
theorem dL_restore_12 : decode cL_restore 12 = .ok (.astore_n 3, 1) := by decide +kernel
theorem dL_restore_13 : decode cL_restore 13 = .ok (.iconst 1, 1) := by decide +kernel
theorem dL_restore_14 : decode cL_restore 14 = .ok (.ireturn, 1) := by decide +kernel
theorem dL_restore_15 : decode cL_restore 15 = .ok (.astore_n 3, 1) := by decide +kernel
theorem dL_restore_16 : decode cL_restore 16 = .ok (.iconst 2, 1) := by decide +kernel
theorem dL_restore_17 : decode cL_restore 17 = .ok (.ireturn, 1) := by decide +kernel
theorem dL_restore_18 : decode cL_restore 18 = .ok (.iconst 0, 1) := by decide +kernel
theorem dL_restore_19 : decode cL_restore 19 = .ok (.ireturn, 1) := by decide +kernel
theorem dL_undo_0 : decode cL_undo 0 = .ok (.aload_n 1, 1) := by decide +kernel
theorem dL_undo_1 : decode cL_undo 1 = .ok (.iconst 0, 1) := by decide +kernel
theorem dL_undo_2 : decode cL_undo 2 = .ok (.aload_n 0, 1) := by decide +kernel
theorem dL_undo_3 : decode cL_undo 3 = .ok (.invokevirtual 136, 3) := by decide +kernel
theorem dL_undo_6 : decode cL_undo 6 = .ok (.i2l, 1) := by decide +kernel
theorem dL_undo_7 : decode cL_undo 7 = .ok (.lastore, 1) := by decide +kernel
theorem dL_undo_8 : decode cL_undo 8 = .ok (.goto 6, 3) := by decide +kernel
theorem dL_undo_11 : decode cL_undo 11 = .ok (.astore_n 2, 1) := by decide +kernel
theorem dL_undo_12 : decode cL_undo 12 = .ok (.iconst 1, 1) := by decide +kernel
theorem dL_undo_13 : decode cL_undo 13 = .ok (.ireturn, 1) := by decide +kernel
theorem dL_undo_14 : decode cL_undo 14 = .ok (.iconst 0, 1) := by decide +kernel
theorem dL_undo_15 : decode cL_undo 15 = .ok (.ireturn, 1) := by decide +kernel
theorem dL_law_0 : decode cL_law 0 = .ok (.new 8, 3) := by decide +kernel
theorem dL_law_3 : decode cL_law 3 = .ok (.dup, 1) := by decide +kernel
theorem dL_law_4 : decode cL_law 4 = .ok (.invokespecial 139, 3) := by decide +kernel
theorem dL_law_7 : decode cL_law 7 = .ok (.astore_n 1, 1) := by decide +kernel
theorem dL_law_8 : decode cL_law 8 = .ok (.new 140, 3) := by decide +kernel
theorem dL_law_11 : decode cL_law 11 = .ok (.dup, 1) := by decide +kernel
theorem dL_law_12 : decode cL_law 12 = .ok (.invokespecial 142, 3) := by decide +kernel
theorem dL_law_15 : decode cL_law 15 = .ok (.astore_n 2, 1) := by decide +kernel
theorem dL_law_16 : decode cL_law 16 = .ok (.iconst 1, 1) := by decide +kernel
theorem dL_law_17 : decode cL_law 17 = .ok (.newarray .long, 2) := by decide +kernel
theorem dL_law_19 : decode cL_law 19 = .ok (.astore_n 3, 1) := by decide +kernel
theorem dL_law_20 : decode cL_law 20 = .ok (.iconst 1, 1) := by decide +kernel
theorem dL_law_21 : decode cL_law 21 = .ok (.newarray .double, 2) := by decide +kernel
theorem dL_law_23 : decode cL_law 23 = .ok (.astore 4, 2) := by decide +kernel
theorem dL_law_25 : decode cL_law 25 = .ok (.iconst 0, 1) := by decide +kernel
theorem dL_law_26 : decode cL_law 26 = .ok (.istore 5, 2) := by decide +kernel
theorem dL_law_28 : decode cL_law 28 = .ok (.iload 5, 2) := by decide +kernel
theorem dL_law_30 : decode cL_law 30 = .ok (.aload_n 0, 1) := by decide +kernel
theorem dL_law_31 : decode cL_law 31 = .ok (.arraylength, 1) := by decide +kernel
theorem dL_law_32 : decode cL_law 32 = .ok (.bipush 6, 2) := by decide +kernel
theorem dL_law_34 : decode cL_law 34 = .ok (.isub, 1) := by decide +kernel
theorem dL_law_35 : decode cL_law 35 = .ok (.if_icmp .gt 2946, 3) := by decide +kernel
theorem dL_law_38 : decode cL_law 38 = .ok (.aload_n 0, 1) := by decide +kernel
theorem dL_law_39 : decode cL_law 39 = .ok (.iload 5, 2) := by decide +kernel
theorem dL_law_41 : decode cL_law 41 = .ok (.iaload, 1) := by decide +kernel
theorem dL_law_42 : decode cL_law 42 = .ok (.bipush 63, 2) := by decide +kernel
theorem dL_law_44 : decode cL_law 44 = .ok (.iand, 1) := by decide +kernel
theorem dL_law_45 : decode cL_law 45 = .ok (.tableswitch 2930 0 59 #[255, 359, 415, 459, 472, 485, 498, 511, 524, 537, 550, 563, 619, 675, 731, 787, 843, 899, 955, 1011, 1067, 1144, 1200, 1213, 1288, 1356, 1424, 1492, 1560, 1616, 1629, 1685, 1748, 1816, 1829, 1885, 1898, 1954, 1967, 1980, 1993, 2049, 2117, 2130, 2143, 2156, 2169, 2182, 2225, 2266, 2346, 2402, 2470, 2538, 2606, 2662, 2718, 2774, 2830, 2886], 255) := by decide +kernel
theorem dL_law_300 : decode cL_law 300 = .ok (.aload_n 1, 1) := by decide +kernel
theorem dL_law_301 : decode cL_law 301 = .ok (.aload_n 0, 1) := by decide +kernel
theorem dL_law_302 : decode cL_law 302 = .ok (.iload 5, 2) := by decide +kernel
theorem dL_law_304 : decode cL_law 304 = .ok (.iconst 1, 1) := by decide +kernel
theorem dL_law_305 : decode cL_law 305 = .ok (.iadd, 1) := by decide +kernel
theorem dL_law_306 : decode cL_law 306 = .ok (.iaload, 1) := by decide +kernel
theorem dL_law_307 : decode cL_law 307 = .ok (.aload_n 0, 1) := by decide +kernel
theorem dL_law_308 : decode cL_law 308 = .ok (.iload 5, 2) := by decide +kernel
theorem dL_law_310 : decode cL_law 310 = .ok (.iconst 2, 1) := by decide +kernel
theorem dL_law_311 : decode cL_law 311 = .ok (.iadd, 1) := by decide +kernel
theorem dL_law_312 : decode cL_law 312 = .ok (.iaload, 1) := by decide +kernel
theorem dL_law_313 : decode cL_law 313 = .ok (.aload_n 0, 1) := by decide +kernel
theorem dL_law_314 : decode cL_law 314 = .ok (.iload 5, 2) := by decide +kernel
theorem dL_law_316 : decode cL_law 316 = .ok (.iconst 3, 1) := by decide +kernel
theorem dL_law_317 : decode cL_law 317 = .ok (.iadd, 1) := by decide +kernel
theorem dL_law_318 : decode cL_law 318 = .ok (.iaload, 1) := by decide +kernel
theorem dL_law_319 : decode cL_law 319 = .ok (.aload_n 0, 1) := by decide +kernel
theorem dL_law_320 : decode cL_law 320 = .ok (.iload 5, 2) := by decide +kernel
theorem dL_law_322 : decode cL_law 322 = .ok (.iconst 4, 1) := by decide +kernel
theorem dL_law_323 : decode cL_law 323 = .ok (.iadd, 1) := by decide +kernel
theorem dL_law_324 : decode cL_law 324 = .ok (.iaload, 1) := by decide +kernel
theorem dL_law_325 : decode cL_law 325 = .ok (.aload_n 0, 1) := by decide +kernel
theorem dL_law_326 : decode cL_law 326 = .ok (.iload 5, 2) := by decide +kernel
theorem dL_law_328 : decode cL_law 328 = .ok (.iconst 5, 1) := by decide +kernel
theorem dL_law_329 : decode cL_law 329 = .ok (.iadd, 1) := by decide +kernel
theorem dL_law_330 : decode cL_law 330 = .ok (.iaload, 1) := by decide +kernel
theorem dL_law_331 : decode cL_law 331 = .ok (.aload_n 3, 1) := by decide +kernel
theorem dL_law_332 : decode cL_law 332 = .ok (.invokestatic 143, 3) := by decide +kernel
theorem dL_law_335 : decode cL_law 335 = .ok (.istore 6, 2) := by decide +kernel
theorem dL_law_337 : decode cL_law 337 = .ok (.aload_n 2, 1) := by decide +kernel
theorem dL_law_338 : decode cL_law 338 = .ok (.aload_n 0, 1) := by decide +kernel
theorem dL_law_339 : decode cL_law 339 = .ok (.iload 5, 2) := by decide +kernel
theorem dL_law_341 : decode cL_law 341 = .ok (.iconst 1, 1) := by decide +kernel
theorem dL_law_342 : decode cL_law 342 = .ok (.iadd, 1) := by decide +kernel
theorem dL_law_343 : decode cL_law 343 = .ok (.iaload, 1) := by decide +kernel
theorem dL_law_344 : decode cL_law 344 = .ok (.aload_n 0, 1) := by decide +kernel
theorem dL_law_345 : decode cL_law 345 = .ok (.iload 5, 2) := by decide +kernel
theorem dL_law_347 : decode cL_law 347 = .ok (.iconst 2, 1) := by decide +kernel
theorem dL_law_348 : decode cL_law 348 = .ok (.iadd, 1) := by decide +kernel
theorem dL_law_349 : decode cL_law 349 = .ok (.iaload, 1) := by decide +kernel
theorem dL_law_350 : decode cL_law 350 = .ok (.aload_n 0, 1) := by decide +kernel
theorem dL_law_351 : decode cL_law 351 = .ok (.iload 5, 2) := by decide +kernel
theorem dL_law_353 : decode cL_law 353 = .ok (.iconst 3, 1) := by decide +kernel
theorem dL_law_354 : decode cL_law 354 = .ok (.iadd, 1) := by decide +kernel
theorem dL_law_355 : decode cL_law 355 = .ok (.iaload, 1) := by decide +kernel
theorem dL_law_356 : decode cL_law 356 = .ok (.aload_n 0, 1) := by decide +kernel
theorem dL_law_357 : decode cL_law 357 = .ok (.iload 5, 2) := by decide +kernel
theorem dL_law_359 : decode cL_law 359 = .ok (.iconst 4, 1) := by decide +kernel
theorem dL_law_360 : decode cL_law 360 = .ok (.iadd, 1) := by decide +kernel
theorem dL_law_361 : decode cL_law 361 = .ok (.iaload, 1) := by decide +kernel
theorem dL_law_362 : decode cL_law 362 = .ok (.aload_n 0, 1) := by decide +kernel
theorem dL_law_363 : decode cL_law 363 = .ok (.iload 5, 2) := by decide +kernel
theorem dL_law_365 : decode cL_law 365 = .ok (.iconst 5, 1) := by decide +kernel
theorem dL_law_366 : decode cL_law 366 = .ok (.iadd, 1) := by decide +kernel
theorem dL_law_367 : decode cL_law 367 = .ok (.iaload, 1) := by decide +kernel
theorem dL_law_368 : decode cL_law 368 = .ok (.invokevirtual 148, 3) := by decide +kernel
theorem dL_law_371 : decode cL_law 371 = .ok (.istore 7, 2) := by decide +kernel
theorem dL_law_373 : decode cL_law 373 = .ok (.aload_n 2, 1) := by decide +kernel
theorem dL_law_374 : decode cL_law 374 = .ok (.invokevirtual 149, 3) := by decide +kernel
theorem dL_law_377 : decode cL_law 377 = .ok (.iload 6, 2) := by decide +kernel
theorem dL_law_379 : decode cL_law 379 = .ok (.if_icmp .eq 5, 3) := by decide +kernel
theorem dL_law_382 : decode cL_law 382 = .ok (.iconst 0, 1) := by decide +kernel
theorem dL_law_383 : decode cL_law 383 = .ok (.ireturn, 1) := by decide +kernel
theorem dL_law_384 : decode cL_law 384 = .ok (.iload 6, 2) := by decide +kernel
theorem dL_law_386 : decode cL_law 386 = .ok (.ifCond .ne 15, 3) := by decide +kernel
theorem dL_law_389 : decode cL_law 389 = .ok (.aload_n 3, 1) := by decide +kernel
theorem dL_law_390 : decode cL_law 390 = .ok (.iconst 0, 1) := by decide +kernel
theorem dL_law_391 : decode cL_law 391 = .ok (.laload, 1) := by decide +kernel
theorem dL_law_392 : decode cL_law 392 = .ok (.iload 7, 2) := by decide +kernel
theorem dL_law_394 : decode cL_law 394 = .ok (.i2l, 1) := by decide +kernel
theorem dL_law_395 : decode cL_law 395 = .ok (.lcmp, 1) := by decide +kernel
theorem dL_law_396 : decode cL_law 396 = .ok (.ifCond .eq 5, 3) := by decide +kernel
theorem dL_law_399 : decode cL_law 399 = .ok (.iconst 0, 1) := by decide +kernel
theorem dL_law_400 : decode cL_law 400 = .ok (.ireturn, 1) := by decide +kernel
theorem dL_law_401 : decode cL_law 401 = .ok (.goto 2574, 3) := by decide +kernel
theorem dL_law_404 : decode cL_law 404 = .ok (.aload_n 1, 1) := by decide +kernel
theorem dL_law_405 : decode cL_law 405 = .ok (.aload_n 0, 1) := by decide +kernel
theorem dL_law_406 : decode cL_law 406 = .ok (.iload 5, 2) := by decide +kernel
theorem dL_law_408 : decode cL_law 408 = .ok (.iconst 1, 1) := by decide +kernel
theorem dL_law_409 : decode cL_law 409 = .ok (.iadd, 1) := by decide +kernel
theorem dL_law_410 : decode cL_law 410 = .ok (.iaload, 1) := by decide +kernel
theorem dL_law_411 : decode cL_law 411 = .ok (.aload_n 3, 1) := by decide +kernel
theorem dL_law_412 : decode cL_law 412 = .ok (.invokestatic 152, 3) := by decide +kernel
theorem dL_law_415 : decode cL_law 415 = .ok (.istore 6, 2) := by decide +kernel
theorem dL_law_417 : decode cL_law 417 = .ok (.aload_n 2, 1) := by decide +kernel
theorem dL_law_418 : decode cL_law 418 = .ok (.aload_n 0, 1) := by decide +kernel
theorem dL_law_419 : decode cL_law 419 = .ok (.iload 5, 2) := by decide +kernel
theorem dL_law_421 : decode cL_law 421 = .ok (.iconst 1, 1) := by decide +kernel
theorem dL_law_422 : decode cL_law 422 = .ok (.iadd, 1) := by decide +kernel
theorem dL_law_423 : decode cL_law 423 = .ok (.iaload, 1) := by decide +kernel
theorem dL_law_424 : decode cL_law 424 = .ok (.invokevirtual 155, 3) := by decide +kernel
theorem dL_law_427 : decode cL_law 427 = .ok (.istore 7, 2) := by decide +kernel
theorem dL_law_429 : decode cL_law 429 = .ok (.aload_n 2, 1) := by decide +kernel
theorem dL_law_430 : decode cL_law 430 = .ok (.invokevirtual 149, 3) := by decide +kernel
theorem dL_law_433 : decode cL_law 433 = .ok (.iload 6, 2) := by decide +kernel
theorem dL_law_435 : decode cL_law 435 = .ok (.if_icmp .eq 5, 3) := by decide +kernel
theorem dL_law_438 : decode cL_law 438 = .ok (.iconst 0, 1) := by decide +kernel
theorem dL_law_439 : decode cL_law 439 = .ok (.ireturn, 1) := by decide +kernel
theorem dL_law_440 : decode cL_law 440 = .ok (.iload 6, 2) := by decide +kernel
theorem dL_law_442 : decode cL_law 442 = .ok (.ifCond .ne 15, 3) := by decide +kernel
theorem dL_law_445 : decode cL_law 445 = .ok (.aload_n 3, 1) := by decide +kernel
theorem dL_law_446 : decode cL_law 446 = .ok (.iconst 0, 1) := by decide +kernel
theorem dL_law_447 : decode cL_law 447 = .ok (.laload, 1) := by decide +kernel
theorem dL_law_448 : decode cL_law 448 = .ok (.iload 7, 2) := by decide +kernel
theorem dL_law_450 : decode cL_law 450 = .ok (.i2l, 1) := by decide +kernel
theorem dL_law_451 : decode cL_law 451 = .ok (.lcmp, 1) := by decide +kernel
theorem dL_law_452 : decode cL_law 452 = .ok (.ifCond .eq 5, 3) := by decide +kernel
theorem dL_law_455 : decode cL_law 455 = .ok (.iconst 0, 1) := by decide +kernel
theorem dL_law_456 : decode cL_law 456 = .ok (.ireturn, 1) := by decide +kernel
theorem dL_law_457 : decode cL_law 457 = .ok (.goto 2518, 3) := by decide +kernel
theorem dL_law_460 : decode cL_law 460 = .ok (.aload_n 1, 1) := by decide +kernel
theorem dL_law_461 : decode cL_law 461 = .ok (.aload_n 3, 1) := by decide +kernel
theorem dL_law_462 : decode cL_law 462 = .ok (.invokestatic 156, 3) := by decide +kernel
theorem dL_law_465 : decode cL_law 465 = .ok (.istore 6, 2) := by decide +kernel
theorem dL_law_467 : decode cL_law 467 = .ok (.aload_n 2, 1) := by decide +kernel
theorem dL_law_468 : decode cL_law 468 = .ok (.invokevirtual 159, 3) := by decide +kernel
theorem dL_law_471 : decode cL_law 471 = .ok (.istore 7, 2) := by decide +kernel
theorem dL_law_473 : decode cL_law 473 = .ok (.aload_n 2, 1) := by decide +kernel
theorem dL_law_474 : decode cL_law 474 = .ok (.invokevirtual 149, 3) := by decide +kernel
theorem dL_law_477 : decode cL_law 477 = .ok (.iload 6, 2) := by decide +kernel
theorem dL_law_479 : decode cL_law 479 = .ok (.if_icmp .eq 5, 3) := by decide +kernel
theorem dL_law_482 : decode cL_law 482 = .ok (.iconst 0, 1) := by decide +kernel
theorem dL_law_483 : decode cL_law 483 = .ok (.ireturn, 1) := by decide +kernel
theorem dL_law_484 : decode cL_law 484 = .ok (.iload 6, 2) := by decide +kernel
theorem dL_law_486 : decode cL_law 486 = .ok (.ifCond .ne 15, 3) := by decide +kernel
theorem dL_law_489 : decode cL_law 489 = .ok (.aload_n 3, 1) := by decide +kernel
theorem dL_law_490 : decode cL_law 490 = .ok (.iconst 0, 1) := by decide +kernel
theorem dL_law_491 : decode cL_law 491 = .ok (.laload, 1) := by decide +kernel
theorem dL_law_492 : decode cL_law 492 = .ok (.iload 7, 2) := by decide +kernel
theorem dL_law_494 : decode cL_law 494 = .ok (.i2l, 1) := by decide +kernel
theorem dL_law_495 : decode cL_law 495 = .ok (.lcmp, 1) := by decide +kernel
theorem dL_law_496 : decode cL_law 496 = .ok (.ifCond .eq 5, 3) := by decide +kernel
theorem dL_law_499 : decode cL_law 499 = .ok (.iconst 0, 1) := by decide +kernel
theorem dL_law_500 : decode cL_law 500 = .ok (.ireturn, 1) := by decide +kernel
theorem dL_law_501 : decode cL_law 501 = .ok (.goto 2474, 3) := by decide +kernel
theorem dL_law_504 : decode cL_law 504 = .ok (.aload_n 1, 1) := by decide +kernel
theorem dL_law_505 : decode cL_law 505 = .ok (.invokevirtual 160, 3) := by decide +kernel
theorem dL_law_508 : decode cL_law 508 = .ok (.aload_n 2, 1) := by decide +kernel
theorem dL_law_509 : decode cL_law 509 = .ok (.invokevirtual 163, 3) := by decide +kernel
theorem dL_law_512 : decode cL_law 512 = .ok (.if_icmp .eq 2463, 3) := by decide +kernel
theorem dL_law_515 : decode cL_law 515 = .ok (.iconst 0, 1) := by decide +kernel
theorem dL_law_516 : decode cL_law 516 = .ok (.ireturn, 1) := by decide +kernel
theorem dL_law_517 : decode cL_law 517 = .ok (.aload_n 1, 1) := by decide +kernel
theorem dL_law_518 : decode cL_law 518 = .ok (.invokevirtual 164, 3) := by decide +kernel
theorem dL_law_521 : decode cL_law 521 = .ok (.aload_n 2, 1) := by decide +kernel
theorem dL_law_522 : decode cL_law 522 = .ok (.invokevirtual 167, 3) := by decide +kernel
theorem dL_law_525 : decode cL_law 525 = .ok (.if_icmp .eq 2450, 3) := by decide +kernel
theorem dL_law_528 : decode cL_law 528 = .ok (.iconst 0, 1) := by decide +kernel
theorem dL_law_529 : decode cL_law 529 = .ok (.ireturn, 1) := by decide +kernel
theorem dL_law_530 : decode cL_law 530 = .ok (.aload_n 1, 1) := by decide +kernel
theorem dL_law_531 : decode cL_law 531 = .ok (.invokevirtual 168, 3) := by decide +kernel
theorem dL_law_534 : decode cL_law 534 = .ok (.aload_n 2, 1) := by decide +kernel
theorem dL_law_535 : decode cL_law 535 = .ok (.invokevirtual 171, 3) := by decide +kernel
theorem dL_law_538 : decode cL_law 538 = .ok (.if_icmp .eq 2437, 3) := by decide +kernel
theorem dL_law_541 : decode cL_law 541 = .ok (.iconst 0, 1) := by decide +kernel
theorem dL_law_542 : decode cL_law 542 = .ok (.ireturn, 1) := by decide +kernel
theorem dL_law_543 : decode cL_law 543 = .ok (.aload_n 1, 1) := by decide +kernel
theorem dL_law_544 : decode cL_law 544 = .ok (.invokevirtual 172, 3) := by decide +kernel
theorem dL_law_547 : decode cL_law 547 = .ok (.aload_n 2, 1) := by decide +kernel
theorem dL_law_548 : decode cL_law 548 = .ok (.invokevirtual 175, 3) := by decide +kernel
theorem dL_law_551 : decode cL_law 551 = .ok (.if_icmp .eq 2424, 3) := by decide +kernel
theorem dL_law_554 : decode cL_law 554 = .ok (.iconst 0, 1) := by decide +kernel
theorem dL_law_555 : decode cL_law 555 = .ok (.ireturn, 1) := by decide +kernel
theorem dL_law_556 : decode cL_law 556 = .ok (.aload_n 1, 1) := by decide +kernel
theorem dL_law_557 : decode cL_law 557 = .ok (.invokevirtual 176, 3) := by decide +kernel
theorem dL_law_560 : decode cL_law 560 = .ok (.aload_n 2, 1) := by decide +kernel
theorem dL_law_561 : decode cL_law 561 = .ok (.invokevirtual 179, 3) := by decide +kernel
theorem dL_law_564 : decode cL_law 564 = .ok (.if_icmp .eq 2411, 3) := by decide +kernel
theorem dL_law_567 : decode cL_law 567 = .ok (.iconst 0, 1) := by decide +kernel
theorem dL_law_568 : decode cL_law 568 = .ok (.ireturn, 1) := by decide +kernel
theorem dL_law_569 : decode cL_law 569 = .ok (.aload_n 1, 1) := by decide +kernel
theorem dL_law_570 : decode cL_law 570 = .ok (.invokevirtual 180, 3) := by decide +kernel
theorem dL_law_573 : decode cL_law 573 = .ok (.aload_n 2, 1) := by decide +kernel
theorem dL_law_574 : decode cL_law 574 = .ok (.invokevirtual 183, 3) := by decide +kernel
theorem dL_law_577 : decode cL_law 577 = .ok (.if_icmp .eq 2398, 3) := by decide +kernel
theorem dL_law_580 : decode cL_law 580 = .ok (.iconst 0, 1) := by decide +kernel
theorem dL_law_581 : decode cL_law 581 = .ok (.ireturn, 1) := by decide +kernel
theorem dL_law_582 : decode cL_law 582 = .ok (.aload_n 1, 1) := by decide +kernel
theorem dL_law_583 : decode cL_law 583 = .ok (.invokevirtual 184, 3) := by decide +kernel
theorem dL_law_586 : decode cL_law 586 = .ok (.aload_n 2, 1) := by decide +kernel
theorem dL_law_587 : decode cL_law 587 = .ok (.invokevirtual 187, 3) := by decide +kernel
theorem dL_law_590 : decode cL_law 590 = .ok (.if_icmp .eq 2385, 3) := by decide +kernel
theorem dL_law_593 : decode cL_law 593 = .ok (.iconst 0, 1) := by decide +kernel
theorem dL_law_594 : decode cL_law 594 = .ok (.ireturn, 1) := by decide +kernel
theorem dL_law_595 : decode cL_law 595 = .ok (.aload_n 1, 1) := by decide +kernel
theorem dL_law_596 : decode cL_law 596 = .ok (.invokevirtual 188, 3) := by decide +kernel
theorem dL_law_599 : decode cL_law 599 = .ok (.aload_n 2, 1) := by decide +kernel
theorem dL_law_600 : decode cL_law 600 = .ok (.invokevirtual 191, 3) := by decide +kernel
theorem dL_law_603 : decode cL_law 603 = .ok (.if_icmp .eq 2372, 3) := by decide +kernel
theorem dL_law_606 : decode cL_law 606 = .ok (.iconst 0, 1) := by decide +kernel
theorem dL_law_607 : decode cL_law 607 = .ok (.ireturn, 1) := by decide +kernel
theorem dL_law_608 : decode cL_law 608 = .ok (.aload_n 1, 1) := by decide +kernel
theorem dL_law_609 : decode cL_law 609 = .ok (.aload_n 0, 1) := by decide +kernel
theorem dL_law_610 : decode cL_law 610 = .ok (.iload 5, 2) := by decide +kernel
theorem dL_law_612 : decode cL_law 612 = .ok (.iconst 1, 1) := by decide +kernel
theorem dL_law_613 : decode cL_law 613 = .ok (.iadd, 1) := by decide +kernel
theorem dL_law_614 : decode cL_law 614 = .ok (.iaload, 1) := by decide +kernel
theorem dL_law_615 : decode cL_law 615 = .ok (.aload_n 3, 1) := by decide +kernel
theorem dL_law_616 : decode cL_law 616 = .ok (.invokestatic 192, 3) := by decide +kernel
theorem dL_law_619 : decode cL_law 619 = .ok (.istore 6, 2) := by decide +kernel
theorem dL_law_621 : decode cL_law 621 = .ok (.aload_n 2, 1) := by decide +kernel
theorem dL_law_622 : decode cL_law 622 = .ok (.aload_n 0, 1) := by decide +kernel
theorem dL_law_623 : decode cL_law 623 = .ok (.iload 5, 2) := by decide +kernel
theorem dL_law_625 : decode cL_law 625 = .ok (.iconst 1, 1) := by decide +kernel
theorem dL_law_626 : decode cL_law 626 = .ok (.iadd, 1) := by decide +kernel
theorem dL_law_627 : decode cL_law 627 = .ok (.iaload, 1) := by decide +kernel
theorem dL_law_628 : decode cL_law 628 = .ok (.invokevirtual 194, 3) := by decide +kernel
theorem dL_law_631 : decode cL_law 631 = .ok (.istore 7, 2) := by decide +kernel
theorem dL_law_633 : decode cL_law 633 = .ok (.aload_n 2, 1) := by decide +kernel
theorem dL_law_634 : decode cL_law 634 = .ok (.invokevirtual 149, 3) := by decide +kernel
theorem dL_law_637 : decode cL_law 637 = .ok (.iload 6, 2) := by decide +kernel
theorem dL_law_639 : decode cL_law 639 = .ok (.if_icmp .eq 5, 3) := by decide +kernel
theorem dL_law_642 : decode cL_law 642 = .ok (.iconst 0, 1) := by decide +kernel
theorem dL_law_643 : decode cL_law 643 = .ok (.ireturn, 1) := by decide +kernel
theorem dL_law_644 : decode cL_law 644 = .ok (.iload 6, 2) := by decide +kernel
theorem dL_law_646 : decode cL_law 646 = .ok (.ifCond .ne 15, 3) := by decide +kernel
theorem dL_law_649 : decode cL_law 649 = .ok (.aload_n 3, 1) := by decide +kernel
theorem dL_law_650 : decode cL_law 650 = .ok (.iconst 0, 1) := by decide +kernel
theorem dL_law_651 : decode cL_law 651 = .ok (.laload, 1) := by decide +kernel
theorem dL_law_652 : decode cL_law 652 = .ok (.iload 7, 2) := by decide +kernel
theorem dL_law_654 : decode cL_law 654 = .ok (.i2l, 1) := by decide +kernel
theorem dL_law_655 : decode cL_law 655 = .ok (.lcmp, 1) := by decide +kernel
theorem dL_law_656 : decode cL_law 656 = .ok (.ifCond .eq 5, 3) := by decide +kernel
theorem dL_law_659 : decode cL_law 659 = .ok (.iconst 0, 1) := by decide +kernel
theorem dL_law_660 : decode cL_law 660 = .ok (.ireturn, 1) := by decide +kernel
theorem dL_law_661 : decode cL_law 661 = .ok (.goto 2314, 3) := by decide +kernel
theorem dL_law_664 : decode cL_law 664 = .ok (.aload_n 1, 1) := by decide +kernel
theorem dL_law_665 : decode cL_law 665 = .ok (.aload_n 0, 1) := by decide +kernel
theorem dL_law_666 : decode cL_law 666 = .ok (.iload 5, 2) := by decide +kernel
theorem dL_law_668 : decode cL_law 668 = .ok (.iconst 1, 1) := by decide +kernel
theorem dL_law_669 : decode cL_law 669 = .ok (.iadd, 1) := by decide +kernel
theorem dL_law_670 : decode cL_law 670 = .ok (.iaload, 1) := by decide +kernel
theorem dL_law_671 : decode cL_law 671 = .ok (.aload_n 3, 1) := by decide +kernel
theorem dL_law_672 : decode cL_law 672 = .ok (.invokestatic 195, 3) := by decide +kernel
theorem dL_law_675 : decode cL_law 675 = .ok (.istore 6, 2) := by decide +kernel
theorem dL_law_677 : decode cL_law 677 = .ok (.aload_n 2, 1) := by decide +kernel
theorem dL_law_678 : decode cL_law 678 = .ok (.aload_n 0, 1) := by decide +kernel
theorem dL_law_679 : decode cL_law 679 = .ok (.iload 5, 2) := by decide +kernel
theorem dL_law_681 : decode cL_law 681 = .ok (.iconst 1, 1) := by decide +kernel
theorem dL_law_682 : decode cL_law 682 = .ok (.iadd, 1) := by decide +kernel
theorem dL_law_683 : decode cL_law 683 = .ok (.iaload, 1) := by decide +kernel
theorem dL_law_684 : decode cL_law 684 = .ok (.invokevirtual 197, 3) := by decide +kernel
theorem dL_law_687 : decode cL_law 687 = .ok (.istore 7, 2) := by decide +kernel
theorem dL_law_689 : decode cL_law 689 = .ok (.aload_n 2, 1) := by decide +kernel
theorem dL_law_690 : decode cL_law 690 = .ok (.invokevirtual 149, 3) := by decide +kernel
theorem dL_law_693 : decode cL_law 693 = .ok (.iload 6, 2) := by decide +kernel
theorem dL_law_695 : decode cL_law 695 = .ok (.if_icmp .eq 5, 3) := by decide +kernel
theorem dL_law_698 : decode cL_law 698 = .ok (.iconst 0, 1) := by decide +kernel
theorem dL_law_699 : decode cL_law 699 = .ok (.ireturn, 1) := by decide +kernel
theorem dL_law_700 : decode cL_law 700 = .ok (.iload 6, 2) := by decide +kernel
theorem dL_law_702 : decode cL_law 702 = .ok (.ifCond .ne 15, 3) := by decide +kernel
theorem dL_law_705 : decode cL_law 705 = .ok (.aload_n 3, 1) := by decide +kernel
theorem dL_law_706 : decode cL_law 706 = .ok (.iconst 0, 1) := by decide +kernel
theorem dL_law_707 : decode cL_law 707 = .ok (.laload, 1) := by decide +kernel
theorem dL_law_708 : decode cL_law 708 = .ok (.iload 7, 2) := by decide +kernel
theorem dL_law_710 : decode cL_law 710 = .ok (.i2l, 1) := by decide +kernel
theorem dL_law_711 : decode cL_law 711 = .ok (.lcmp, 1) := by decide +kernel
theorem dL_law_712 : decode cL_law 712 = .ok (.ifCond .eq 5, 3) := by decide +kernel
theorem dL_law_715 : decode cL_law 715 = .ok (.iconst 0, 1) := by decide +kernel
theorem dL_law_716 : decode cL_law 716 = .ok (.ireturn, 1) := by decide +kernel
theorem dL_law_717 : decode cL_law 717 = .ok (.goto 2258, 3) := by decide +kernel
theorem dL_law_720 : decode cL_law 720 = .ok (.aload_n 1, 1) := by decide +kernel
theorem dL_law_721 : decode cL_law 721 = .ok (.aload_n 0, 1) := by decide +kernel
theorem dL_law_722 : decode cL_law 722 = .ok (.iload 5, 2) := by decide +kernel
theorem dL_law_724 : decode cL_law 724 = .ok (.iconst 1, 1) := by decide +kernel
theorem dL_law_725 : decode cL_law 725 = .ok (.iadd, 1) := by decide +kernel
theorem dL_law_726 : decode cL_law 726 = .ok (.iaload, 1) := by decide +kernel
theorem dL_law_727 : decode cL_law 727 = .ok (.aload_n 3, 1) := by decide +kernel
theorem dL_law_728 : decode cL_law 728 = .ok (.invokestatic 198, 3) := by decide +kernel
theorem dL_law_731 : decode cL_law 731 = .ok (.istore 6, 2) := by decide +kernel
theorem dL_law_733 : decode cL_law 733 = .ok (.aload_n 2, 1) := by decide +kernel
theorem dL_law_734 : decode cL_law 734 = .ok (.aload_n 0, 1) := by decide +kernel
theorem dL_law_735 : decode cL_law 735 = .ok (.iload 5, 2) := by decide +kernel
theorem dL_law_737 : decode cL_law 737 = .ok (.iconst 1, 1) := by decide +kernel
theorem dL_law_738 : decode cL_law 738 = .ok (.iadd, 1) := by decide +kernel
theorem dL_law_739 : decode cL_law 739 = .ok (.iaload, 1) := by decide +kernel
theorem dL_law_740 : decode cL_law 740 = .ok (.invokevirtual 200, 3) := by decide +kernel
theorem dL_law_743 : decode cL_law 743 = .ok (.istore 7, 2) := by decide +kernel
theorem dL_law_745 : decode cL_law 745 = .ok (.aload_n 2, 1) := by decide +kernel
theorem dL_law_746 : decode cL_law 746 = .ok (.invokevirtual 149, 3) := by decide +kernel
theorem dL_law_749 : decode cL_law 749 = .ok (.iload 6, 2) := by decide +kernel
theorem dL_law_751 : decode cL_law 751 = .ok (.if_icmp .eq 5, 3) := by decide +kernel
theorem dL_law_754 : decode cL_law 754 = .ok (.iconst 0, 1) := by decide +kernel
theorem dL_law_755 : decode cL_law 755 = .ok (.ireturn, 1) := by decide +kernel
theorem dL_law_756 : decode cL_law 756 = .ok (.iload 6, 2) := by decide +kernel
theorem dL_law_758 : decode cL_law 758 = .ok (.ifCond .ne 15, 3) := by decide +kernel
theorem dL_law_761 : decode cL_law 761 = .ok (.aload_n 3, 1) := by decide +kernel
theorem dL_law_762 : decode cL_law 762 = .ok (.iconst 0, 1) := by decide +kernel
theorem dL_law_763 : decode cL_law 763 = .ok (.laload, 1) := by decide +kernel
theorem dL_law_764 : decode cL_law 764 = .ok (.iload 7, 2) := by decide +kernel
theorem dL_law_766 : decode cL_law 766 = .ok (.i2l, 1) := by decide +kernel
theorem dL_law_767 : decode cL_law 767 = .ok (.lcmp, 1) := by decide +kernel
theorem dL_law_768 : decode cL_law 768 = .ok (.ifCond .eq 5, 3) := by decide +kernel
theorem dL_law_771 : decode cL_law 771 = .ok (.iconst 0, 1) := by decide +kernel
theorem dL_law_772 : decode cL_law 772 = .ok (.ireturn, 1) := by decide +kernel
theorem dL_law_773 : decode cL_law 773 = .ok (.goto 2202, 3) := by decide +kernel
theorem dL_law_776 : decode cL_law 776 = .ok (.aload_n 1, 1) := by decide +kernel
theorem dL_law_777 : decode cL_law 777 = .ok (.aload_n 0, 1) := by decide +kernel
theorem dL_law_778 : decode cL_law 778 = .ok (.iload 5, 2) := by decide +kernel
theorem dL_law_780 : decode cL_law 780 = .ok (.iconst 1, 1) := by decide +kernel
theorem dL_law_781 : decode cL_law 781 = .ok (.iadd, 1) := by decide +kernel
theorem dL_law_782 : decode cL_law 782 = .ok (.iaload, 1) := by decide +kernel
theorem dL_law_783 : decode cL_law 783 = .ok (.aload_n 3, 1) := by decide +kernel
theorem dL_law_784 : decode cL_law 784 = .ok (.invokestatic 201, 3) := by decide +kernel
theorem dL_law_787 : decode cL_law 787 = .ok (.istore 6, 2) := by decide +kernel
theorem dL_law_789 : decode cL_law 789 = .ok (.aload_n 2, 1) := by decide +kernel
theorem dL_law_790 : decode cL_law 790 = .ok (.aload_n 0, 1) := by decide +kernel
theorem dL_law_791 : decode cL_law 791 = .ok (.iload 5, 2) := by decide +kernel
theorem dL_law_793 : decode cL_law 793 = .ok (.iconst 1, 1) := by decide +kernel
theorem dL_law_794 : decode cL_law 794 = .ok (.iadd, 1) := by decide +kernel
theorem dL_law_795 : decode cL_law 795 = .ok (.iaload, 1) := by decide +kernel
theorem dL_law_796 : decode cL_law 796 = .ok (.invokevirtual 203, 3) := by decide +kernel
theorem dL_law_799 : decode cL_law 799 = .ok (.istore 7, 2) := by decide +kernel
theorem dL_law_801 : decode cL_law 801 = .ok (.aload_n 2, 1) := by decide +kernel
theorem dL_law_802 : decode cL_law 802 = .ok (.invokevirtual 149, 3) := by decide +kernel
theorem dL_law_805 : decode cL_law 805 = .ok (.iload 6, 2) := by decide +kernel
theorem dL_law_807 : decode cL_law 807 = .ok (.if_icmp .eq 5, 3) := by decide +kernel
theorem dL_law_810 : decode cL_law 810 = .ok (.iconst 0, 1) := by decide +kernel
theorem dL_law_811 : decode cL_law 811 = .ok (.ireturn, 1) := by decide +kernel
theorem dL_law_812 : decode cL_law 812 = .ok (.iload 6, 2) := by decide +kernel
theorem dL_law_814 : decode cL_law 814 = .ok (.ifCond .ne 15, 3) := by decide +kernel
theorem dL_law_817 : decode cL_law 817 = .ok (.aload_n 3, 1) := by decide +kernel
theorem dL_law_818 : decode cL_law 818 = .ok (.iconst 0, 1) := by decide +kernel
theorem dL_law_819 : decode cL_law 819 = .ok (.laload, 1) := by decide +kernel
theorem dL_law_820 : decode cL_law 820 = .ok (.iload 7, 2) := by decide +kernel
theorem dL_law_822 : decode cL_law 822 = .ok (.i2l, 1) := by decide +kernel
theorem dL_law_823 : decode cL_law 823 = .ok (.lcmp, 1) := by decide +kernel
theorem dL_law_824 : decode cL_law 824 = .ok (.ifCond .eq 5, 3) := by decide +kernel
theorem dL_law_827 : decode cL_law 827 = .ok (.iconst 0, 1) := by decide +kernel
theorem dL_law_828 : decode cL_law 828 = .ok (.ireturn, 1) := by decide +kernel
theorem dL_law_829 : decode cL_law 829 = .ok (.goto 2146, 3) := by decide +kernel
theorem dL_law_832 : decode cL_law 832 = .ok (.aload_n 1, 1) := by decide +kernel
theorem dL_law_833 : decode cL_law 833 = .ok (.aload_n 0, 1) := by decide +kernel
theorem dL_law_834 : decode cL_law 834 = .ok (.iload 5, 2) := by decide +kernel
theorem dL_law_836 : decode cL_law 836 = .ok (.iconst 1, 1) := by decide +kernel
theorem dL_law_837 : decode cL_law 837 = .ok (.iadd, 1) := by decide +kernel
theorem dL_law_838 : decode cL_law 838 = .ok (.iaload, 1) := by decide +kernel
theorem dL_law_839 : decode cL_law 839 = .ok (.aload_n 3, 1) := by decide +kernel
theorem dL_law_840 : decode cL_law 840 = .ok (.invokestatic 204, 3) := by decide +kernel
theorem dL_law_843 : decode cL_law 843 = .ok (.istore 6, 2) := by decide +kernel
theorem dL_law_845 : decode cL_law 845 = .ok (.aload_n 2, 1) := by decide +kernel
theorem dL_law_846 : decode cL_law 846 = .ok (.aload_n 0, 1) := by decide +kernel
theorem dL_law_847 : decode cL_law 847 = .ok (.iload 5, 2) := by decide +kernel
theorem dL_law_849 : decode cL_law 849 = .ok (.iconst 1, 1) := by decide +kernel
theorem dL_law_850 : decode cL_law 850 = .ok (.iadd, 1) := by decide +kernel
theorem dL_law_851 : decode cL_law 851 = .ok (.iaload, 1) := by decide +kernel
theorem dL_law_852 : decode cL_law 852 = .ok (.invokevirtual 206, 3) := by decide +kernel
theorem dL_law_855 : decode cL_law 855 = .ok (.istore 7, 2) := by decide +kernel
theorem dL_law_857 : decode cL_law 857 = .ok (.aload_n 2, 1) := by decide +kernel
theorem dL_law_858 : decode cL_law 858 = .ok (.invokevirtual 149, 3) := by decide +kernel
theorem dL_law_861 : decode cL_law 861 = .ok (.iload 6, 2) := by decide +kernel
theorem dL_law_863 : decode cL_law 863 = .ok (.if_icmp .eq 5, 3) := by decide +kernel
theorem dL_law_866 : decode cL_law 866 = .ok (.iconst 0, 1) := by decide +kernel
theorem dL_law_867 : decode cL_law 867 = .ok (.ireturn, 1) := by decide +kernel
theorem dL_law_868 : decode cL_law 868 = .ok (.iload 6, 2) := by decide +kernel
theorem dL_law_870 : decode cL_law 870 = .ok (.ifCond .ne 15, 3) := by decide +kernel
theorem dL_law_873 : decode cL_law 873 = .ok (.aload_n 3, 1) := by decide +kernel
theorem dL_law_874 : decode cL_law 874 = .ok (.iconst 0, 1) := by decide +kernel
theorem dL_law_875 : decode cL_law 875 = .ok (.laload, 1) := by decide +kernel
theorem dL_law_876 : decode cL_law 876 = .ok (.iload 7, 2) := by decide +kernel
theorem dL_law_878 : decode cL_law 878 = .ok (.i2l, 1) := by decide +kernel
theorem dL_law_879 : decode cL_law 879 = .ok (.lcmp, 1) := by decide +kernel
theorem dL_law_880 : decode cL_law 880 = .ok (.ifCond .eq 5, 3) := by decide +kernel
theorem dL_law_883 : decode cL_law 883 = .ok (.iconst 0, 1) := by decide +kernel
theorem dL_law_884 : decode cL_law 884 = .ok (.ireturn, 1) := by decide +kernel
theorem dL_law_885 : decode cL_law 885 = .ok (.goto 2090, 3) := by decide +kernel
theorem dL_law_888 : decode cL_law 888 = .ok (.aload_n 1, 1) := by decide +kernel
theorem dL_law_889 : decode cL_law 889 = .ok (.aload_n 0, 1) := by decide +kernel
theorem dL_law_890 : decode cL_law 890 = .ok (.iload 5, 2) := by decide +kernel
theorem dL_law_892 : decode cL_law 892 = .ok (.iconst 1, 1) := by decide +kernel
theorem dL_law_893 : decode cL_law 893 = .ok (.iadd, 1) := by decide +kernel
theorem dL_law_894 : decode cL_law 894 = .ok (.iaload, 1) := by decide +kernel
theorem dL_law_895 : decode cL_law 895 = .ok (.aload_n 3, 1) := by decide +kernel
theorem dL_law_896 : decode cL_law 896 = .ok (.invokestatic 207, 3) := by decide +kernel
theorem dL_law_899 : decode cL_law 899 = .ok (.istore 6, 2) := by decide +kernel
theorem dL_law_901 : decode cL_law 901 = .ok (.aload_n 2, 1) := by decide +kernel
theorem dL_law_902 : decode cL_law 902 = .ok (.aload_n 0, 1) := by decide +kernel
theorem dL_law_903 : decode cL_law 903 = .ok (.iload 5, 2) := by decide +kernel
theorem dL_law_905 : decode cL_law 905 = .ok (.iconst 1, 1) := by decide +kernel
theorem dL_law_906 : decode cL_law 906 = .ok (.iadd, 1) := by decide +kernel
theorem dL_law_907 : decode cL_law 907 = .ok (.iaload, 1) := by decide +kernel
theorem dL_law_908 : decode cL_law 908 = .ok (.invokevirtual 209, 3) := by decide +kernel
theorem dL_law_911 : decode cL_law 911 = .ok (.istore 7, 2) := by decide +kernel
theorem dL_law_913 : decode cL_law 913 = .ok (.aload_n 2, 1) := by decide +kernel
theorem dL_law_914 : decode cL_law 914 = .ok (.invokevirtual 149, 3) := by decide +kernel
theorem dL_law_917 : decode cL_law 917 = .ok (.iload 6, 2) := by decide +kernel
theorem dL_law_919 : decode cL_law 919 = .ok (.if_icmp .eq 5, 3) := by decide +kernel
theorem dL_law_922 : decode cL_law 922 = .ok (.iconst 0, 1) := by decide +kernel
theorem dL_law_923 : decode cL_law 923 = .ok (.ireturn, 1) := by decide +kernel
theorem dL_law_924 : decode cL_law 924 = .ok (.iload 6, 2) := by decide +kernel
theorem dL_law_926 : decode cL_law 926 = .ok (.ifCond .ne 15, 3) := by decide +kernel
theorem dL_law_929 : decode cL_law 929 = .ok (.aload_n 3, 1) := by decide +kernel
theorem dL_law_930 : decode cL_law 930 = .ok (.iconst 0, 1) := by decide +kernel
theorem dL_law_931 : decode cL_law 931 = .ok (.laload, 1) := by decide +kernel
theorem dL_law_932 : decode cL_law 932 = .ok (.iload 7, 2) := by decide +kernel
theorem dL_law_934 : decode cL_law 934 = .ok (.i2l, 1) := by decide +kernel
theorem dL_law_935 : decode cL_law 935 = .ok (.lcmp, 1) := by decide +kernel
theorem dL_law_936 : decode cL_law 936 = .ok (.ifCond .eq 5, 3) := by decide +kernel
theorem dL_law_939 : decode cL_law 939 = .ok (.iconst 0, 1) := by decide +kernel
theorem dL_law_940 : decode cL_law 940 = .ok (.ireturn, 1) := by decide +kernel
theorem dL_law_941 : decode cL_law 941 = .ok (.goto 2034, 3) := by decide +kernel
theorem dL_law_944 : decode cL_law 944 = .ok (.aload_n 1, 1) := by decide +kernel
theorem dL_law_945 : decode cL_law 945 = .ok (.aload_n 0, 1) := by decide +kernel
theorem dL_law_946 : decode cL_law 946 = .ok (.iload 5, 2) := by decide +kernel
theorem dL_law_948 : decode cL_law 948 = .ok (.iconst 1, 1) := by decide +kernel
theorem dL_law_949 : decode cL_law 949 = .ok (.iadd, 1) := by decide +kernel
theorem dL_law_950 : decode cL_law 950 = .ok (.iaload, 1) := by decide +kernel
theorem dL_law_951 : decode cL_law 951 = .ok (.aload_n 3, 1) := by decide +kernel
theorem dL_law_952 : decode cL_law 952 = .ok (.invokestatic 210, 3) := by decide +kernel
theorem dL_law_955 : decode cL_law 955 = .ok (.istore 6, 2) := by decide +kernel
theorem dL_law_957 : decode cL_law 957 = .ok (.aload_n 2, 1) := by decide +kernel
theorem dL_law_958 : decode cL_law 958 = .ok (.aload_n 0, 1) := by decide +kernel
theorem dL_law_959 : decode cL_law 959 = .ok (.iload 5, 2) := by decide +kernel
theorem dL_law_961 : decode cL_law 961 = .ok (.iconst 1, 1) := by decide +kernel
theorem dL_law_962 : decode cL_law 962 = .ok (.iadd, 1) := by decide +kernel
theorem dL_law_963 : decode cL_law 963 = .ok (.iaload, 1) := by decide +kernel
theorem dL_law_964 : decode cL_law 964 = .ok (.invokevirtual 212, 3) := by decide +kernel
theorem dL_law_967 : decode cL_law 967 = .ok (.istore 7, 2) := by decide +kernel
theorem dL_law_969 : decode cL_law 969 = .ok (.aload_n 2, 1) := by decide +kernel
theorem dL_law_970 : decode cL_law 970 = .ok (.invokevirtual 149, 3) := by decide +kernel
theorem dL_law_973 : decode cL_law 973 = .ok (.iload 6, 2) := by decide +kernel
theorem dL_law_975 : decode cL_law 975 = .ok (.if_icmp .eq 5, 3) := by decide +kernel
theorem dL_law_978 : decode cL_law 978 = .ok (.iconst 0, 1) := by decide +kernel
theorem dL_law_979 : decode cL_law 979 = .ok (.ireturn, 1) := by decide +kernel
theorem dL_law_980 : decode cL_law 980 = .ok (.iload 6, 2) := by decide +kernel
theorem dL_law_982 : decode cL_law 982 = .ok (.ifCond .ne 15, 3) := by decide +kernel
theorem dL_law_985 : decode cL_law 985 = .ok (.aload_n 3, 1) := by decide +kernel
theorem dL_law_986 : decode cL_law 986 = .ok (.iconst 0, 1) := by decide +kernel
theorem dL_law_987 : decode cL_law 987 = .ok (.laload, 1) := by decide +kernel
theorem dL_law_988 : decode cL_law 988 = .ok (.iload 7, 2) := by decide +kernel
theorem dL_law_990 : decode cL_law 990 = .ok (.i2l, 1) := by decide +kernel
theorem dL_law_991 : decode cL_law 991 = .ok (.lcmp, 1) := by decide +kernel
theorem dL_law_992 : decode cL_law 992 = .ok (.ifCond .eq 5, 3) := by decide +kernel
theorem dL_law_995 : decode cL_law 995 = .ok (.iconst 0, 1) := by decide +kernel
theorem dL_law_996 : decode cL_law 996 = .ok (.ireturn, 1) := by decide +kernel
theorem dL_law_997 : decode cL_law 997 = .ok (.goto 1978, 3) := by decide +kernel
theorem dL_law_1000 : decode cL_law 1000 = .ok (.aload_n 1, 1) := by decide +kernel
theorem dL_law_1001 : decode cL_law 1001 = .ok (.aload_n 0, 1) := by decide +kernel
theorem dL_law_1002 : decode cL_law 1002 = .ok (.iload 5, 2) := by decide +kernel
theorem dL_law_1004 : decode cL_law 1004 = .ok (.iconst 1, 1) := by decide +kernel
theorem dL_law_1005 : decode cL_law 1005 = .ok (.iadd, 1) := by decide +kernel
theorem dL_law_1006 : decode cL_law 1006 = .ok (.iaload, 1) := by decide +kernel
theorem dL_law_1007 : decode cL_law 1007 = .ok (.aload_n 3, 1) := by decide +kernel
theorem dL_law_1008 : decode cL_law 1008 = .ok (.invokestatic 213, 3) := by decide +kernel
theorem dL_law_1011 : decode cL_law 1011 = .ok (.istore 6, 2) := by decide +kernel
theorem dL_law_1013 : decode cL_law 1013 = .ok (.aload_n 2, 1) := by decide +kernel
theorem dL_law_1014 : decode cL_law 1014 = .ok (.aload_n 0, 1) := by decide +kernel
theorem dL_law_1015 : decode cL_law 1015 = .ok (.iload 5, 2) := by decide +kernel
theorem dL_law_1017 : decode cL_law 1017 = .ok (.iconst 1, 1) := by decide +kernel
theorem dL_law_1018 : decode cL_law 1018 = .ok (.iadd, 1) := by decide +kernel
theorem dL_law_1019 : decode cL_law 1019 = .ok (.iaload, 1) := by decide +kernel
theorem dL_law_1020 : decode cL_law 1020 = .ok (.invokevirtual 215, 3) := by decide +kernel
theorem dL_law_1023 : decode cL_law 1023 = .ok (.istore 7, 2) := by decide +kernel
theorem dL_law_1025 : decode cL_law 1025 = .ok (.aload_n 2, 1) := by decide +kernel
theorem dL_law_1026 : decode cL_law 1026 = .ok (.invokevirtual 149, 3) := by decide +kernel
theorem dL_law_1029 : decode cL_law 1029 = .ok (.iload 6, 2) := by decide +kernel
theorem dL_law_1031 : decode cL_law 1031 = .ok (.if_icmp .eq 5, 3) := by decide +kernel
theorem dL_law_1034 : decode cL_law 1034 = .ok (.iconst 0, 1) := by decide +kernel
theorem dL_law_1035 : decode cL_law 1035 = .ok (.ireturn, 1) := by decide +kernel
theorem dL_law_1036 : decode cL_law 1036 = .ok (.iload 6, 2) := by decide +kernel
theorem dL_law_1038 : decode cL_law 1038 = .ok (.ifCond .ne 15, 3) := by decide +kernel
theorem dL_law_1041 : decode cL_law 1041 = .ok (.aload_n 3, 1) := by decide +kernel
theorem dL_law_1042 : decode cL_law 1042 = .ok (.iconst 0, 1) := by decide +kernel
theorem dL_law_1043 : decode cL_law 1043 = .ok (.laload, 1) := by decide +kernel
theorem dL_law_1044 : decode cL_law 1044 = .ok (.iload 7, 2) := by decide +kernel
theorem dL_law_1046 : decode cL_law 1046 = .ok (.i2l, 1) := by decide +kernel
theorem dL_law_1047 : decode cL_law 1047 = .ok (.lcmp, 1) := by decide +kernel
theorem dL_law_1048 : decode cL_law 1048 = .ok (.ifCond .eq 5, 3) := by decide +kernel
theorem dL_law_1051 : decode cL_law 1051 = .ok (.iconst 0, 1) := by decide +kernel
theorem dL_law_1052 : decode cL_law 1052 = .ok (.ireturn, 1) := by decide +kernel
theorem dL_law_1053 : decode cL_law 1053 = .ok (.goto 1922, 3) := by decide +kernel
theorem dL_law_1056 : decode cL_law 1056 = .ok (.aload_n 1, 1) := by decide +kernel
theorem dL_law_1057 : decode cL_law 1057 = .ok (.aload_n 0, 1) := by decide +kernel
theorem dL_law_1058 : decode cL_law 1058 = .ok (.iload 5, 2) := by decide +kernel
theorem dL_law_1060 : decode cL_law 1060 = .ok (.iconst 1, 1) := by decide +kernel
theorem dL_law_1061 : decode cL_law 1061 = .ok (.iadd, 1) := by decide +kernel
theorem dL_law_1062 : decode cL_law 1062 = .ok (.iaload, 1) := by decide +kernel
theorem dL_law_1063 : decode cL_law 1063 = .ok (.aload_n 3, 1) := by decide +kernel
theorem dL_law_1064 : decode cL_law 1064 = .ok (.invokestatic 216, 3) := by decide +kernel
theorem dL_law_1067 : decode cL_law 1067 = .ok (.istore 6, 2) := by decide +kernel
theorem dL_law_1069 : decode cL_law 1069 = .ok (.aload_n 2, 1) := by decide +kernel
theorem dL_law_1070 : decode cL_law 1070 = .ok (.aload_n 0, 1) := by decide +kernel
theorem dL_law_1071 : decode cL_law 1071 = .ok (.iload 5, 2) := by decide +kernel
theorem dL_law_1073 : decode cL_law 1073 = .ok (.iconst 1, 1) := by decide +kernel
theorem dL_law_1074 : decode cL_law 1074 = .ok (.iadd, 1) := by decide +kernel
theorem dL_law_1075 : decode cL_law 1075 = .ok (.iaload, 1) := by decide +kernel
theorem dL_law_1076 : decode cL_law 1076 = .ok (.invokevirtual 218, 3) := by decide +kernel
theorem dL_law_1079 : decode cL_law 1079 = .ok (.istore 7, 2) := by decide +kernel
theorem dL_law_1081 : decode cL_law 1081 = .ok (.aload_n 2, 1) := by decide +kernel
theorem dL_law_1082 : decode cL_law 1082 = .ok (.invokevirtual 149, 3) := by decide +kernel
theorem dL_law_1085 : decode cL_law 1085 = .ok (.iload 6, 2) := by decide +kernel
theorem dL_law_1087 : decode cL_law 1087 = .ok (.if_icmp .eq 5, 3) := by decide +kernel
theorem dL_law_1090 : decode cL_law 1090 = .ok (.iconst 0, 1) := by decide +kernel
theorem dL_law_1091 : decode cL_law 1091 = .ok (.ireturn, 1) := by decide +kernel
theorem dL_law_1092 : decode cL_law 1092 = .ok (.iload 6, 2) := by decide +kernel
theorem dL_law_1094 : decode cL_law 1094 = .ok (.ifCond .ne 15, 3) := by decide +kernel
theorem dL_law_1097 : decode cL_law 1097 = .ok (.aload_n 3, 1) := by decide +kernel
theorem dL_law_1098 : decode cL_law 1098 = .ok (.iconst 0, 1) := by decide +kernel
theorem dL_law_1099 : decode cL_law 1099 = .ok (.laload, 1) := by decide +kernel
theorem dL_law_1100 : decode cL_law 1100 = .ok (.iload 7, 2) := by decide +kernel
theorem dL_law_1102 : decode cL_law 1102 = .ok (.i2l, 1) := by decide +kernel
theorem dL_law_1103 : decode cL_law 1103 = .ok (.lcmp, 1) := by decide +kernel
theorem dL_law_1104 : decode cL_law 1104 = .ok (.ifCond .eq 5, 3) := by decide +kernel
theorem dL_law_1107 : decode cL_law 1107 = .ok (.iconst 0, 1) := by decide +kernel
theorem dL_law_1108 : decode cL_law 1108 = .ok (.ireturn, 1) := by decide +kernel
theorem dL_law_1109 : decode cL_law 1109 = .ok (.goto 1866, 3) := by decide +kernel
theorem dL_law_1112 : decode cL_law 1112 = .ok (.aload_n 1, 1) := by decide +kernel
theorem dL_law_1113 : decode cL_law 1113 = .ok (.aload_n 0, 1) := by decide +kernel
theorem dL_law_1114 : decode cL_law 1114 = .ok (.iload 5, 2) := by decide +kernel
theorem dL_law_1116 : decode cL_law 1116 = .ok (.iconst 1, 1) := by decide +kernel
theorem dL_law_1117 : decode cL_law 1117 = .ok (.iadd, 1) := by decide +kernel
theorem dL_law_1118 : decode cL_law 1118 = .ok (.iaload, 1) := by decide +kernel
theorem dL_law_1119 : decode cL_law 1119 = .ok (.aload 4, 2) := by decide +kernel
theorem dL_law_1121 : decode cL_law 1121 = .ok (.invokestatic 219, 3) := by decide +kernel
theorem dL_law_1124 : decode cL_law 1124 = .ok (.istore 6, 2) := by decide +kernel
theorem dL_law_1126 : decode cL_law 1126 = .ok (.aload_n 2, 1) := by decide +kernel
theorem dL_law_1127 : decode cL_law 1127 = .ok (.aload_n 0, 1) := by decide +kernel
theorem dL_law_1128 : decode cL_law 1128 = .ok (.iload 5, 2) := by decide +kernel
theorem dL_law_1130 : decode cL_law 1130 = .ok (.iconst 1, 1) := by decide +kernel
theorem dL_law_1131 : decode cL_law 1131 = .ok (.iadd, 1) := by decide +kernel
theorem dL_law_1132 : decode cL_law 1132 = .ok (.iaload, 1) := by decide +kernel
theorem dL_law_1133 : decode cL_law 1133 = .ok (.invokevirtual 222, 3) := by decide +kernel
theorem dL_law_1136 : decode cL_law 1136 = .ok (.dstore 7, 2) := by decide +kernel
theorem dL_law_1138 : decode cL_law 1138 = .ok (.aload_n 2, 1) := by decide +kernel
theorem dL_law_1139 : decode cL_law 1139 = .ok (.invokevirtual 149, 3) := by decide +kernel
theorem dL_law_1142 : decode cL_law 1142 = .ok (.iload 6, 2) := by decide +kernel
theorem dL_law_1144 : decode cL_law 1144 = .ok (.if_icmp .eq 5, 3) := by decide +kernel
theorem dL_law_1147 : decode cL_law 1147 = .ok (.iconst 0, 1) := by decide +kernel
theorem dL_law_1148 : decode cL_law 1148 = .ok (.ireturn, 1) := by decide +kernel
theorem dL_law_1149 : decode cL_law 1149 = .ok (.iload 6, 2) := by decide +kernel
theorem dL_law_1151 : decode cL_law 1151 = .ok (.ifCond .ne 35, 3) := by decide +kernel
theorem dL_law_1154 : decode cL_law 1154 = .ok (.aload 4, 2) := by decide +kernel
theorem dL_law_1156 : decode cL_law 1156 = .ok (.iconst 0, 1) := by decide +kernel
theorem dL_law_1157 : decode cL_law 1157 = .ok (.daload, 1) := by decide +kernel
theorem dL_law_1158 : decode cL_law 1158 = .ok (.dload 7, 2) := by decide +kernel
theorem dL_law_1160 : decode cL_law 1160 = .ok (.dcmp .l, 1) := by decide +kernel
theorem dL_law_1161 : decode cL_law 1161 = .ok (.ifCond .eq 25, 3) := by decide +kernel
theorem dL_law_1164 : decode cL_law 1164 = .ok (.aload 4, 2) := by decide +kernel
theorem dL_law_1166 : decode cL_law 1166 = .ok (.iconst 0, 1) := by decide +kernel
theorem dL_law_1167 : decode cL_law 1167 = .ok (.daload, 1) := by decide +kernel
theorem dL_law_1168 : decode cL_law 1168 = .ok (.aload 4, 2) := by decide +kernel
theorem dL_law_1170 : decode cL_law 1170 = .ok (.iconst 0, 1) := by decide +kernel
theorem dL_law_1171 : decode cL_law 1171 = .ok (.daload, 1) := by decide +kernel
theorem dL_law_1172 : decode cL_law 1172 = .ok (.dcmp .l, 1) := by decide +kernel
theorem dL_law_1173 : decode cL_law 1173 = .ok (.ifCond .eq 11, 3) := by decide +kernel
theorem dL_law_1176 : decode cL_law 1176 = .ok (.dload 7, 2) := by decide +kernel
theorem dL_law_1178 : decode cL_law 1178 = .ok (.dload 7, 2) := by decide +kernel
theorem dL_law_1180 : decode cL_law 1180 = .ok (.dcmp .l, 1) := by decide +kernel
theorem dL_law_1181 : decode cL_law 1181 = .ok (.ifCond .ne 5, 3) := by decide +kernel
theorem dL_law_1184 : decode cL_law 1184 = .ok (.iconst 0, 1) := by decide +kernel
theorem dL_law_1185 : decode cL_law 1185 = .ok (.ireturn, 1) := by decide +kernel
theorem dL_law_1186 : decode cL_law 1186 = .ok (.goto 1789, 3) := by decide +kernel
theorem dL_law_1189 : decode cL_law 1189 = .ok (.aload_n 1, 1) := by decide +kernel
theorem dL_law_1190 : decode cL_law 1190 = .ok (.aload_n 0, 1) := by decide +kernel
theorem dL_law_1191 : decode cL_law 1191 = .ok (.iload 5, 2) := by decide +kernel
theorem dL_law_1193 : decode cL_law 1193 = .ok (.iconst 1, 1) := by decide +kernel
theorem dL_law_1194 : decode cL_law 1194 = .ok (.iadd, 1) := by decide +kernel
theorem dL_law_1195 : decode cL_law 1195 = .ok (.iaload, 1) := by decide +kernel
theorem dL_law_1196 : decode cL_law 1196 = .ok (.aload_n 3, 1) := by decide +kernel
theorem dL_law_1197 : decode cL_law 1197 = .ok (.invokestatic 223, 3) := by decide +kernel
theorem dL_law_1200 : decode cL_law 1200 = .ok (.istore 6, 2) := by decide +kernel
theorem dL_law_1202 : decode cL_law 1202 = .ok (.aload_n 2, 1) := by decide +kernel
theorem dL_law_1203 : decode cL_law 1203 = .ok (.aload_n 0, 1) := by decide +kernel
theorem dL_law_1204 : decode cL_law 1204 = .ok (.iload 5, 2) := by decide +kernel
theorem dL_law_1206 : decode cL_law 1206 = .ok (.iconst 1, 1) := by decide +kernel
theorem dL_law_1207 : decode cL_law 1207 = .ok (.iadd, 1) := by decide +kernel
theorem dL_law_1208 : decode cL_law 1208 = .ok (.iaload, 1) := by decide +kernel
theorem dL_law_1209 : decode cL_law 1209 = .ok (.invokevirtual 225, 3) := by decide +kernel
theorem dL_law_1212 : decode cL_law 1212 = .ok (.istore 7, 2) := by decide +kernel
theorem dL_law_1214 : decode cL_law 1214 = .ok (.aload_n 2, 1) := by decide +kernel
theorem dL_law_1215 : decode cL_law 1215 = .ok (.invokevirtual 149, 3) := by decide +kernel
theorem dL_law_1218 : decode cL_law 1218 = .ok (.iload 6, 2) := by decide +kernel
theorem dL_law_1220 : decode cL_law 1220 = .ok (.if_icmp .eq 5, 3) := by decide +kernel
theorem dL_law_1223 : decode cL_law 1223 = .ok (.iconst 0, 1) := by decide +kernel
theorem dL_law_1224 : decode cL_law 1224 = .ok (.ireturn, 1) := by decide +kernel
theorem dL_law_1225 : decode cL_law 1225 = .ok (.iload 6, 2) := by decide +kernel
theorem dL_law_1227 : decode cL_law 1227 = .ok (.ifCond .ne 15, 3) := by decide +kernel
theorem dL_law_1230 : decode cL_law 1230 = .ok (.aload_n 3, 1) := by decide +kernel
theorem dL_law_1231 : decode cL_law 1231 = .ok (.iconst 0, 1) := by decide +kernel
theorem dL_law_1232 : decode cL_law 1232 = .ok (.laload, 1) := by decide +kernel
theorem dL_law_1233 : decode cL_law 1233 = .ok (.iload 7, 2) := by decide +kernel
theorem dL_law_1235 : decode cL_law 1235 = .ok (.i2l, 1) := by decide +kernel
theorem dL_law_1236 : decode cL_law 1236 = .ok (.lcmp, 1) := by decide +kernel
theorem dL_law_1237 : decode cL_law 1237 = .ok (.ifCond .eq 5, 3) := by decide +kernel
theorem dL_law_1240 : decode cL_law 1240 = .ok (.iconst 0, 1) := by decide +kernel
theorem dL_law_1241 : decode cL_law 1241 = .ok (.ireturn, 1) := by decide +kernel
theorem dL_law_1242 : decode cL_law 1242 = .ok (.goto 1733, 3) := by decide +kernel
theorem dL_law_1245 : decode cL_law 1245 = .ok (.aload_n 1, 1) := by decide +kernel
theorem dL_law_1246 : decode cL_law 1246 = .ok (.invokevirtual 226, 3) := by decide +kernel
theorem dL_law_1249 : decode cL_law 1249 = .ok (.aload_n 2, 1) := by decide +kernel
theorem dL_law_1250 : decode cL_law 1250 = .ok (.invokevirtual 229, 3) := by decide +kernel
theorem dL_law_1253 : decode cL_law 1253 = .ok (.if_icmp .eq 1722, 3) := by decide +kernel
theorem dL_law_1256 : decode cL_law 1256 = .ok (.iconst 0, 1) := by decide +kernel
theorem dL_law_1257 : decode cL_law 1257 = .ok (.ireturn, 1) := by decide +kernel
theorem dL_law_1258 : decode cL_law 1258 = .ok (.aload_n 1, 1) := by decide +kernel
theorem dL_law_1259 : decode cL_law 1259 = .ok (.aload_n 0, 1) := by decide +kernel
theorem dL_law_1260 : decode cL_law 1260 = .ok (.iload 5, 2) := by decide +kernel
theorem dL_law_1262 : decode cL_law 1262 = .ok (.iconst 1, 1) := by decide +kernel
theorem dL_law_1263 : decode cL_law 1263 = .ok (.iadd, 1) := by decide +kernel
theorem dL_law_1264 : decode cL_law 1264 = .ok (.iaload, 1) := by decide +kernel
theorem dL_law_1265 : decode cL_law 1265 = .ok (.aload_n 0, 1) := by decide +kernel
theorem dL_law_1266 : decode cL_law 1266 = .ok (.iload 5, 2) := by decide +kernel
theorem dL_law_1268 : decode cL_law 1268 = .ok (.iconst 2, 1) := by decide +kernel
theorem dL_law_1269 : decode cL_law 1269 = .ok (.iadd, 1) := by decide +kernel
theorem dL_law_1270 : decode cL_law 1270 = .ok (.iaload, 1) := by decide +kernel
theorem dL_law_1271 : decode cL_law 1271 = .ok (.aload_n 3, 1) := by decide +kernel
theorem dL_law_1272 : decode cL_law 1272 = .ok (.invokestatic 230, 3) := by decide +kernel
theorem dL_law_1275 : decode cL_law 1275 = .ok (.istore 6, 2) := by decide +kernel
theorem dL_law_1277 : decode cL_law 1277 = .ok (.aload_n 2, 1) := by decide +kernel
theorem dL_law_1278 : decode cL_law 1278 = .ok (.aload_n 0, 1) := by decide +kernel
theorem dL_law_1279 : decode cL_law 1279 = .ok (.iload 5, 2) := by decide +kernel
theorem dL_law_1281 : decode cL_law 1281 = .ok (.iconst 1, 1) := by decide +kernel
theorem dL_law_1282 : decode cL_law 1282 = .ok (.iadd, 1) := by decide +kernel
theorem dL_law_1283 : decode cL_law 1283 = .ok (.iaload, 1) := by decide +kernel
theorem dL_law_1284 : decode cL_law 1284 = .ok (.aload_n 0, 1) := by decide +kernel
theorem dL_law_1285 : decode cL_law 1285 = .ok (.iload 5, 2) := by decide +kernel
theorem dL_law_1287 : decode cL_law 1287 = .ok (.iconst 2, 1) := by decide +kernel
theorem dL_law_1288 : decode cL_law 1288 = .ok (.iadd, 1) := by decide +kernel
theorem dL_law_1289 : decode cL_law 1289 = .ok (.iaload, 1) := by decide +kernel
theorem dL_law_1290 : decode cL_law 1290 = .ok (.invokevirtual 233, 3) := by decide +kernel
theorem dL_law_1293 : decode cL_law 1293 = .ok (.istore 7, 2) := by decide +kernel
theorem dL_law_1295 : decode cL_law 1295 = .ok (.aload_n 2, 1) := by decide +kernel
theorem dL_law_1296 : decode cL_law 1296 = .ok (.invokevirtual 149, 3) := by decide +kernel
theorem dL_law_1299 : decode cL_law 1299 = .ok (.iload 6, 2) := by decide +kernel
theorem dL_law_1301 : decode cL_law 1301 = .ok (.if_icmp .eq 5, 3) := by decide +kernel
theorem dL_law_1304 : decode cL_law 1304 = .ok (.iconst 0, 1) := by decide +kernel
theorem dL_law_1305 : decode cL_law 1305 = .ok (.ireturn, 1) := by decide +kernel
theorem dL_law_1306 : decode cL_law 1306 = .ok (.iload 6, 2) := by decide +kernel
theorem dL_law_1308 : decode cL_law 1308 = .ok (.ifCond .ne 22, 3) := by decide +kernel
theorem dL_law_1311 : decode cL_law 1311 = .ok (.aload_n 3, 1) := by decide +kernel
theorem dL_law_1312 : decode cL_law 1312 = .ok (.iconst 0, 1) := by decide +kernel
theorem dL_law_1313 : decode cL_law 1313 = .ok (.laload, 1) := by decide +kernel
theorem dL_law_1314 : decode cL_law 1314 = .ok (.iload 7, 2) := by decide +kernel
theorem dL_law_1316 : decode cL_law 1316 = .ok (.ifCond .eq 7, 3) := by decide +kernel
theorem dL_law_1319 : decode cL_law 1319 = .ok (.lconst 1, 1) := by decide +kernel
theorem dL_law_1320 : decode cL_law 1320 = .ok (.goto 4, 3) := by decide +kernel
theorem dL_law_1323 : decode cL_law 1323 = .ok (.lconst 0, 1) := by decide +kernel
theorem dL_law_1324 : decode cL_law 1324 = .ok (.lcmp, 1) := by decide +kernel
theorem dL_law_1325 : decode cL_law 1325 = .ok (.ifCond .eq 5, 3) := by decide +kernel
theorem dL_law_1328 : decode cL_law 1328 = .ok (.iconst 0, 1) := by decide +kernel
theorem dL_law_1329 : decode cL_law 1329 = .ok (.ireturn, 1) := by decide +kernel
theorem dL_law_1330 : decode cL_law 1330 = .ok (.goto 1645, 3) := by decide +kernel
theorem dL_law_1333 : decode cL_law 1333 = .ok (.aload_n 1, 1) := by decide +kernel
theorem dL_law_1334 : decode cL_law 1334 = .ok (.aload_n 0, 1) := by decide +kernel
theorem dL_law_1335 : decode cL_law 1335 = .ok (.iload 5, 2) := by decide +kernel
theorem dL_law_1337 : decode cL_law 1337 = .ok (.iconst 1, 1) := by decide +kernel
theorem dL_law_1338 : decode cL_law 1338 = .ok (.iadd, 1) := by decide +kernel
theorem dL_law_1339 : decode cL_law 1339 = .ok (.iaload, 1) := by decide +kernel
theorem dL_law_1340 : decode cL_law 1340 = .ok (.aload_n 0, 1) := by decide +kernel
theorem dL_law_1341 : decode cL_law 1341 = .ok (.iload 5, 2) := by decide +kernel
theorem dL_law_1343 : decode cL_law 1343 = .ok (.iconst 2, 1) := by decide +kernel
theorem dL_law_1344 : decode cL_law 1344 = .ok (.iadd, 1) := by decide +kernel
theorem dL_law_1345 : decode cL_law 1345 = .ok (.iaload, 1) := by decide +kernel
theorem dL_law_1346 : decode cL_law 1346 = .ok (.aload_n 3, 1) := by decide +kernel
theorem dL_law_1347 : decode cL_law 1347 = .ok (.invokestatic 234, 3) := by decide +kernel
theorem dL_law_1350 : decode cL_law 1350 = .ok (.istore 6, 2) := by decide +kernel
theorem dL_law_1352 : decode cL_law 1352 = .ok (.aload_n 2, 1) := by decide +kernel
theorem dL_law_1353 : decode cL_law 1353 = .ok (.aload_n 0, 1) := by decide +kernel
theorem dL_law_1354 : decode cL_law 1354 = .ok (.iload 5, 2) := by decide +kernel
theorem dL_law_1356 : decode cL_law 1356 = .ok (.iconst 1, 1) := by decide +kernel
theorem dL_law_1357 : decode cL_law 1357 = .ok (.iadd, 1) := by decide +kernel
theorem dL_law_1358 : decode cL_law 1358 = .ok (.iaload, 1) := by decide +kernel
theorem dL_law_1359 : decode cL_law 1359 = .ok (.aload_n 0, 1) := by decide +kernel
theorem dL_law_1360 : decode cL_law 1360 = .ok (.iload 5, 2) := by decide +kernel
theorem dL_law_1362 : decode cL_law 1362 = .ok (.iconst 2, 1) := by decide +kernel
theorem dL_law_1363 : decode cL_law 1363 = .ok (.iadd, 1) := by decide +kernel
theorem dL_law_1364 : decode cL_law 1364 = .ok (.iaload, 1) := by decide +kernel
theorem dL_law_1365 : decode cL_law 1365 = .ok (.invokevirtual 236, 3) := by decide +kernel
theorem dL_law_1368 : decode cL_law 1368 = .ok (.istore 7, 2) := by decide +kernel
theorem dL_law_1370 : decode cL_law 1370 = .ok (.aload_n 2, 1) := by decide +kernel
theorem dL_law_1371 : decode cL_law 1371 = .ok (.invokevirtual 149, 3) := by decide +kernel
theorem dL_law_1374 : decode cL_law 1374 = .ok (.iload 6, 2) := by decide +kernel
theorem dL_law_1376 : decode cL_law 1376 = .ok (.if_icmp .eq 5, 3) := by decide +kernel
theorem dL_law_1379 : decode cL_law 1379 = .ok (.iconst 0, 1) := by decide +kernel
theorem dL_law_1380 : decode cL_law 1380 = .ok (.ireturn, 1) := by decide +kernel
theorem dL_law_1381 : decode cL_law 1381 = .ok (.iload 6, 2) := by decide +kernel
theorem dL_law_1383 : decode cL_law 1383 = .ok (.ifCond .ne 15, 3) := by decide +kernel
theorem dL_law_1386 : decode cL_law 1386 = .ok (.aload_n 3, 1) := by decide +kernel
theorem dL_law_1387 : decode cL_law 1387 = .ok (.iconst 0, 1) := by decide +kernel
theorem dL_law_1388 : decode cL_law 1388 = .ok (.laload, 1) := by decide +kernel
theorem dL_law_1389 : decode cL_law 1389 = .ok (.iload 7, 2) := by decide +kernel
theorem dL_law_1391 : decode cL_law 1391 = .ok (.i2l, 1) := by decide +kernel
theorem dL_law_1392 : decode cL_law 1392 = .ok (.lcmp, 1) := by decide +kernel
theorem dL_law_1393 : decode cL_law 1393 = .ok (.ifCond .eq 5, 3) := by decide +kernel
theorem dL_law_1396 : decode cL_law 1396 = .ok (.iconst 0, 1) := by decide +kernel
theorem dL_law_1397 : decode cL_law 1397 = .ok (.ireturn, 1) := by decide +kernel
theorem dL_law_1398 : decode cL_law 1398 = .ok (.goto 1577, 3) := by decide +kernel
theorem dL_law_1401 : decode cL_law 1401 = .ok (.aload_n 1, 1) := by decide +kernel
theorem dL_law_1402 : decode cL_law 1402 = .ok (.aload_n 0, 1) := by decide +kernel
theorem dL_law_1403 : decode cL_law 1403 = .ok (.iload 5, 2) := by decide +kernel
theorem dL_law_1405 : decode cL_law 1405 = .ok (.iconst 1, 1) := by decide +kernel
theorem dL_law_1406 : decode cL_law 1406 = .ok (.iadd, 1) := by decide +kernel
theorem dL_law_1407 : decode cL_law 1407 = .ok (.iaload, 1) := by decide +kernel
theorem dL_law_1408 : decode cL_law 1408 = .ok (.aload_n 0, 1) := by decide +kernel
theorem dL_law_1409 : decode cL_law 1409 = .ok (.iload 5, 2) := by decide +kernel
theorem dL_law_1411 : decode cL_law 1411 = .ok (.iconst 2, 1) := by decide +kernel
theorem dL_law_1412 : decode cL_law 1412 = .ok (.iadd, 1) := by decide +kernel
theorem dL_law_1413 : decode cL_law 1413 = .ok (.iaload, 1) := by decide +kernel
theorem dL_law_1414 : decode cL_law 1414 = .ok (.aload_n 3, 1) := by decide +kernel
theorem dL_law_1415 : decode cL_law 1415 = .ok (.invokestatic 237, 3) := by decide +kernel
theorem dL_law_1418 : decode cL_law 1418 = .ok (.istore 6, 2) := by decide +kernel
theorem dL_law_1420 : decode cL_law 1420 = .ok (.aload_n 2, 1) := by decide +kernel
theorem dL_law_1421 : decode cL_law 1421 = .ok (.aload_n 0, 1) := by decide +kernel
theorem dL_law_1422 : decode cL_law 1422 = .ok (.iload 5, 2) := by decide +kernel
theorem dL_law_1424 : decode cL_law 1424 = .ok (.iconst 1, 1) := by decide +kernel
theorem dL_law_1425 : decode cL_law 1425 = .ok (.iadd, 1) := by decide +kernel
theorem dL_law_1426 : decode cL_law 1426 = .ok (.iaload, 1) := by decide +kernel
theorem dL_law_1427 : decode cL_law 1427 = .ok (.aload_n 0, 1) := by decide +kernel
theorem dL_law_1428 : decode cL_law 1428 = .ok (.iload 5, 2) := by decide +kernel
theorem dL_law_1430 : decode cL_law 1430 = .ok (.iconst 2, 1) := by decide +kernel
theorem dL_law_1431 : decode cL_law 1431 = .ok (.iadd, 1) := by decide +kernel
theorem dL_law_1432 : decode cL_law 1432 = .ok (.iaload, 1) := by decide +kernel
theorem dL_law_1433 : decode cL_law 1433 = .ok (.invokevirtual 239, 3) := by decide +kernel
theorem dL_law_1436 : decode cL_law 1436 = .ok (.istore 7, 2) := by decide +kernel
theorem dL_law_1438 : decode cL_law 1438 = .ok (.aload_n 2, 1) := by decide +kernel
theorem dL_law_1439 : decode cL_law 1439 = .ok (.invokevirtual 149, 3) := by decide +kernel
theorem dL_law_1442 : decode cL_law 1442 = .ok (.iload 6, 2) := by decide +kernel
theorem dL_law_1444 : decode cL_law 1444 = .ok (.if_icmp .eq 5, 3) := by decide +kernel
theorem dL_law_1447 : decode cL_law 1447 = .ok (.iconst 0, 1) := by decide +kernel
theorem dL_law_1448 : decode cL_law 1448 = .ok (.ireturn, 1) := by decide +kernel
theorem dL_law_1449 : decode cL_law 1449 = .ok (.iload 6, 2) := by decide +kernel
theorem dL_law_1451 : decode cL_law 1451 = .ok (.ifCond .ne 15, 3) := by decide +kernel
theorem dL_law_1454 : decode cL_law 1454 = .ok (.aload_n 3, 1) := by decide +kernel
theorem dL_law_1455 : decode cL_law 1455 = .ok (.iconst 0, 1) := by decide +kernel
theorem dL_law_1456 : decode cL_law 1456 = .ok (.laload, 1) := by decide +kernel
theorem dL_law_1457 : decode cL_law 1457 = .ok (.iload 7, 2) := by decide +kernel
theorem dL_law_1459 : decode cL_law 1459 = .ok (.i2l, 1) := by decide +kernel
theorem dL_law_1460 : decode cL_law 1460 = .ok (.lcmp, 1) := by decide +kernel
theorem dL_law_1461 : decode cL_law 1461 = .ok (.ifCond .eq 5, 3) := by decide +kernel
theorem dL_law_1464 : decode cL_law 1464 = .ok (.iconst 0, 1) := by decide +kernel
theorem dL_law_1465 : decode cL_law 1465 = .ok (.ireturn, 1) := by decide +kernel
theorem dL_law_1466 : decode cL_law 1466 = .ok (.goto 1509, 3) := by decide +kernel
theorem dL_law_1469 : decode cL_law 1469 = .ok (.aload_n 1, 1) := by decide +kernel
theorem dL_law_1470 : decode cL_law 1470 = .ok (.aload_n 0, 1) := by decide +kernel
theorem dL_law_1471 : decode cL_law 1471 = .ok (.iload 5, 2) := by decide +kernel
theorem dL_law_1473 : decode cL_law 1473 = .ok (.iconst 1, 1) := by decide +kernel
theorem dL_law_1474 : decode cL_law 1474 = .ok (.iadd, 1) := by decide +kernel
theorem dL_law_1475 : decode cL_law 1475 = .ok (.iaload, 1) := by decide +kernel
theorem dL_law_1476 : decode cL_law 1476 = .ok (.aload_n 0, 1) := by decide +kernel
theorem dL_law_1477 : decode cL_law 1477 = .ok (.iload 5, 2) := by decide +kernel
theorem dL_law_1479 : decode cL_law 1479 = .ok (.iconst 2, 1) := by decide +kernel
theorem dL_law_1480 : decode cL_law 1480 = .ok (.iadd, 1) := by decide +kernel
theorem dL_law_1481 : decode cL_law 1481 = .ok (.iaload, 1) := by decide +kernel
theorem dL_law_1482 : decode cL_law 1482 = .ok (.aload_n 3, 1) := by decide +kernel
theorem dL_law_1483 : decode cL_law 1483 = .ok (.invokestatic 240, 3) := by decide +kernel
theorem dL_law_1486 : decode cL_law 1486 = .ok (.istore 6, 2) := by decide +kernel
theorem dL_law_1488 : decode cL_law 1488 = .ok (.aload_n 2, 1) := by decide +kernel
theorem dL_law_1489 : decode cL_law 1489 = .ok (.aload_n 0, 1) := by decide +kernel
theorem dL_law_1490 : decode cL_law 1490 = .ok (.iload 5, 2) := by decide +kernel
theorem dL_law_1492 : decode cL_law 1492 = .ok (.iconst 1, 1) := by decide +kernel
theorem dL_law_1493 : decode cL_law 1493 = .ok (.iadd, 1) := by decide +kernel
theorem dL_law_1494 : decode cL_law 1494 = .ok (.iaload, 1) := by decide +kernel
theorem dL_law_1495 : decode cL_law 1495 = .ok (.aload_n 0, 1) := by decide +kernel
theorem dL_law_1496 : decode cL_law 1496 = .ok (.iload 5, 2) := by decide +kernel
theorem dL_law_1498 : decode cL_law 1498 = .ok (.iconst 2, 1) := by decide +kernel
theorem dL_law_1499 : decode cL_law 1499 = .ok (.iadd, 1) := by decide +kernel
theorem dL_law_1500 : decode cL_law 1500 = .ok (.iaload, 1) := by decide +kernel
theorem dL_law_1501 : decode cL_law 1501 = .ok (.invokevirtual 242, 3) := by decide +kernel
theorem dL_law_1504 : decode cL_law 1504 = .ok (.istore 7, 2) := by decide +kernel
theorem dL_law_1506 : decode cL_law 1506 = .ok (.aload_n 2, 1) := by decide +kernel
theorem dL_law_1507 : decode cL_law 1507 = .ok (.invokevirtual 149, 3) := by decide +kernel
theorem dL_law_1510 : decode cL_law 1510 = .ok (.iload 6, 2) := by decide +kernel
theorem dL_law_1512 : decode cL_law 1512 = .ok (.if_icmp .eq 5, 3) := by decide +kernel
theorem dL_law_1515 : decode cL_law 1515 = .ok (.iconst 0, 1) := by decide +kernel
theorem dL_law_1516 : decode cL_law 1516 = .ok (.ireturn, 1) := by decide +kernel
theorem dL_law_1517 : decode cL_law 1517 = .ok (.iload 6, 2) := by decide +kernel
theorem dL_law_1519 : decode cL_law 1519 = .ok (.ifCond .ne 15, 3) := by decide +kernel
theorem dL_law_1522 : decode cL_law 1522 = .ok (.aload_n 3, 1) := by decide +kernel
theorem dL_law_1523 : decode cL_law 1523 = .ok (.iconst 0, 1) := by decide +kernel
theorem dL_law_1524 : decode cL_law 1524 = .ok (.laload, 1) := by decide +kernel
theorem dL_law_1525 : decode cL_law 1525 = .ok (.iload 7, 2) := by decide +kernel
theorem dL_law_1527 : decode cL_law 1527 = .ok (.i2l, 1) := by decide +kernel
theorem dL_law_1528 : decode cL_law 1528 = .ok (.lcmp, 1) := by decide +kernel
theorem dL_law_1529 : decode cL_law 1529 = .ok (.ifCond .eq 5, 3) := by decide +kernel
theorem dL_law_1532 : decode cL_law 1532 = .ok (.iconst 0, 1) := by decide +kernel
theorem dL_law_1533 : decode cL_law 1533 = .ok (.ireturn, 1) := by decide +kernel
theorem dL_law_1534 : decode cL_law 1534 = .ok (.goto 1441, 3) := by decide +kernel
theorem dL_law_1537 : decode cL_law 1537 = .ok (.aload_n 1, 1) := by decide +kernel
theorem dL_law_1538 : decode cL_law 1538 = .ok (.aload_n 0, 1) := by decide +kernel
theorem dL_law_1539 : decode cL_law 1539 = .ok (.iload 5, 2) := by decide +kernel
theorem dL_law_1541 : decode cL_law 1541 = .ok (.iconst 1, 1) := by decide +kernel
theorem dL_law_1542 : decode cL_law 1542 = .ok (.iadd, 1) := by decide +kernel
theorem dL_law_1543 : decode cL_law 1543 = .ok (.iaload, 1) := by decide +kernel
theorem dL_law_1544 : decode cL_law 1544 = .ok (.aload_n 0, 1) := by decide +kernel
theorem dL_law_1545 : decode cL_law 1545 = .ok (.iload 5, 2) := by decide +kernel
theorem dL_law_1547 : decode cL_law 1547 = .ok (.iconst 2, 1) := by decide +kernel
theorem dL_law_1548 : decode cL_law 1548 = .ok (.iadd, 1) := by decide +kernel
theorem dL_law_1549 : decode cL_law 1549 = .ok (.iaload, 1) := by decide +kernel
theorem dL_law_1550 : decode cL_law 1550 = .ok (.aload_n 3, 1) := by decide +kernel
theorem dL_law_1551 : decode cL_law 1551 = .ok (.invokestatic 243, 3) := by decide +kernel
theorem dL_law_1554 : decode cL_law 1554 = .ok (.istore 6, 2) := by decide +kernel
theorem dL_law_1556 : decode cL_law 1556 = .ok (.aload_n 2, 1) := by decide +kernel
theorem dL_law_1557 : decode cL_law 1557 = .ok (.aload_n 0, 1) := by decide +kernel
theorem dL_law_1558 : decode cL_law 1558 = .ok (.iload 5, 2) := by decide +kernel
theorem dL_law_1560 : decode cL_law 1560 = .ok (.iconst 1, 1) := by decide +kernel
theorem dL_law_1561 : decode cL_law 1561 = .ok (.iadd, 1) := by decide +kernel
theorem dL_law_1562 : decode cL_law 1562 = .ok (.iaload, 1) := by decide +kernel
theorem dL_law_1563 : decode cL_law 1563 = .ok (.aload_n 0, 1) := by decide +kernel
theorem dL_law_1564 : decode cL_law 1564 = .ok (.iload 5, 2) := by decide +kernel
theorem dL_law_1566 : decode cL_law 1566 = .ok (.iconst 2, 1) := by decide +kernel
theorem dL_law_1567 : decode cL_law 1567 = .ok (.iadd, 1) := by decide +kernel
theorem dL_law_1568 : decode cL_law 1568 = .ok (.iaload, 1) := by decide +kernel
theorem dL_law_1569 : decode cL_law 1569 = .ok (.invokevirtual 245, 3) := by decide +kernel
theorem dL_law_1572 : decode cL_law 1572 = .ok (.istore 7, 2) := by decide +kernel
theorem dL_law_1574 : decode cL_law 1574 = .ok (.aload_n 2, 1) := by decide +kernel
theorem dL_law_1575 : decode cL_law 1575 = .ok (.invokevirtual 149, 3) := by decide +kernel
theorem dL_law_1578 : decode cL_law 1578 = .ok (.iload 6, 2) := by decide +kernel
theorem dL_law_1580 : decode cL_law 1580 = .ok (.if_icmp .eq 5, 3) := by decide +kernel
theorem dL_law_1583 : decode cL_law 1583 = .ok (.iconst 0, 1) := by decide +kernel
theorem dL_law_1584 : decode cL_law 1584 = .ok (.ireturn, 1) := by decide +kernel
theorem dL_law_1585 : decode cL_law 1585 = .ok (.iload 6, 2) := by decide +kernel
theorem dL_law_1587 : decode cL_law 1587 = .ok (.ifCond .ne 15, 3) := by decide +kernel
theorem dL_law_1590 : decode cL_law 1590 = .ok (.aload_n 3, 1) := by decide +kernel
theorem dL_law_1591 : decode cL_law 1591 = .ok (.iconst 0, 1) := by decide +kernel
theorem dL_law_1592 : decode cL_law 1592 = .ok (.laload, 1) := by decide +kernel
theorem dL_law_1593 : decode cL_law 1593 = .ok (.iload 7, 2) := by decide +kernel
theorem dL_law_1595 : decode cL_law 1595 = .ok (.i2l, 1) := by decide +kernel
theorem dL_law_1596 : decode cL_law 1596 = .ok (.lcmp, 1) := by decide +kernel
theorem dL_law_1597 : decode cL_law 1597 = .ok (.ifCond .eq 5, 3) := by decide +kernel
theorem dL_law_1600 : decode cL_law 1600 = .ok (.iconst 0, 1) := by decide +kernel
theorem dL_law_1601 : decode cL_law 1601 = .ok (.ireturn, 1) := by decide +kernel
theorem dL_law_1602 : decode cL_law 1602 = .ok (.goto 1373, 3) := by decide +kernel
theorem dL_law_1605 : decode cL_law 1605 = .ok (.aload_n 1, 1) := by decide +kernel
theorem dL_law_1606 : decode cL_law 1606 = .ok (.aload_n 0, 1) := by decide +kernel
theorem dL_law_1607 : decode cL_law 1607 = .ok (.iload 5, 2) := by decide +kernel
theorem dL_law_1609 : decode cL_law 1609 = .ok (.iconst 1, 1) := by decide +kernel
theorem dL_law_1610 : decode cL_law 1610 = .ok (.iadd, 1) := by decide +kernel
theorem dL_law_1611 : decode cL_law 1611 = .ok (.iaload, 1) := by decide +kernel
theorem dL_law_1612 : decode cL_law 1612 = .ok (.aload_n 3, 1) := by decide +kernel
theorem dL_law_1613 : decode cL_law 1613 = .ok (.invokestatic 246, 3) := by decide +kernel
theorem dL_law_1616 : decode cL_law 1616 = .ok (.istore 6, 2) := by decide +kernel
theorem dL_law_1618 : decode cL_law 1618 = .ok (.aload_n 2, 1) := by decide +kernel
theorem dL_law_1619 : decode cL_law 1619 = .ok (.aload_n 0, 1) := by decide +kernel
theorem dL_law_1620 : decode cL_law 1620 = .ok (.iload 5, 2) := by decide +kernel
theorem dL_law_1622 : decode cL_law 1622 = .ok (.iconst 1, 1) := by decide +kernel
theorem dL_law_1623 : decode cL_law 1623 = .ok (.iadd, 1) := by decide +kernel
theorem dL_law_1624 : decode cL_law 1624 = .ok (.iaload, 1) := by decide +kernel
theorem dL_law_1625 : decode cL_law 1625 = .ok (.invokevirtual 248, 3) := by decide +kernel
theorem dL_law_1628 : decode cL_law 1628 = .ok (.istore 7, 2) := by decide +kernel
theorem dL_law_1630 : decode cL_law 1630 = .ok (.aload_n 2, 1) := by decide +kernel
theorem dL_law_1631 : decode cL_law 1631 = .ok (.invokevirtual 149, 3) := by decide +kernel
theorem dL_law_1634 : decode cL_law 1634 = .ok (.iload 6, 2) := by decide +kernel
theorem dL_law_1636 : decode cL_law 1636 = .ok (.if_icmp .eq 5, 3) := by decide +kernel
theorem dL_law_1639 : decode cL_law 1639 = .ok (.iconst 0, 1) := by decide +kernel
theorem dL_law_1640 : decode cL_law 1640 = .ok (.ireturn, 1) := by decide +kernel
theorem dL_law_1641 : decode cL_law 1641 = .ok (.iload 6, 2) := by decide +kernel
theorem dL_law_1643 : decode cL_law 1643 = .ok (.ifCond .ne 15, 3) := by decide +kernel
theorem dL_law_1646 : decode cL_law 1646 = .ok (.aload_n 3, 1) := by decide +kernel
theorem dL_law_1647 : decode cL_law 1647 = .ok (.iconst 0, 1) := by decide +kernel
theorem dL_law_1648 : decode cL_law 1648 = .ok (.laload, 1) := by decide +kernel
theorem dL_law_1649 : decode cL_law 1649 = .ok (.iload 7, 2) := by decide +kernel
theorem dL_law_1651 : decode cL_law 1651 = .ok (.i2l, 1) := by decide +kernel
theorem dL_law_1652 : decode cL_law 1652 = .ok (.lcmp, 1) := by decide +kernel
theorem dL_law_1653 : decode cL_law 1653 = .ok (.ifCond .eq 5, 3) := by decide +kernel
theorem dL_law_1656 : decode cL_law 1656 = .ok (.iconst 0, 1) := by decide +kernel
theorem dL_law_1657 : decode cL_law 1657 = .ok (.ireturn, 1) := by decide +kernel
theorem dL_law_1658 : decode cL_law 1658 = .ok (.goto 1317, 3) := by decide +kernel
theorem dL_law_1661 : decode cL_law 1661 = .ok (.aload_n 1, 1) := by decide +kernel
theorem dL_law_1662 : decode cL_law 1662 = .ok (.invokevirtual 249, 3) := by decide +kernel
theorem dL_law_1665 : decode cL_law 1665 = .ok (.aload_n 2, 1) := by decide +kernel
theorem dL_law_1666 : decode cL_law 1666 = .ok (.invokevirtual 252, 3) := by decide +kernel
theorem dL_law_1669 : decode cL_law 1669 = .ok (.if_icmp .eq 1306, 3) := by decide +kernel
theorem dL_law_1672 : decode cL_law 1672 = .ok (.iconst 0, 1) := by decide +kernel
theorem dL_law_1673 : decode cL_law 1673 = .ok (.ireturn, 1) := by decide +kernel
theorem dL_law_1674 : decode cL_law 1674 = .ok (.aload_n 1, 1) := by decide +kernel
theorem dL_law_1675 : decode cL_law 1675 = .ok (.aload_n 0, 1) := by decide +kernel
theorem dL_law_1676 : decode cL_law 1676 = .ok (.iload 5, 2) := by decide +kernel
theorem dL_law_1678 : decode cL_law 1678 = .ok (.iconst 1, 1) := by decide +kernel
theorem dL_law_1679 : decode cL_law 1679 = .ok (.iadd, 1) := by decide +kernel
theorem dL_law_1680 : decode cL_law 1680 = .ok (.iaload, 1) := by decide +kernel
theorem dL_law_1681 : decode cL_law 1681 = .ok (.aload_n 3, 1) := by decide +kernel
theorem dL_law_1682 : decode cL_law 1682 = .ok (.invokestatic 253, 3) := by decide +kernel
theorem dL_law_1685 : decode cL_law 1685 = .ok (.istore 6, 2) := by decide +kernel
theorem dL_law_1687 : decode cL_law 1687 = .ok (.aload_n 2, 1) := by decide +kernel
theorem dL_law_1688 : decode cL_law 1688 = .ok (.aload_n 0, 1) := by decide +kernel
theorem dL_law_1689 : decode cL_law 1689 = .ok (.iload 5, 2) := by decide +kernel
theorem dL_law_1691 : decode cL_law 1691 = .ok (.iconst 1, 1) := by decide +kernel
theorem dL_law_1692 : decode cL_law 1692 = .ok (.iadd, 1) := by decide +kernel
theorem dL_law_1693 : decode cL_law 1693 = .ok (.iaload, 1) := by decide +kernel
theorem dL_law_1694 : decode cL_law 1694 = .ok (.invokevirtual 255, 3) := by decide +kernel
theorem dL_law_1697 : decode cL_law 1697 = .ok (.istore 7, 2) := by decide +kernel
theorem dL_law_1699 : decode cL_law 1699 = .ok (.aload_n 2, 1) := by decide +kernel
theorem dL_law_1700 : decode cL_law 1700 = .ok (.invokevirtual 149, 3) := by decide +kernel
theorem dL_law_1703 : decode cL_law 1703 = .ok (.iload 6, 2) := by decide +kernel
theorem dL_law_1705 : decode cL_law 1705 = .ok (.if_icmp .eq 5, 3) := by decide +kernel
theorem dL_law_1708 : decode cL_law 1708 = .ok (.iconst 0, 1) := by decide +kernel
theorem dL_law_1709 : decode cL_law 1709 = .ok (.ireturn, 1) := by decide +kernel
theorem dL_law_1710 : decode cL_law 1710 = .ok (.iload 6, 2) := by decide +kernel
theorem dL_law_1712 : decode cL_law 1712 = .ok (.ifCond .ne 15, 3) := by decide +kernel
theorem dL_law_1715 : decode cL_law 1715 = .ok (.aload_n 3, 1) := by decide +kernel
theorem dL_law_1716 : decode cL_law 1716 = .ok (.iconst 0, 1) := by decide +kernel
theorem dL_law_1717 : decode cL_law 1717 = .ok (.laload, 1) := by decide +kernel
theorem dL_law_1718 : decode cL_law 1718 = .ok (.iload 7, 2) := by decide +kernel
theorem dL_law_1720 : decode cL_law 1720 = .ok (.i2l, 1) := by decide +kernel
theorem dL_law_1721 : decode cL_law 1721 = .ok (.lcmp, 1) := by decide +kernel
theorem dL_law_1722 : decode cL_law 1722 = .ok (.ifCond .eq 5, 3) := by decide +kernel
theorem dL_law_1725 : decode cL_law 1725 = .ok (.iconst 0, 1) := by decide +kernel
theorem dL_law_1726 : decode cL_law 1726 = .ok (.ireturn, 1) := by decide +kernel
theorem dL_law_1727 : decode cL_law 1727 = .ok (.goto 1248, 3) := by decide +kernel
theorem dL_law_1730 : decode cL_law 1730 = .ok (.aload_n 1, 1) := by decide +kernel
theorem dL_law_1731 : decode cL_law 1731 = .ok (.aload_n 0, 1) := by decide +kernel
theorem dL_law_1732 : decode cL_law 1732 = .ok (.iload 5, 2) := by decide +kernel
theorem dL_law_1734 : decode cL_law 1734 = .ok (.iconst 1, 1) := by decide +kernel
theorem dL_law_1735 : decode cL_law 1735 = .ok (.iadd, 1) := by decide +kernel
theorem dL_law_1736 : decode cL_law 1736 = .ok (.iaload, 1) := by decide +kernel
theorem dL_law_1737 : decode cL_law 1737 = .ok (.aload_n 3, 1) := by decide +kernel
theorem dL_law_1738 : decode cL_law 1738 = .ok (.invokestatic 256, 3) := by decide +kernel
theorem dL_law_1741 : decode cL_law 1741 = .ok (.istore 6, 2) := by decide +kernel
theorem dL_law_1743 : decode cL_law 1743 = .ok (.aload_n 2, 1) := by decide +kernel
theorem dL_law_1744 : decode cL_law 1744 = .ok (.aload_n 0, 1) := by decide +kernel
theorem dL_law_1745 : decode cL_law 1745 = .ok (.iload 5, 2) := by decide +kernel
theorem dL_law_1747 : decode cL_law 1747 = .ok (.iconst 1, 1) := by decide +kernel
theorem dL_law_1748 : decode cL_law 1748 = .ok (.iadd, 1) := by decide +kernel
theorem dL_law_1749 : decode cL_law 1749 = .ok (.iaload, 1) := by decide +kernel
theorem dL_law_1750 : decode cL_law 1750 = .ok (.invokevirtual 258, 3) := by decide +kernel
theorem dL_law_1753 : decode cL_law 1753 = .ok (.istore 7, 2) := by decide +kernel
theorem dL_law_1755 : decode cL_law 1755 = .ok (.aload_n 2, 1) := by decide +kernel
theorem dL_law_1756 : decode cL_law 1756 = .ok (.invokevirtual 149, 3) := by decide +kernel
theorem dL_law_1759 : decode cL_law 1759 = .ok (.iload 6, 2) := by decide +kernel
theorem dL_law_1761 : decode cL_law 1761 = .ok (.if_icmp .eq 5, 3) := by decide +kernel
theorem dL_law_1764 : decode cL_law 1764 = .ok (.iconst 0, 1) := by decide +kernel
theorem dL_law_1765 : decode cL_law 1765 = .ok (.ireturn, 1) := by decide +kernel
theorem dL_law_1766 : decode cL_law 1766 = .ok (.iload 6, 2) := by decide +kernel
theorem dL_law_1768 : decode cL_law 1768 = .ok (.ifCond .ne 22, 3) := by decide +kernel
theorem dL_law_1771 : decode cL_law 1771 = .ok (.aload_n 3, 1) := by decide +kernel
theorem dL_law_1772 : decode cL_law 1772 = .ok (.iconst 0, 1) := by decide +kernel
theorem dL_law_1773 : decode cL_law 1773 = .ok (.laload, 1) := by decide +kernel
theorem dL_law_1774 : decode cL_law 1774 = .ok (.iload 7, 2) := by decide +kernel
theorem dL_law_1776 : decode cL_law 1776 = .ok (.ifCond .eq 7, 3) := by decide +kernel
theorem dL_law_1779 : decode cL_law 1779 = .ok (.lconst 1, 1) := by decide +kernel
theorem dL_law_1780 : decode cL_law 1780 = .ok (.goto 4, 3) := by decide +kernel
theorem dL_law_1783 : decode cL_law 1783 = .ok (.lconst 0, 1) := by decide +kernel
theorem dL_law_1784 : decode cL_law 1784 = .ok (.lcmp, 1) := by decide +kernel
theorem dL_law_1785 : decode cL_law 1785 = .ok (.ifCond .eq 5, 3) := by decide +kernel
theorem dL_law_1788 : decode cL_law 1788 = .ok (.iconst 0, 1) := by decide +kernel
theorem dL_law_1789 : decode cL_law 1789 = .ok (.ireturn, 1) := by decide +kernel
theorem dL_law_1790 : decode cL_law 1790 = .ok (.goto 1185, 3) := by decide +kernel
theorem dL_law_1793 : decode cL_law 1793 = .ok (.aload_n 1, 1) := by decide +kernel
theorem dL_law_1794 : decode cL_law 1794 = .ok (.aload_n 0, 1) := by decide +kernel
theorem dL_law_1795 : decode cL_law 1795 = .ok (.iload 5, 2) := by decide +kernel
theorem dL_law_1797 : decode cL_law 1797 = .ok (.iconst 1, 1) := by decide +kernel
theorem dL_law_1798 : decode cL_law 1798 = .ok (.iadd, 1) := by decide +kernel
theorem dL_law_1799 : decode cL_law 1799 = .ok (.iaload, 1) := by decide +kernel
theorem dL_law_1800 : decode cL_law 1800 = .ok (.aload_n 0, 1) := by decide +kernel
theorem dL_law_1801 : decode cL_law 1801 = .ok (.iload 5, 2) := by decide +kernel
theorem dL_law_1803 : decode cL_law 1803 = .ok (.iconst 2, 1) := by decide +kernel
theorem dL_law_1804 : decode cL_law 1804 = .ok (.iadd, 1) := by decide +kernel
theorem dL_law_1805 : decode cL_law 1805 = .ok (.iaload, 1) := by decide +kernel
theorem dL_law_1806 : decode cL_law 1806 = .ok (.aload_n 3, 1) := by decide +kernel
theorem dL_law_1807 : decode cL_law 1807 = .ok (.invokestatic 259, 3) := by decide +kernel
theorem dL_law_1810 : decode cL_law 1810 = .ok (.istore 6, 2) := by decide +kernel
theorem dL_law_1812 : decode cL_law 1812 = .ok (.aload_n 2, 1) := by decide +kernel
theorem dL_law_1813 : decode cL_law 1813 = .ok (.aload_n 0, 1) := by decide +kernel
theorem dL_law_1814 : decode cL_law 1814 = .ok (.iload 5, 2) := by decide +kernel
theorem dL_law_1816 : decode cL_law 1816 = .ok (.iconst 1, 1) := by decide +kernel
theorem dL_law_1817 : decode cL_law 1817 = .ok (.iadd, 1) := by decide +kernel
theorem dL_law_1818 : decode cL_law 1818 = .ok (.iaload, 1) := by decide +kernel
theorem dL_law_1819 : decode cL_law 1819 = .ok (.aload_n 0, 1) := by decide +kernel
theorem dL_law_1820 : decode cL_law 1820 = .ok (.iload 5, 2) := by decide +kernel
theorem dL_law_1822 : decode cL_law 1822 = .ok (.iconst 2, 1) := by decide +kernel
theorem dL_law_1823 : decode cL_law 1823 = .ok (.iadd, 1) := by decide +kernel
theorem dL_law_1824 : decode cL_law 1824 = .ok (.iaload, 1) := by decide +kernel
theorem dL_law_1825 : decode cL_law 1825 = .ok (.invokevirtual 261, 3) := by decide +kernel
theorem dL_law_1828 : decode cL_law 1828 = .ok (.istore 7, 2) := by decide +kernel
theorem dL_law_1830 : decode cL_law 1830 = .ok (.aload_n 2, 1) := by decide +kernel
theorem dL_law_1831 : decode cL_law 1831 = .ok (.invokevirtual 149, 3) := by decide +kernel
theorem dL_law_1834 : decode cL_law 1834 = .ok (.iload 6, 2) := by decide +kernel
theorem dL_law_1836 : decode cL_law 1836 = .ok (.if_icmp .eq 5, 3) := by decide +kernel
theorem dL_law_1839 : decode cL_law 1839 = .ok (.iconst 0, 1) := by decide +kernel
theorem dL_law_1840 : decode cL_law 1840 = .ok (.ireturn, 1) := by decide +kernel
theorem dL_law_1841 : decode cL_law 1841 = .ok (.iload 6, 2) := by decide +kernel
theorem dL_law_1843 : decode cL_law 1843 = .ok (.ifCond .ne 15, 3) := by decide +kernel
theorem dL_law_1846 : decode cL_law 1846 = .ok (.aload_n 3, 1) := by decide +kernel
theorem dL_law_1847 : decode cL_law 1847 = .ok (.iconst 0, 1) := by decide +kernel
theorem dL_law_1848 : decode cL_law 1848 = .ok (.laload, 1) := by decide +kernel
theorem dL_law_1849 : decode cL_law 1849 = .ok (.iload 7, 2) := by decide +kernel
theorem dL_law_1851 : decode cL_law 1851 = .ok (.i2l, 1) := by decide +kernel
theorem dL_law_1852 : decode cL_law 1852 = .ok (.lcmp, 1) := by decide +kernel
theorem dL_law_1853 : decode cL_law 1853 = .ok (.ifCond .eq 5, 3) := by decide +kernel
theorem dL_law_1856 : decode cL_law 1856 = .ok (.iconst 0, 1) := by decide +kernel
theorem dL_law_1857 : decode cL_law 1857 = .ok (.ireturn, 1) := by decide +kernel
theorem dL_law_1858 : decode cL_law 1858 = .ok (.goto 1117, 3) := by decide +kernel
theorem dL_law_1861 : decode cL_law 1861 = .ok (.aload_n 1, 1) := by decide +kernel
theorem dL_law_1862 : decode cL_law 1862 = .ok (.invokevirtual 262, 3) := by decide +kernel
theorem dL_law_1865 : decode cL_law 1865 = .ok (.aload_n 2, 1) := by decide +kernel
theorem dL_law_1866 : decode cL_law 1866 = .ok (.invokevirtual 265, 3) := by decide +kernel
theorem dL_law_1869 : decode cL_law 1869 = .ok (.if_icmp .eq 1106, 3) := by decide +kernel
theorem dL_law_1872 : decode cL_law 1872 = .ok (.iconst 0, 1) := by decide +kernel
theorem dL_law_1873 : decode cL_law 1873 = .ok (.ireturn, 1) := by decide +kernel
theorem dL_law_1874 : decode cL_law 1874 = .ok (.aload_n 1, 1) := by decide +kernel
theorem dL_law_1875 : decode cL_law 1875 = .ok (.aload_n 0, 1) := by decide +kernel
theorem dL_law_1876 : decode cL_law 1876 = .ok (.iload 5, 2) := by decide +kernel
theorem dL_law_1878 : decode cL_law 1878 = .ok (.iconst 1, 1) := by decide +kernel
theorem dL_law_1879 : decode cL_law 1879 = .ok (.iadd, 1) := by decide +kernel
theorem dL_law_1880 : decode cL_law 1880 = .ok (.iaload, 1) := by decide +kernel
theorem dL_law_1881 : decode cL_law 1881 = .ok (.aload_n 3, 1) := by decide +kernel
theorem dL_law_1882 : decode cL_law 1882 = .ok (.invokestatic 266, 3) := by decide +kernel
theorem dL_law_1885 : decode cL_law 1885 = .ok (.istore 6, 2) := by decide +kernel
theorem dL_law_1887 : decode cL_law 1887 = .ok (.aload_n 2, 1) := by decide +kernel
theorem dL_law_1888 : decode cL_law 1888 = .ok (.aload_n 0, 1) := by decide +kernel
theorem dL_law_1889 : decode cL_law 1889 = .ok (.iload 5, 2) := by decide +kernel
theorem dL_law_1891 : decode cL_law 1891 = .ok (.iconst 1, 1) := by decide +kernel
theorem dL_law_1892 : decode cL_law 1892 = .ok (.iadd, 1) := by decide +kernel
theorem dL_law_1893 : decode cL_law 1893 = .ok (.iaload, 1) := by decide +kernel
theorem dL_law_1894 : decode cL_law 1894 = .ok (.invokevirtual 268, 3) := by decide +kernel
theorem dL_law_1897 : decode cL_law 1897 = .ok (.istore 7, 2) := by decide +kernel
theorem dL_law_1899 : decode cL_law 1899 = .ok (.aload_n 2, 1) := by decide +kernel
theorem dL_law_1900 : decode cL_law 1900 = .ok (.invokevirtual 149, 3) := by decide +kernel
theorem dL_law_1903 : decode cL_law 1903 = .ok (.iload 6, 2) := by decide +kernel
theorem dL_law_1905 : decode cL_law 1905 = .ok (.if_icmp .eq 5, 3) := by decide +kernel
theorem dL_law_1908 : decode cL_law 1908 = .ok (.iconst 0, 1) := by decide +kernel
theorem dL_law_1909 : decode cL_law 1909 = .ok (.ireturn, 1) := by decide +kernel
theorem dL_law_1910 : decode cL_law 1910 = .ok (.iload 6, 2) := by decide +kernel
theorem dL_law_1912 : decode cL_law 1912 = .ok (.ifCond .ne 15, 3) := by decide +kernel
theorem dL_law_1915 : decode cL_law 1915 = .ok (.aload_n 3, 1) := by decide +kernel
theorem dL_law_1916 : decode cL_law 1916 = .ok (.iconst 0, 1) := by decide +kernel
theorem dL_law_1917 : decode cL_law 1917 = .ok (.laload, 1) := by decide +kernel
theorem dL_law_1918 : decode cL_law 1918 = .ok (.iload 7, 2) := by decide +kernel
theorem dL_law_1920 : decode cL_law 1920 = .ok (.i2l, 1) := by decide +kernel
theorem dL_law_1921 : decode cL_law 1921 = .ok (.lcmp, 1) := by decide +kernel
theorem dL_law_1922 : decode cL_law 1922 = .ok (.ifCond .eq 5, 3) := by decide +kernel
theorem dL_law_1925 : decode cL_law 1925 = .ok (.iconst 0, 1) := by decide +kernel
theorem dL_law_1926 : decode cL_law 1926 = .ok (.ireturn, 1) := by decide +kernel
theorem dL_law_1927 : decode cL_law 1927 = .ok (.goto 1048, 3) := by decide +kernel
theorem dL_law_1930 : decode cL_law 1930 = .ok (.aload_n 1, 1) := by decide +kernel
theorem dL_law_1931 : decode cL_law 1931 = .ok (.invokevirtual 269, 3) := by decide +kernel
theorem dL_law_1934 : decode cL_law 1934 = .ok (.aload_n 2, 1) := by decide +kernel
theorem dL_law_1935 : decode cL_law 1935 = .ok (.invokevirtual 272, 3) := by decide +kernel
theorem dL_law_1938 : decode cL_law 1938 = .ok (.if_icmp .eq 1037, 3) := by decide +kernel
theorem dL_law_1941 : decode cL_law 1941 = .ok (.iconst 0, 1) := by decide +kernel
theorem dL_law_1942 : decode cL_law 1942 = .ok (.ireturn, 1) := by decide +kernel
theorem dL_law_1943 : decode cL_law 1943 = .ok (.aload_n 1, 1) := by decide +kernel
theorem dL_law_1944 : decode cL_law 1944 = .ok (.aload_n 0, 1) := by decide +kernel
theorem dL_law_1945 : decode cL_law 1945 = .ok (.iload 5, 2) := by decide +kernel
theorem dL_law_1947 : decode cL_law 1947 = .ok (.iconst 1, 1) := by decide +kernel
theorem dL_law_1948 : decode cL_law 1948 = .ok (.iadd, 1) := by decide +kernel
theorem dL_law_1949 : decode cL_law 1949 = .ok (.iaload, 1) := by decide +kernel
theorem dL_law_1950 : decode cL_law 1950 = .ok (.aload_n 3, 1) := by decide +kernel
theorem dL_law_1951 : decode cL_law 1951 = .ok (.invokestatic 273, 3) := by decide +kernel
theorem dL_law_1954 : decode cL_law 1954 = .ok (.istore 6, 2) := by decide +kernel
theorem dL_law_1956 : decode cL_law 1956 = .ok (.aload_n 2, 1) := by decide +kernel
theorem dL_law_1957 : decode cL_law 1957 = .ok (.aload_n 0, 1) := by decide +kernel
theorem dL_law_1958 : decode cL_law 1958 = .ok (.iload 5, 2) := by decide +kernel
theorem dL_law_1960 : decode cL_law 1960 = .ok (.iconst 1, 1) := by decide +kernel
theorem dL_law_1961 : decode cL_law 1961 = .ok (.iadd, 1) := by decide +kernel
theorem dL_law_1962 : decode cL_law 1962 = .ok (.iaload, 1) := by decide +kernel
theorem dL_law_1963 : decode cL_law 1963 = .ok (.invokevirtual 275, 3) := by decide +kernel
theorem dL_law_1966 : decode cL_law 1966 = .ok (.istore 7, 2) := by decide +kernel
theorem dL_law_1968 : decode cL_law 1968 = .ok (.aload_n 2, 1) := by decide +kernel
theorem dL_law_1969 : decode cL_law 1969 = .ok (.invokevirtual 149, 3) := by decide +kernel
theorem dL_law_1972 : decode cL_law 1972 = .ok (.iload 6, 2) := by decide +kernel
theorem dL_law_1974 : decode cL_law 1974 = .ok (.if_icmp .eq 5, 3) := by decide +kernel
theorem dL_law_1977 : decode cL_law 1977 = .ok (.iconst 0, 1) := by decide +kernel
theorem dL_law_1978 : decode cL_law 1978 = .ok (.ireturn, 1) := by decide +kernel
theorem dL_law_1979 : decode cL_law 1979 = .ok (.iload 6, 2) := by decide +kernel
theorem dL_law_1981 : decode cL_law 1981 = .ok (.ifCond .ne 15, 3) := by decide +kernel
theorem dL_law_1984 : decode cL_law 1984 = .ok (.aload_n 3, 1) := by decide +kernel
theorem dL_law_1985 : decode cL_law 1985 = .ok (.iconst 0, 1) := by decide +kernel
theorem dL_law_1986 : decode cL_law 1986 = .ok (.laload, 1) := by decide +kernel
theorem dL_law_1987 : decode cL_law 1987 = .ok (.iload 7, 2) := by decide +kernel
theorem dL_law_1989 : decode cL_law 1989 = .ok (.i2l, 1) := by decide +kernel
theorem dL_law_1990 : decode cL_law 1990 = .ok (.lcmp, 1) := by decide +kernel
theorem dL_law_1991 : decode cL_law 1991 = .ok (.ifCond .eq 5, 3) := by decide +kernel
theorem dL_law_1994 : decode cL_law 1994 = .ok (.iconst 0, 1) := by decide +kernel
theorem dL_law_1995 : decode cL_law 1995 = .ok (.ireturn, 1) := by decide +kernel
theorem dL_law_1996 : decode cL_law 1996 = .ok (.goto 979, 3) := by decide +kernel
theorem dL_law_1999 : decode cL_law 1999 = .ok (.aload_n 1, 1) := by decide +kernel
theorem dL_law_2000 : decode cL_law 2000 = .ok (.invokevirtual 276, 3) := by decide +kernel
theorem dL_law_2003 : decode cL_law 2003 = .ok (.aload_n 2, 1) := by decide +kernel
theorem dL_law_2004 : decode cL_law 2004 = .ok (.invokevirtual 279, 3) := by decide +kernel
theorem dL_law_2007 : decode cL_law 2007 = .ok (.if_icmp .eq 968, 3) := by decide +kernel
theorem dL_law_2010 : decode cL_law 2010 = .ok (.iconst 0, 1) := by decide +kernel
theorem dL_law_2011 : decode cL_law 2011 = .ok (.ireturn, 1) := by decide +kernel
theorem dL_law_2012 : decode cL_law 2012 = .ok (.aload_n 1, 1) := by decide +kernel
theorem dL_law_2013 : decode cL_law 2013 = .ok (.invokevirtual 280, 3) := by decide +kernel
theorem dL_law_2016 : decode cL_law 2016 = .ok (.aload_n 2, 1) := by decide +kernel
theorem dL_law_2017 : decode cL_law 2017 = .ok (.invokevirtual 283, 3) := by decide +kernel
theorem dL_law_2020 : decode cL_law 2020 = .ok (.if_icmp .eq 955, 3) := by decide +kernel
theorem dL_law_2023 : decode cL_law 2023 = .ok (.iconst 0, 1) := by decide +kernel
theorem dL_law_2024 : decode cL_law 2024 = .ok (.ireturn, 1) := by decide +kernel
theorem dL_law_2025 : decode cL_law 2025 = .ok (.aload_n 1, 1) := by decide +kernel
theorem dL_law_2026 : decode cL_law 2026 = .ok (.invokevirtual 284, 3) := by decide +kernel
theorem dL_law_2029 : decode cL_law 2029 = .ok (.aload_n 2, 1) := by decide +kernel
theorem dL_law_2030 : decode cL_law 2030 = .ok (.invokevirtual 287, 3) := by decide +kernel
theorem dL_law_2033 : decode cL_law 2033 = .ok (.if_icmp .eq 942, 3) := by decide +kernel
theorem dL_law_2036 : decode cL_law 2036 = .ok (.iconst 0, 1) := by decide +kernel
theorem dL_law_2037 : decode cL_law 2037 = .ok (.ireturn, 1) := by decide +kernel
theorem dL_law_2038 : decode cL_law 2038 = .ok (.aload_n 1, 1) := by decide +kernel
theorem dL_law_2039 : decode cL_law 2039 = .ok (.aload_n 0, 1) := by decide +kernel
theorem dL_law_2040 : decode cL_law 2040 = .ok (.iload 5, 2) := by decide +kernel
theorem dL_law_2042 : decode cL_law 2042 = .ok (.iconst 1, 1) := by decide +kernel
theorem dL_law_2043 : decode cL_law 2043 = .ok (.iadd, 1) := by decide +kernel
theorem dL_law_2044 : decode cL_law 2044 = .ok (.iaload, 1) := by decide +kernel
theorem dL_law_2045 : decode cL_law 2045 = .ok (.aload_n 3, 1) := by decide +kernel
theorem dL_law_2046 : decode cL_law 2046 = .ok (.invokestatic 288, 3) := by decide +kernel
theorem dL_law_2049 : decode cL_law 2049 = .ok (.istore 6, 2) := by decide +kernel
theorem dL_law_2051 : decode cL_law 2051 = .ok (.aload_n 2, 1) := by decide +kernel
theorem dL_law_2052 : decode cL_law 2052 = .ok (.aload_n 0, 1) := by decide +kernel
theorem dL_law_2053 : decode cL_law 2053 = .ok (.iload 5, 2) := by decide +kernel
theorem dL_law_2055 : decode cL_law 2055 = .ok (.iconst 1, 1) := by decide +kernel
theorem dL_law_2056 : decode cL_law 2056 = .ok (.iadd, 1) := by decide +kernel
theorem dL_law_2057 : decode cL_law 2057 = .ok (.iaload, 1) := by decide +kernel
theorem dL_law_2058 : decode cL_law 2058 = .ok (.invokevirtual 290, 3) := by decide +kernel
theorem dL_law_2061 : decode cL_law 2061 = .ok (.istore 7, 2) := by decide +kernel
theorem dL_law_2063 : decode cL_law 2063 = .ok (.aload_n 2, 1) := by decide +kernel
theorem dL_law_2064 : decode cL_law 2064 = .ok (.invokevirtual 149, 3) := by decide +kernel
theorem dL_law_2067 : decode cL_law 2067 = .ok (.iload 6, 2) := by decide +kernel
theorem dL_law_2069 : decode cL_law 2069 = .ok (.if_icmp .eq 5, 3) := by decide +kernel
theorem dL_law_2072 : decode cL_law 2072 = .ok (.iconst 0, 1) := by decide +kernel
theorem dL_law_2073 : decode cL_law 2073 = .ok (.ireturn, 1) := by decide +kernel
theorem dL_law_2074 : decode cL_law 2074 = .ok (.iload 6, 2) := by decide +kernel
theorem dL_law_2076 : decode cL_law 2076 = .ok (.ifCond .ne 15, 3) := by decide +kernel
theorem dL_law_2079 : decode cL_law 2079 = .ok (.aload_n 3, 1) := by decide +kernel
theorem dL_law_2080 : decode cL_law 2080 = .ok (.iconst 0, 1) := by decide +kernel
theorem dL_law_2081 : decode cL_law 2081 = .ok (.laload, 1) := by decide +kernel
theorem dL_law_2082 : decode cL_law 2082 = .ok (.iload 7, 2) := by decide +kernel
theorem dL_law_2084 : decode cL_law 2084 = .ok (.i2l, 1) := by decide +kernel
theorem dL_law_2085 : decode cL_law 2085 = .ok (.lcmp, 1) := by decide +kernel
theorem dL_law_2086 : decode cL_law 2086 = .ok (.ifCond .eq 5, 3) := by decide +kernel
theorem dL_law_2089 : decode cL_law 2089 = .ok (.iconst 0, 1) := by decide +kernel
theorem dL_law_2090 : decode cL_law 2090 = .ok (.ireturn, 1) := by decide +kernel
theorem dL_law_2091 : decode cL_law 2091 = .ok (.goto 884, 3) := by decide +kernel
theorem dL_law_2094 : decode cL_law 2094 = .ok (.aload_n 1, 1) := by decide +kernel
theorem dL_law_2095 : decode cL_law 2095 = .ok (.aload_n 0, 1) := by decide +kernel
theorem dL_law_2096 : decode cL_law 2096 = .ok (.iload 5, 2) := by decide +kernel
theorem dL_law_2098 : decode cL_law 2098 = .ok (.iconst 1, 1) := by decide +kernel
theorem dL_law_2099 : decode cL_law 2099 = .ok (.iadd, 1) := by decide +kernel
theorem dL_law_2100 : decode cL_law 2100 = .ok (.iaload, 1) := by decide +kernel
theorem dL_law_2101 : decode cL_law 2101 = .ok (.aload_n 0, 1) := by decide +kernel
theorem dL_law_2102 : decode cL_law 2102 = .ok (.iload 5, 2) := by decide +kernel
theorem dL_law_2104 : decode cL_law 2104 = .ok (.iconst 2, 1) := by decide +kernel
theorem dL_law_2105 : decode cL_law 2105 = .ok (.iadd, 1) := by decide +kernel
theorem dL_law_2106 : decode cL_law 2106 = .ok (.iaload, 1) := by decide +kernel
theorem dL_law_2107 : decode cL_law 2107 = .ok (.aload_n 3, 1) := by decide +kernel
theorem dL_law_2108 : decode cL_law 2108 = .ok (.invokestatic 291, 3) := by decide +kernel
theorem dL_law_2111 : decode cL_law 2111 = .ok (.istore 6, 2) := by decide +kernel
theorem dL_law_2113 : decode cL_law 2113 = .ok (.aload_n 2, 1) := by decide +kernel
theorem dL_law_2114 : decode cL_law 2114 = .ok (.aload_n 0, 1) := by decide +kernel
theorem dL_law_2115 : decode cL_law 2115 = .ok (.iload 5, 2) := by decide +kernel
theorem dL_law_2117 : decode cL_law 2117 = .ok (.iconst 1, 1) := by decide +kernel
theorem dL_law_2118 : decode cL_law 2118 = .ok (.iadd, 1) := by decide +kernel
theorem dL_law_2119 : decode cL_law 2119 = .ok (.iaload, 1) := by decide +kernel
theorem dL_law_2120 : decode cL_law 2120 = .ok (.aload_n 0, 1) := by decide +kernel
theorem dL_law_2121 : decode cL_law 2121 = .ok (.iload 5, 2) := by decide +kernel
theorem dL_law_2123 : decode cL_law 2123 = .ok (.iconst 2, 1) := by decide +kernel
theorem dL_law_2124 : decode cL_law 2124 = .ok (.iadd, 1) := by decide +kernel
theorem dL_law_2125 : decode cL_law 2125 = .ok (.iaload, 1) := by decide +kernel
theorem dL_law_2126 : decode cL_law 2126 = .ok (.invokevirtual 293, 3) := by decide +kernel
theorem dL_law_2129 : decode cL_law 2129 = .ok (.istore 7, 2) := by decide +kernel
theorem dL_law_2131 : decode cL_law 2131 = .ok (.aload_n 2, 1) := by decide +kernel
theorem dL_law_2132 : decode cL_law 2132 = .ok (.invokevirtual 149, 3) := by decide +kernel
theorem dL_law_2135 : decode cL_law 2135 = .ok (.iload 6, 2) := by decide +kernel
theorem dL_law_2137 : decode cL_law 2137 = .ok (.if_icmp .eq 5, 3) := by decide +kernel
theorem dL_law_2140 : decode cL_law 2140 = .ok (.iconst 0, 1) := by decide +kernel
theorem dL_law_2141 : decode cL_law 2141 = .ok (.ireturn, 1) := by decide +kernel
theorem dL_law_2142 : decode cL_law 2142 = .ok (.iload 6, 2) := by decide +kernel
theorem dL_law_2144 : decode cL_law 2144 = .ok (.ifCond .ne 15, 3) := by decide +kernel
theorem dL_law_2147 : decode cL_law 2147 = .ok (.aload_n 3, 1) := by decide +kernel
theorem dL_law_2148 : decode cL_law 2148 = .ok (.iconst 0, 1) := by decide +kernel
theorem dL_law_2149 : decode cL_law 2149 = .ok (.laload, 1) := by decide +kernel
theorem dL_law_2150 : decode cL_law 2150 = .ok (.iload 7, 2) := by decide +kernel
theorem dL_law_2152 : decode cL_law 2152 = .ok (.i2l, 1) := by decide +kernel
theorem dL_law_2153 : decode cL_law 2153 = .ok (.lcmp, 1) := by decide +kernel
theorem dL_law_2154 : decode cL_law 2154 = .ok (.ifCond .eq 5, 3) := by decide +kernel
theorem dL_law_2157 : decode cL_law 2157 = .ok (.iconst 0, 1) := by decide +kernel
theorem dL_law_2158 : decode cL_law 2158 = .ok (.ireturn, 1) := by decide +kernel
theorem dL_law_2159 : decode cL_law 2159 = .ok (.goto 816, 3) := by decide +kernel
theorem dL_law_2162 : decode cL_law 2162 = .ok (.aload_n 1, 1) := by decide +kernel
theorem dL_law_2163 : decode cL_law 2163 = .ok (.invokevirtual 294, 3) := by decide +kernel
theorem dL_law_2166 : decode cL_law 2166 = .ok (.aload_n 2, 1) := by decide +kernel
theorem dL_law_2167 : decode cL_law 2167 = .ok (.invokevirtual 297, 3) := by decide +kernel
theorem dL_law_2170 : decode cL_law 2170 = .ok (.if_icmp .eq 805, 3) := by decide +kernel
theorem dL_law_2173 : decode cL_law 2173 = .ok (.iconst 0, 1) := by decide +kernel
theorem dL_law_2174 : decode cL_law 2174 = .ok (.ireturn, 1) := by decide +kernel
theorem dL_law_2175 : decode cL_law 2175 = .ok (.aload_n 1, 1) := by decide +kernel
theorem dL_law_2176 : decode cL_law 2176 = .ok (.invokevirtual 298, 3) := by decide +kernel
theorem dL_law_2179 : decode cL_law 2179 = .ok (.aload_n 2, 1) := by decide +kernel
theorem dL_law_2180 : decode cL_law 2180 = .ok (.invokevirtual 301, 3) := by decide +kernel
theorem dL_law_2183 : decode cL_law 2183 = .ok (.if_icmp .eq 792, 3) := by decide +kernel
theorem dL_law_2186 : decode cL_law 2186 = .ok (.iconst 0, 1) := by decide +kernel
theorem dL_law_2187 : decode cL_law 2187 = .ok (.ireturn, 1) := by decide +kernel
theorem dL_law_2188 : decode cL_law 2188 = .ok (.aload_n 1, 1) := by decide +kernel
theorem dL_law_2189 : decode cL_law 2189 = .ok (.invokevirtual 302, 3) := by decide +kernel
theorem dL_law_2192 : decode cL_law 2192 = .ok (.aload_n 2, 1) := by decide +kernel
theorem dL_law_2193 : decode cL_law 2193 = .ok (.invokevirtual 305, 3) := by decide +kernel
theorem dL_law_2196 : decode cL_law 2196 = .ok (.if_icmp .eq 779, 3) := by decide +kernel
theorem dL_law_2199 : decode cL_law 2199 = .ok (.iconst 0, 1) := by decide +kernel
theorem dL_law_2200 : decode cL_law 2200 = .ok (.ireturn, 1) := by decide +kernel
theorem dL_law_2201 : decode cL_law 2201 = .ok (.aload_n 1, 1) := by decide +kernel
theorem dL_law_2202 : decode cL_law 2202 = .ok (.invokevirtual 306, 3) := by decide +kernel
theorem dL_law_2205 : decode cL_law 2205 = .ok (.aload_n 2, 1) := by decide +kernel
theorem dL_law_2206 : decode cL_law 2206 = .ok (.invokevirtual 309, 3) := by decide +kernel
theorem dL_law_2209 : decode cL_law 2209 = .ok (.if_icmp .eq 766, 3) := by decide +kernel
theorem dL_law_2212 : decode cL_law 2212 = .ok (.iconst 0, 1) := by decide +kernel
theorem dL_law_2213 : decode cL_law 2213 = .ok (.ireturn, 1) := by decide +kernel
theorem dL_law_2214 : decode cL_law 2214 = .ok (.aload_n 1, 1) := by decide +kernel
theorem dL_law_2215 : decode cL_law 2215 = .ok (.invokevirtual 310, 3) := by decide +kernel
theorem dL_law_2218 : decode cL_law 2218 = .ok (.aload_n 2, 1) := by decide +kernel
theorem dL_law_2219 : decode cL_law 2219 = .ok (.invokevirtual 313, 3) := by decide +kernel
theorem dL_law_2222 : decode cL_law 2222 = .ok (.if_icmp .eq 753, 3) := by decide +kernel
theorem dL_law_2225 : decode cL_law 2225 = .ok (.iconst 0, 1) := by decide +kernel
theorem dL_law_2226 : decode cL_law 2226 = .ok (.ireturn, 1) := by decide +kernel
theorem dL_law_2227 : decode cL_law 2227 = .ok (.aload_n 1, 1) := by decide +kernel
theorem dL_law_2228 : decode cL_law 2228 = .ok (.invokevirtual 314, 3) := by decide +kernel
theorem dL_law_2231 : decode cL_law 2231 = .ok (.f2d, 1) := by decide +kernel
theorem dL_law_2232 : decode cL_law 2232 = .ok (.dstore 6, 2) := by decide +kernel
theorem dL_law_2234 : decode cL_law 2234 = .ok (.aload_n 2, 1) := by decide +kernel
theorem dL_law_2235 : decode cL_law 2235 = .ok (.invokevirtual 318, 3) := by decide +kernel
theorem dL_law_2238 : decode cL_law 2238 = .ok (.f2d, 1) := by decide +kernel
theorem dL_law_2239 : decode cL_law 2239 = .ok (.dstore 8, 2) := by decide +kernel
theorem dL_law_2241 : decode cL_law 2241 = .ok (.dload 6, 2) := by decide +kernel
theorem dL_law_2243 : decode cL_law 2243 = .ok (.dload 8, 2) := by decide +kernel
theorem dL_law_2245 : decode cL_law 2245 = .ok (.dcmp .l, 1) := by decide +kernel
theorem dL_law_2246 : decode cL_law 2246 = .ok (.ifCond .eq 21, 3) := by decide +kernel
theorem dL_law_2249 : decode cL_law 2249 = .ok (.dload 6, 2) := by decide +kernel
theorem dL_law_2251 : decode cL_law 2251 = .ok (.dload 6, 2) := by decide +kernel
theorem dL_law_2253 : decode cL_law 2253 = .ok (.dcmp .l, 1) := by decide +kernel
theorem dL_law_2254 : decode cL_law 2254 = .ok (.ifCond .eq 11, 3) := by decide +kernel
theorem dL_law_2257 : decode cL_law 2257 = .ok (.dload 8, 2) := by decide +kernel
theorem dL_law_2259 : decode cL_law 2259 = .ok (.dload 8, 2) := by decide +kernel
theorem dL_law_2261 : decode cL_law 2261 = .ok (.dcmp .l, 1) := by decide +kernel
theorem dL_law_2262 : decode cL_law 2262 = .ok (.ifCond .ne 5, 3) := by decide +kernel
theorem dL_law_2265 : decode cL_law 2265 = .ok (.iconst 0, 1) := by decide +kernel
theorem dL_law_2266 : decode cL_law 2266 = .ok (.ireturn, 1) := by decide +kernel
theorem dL_law_2267 : decode cL_law 2267 = .ok (.goto 708, 3) := by decide +kernel
theorem dL_law_2270 : decode cL_law 2270 = .ok (.aload_n 1, 1) := by decide +kernel
theorem dL_law_2271 : decode cL_law 2271 = .ok (.invokevirtual 319, 3) := by decide +kernel
theorem dL_law_2274 : decode cL_law 2274 = .ok (.dstore 6, 2) := by decide +kernel
theorem dL_law_2276 : decode cL_law 2276 = .ok (.aload_n 2, 1) := by decide +kernel
theorem dL_law_2277 : decode cL_law 2277 = .ok (.invokevirtual 323, 3) := by decide +kernel
theorem dL_law_2280 : decode cL_law 2280 = .ok (.dstore 8, 2) := by decide +kernel
theorem dL_law_2282 : decode cL_law 2282 = .ok (.dload 6, 2) := by decide +kernel
theorem dL_law_2284 : decode cL_law 2284 = .ok (.dload 8, 2) := by decide +kernel
theorem dL_law_2286 : decode cL_law 2286 = .ok (.dcmp .l, 1) := by decide +kernel
theorem dL_law_2287 : decode cL_law 2287 = .ok (.ifCond .eq 21, 3) := by decide +kernel
theorem dL_law_2290 : decode cL_law 2290 = .ok (.dload 6, 2) := by decide +kernel
theorem dL_law_2292 : decode cL_law 2292 = .ok (.dload 6, 2) := by decide +kernel
theorem dL_law_2294 : decode cL_law 2294 = .ok (.dcmp .l, 1) := by decide +kernel
theorem dL_law_2295 : decode cL_law 2295 = .ok (.ifCond .eq 11, 3) := by decide +kernel
theorem dL_law_2298 : decode cL_law 2298 = .ok (.dload 8, 2) := by decide +kernel
theorem dL_law_2300 : decode cL_law 2300 = .ok (.dload 8, 2) := by decide +kernel
theorem dL_law_2302 : decode cL_law 2302 = .ok (.dcmp .l, 1) := by decide +kernel
theorem dL_law_2303 : decode cL_law 2303 = .ok (.ifCond .ne 5, 3) := by decide +kernel
theorem dL_law_2306 : decode cL_law 2306 = .ok (.iconst 0, 1) := by decide +kernel
theorem dL_law_2307 : decode cL_law 2307 = .ok (.ireturn, 1) := by decide +kernel
theorem dL_law_2308 : decode cL_law 2308 = .ok (.goto 667, 3) := by decide +kernel
theorem dL_law_2311 : decode cL_law 2311 = .ok (.aload_n 1, 1) := by decide +kernel
theorem dL_law_2312 : decode cL_law 2312 = .ok (.aload_n 0, 1) := by decide +kernel
theorem dL_law_2313 : decode cL_law 2313 = .ok (.iload 5, 2) := by decide +kernel
theorem dL_law_2315 : decode cL_law 2315 = .ok (.iconst 1, 1) := by decide +kernel
theorem dL_law_2316 : decode cL_law 2316 = .ok (.iadd, 1) := by decide +kernel
theorem dL_law_2317 : decode cL_law 2317 = .ok (.iaload, 1) := by decide +kernel
theorem dL_law_2318 : decode cL_law 2318 = .ok (.aload_n 0, 1) := by decide +kernel
theorem dL_law_2319 : decode cL_law 2319 = .ok (.iload 5, 2) := by decide +kernel
theorem dL_law_2321 : decode cL_law 2321 = .ok (.iconst 2, 1) := by decide +kernel
theorem dL_law_2322 : decode cL_law 2322 = .ok (.iadd, 1) := by decide +kernel
theorem dL_law_2323 : decode cL_law 2323 = .ok (.iaload, 1) := by decide +kernel
theorem dL_law_2324 : decode cL_law 2324 = .ok (.aload_n 0, 1) := by decide +kernel
theorem dL_law_2325 : decode cL_law 2325 = .ok (.iload 5, 2) := by decide +kernel
theorem dL_law_2327 : decode cL_law 2327 = .ok (.iconst 3, 1) := by decide +kernel
theorem dL_law_2328 : decode cL_law 2328 = .ok (.iadd, 1) := by decide +kernel
theorem dL_law_2329 : decode cL_law 2329 = .ok (.iaload, 1) := by decide +kernel
theorem dL_law_2330 : decode cL_law 2330 = .ok (.aload_n 3, 1) := by decide +kernel
theorem dL_law_2331 : decode cL_law 2331 = .ok (.invokestatic 324, 3) := by decide +kernel
theorem dL_law_2334 : decode cL_law 2334 = .ok (.istore 6, 2) := by decide +kernel
theorem dL_law_2336 : decode cL_law 2336 = .ok (.aload_n 2, 1) := by decide +kernel
theorem dL_law_2337 : decode cL_law 2337 = .ok (.aload_n 0, 1) := by decide +kernel
theorem dL_law_2338 : decode cL_law 2338 = .ok (.iload 5, 2) := by decide +kernel
theorem dL_law_2340 : decode cL_law 2340 = .ok (.iconst 1, 1) := by decide +kernel
theorem dL_law_2341 : decode cL_law 2341 = .ok (.iadd, 1) := by decide +kernel
theorem dL_law_2342 : decode cL_law 2342 = .ok (.iaload, 1) := by decide +kernel
theorem dL_law_2343 : decode cL_law 2343 = .ok (.aload_n 0, 1) := by decide +kernel
theorem dL_law_2344 : decode cL_law 2344 = .ok (.iload 5, 2) := by decide +kernel
theorem dL_law_2346 : decode cL_law 2346 = .ok (.iconst 2, 1) := by decide +kernel
theorem dL_law_2347 : decode cL_law 2347 = .ok (.iadd, 1) := by decide +kernel
theorem dL_law_2348 : decode cL_law 2348 = .ok (.iaload, 1) := by decide +kernel
theorem dL_law_2349 : decode cL_law 2349 = .ok (.aload_n 0, 1) := by decide +kernel
theorem dL_law_2350 : decode cL_law 2350 = .ok (.iload 5, 2) := by decide +kernel
theorem dL_law_2352 : decode cL_law 2352 = .ok (.iconst 3, 1) := by decide +kernel
theorem dL_law_2353 : decode cL_law 2353 = .ok (.iadd, 1) := by decide +kernel
theorem dL_law_2354 : decode cL_law 2354 = .ok (.iaload, 1) := by decide +kernel
theorem dL_law_2355 : decode cL_law 2355 = .ok (.invokevirtual 327, 3) := by decide +kernel
theorem dL_law_2358 : decode cL_law 2358 = .ok (.istore 7, 2) := by decide +kernel
theorem dL_law_2360 : decode cL_law 2360 = .ok (.aload_n 2, 1) := by decide +kernel
theorem dL_law_2361 : decode cL_law 2361 = .ok (.invokevirtual 149, 3) := by decide +kernel
theorem dL_law_2364 : decode cL_law 2364 = .ok (.iload 6, 2) := by decide +kernel
theorem dL_law_2366 : decode cL_law 2366 = .ok (.if_icmp .eq 5, 3) := by decide +kernel
theorem dL_law_2369 : decode cL_law 2369 = .ok (.iconst 0, 1) := by decide +kernel
theorem dL_law_2370 : decode cL_law 2370 = .ok (.ireturn, 1) := by decide +kernel
theorem dL_law_2371 : decode cL_law 2371 = .ok (.iload 6, 2) := by decide +kernel
theorem dL_law_2373 : decode cL_law 2373 = .ok (.ifCond .ne 15, 3) := by decide +kernel
theorem dL_law_2376 : decode cL_law 2376 = .ok (.aload_n 3, 1) := by decide +kernel
theorem dL_law_2377 : decode cL_law 2377 = .ok (.iconst 0, 1) := by decide +kernel
theorem dL_law_2378 : decode cL_law 2378 = .ok (.laload, 1) := by decide +kernel
theorem dL_law_2379 : decode cL_law 2379 = .ok (.iload 7, 2) := by decide +kernel
theorem dL_law_2381 : decode cL_law 2381 = .ok (.i2l, 1) := by decide +kernel
theorem dL_law_2382 : decode cL_law 2382 = .ok (.lcmp, 1) := by decide +kernel
theorem dL_law_2383 : decode cL_law 2383 = .ok (.ifCond .eq 5, 3) := by decide +kernel
theorem dL_law_2386 : decode cL_law 2386 = .ok (.iconst 0, 1) := by decide +kernel
theorem dL_law_2387 : decode cL_law 2387 = .ok (.ireturn, 1) := by decide +kernel
theorem dL_law_2388 : decode cL_law 2388 = .ok (.goto 587, 3) := by decide +kernel
theorem dL_law_2391 : decode cL_law 2391 = .ok (.aload_n 1, 1) := by decide +kernel
theorem dL_law_2392 : decode cL_law 2392 = .ok (.aload_n 0, 1) := by decide +kernel
theorem dL_law_2393 : decode cL_law 2393 = .ok (.iload 5, 2) := by decide +kernel
theorem dL_law_2395 : decode cL_law 2395 = .ok (.iconst 1, 1) := by decide +kernel
theorem dL_law_2396 : decode cL_law 2396 = .ok (.iadd, 1) := by decide +kernel
theorem dL_law_2397 : decode cL_law 2397 = .ok (.iaload, 1) := by decide +kernel
theorem dL_law_2398 : decode cL_law 2398 = .ok (.aload_n 3, 1) := by decide +kernel
theorem dL_law_2399 : decode cL_law 2399 = .ok (.invokestatic 328, 3) := by decide +kernel
theorem dL_law_2402 : decode cL_law 2402 = .ok (.istore 6, 2) := by decide +kernel
theorem dL_law_2404 : decode cL_law 2404 = .ok (.aload_n 2, 1) := by decide +kernel
theorem dL_law_2405 : decode cL_law 2405 = .ok (.aload_n 0, 1) := by decide +kernel
theorem dL_law_2406 : decode cL_law 2406 = .ok (.iload 5, 2) := by decide +kernel
theorem dL_law_2408 : decode cL_law 2408 = .ok (.iconst 1, 1) := by decide +kernel
theorem dL_law_2409 : decode cL_law 2409 = .ok (.iadd, 1) := by decide +kernel
theorem dL_law_2410 : decode cL_law 2410 = .ok (.iaload, 1) := by decide +kernel
theorem dL_law_2411 : decode cL_law 2411 = .ok (.invokevirtual 330, 3) := by decide +kernel
theorem dL_law_2414 : decode cL_law 2414 = .ok (.istore 7, 2) := by decide +kernel
theorem dL_law_2416 : decode cL_law 2416 = .ok (.aload_n 2, 1) := by decide +kernel
theorem dL_law_2417 : decode cL_law 2417 = .ok (.invokevirtual 149, 3) := by decide +kernel
theorem dL_law_2420 : decode cL_law 2420 = .ok (.iload 6, 2) := by decide +kernel
theorem dL_law_2422 : decode cL_law 2422 = .ok (.if_icmp .eq 5, 3) := by decide +kernel
theorem dL_law_2425 : decode cL_law 2425 = .ok (.iconst 0, 1) := by decide +kernel
theorem dL_law_2426 : decode cL_law 2426 = .ok (.ireturn, 1) := by decide +kernel
theorem dL_law_2427 : decode cL_law 2427 = .ok (.iload 6, 2) := by decide +kernel
theorem dL_law_2429 : decode cL_law 2429 = .ok (.ifCond .ne 15, 3) := by decide +kernel
theorem dL_law_2432 : decode cL_law 2432 = .ok (.aload_n 3, 1) := by decide +kernel
theorem dL_law_2433 : decode cL_law 2433 = .ok (.iconst 0, 1) := by decide +kernel
theorem dL_law_2434 : decode cL_law 2434 = .ok (.laload, 1) := by decide +kernel
theorem dL_law_2435 : decode cL_law 2435 = .ok (.iload 7, 2) := by decide +kernel
theorem dL_law_2437 : decode cL_law 2437 = .ok (.i2l, 1) := by decide +kernel
theorem dL_law_2438 : decode cL_law 2438 = .ok (.lcmp, 1) := by decide +kernel
theorem dL_law_2439 : decode cL_law 2439 = .ok (.ifCond .eq 5, 3) := by decide +kernel
theorem dL_law_2442 : decode cL_law 2442 = .ok (.iconst 0, 1) := by decide +kernel
theorem dL_law_2443 : decode cL_law 2443 = .ok (.ireturn, 1) := by decide +kernel
theorem dL_law_2444 : decode cL_law 2444 = .ok (.goto 531, 3) := by decide +kernel
theorem dL_law_2447 : decode cL_law 2447 = .ok (.aload_n 1, 1) := by decide +kernel
theorem dL_law_2448 : decode cL_law 2448 = .ok (.aload_n 0, 1) := by decide +kernel
theorem dL_law_2449 : decode cL_law 2449 = .ok (.iload 5, 2) := by decide +kernel
theorem dL_law_2451 : decode cL_law 2451 = .ok (.iconst 1, 1) := by decide +kernel
theorem dL_law_2452 : decode cL_law 2452 = .ok (.iadd, 1) := by decide +kernel
theorem dL_law_2453 : decode cL_law 2453 = .ok (.iaload, 1) := by decide +kernel
theorem dL_law_2454 : decode cL_law 2454 = .ok (.aload_n 0, 1) := by decide +kernel
theorem dL_law_2455 : decode cL_law 2455 = .ok (.iload 5, 2) := by decide +kernel
theorem dL_law_2457 : decode cL_law 2457 = .ok (.iconst 2, 1) := by decide +kernel
theorem dL_law_2458 : decode cL_law 2458 = .ok (.iadd, 1) := by decide +kernel
theorem dL_law_2459 : decode cL_law 2459 = .ok (.iaload, 1) := by decide +kernel
theorem dL_law_2460 : decode cL_law 2460 = .ok (.aload_n 3, 1) := by decide +kernel
theorem dL_law_2461 : decode cL_law 2461 = .ok (.invokestatic 331, 3) := by decide +kernel
theorem dL_law_2464 : decode cL_law 2464 = .ok (.istore 6, 2) := by decide +kernel
theorem dL_law_2466 : decode cL_law 2466 = .ok (.aload_n 2, 1) := by decide +kernel
theorem dL_law_2467 : decode cL_law 2467 = .ok (.aload_n 0, 1) := by decide +kernel
theorem dL_law_2468 : decode cL_law 2468 = .ok (.iload 5, 2) := by decide +kernel
theorem dL_law_2470 : decode cL_law 2470 = .ok (.iconst 1, 1) := by decide +kernel
theorem dL_law_2471 : decode cL_law 2471 = .ok (.iadd, 1) := by decide +kernel
theorem dL_law_2472 : decode cL_law 2472 = .ok (.iaload, 1) := by decide +kernel
theorem dL_law_2473 : decode cL_law 2473 = .ok (.aload_n 0, 1) := by decide +kernel
theorem dL_law_2474 : decode cL_law 2474 = .ok (.iload 5, 2) := by decide +kernel
theorem dL_law_2476 : decode cL_law 2476 = .ok (.iconst 2, 1) := by decide +kernel
theorem dL_law_2477 : decode cL_law 2477 = .ok (.iadd, 1) := by decide +kernel
theorem dL_law_2478 : decode cL_law 2478 = .ok (.iaload, 1) := by decide +kernel
theorem dL_law_2479 : decode cL_law 2479 = .ok (.invokevirtual 333, 3) := by decide +kernel
theorem dL_law_2482 : decode cL_law 2482 = .ok (.istore 7, 2) := by decide +kernel
theorem dL_law_2484 : decode cL_law 2484 = .ok (.aload_n 2, 1) := by decide +kernel
theorem dL_law_2485 : decode cL_law 2485 = .ok (.invokevirtual 149, 3) := by decide +kernel
theorem dL_law_2488 : decode cL_law 2488 = .ok (.iload 6, 2) := by decide +kernel
theorem dL_law_2490 : decode cL_law 2490 = .ok (.if_icmp .eq 5, 3) := by decide +kernel
theorem dL_law_2493 : decode cL_law 2493 = .ok (.iconst 0, 1) := by decide +kernel
theorem dL_law_2494 : decode cL_law 2494 = .ok (.ireturn, 1) := by decide +kernel
theorem dL_law_2495 : decode cL_law 2495 = .ok (.iload 6, 2) := by decide +kernel
theorem dL_law_2497 : decode cL_law 2497 = .ok (.ifCond .ne 15, 3) := by decide +kernel
theorem dL_law_2500 : decode cL_law 2500 = .ok (.aload_n 3, 1) := by decide +kernel
theorem dL_law_2501 : decode cL_law 2501 = .ok (.iconst 0, 1) := by decide +kernel
theorem dL_law_2502 : decode cL_law 2502 = .ok (.laload, 1) := by decide +kernel
theorem dL_law_2503 : decode cL_law 2503 = .ok (.iload 7, 2) := by decide +kernel
theorem dL_law_2505 : decode cL_law 2505 = .ok (.i2l, 1) := by decide +kernel
theorem dL_law_2506 : decode cL_law 2506 = .ok (.lcmp, 1) := by decide +kernel
theorem dL_law_2507 : decode cL_law 2507 = .ok (.ifCond .eq 5, 3) := by decide +kernel
theorem dL_law_2510 : decode cL_law 2510 = .ok (.iconst 0, 1) := by decide +kernel
theorem dL_law_2511 : decode cL_law 2511 = .ok (.ireturn, 1) := by decide +kernel
theorem dL_law_2512 : decode cL_law 2512 = .ok (.goto 463, 3) := by decide +kernel
theorem dL_law_2515 : decode cL_law 2515 = .ok (.aload_n 1, 1) := by decide +kernel
theorem dL_law_2516 : decode cL_law 2516 = .ok (.aload_n 0, 1) := by decide +kernel
theorem dL_law_2517 : decode cL_law 2517 = .ok (.iload 5, 2) := by decide +kernel
theorem dL_law_2519 : decode cL_law 2519 = .ok (.iconst 1, 1) := by decide +kernel
theorem dL_law_2520 : decode cL_law 2520 = .ok (.iadd, 1) := by decide +kernel
theorem dL_law_2521 : decode cL_law 2521 = .ok (.iaload, 1) := by decide +kernel
theorem dL_law_2522 : decode cL_law 2522 = .ok (.aload_n 0, 1) := by decide +kernel
theorem dL_law_2523 : decode cL_law 2523 = .ok (.iload 5, 2) := by decide +kernel
theorem dL_law_2525 : decode cL_law 2525 = .ok (.iconst 2, 1) := by decide +kernel
theorem dL_law_2526 : decode cL_law 2526 = .ok (.iadd, 1) := by decide +kernel
theorem dL_law_2527 : decode cL_law 2527 = .ok (.iaload, 1) := by decide +kernel
theorem dL_law_2528 : decode cL_law 2528 = .ok (.aload_n 3, 1) := by decide +kernel
theorem dL_law_2529 : decode cL_law 2529 = .ok (.invokestatic 334, 3) := by decide +kernel
theorem dL_law_2532 : decode cL_law 2532 = .ok (.istore 6, 2) := by decide +kernel
theorem dL_law_2534 : decode cL_law 2534 = .ok (.aload_n 2, 1) := by decide +kernel
theorem dL_law_2535 : decode cL_law 2535 = .ok (.aload_n 0, 1) := by decide +kernel
theorem dL_law_2536 : decode cL_law 2536 = .ok (.iload 5, 2) := by decide +kernel
theorem dL_law_2538 : decode cL_law 2538 = .ok (.iconst 1, 1) := by decide +kernel
theorem dL_law_2539 : decode cL_law 2539 = .ok (.iadd, 1) := by decide +kernel
theorem dL_law_2540 : decode cL_law 2540 = .ok (.iaload, 1) := by decide +kernel
theorem dL_law_2541 : decode cL_law 2541 = .ok (.aload_n 0, 1) := by decide +kernel
theorem dL_law_2542 : decode cL_law 2542 = .ok (.iload 5, 2) := by decide +kernel
theorem dL_law_2544 : decode cL_law 2544 = .ok (.iconst 2, 1) := by decide +kernel
theorem dL_law_2545 : decode cL_law 2545 = .ok (.iadd, 1) := by decide +kernel
theorem dL_law_2546 : decode cL_law 2546 = .ok (.iaload, 1) := by decide +kernel
theorem dL_law_2547 : decode cL_law 2547 = .ok (.invokevirtual 336, 3) := by decide +kernel
theorem dL_law_2550 : decode cL_law 2550 = .ok (.istore 7, 2) := by decide +kernel
theorem dL_law_2552 : decode cL_law 2552 = .ok (.aload_n 2, 1) := by decide +kernel
theorem dL_law_2553 : decode cL_law 2553 = .ok (.invokevirtual 149, 3) := by decide +kernel
theorem dL_law_2556 : decode cL_law 2556 = .ok (.iload 6, 2) := by decide +kernel
theorem dL_law_2558 : decode cL_law 2558 = .ok (.if_icmp .eq 5, 3) := by decide +kernel
theorem dL_law_2561 : decode cL_law 2561 = .ok (.iconst 0, 1) := by decide +kernel
theorem dL_law_2562 : decode cL_law 2562 = .ok (.ireturn, 1) := by decide +kernel
theorem dL_law_2563 : decode cL_law 2563 = .ok (.iload 6, 2) := by decide +kernel
theorem dL_law_2565 : decode cL_law 2565 = .ok (.ifCond .ne 15, 3) := by decide +kernel
theorem dL_law_2568 : decode cL_law 2568 = .ok (.aload_n 3, 1) := by decide +kernel
theorem dL_law_2569 : decode cL_law 2569 = .ok (.iconst 0, 1) := by decide +kernel
theorem dL_law_2570 : decode cL_law 2570 = .ok (.laload, 1) := by decide +kernel
theorem dL_law_2571 : decode cL_law 2571 = .ok (.iload 7, 2) := by decide +kernel
theorem dL_law_2573 : decode cL_law 2573 = .ok (.i2l, 1) := by decide +kernel
theorem dL_law_2574 : decode cL_law 2574 = .ok (.lcmp, 1) := by decide +kernel
theorem dL_law_2575 : decode cL_law 2575 = .ok (.ifCond .eq 5, 3) := by decide +kernel
theorem dL_law_2578 : decode cL_law 2578 = .ok (.iconst 0, 1) := by decide +kernel
theorem dL_law_2579 : decode cL_law 2579 = .ok (.ireturn, 1) := by decide +kernel
theorem dL_law_2580 : decode cL_law 2580 = .ok (.goto 395, 3) := by decide +kernel
theorem dL_law_2583 : decode cL_law 2583 = .ok (.aload_n 1, 1) := by decide +kernel
theorem dL_law_2584 : decode cL_law 2584 = .ok (.aload_n 0, 1) := by decide +kernel
theorem dL_law_2585 : decode cL_law 2585 = .ok (.iload 5, 2) := by decide +kernel
theorem dL_law_2587 : decode cL_law 2587 = .ok (.iconst 1, 1) := by decide +kernel
theorem dL_law_2588 : decode cL_law 2588 = .ok (.iadd, 1) := by decide +kernel
theorem dL_law_2589 : decode cL_law 2589 = .ok (.iaload, 1) := by decide +kernel
theorem dL_law_2590 : decode cL_law 2590 = .ok (.aload_n 0, 1) := by decide +kernel
theorem dL_law_2591 : decode cL_law 2591 = .ok (.iload 5, 2) := by decide +kernel
theorem dL_law_2593 : decode cL_law 2593 = .ok (.iconst 2, 1) := by decide +kernel
theorem dL_law_2594 : decode cL_law 2594 = .ok (.iadd, 1) := by decide +kernel
theorem dL_law_2595 : decode cL_law 2595 = .ok (.iaload, 1) := by decide +kernel
theorem dL_law_2596 : decode cL_law 2596 = .ok (.aload_n 3, 1) := by decide +kernel
theorem dL_law_2597 : decode cL_law 2597 = .ok (.invokestatic 337, 3) := by decide +kernel
theorem dL_law_2600 : decode cL_law 2600 = .ok (.istore 6, 2) := by decide +kernel
theorem dL_law_2602 : decode cL_law 2602 = .ok (.aload_n 2, 1) := by decide +kernel
theorem dL_law_2603 : decode cL_law 2603 = .ok (.aload_n 0, 1) := by decide +kernel
theorem dL_law_2604 : decode cL_law 2604 = .ok (.iload 5, 2) := by decide +kernel
theorem dL_law_2606 : decode cL_law 2606 = .ok (.iconst 1, 1) := by decide +kernel
theorem dL_law_2607 : decode cL_law 2607 = .ok (.iadd, 1) := by decide +kernel
theorem dL_law_2608 : decode cL_law 2608 = .ok (.iaload, 1) := by decide +kernel
theorem dL_law_2609 : decode cL_law 2609 = .ok (.aload_n 0, 1) := by decide +kernel
theorem dL_law_2610 : decode cL_law 2610 = .ok (.iload 5, 2) := by decide +kernel
theorem dL_law_2612 : decode cL_law 2612 = .ok (.iconst 2, 1) := by decide +kernel
theorem dL_law_2613 : decode cL_law 2613 = .ok (.iadd, 1) := by decide +kernel
theorem dL_law_2614 : decode cL_law 2614 = .ok (.iaload, 1) := by decide +kernel
theorem dL_law_2615 : decode cL_law 2615 = .ok (.invokevirtual 339, 3) := by decide +kernel
theorem dL_law_2618 : decode cL_law 2618 = .ok (.istore 7, 2) := by decide +kernel
theorem dL_law_2620 : decode cL_law 2620 = .ok (.aload_n 2, 1) := by decide +kernel
theorem dL_law_2621 : decode cL_law 2621 = .ok (.invokevirtual 149, 3) := by decide +kernel
theorem dL_law_2624 : decode cL_law 2624 = .ok (.iload 6, 2) := by decide +kernel
theorem dL_law_2626 : decode cL_law 2626 = .ok (.if_icmp .eq 5, 3) := by decide +kernel
theorem dL_law_2629 : decode cL_law 2629 = .ok (.iconst 0, 1) := by decide +kernel
theorem dL_law_2630 : decode cL_law 2630 = .ok (.ireturn, 1) := by decide +kernel
theorem dL_law_2631 : decode cL_law 2631 = .ok (.iload 6, 2) := by decide +kernel
theorem dL_law_2633 : decode cL_law 2633 = .ok (.ifCond .ne 15, 3) := by decide +kernel
theorem dL_law_2636 : decode cL_law 2636 = .ok (.aload_n 3, 1) := by decide +kernel
theorem dL_law_2637 : decode cL_law 2637 = .ok (.iconst 0, 1) := by decide +kernel
theorem dL_law_2638 : decode cL_law 2638 = .ok (.laload, 1) := by decide +kernel
theorem dL_law_2639 : decode cL_law 2639 = .ok (.iload 7, 2) := by decide +kernel
theorem dL_law_2641 : decode cL_law 2641 = .ok (.i2l, 1) := by decide +kernel
theorem dL_law_2642 : decode cL_law 2642 = .ok (.lcmp, 1) := by decide +kernel
theorem dL_law_2643 : decode cL_law 2643 = .ok (.ifCond .eq 5, 3) := by decide +kernel
theorem dL_law_2646 : decode cL_law 2646 = .ok (.iconst 0, 1) := by decide +kernel
theorem dL_law_2647 : decode cL_law 2647 = .ok (.ireturn, 1) := by decide +kernel
theorem dL_law_2648 : decode cL_law 2648 = .ok (.goto 327, 3) := by decide +kernel
theorem dL_law_2651 : decode cL_law 2651 = .ok (.aload_n 1, 1) := by decide +kernel
theorem dL_law_2652 : decode cL_law 2652 = .ok (.aload_n 0, 1) := by decide +kernel
theorem dL_law_2653 : decode cL_law 2653 = .ok (.iload 5, 2) := by decide +kernel
theorem dL_law_2655 : decode cL_law 2655 = .ok (.iconst 1, 1) := by decide +kernel
theorem dL_law_2656 : decode cL_law 2656 = .ok (.iadd, 1) := by decide +kernel
theorem dL_law_2657 : decode cL_law 2657 = .ok (.iaload, 1) := by decide +kernel
theorem dL_law_2658 : decode cL_law 2658 = .ok (.aload_n 3, 1) := by decide +kernel
theorem dL_law_2659 : decode cL_law 2659 = .ok (.invokestatic 340, 3) := by decide +kernel
theorem dL_law_2662 : decode cL_law 2662 = .ok (.istore 6, 2) := by decide +kernel
theorem dL_law_2664 : decode cL_law 2664 = .ok (.aload_n 2, 1) := by decide +kernel
theorem dL_law_2665 : decode cL_law 2665 = .ok (.aload_n 0, 1) := by decide +kernel
theorem dL_law_2666 : decode cL_law 2666 = .ok (.iload 5, 2) := by decide +kernel
theorem dL_law_2668 : decode cL_law 2668 = .ok (.iconst 1, 1) := by decide +kernel
theorem dL_law_2669 : decode cL_law 2669 = .ok (.iadd, 1) := by decide +kernel
theorem dL_law_2670 : decode cL_law 2670 = .ok (.iaload, 1) := by decide +kernel
theorem dL_law_2671 : decode cL_law 2671 = .ok (.invokevirtual 342, 3) := by decide +kernel
theorem dL_law_2674 : decode cL_law 2674 = .ok (.istore 7, 2) := by decide +kernel
theorem dL_law_2676 : decode cL_law 2676 = .ok (.aload_n 2, 1) := by decide +kernel
theorem dL_law_2677 : decode cL_law 2677 = .ok (.invokevirtual 149, 3) := by decide +kernel
theorem dL_law_2680 : decode cL_law 2680 = .ok (.iload 6, 2) := by decide +kernel
theorem dL_law_2682 : decode cL_law 2682 = .ok (.if_icmp .eq 5, 3) := by decide +kernel
theorem dL_law_2685 : decode cL_law 2685 = .ok (.iconst 0, 1) := by decide +kernel
theorem dL_law_2686 : decode cL_law 2686 = .ok (.ireturn, 1) := by decide +kernel
theorem dL_law_2687 : decode cL_law 2687 = .ok (.iload 6, 2) := by decide +kernel
theorem dL_law_2689 : decode cL_law 2689 = .ok (.ifCond .ne 15, 3) := by decide +kernel
theorem dL_law_2692 : decode cL_law 2692 = .ok (.aload_n 3, 1) := by decide +kernel
theorem dL_law_2693 : decode cL_law 2693 = .ok (.iconst 0, 1) := by decide +kernel
theorem dL_law_2694 : decode cL_law 2694 = .ok (.laload, 1) := by decide +kernel
theorem dL_law_2695 : decode cL_law 2695 = .ok (.iload 7, 2) := by decide +kernel
theorem dL_law_2697 : decode cL_law 2697 = .ok (.i2l, 1) := by decide +kernel
theorem dL_law_2698 : decode cL_law 2698 = .ok (.lcmp, 1) := by decide +kernel
theorem dL_law_2699 : decode cL_law 2699 = .ok (.ifCond .eq 5, 3) := by decide +kernel
theorem dL_law_2702 : decode cL_law 2702 = .ok (.iconst 0, 1) := by decide +kernel
theorem dL_law_2703 : decode cL_law 2703 = .ok (.ireturn, 1) := by decide +kernel
theorem dL_law_2704 : decode cL_law 2704 = .ok (.goto 271, 3) := by decide +kernel
theorem dL_law_2707 : decode cL_law 2707 = .ok (.aload_n 1, 1) := by decide +kernel
theorem dL_law_2708 : decode cL_law 2708 = .ok (.aload_n 0, 1) := by decide +kernel
theorem dL_law_2709 : decode cL_law 2709 = .ok (.iload 5, 2) := by decide +kernel
theorem dL_law_2711 : decode cL_law 2711 = .ok (.iconst 1, 1) := by decide +kernel
theorem dL_law_2712 : decode cL_law 2712 = .ok (.iadd, 1) := by decide +kernel
theorem dL_law_2713 : decode cL_law 2713 = .ok (.iaload, 1) := by decide +kernel
theorem dL_law_2714 : decode cL_law 2714 = .ok (.aload_n 3, 1) := by decide +kernel
theorem dL_law_2715 : decode cL_law 2715 = .ok (.invokestatic 343, 3) := by decide +kernel
theorem dL_law_2718 : decode cL_law 2718 = .ok (.istore 6, 2) := by decide +kernel
theorem dL_law_2720 : decode cL_law 2720 = .ok (.aload_n 2, 1) := by decide +kernel
theorem dL_law_2721 : decode cL_law 2721 = .ok (.aload_n 0, 1) := by decide +kernel
theorem dL_law_2722 : decode cL_law 2722 = .ok (.iload 5, 2) := by decide +kernel
theorem dL_law_2724 : decode cL_law 2724 = .ok (.iconst 1, 1) := by decide +kernel
theorem dL_law_2725 : decode cL_law 2725 = .ok (.iadd, 1) := by decide +kernel
theorem dL_law_2726 : decode cL_law 2726 = .ok (.iaload, 1) := by decide +kernel
theorem dL_law_2727 : decode cL_law 2727 = .ok (.invokevirtual 345, 3) := by decide +kernel
theorem dL_law_2730 : decode cL_law 2730 = .ok (.istore 7, 2) := by decide +kernel
theorem dL_law_2732 : decode cL_law 2732 = .ok (.aload_n 2, 1) := by decide +kernel
theorem dL_law_2733 : decode cL_law 2733 = .ok (.invokevirtual 149, 3) := by decide +kernel
theorem dL_law_2736 : decode cL_law 2736 = .ok (.iload 6, 2) := by decide +kernel
theorem dL_law_2738 : decode cL_law 2738 = .ok (.if_icmp .eq 5, 3) := by decide +kernel
theorem dL_law_2741 : decode cL_law 2741 = .ok (.iconst 0, 1) := by decide +kernel
theorem dL_law_2742 : decode cL_law 2742 = .ok (.ireturn, 1) := by decide +kernel
theorem dL_law_2743 : decode cL_law 2743 = .ok (.iload 6, 2) := by decide +kernel
theorem dL_law_2745 : decode cL_law 2745 = .ok (.ifCond .ne 15, 3) := by decide +kernel
theorem dL_law_2748 : decode cL_law 2748 = .ok (.aload_n 3, 1) := by decide +kernel
theorem dL_law_2749 : decode cL_law 2749 = .ok (.iconst 0, 1) := by decide +kernel
theorem dL_law_2750 : decode cL_law 2750 = .ok (.laload, 1) := by decide +kernel
theorem dL_law_2751 : decode cL_law 2751 = .ok (.iload 7, 2) := by decide +kernel
theorem dL_law_2753 : decode cL_law 2753 = .ok (.i2l, 1) := by decide +kernel
theorem dL_law_2754 : decode cL_law 2754 = .ok (.lcmp, 1) := by decide +kernel
theorem dL_law_2755 : decode cL_law 2755 = .ok (.ifCond .eq 5, 3) := by decide +kernel
theorem dL_law_2758 : decode cL_law 2758 = .ok (.iconst 0, 1) := by decide +kernel
theorem dL_law_2759 : decode cL_law 2759 = .ok (.ireturn, 1) := by decide +kernel
theorem dL_law_2760 : decode cL_law 2760 = .ok (.goto 215, 3) := by decide +kernel
theorem dL_law_2763 : decode cL_law 2763 = .ok (.aload_n 1, 1) := by decide +kernel
theorem dL_law_2764 : decode cL_law 2764 = .ok (.aload_n 0, 1) := by decide +kernel
theorem dL_law_2765 : decode cL_law 2765 = .ok (.iload 5, 2) := by decide +kernel
theorem dL_law_2767 : decode cL_law 2767 = .ok (.iconst 1, 1) := by decide +kernel
theorem dL_law_2768 : decode cL_law 2768 = .ok (.iadd, 1) := by decide +kernel
theorem dL_law_2769 : decode cL_law 2769 = .ok (.iaload, 1) := by decide +kernel
theorem dL_law_2770 : decode cL_law 2770 = .ok (.aload_n 3, 1) := by decide +kernel
theorem dL_law_2771 : decode cL_law 2771 = .ok (.invokestatic 346, 3) := by decide +kernel
theorem dL_law_2774 : decode cL_law 2774 = .ok (.istore 6, 2) := by decide +kernel
theorem dL_law_2776 : decode cL_law 2776 = .ok (.aload_n 2, 1) := by decide +kernel
theorem dL_law_2777 : decode cL_law 2777 = .ok (.aload_n 0, 1) := by decide +kernel
theorem dL_law_2778 : decode cL_law 2778 = .ok (.iload 5, 2) := by decide +kernel
theorem dL_law_2780 : decode cL_law 2780 = .ok (.iconst 1, 1) := by decide +kernel
theorem dL_law_2781 : decode cL_law 2781 = .ok (.iadd, 1) := by decide +kernel
theorem dL_law_2782 : decode cL_law 2782 = .ok (.iaload, 1) := by decide +kernel
theorem dL_law_2783 : decode cL_law 2783 = .ok (.invokevirtual 348, 3) := by decide +kernel
theorem dL_law_2786 : decode cL_law 2786 = .ok (.istore 7, 2) := by decide +kernel
theorem dL_law_2788 : decode cL_law 2788 = .ok (.aload_n 2, 1) := by decide +kernel
theorem dL_law_2789 : decode cL_law 2789 = .ok (.invokevirtual 149, 3) := by decide +kernel
theorem dL_law_2792 : decode cL_law 2792 = .ok (.iload 6, 2) := by decide +kernel
theorem dL_law_2794 : decode cL_law 2794 = .ok (.if_icmp .eq 5, 3) := by decide +kernel
theorem dL_law_2797 : decode cL_law 2797 = .ok (.iconst 0, 1) := by decide +kernel
theorem dL_law_2798 : decode cL_law 2798 = .ok (.ireturn, 1) := by decide +kernel
theorem dL_law_2799 : decode cL_law 2799 = .ok (.iload 6, 2) := by decide +kernel
theorem dL_law_2801 : decode cL_law 2801 = .ok (.ifCond .ne 15, 3) := by decide +kernel
theorem dL_law_2804 : decode cL_law 2804 = .ok (.aload_n 3, 1) := by decide +kernel
theorem dL_law_2805 : decode cL_law 2805 = .ok (.iconst 0, 1) := by decide +kernel
theorem dL_law_2806 : decode cL_law 2806 = .ok (.laload, 1) := by decide +kernel
theorem dL_law_2807 : decode cL_law 2807 = .ok (.iload 7, 2) := by decide +kernel
theorem dL_law_2809 : decode cL_law 2809 = .ok (.i2l, 1) := by decide +kernel
theorem dL_law_2810 : decode cL_law 2810 = .ok (.lcmp, 1) := by decide +kernel
theorem dL_law_2811 : decode cL_law 2811 = .ok (.ifCond .eq 5, 3) := by decide +kernel
theorem dL_law_2814 : decode cL_law 2814 = .ok (.iconst 0, 1) := by decide +kernel
theorem dL_law_2815 : decode cL_law 2815 = .ok (.ireturn, 1) := by decide +kernel
theorem dL_law_2816 : decode cL_law 2816 = .ok (.goto 159, 3) := by decide +kernel
theorem dL_law_2819 : decode cL_law 2819 = .ok (.aload_n 1, 1) := by decide +kernel
theorem dL_law_2820 : decode cL_law 2820 = .ok (.aload_n 0, 1) := by decide +kernel
theorem dL_law_2821 : decode cL_law 2821 = .ok (.iload 5, 2) := by decide +kernel
theorem dL_law_2823 : decode cL_law 2823 = .ok (.iconst 1, 1) := by decide +kernel
theorem dL_law_2824 : decode cL_law 2824 = .ok (.iadd, 1) := by decide +kernel
theorem dL_law_2825 : decode cL_law 2825 = .ok (.iaload, 1) := by decide +kernel
theorem dL_law_2826 : decode cL_law 2826 = .ok (.aload_n 3, 1) := by decide +kernel
theorem dL_law_2827 : decode cL_law 2827 = .ok (.invokestatic 349, 3) := by decide +kernel
theorem dL_law_2830 : decode cL_law 2830 = .ok (.istore 6, 2) := by decide +kernel
theorem dL_law_2832 : decode cL_law 2832 = .ok (.aload_n 2, 1) := by decide +kernel
theorem dL_law_2833 : decode cL_law 2833 = .ok (.aload_n 0, 1) := by decide +kernel
theorem dL_law_2834 : decode cL_law 2834 = .ok (.iload 5, 2) := by decide +kernel
theorem dL_law_2836 : decode cL_law 2836 = .ok (.iconst 1, 1) := by decide +kernel
theorem dL_law_2837 : decode cL_law 2837 = .ok (.iadd, 1) := by decide +kernel
theorem dL_law_2838 : decode cL_law 2838 = .ok (.iaload, 1) := by decide +kernel
theorem dL_law_2839 : decode cL_law 2839 = .ok (.invokevirtual 351, 3) := by decide +kernel
theorem dL_law_2842 : decode cL_law 2842 = .ok (.istore 7, 2) := by decide +kernel
theorem dL_law_2844 : decode cL_law 2844 = .ok (.aload_n 2, 1) := by decide +kernel
theorem dL_law_2845 : decode cL_law 2845 = .ok (.invokevirtual 149, 3) := by decide +kernel
theorem dL_law_2848 : decode cL_law 2848 = .ok (.iload 6, 2) := by decide +kernel
theorem dL_law_2850 : decode cL_law 2850 = .ok (.if_icmp .eq 5, 3) := by decide +kernel
theorem dL_law_2853 : decode cL_law 2853 = .ok (.iconst 0, 1) := by decide +kernel
theorem dL_law_2854 : decode cL_law 2854 = .ok (.ireturn, 1) := by decide +kernel
theorem dL_law_2855 : decode cL_law 2855 = .ok (.iload 6, 2) := by decide +kernel
theorem dL_law_2857 : decode cL_law 2857 = .ok (.ifCond .ne 15, 3) := by decide +kernel
theorem dL_law_2860 : decode cL_law 2860 = .ok (.aload_n 3, 1) := by decide +kernel
theorem dL_law_2861 : decode cL_law 2861 = .ok (.iconst 0, 1) := by decide +kernel
theorem dL_law_2862 : decode cL_law 2862 = .ok (.laload, 1) := by decide +kernel
theorem dL_law_2863 : decode cL_law 2863 = .ok (.iload 7, 2) := by decide +kernel
theorem dL_law_2865 : decode cL_law 2865 = .ok (.i2l, 1) := by decide +kernel
theorem dL_law_2866 : decode cL_law 2866 = .ok (.lcmp, 1) := by decide +kernel
theorem dL_law_2867 : decode cL_law 2867 = .ok (.ifCond .eq 5, 3) := by decide +kernel
theorem dL_law_2870 : decode cL_law 2870 = .ok (.iconst 0, 1) := by decide +kernel
theorem dL_law_2871 : decode cL_law 2871 = .ok (.ireturn, 1) := by decide +kernel
theorem dL_law_2872 : decode cL_law 2872 = .ok (.goto 103, 3) := by decide +kernel
theorem dL_law_2875 : decode cL_law 2875 = .ok (.aload_n 1, 1) := by decide +kernel
theorem dL_law_2876 : decode cL_law 2876 = .ok (.aload_n 0, 1) := by decide +kernel
theorem dL_law_2877 : decode cL_law 2877 = .ok (.iload 5, 2) := by decide +kernel
theorem dL_law_2879 : decode cL_law 2879 = .ok (.iconst 1, 1) := by decide +kernel
theorem dL_law_2880 : decode cL_law 2880 = .ok (.iadd, 1) := by decide +kernel
theorem dL_law_2881 : decode cL_law 2881 = .ok (.iaload, 1) := by decide +kernel
theorem dL_law_2882 : decode cL_law 2882 = .ok (.aload_n 3, 1) := by decide +kernel
theorem dL_law_2883 : decode cL_law 2883 = .ok (.invokestatic 352, 3) := by decide +kernel
theorem dL_law_2886 : decode cL_law 2886 = .ok (.istore 6, 2) := by decide +kernel
theorem dL_law_2888 : decode cL_law 2888 = .ok (.aload_n 2, 1) := by decide +kernel
theorem dL_law_2889 : decode cL_law 2889 = .ok (.aload_n 0, 1) := by decide +kernel
theorem dL_law_2890 : decode cL_law 2890 = .ok (.iload 5, 2) := by decide +kernel
theorem dL_law_2892 : decode cL_law 2892 = .ok (.iconst 1, 1) := by decide +kernel
theorem dL_law_2893 : decode cL_law 2893 = .ok (.iadd, 1) := by decide +kernel
theorem dL_law_2894 : decode cL_law 2894 = .ok (.iaload, 1) := by decide +kernel
theorem dL_law_2895 : decode cL_law 2895 = .ok (.invokevirtual 354, 3) := by decide +kernel
theorem dL_law_2898 : decode cL_law 2898 = .ok (.istore 7, 2) := by decide +kernel
theorem dL_law_2900 : decode cL_law 2900 = .ok (.aload_n 2, 1) := by decide +kernel
theorem dL_law_2901 : decode cL_law 2901 = .ok (.invokevirtual 149, 3) := by decide +kernel
theorem dL_law_2904 : decode cL_law 2904 = .ok (.iload 6, 2) := by decide +kernel
theorem dL_law_2906 : decode cL_law 2906 = .ok (.if_icmp .eq 5, 3) := by decide +kernel
theorem dL_law_2909 : decode cL_law 2909 = .ok (.iconst 0, 1) := by decide +kernel
theorem dL_law_2910 : decode cL_law 2910 = .ok (.ireturn, 1) := by decide +kernel
theorem dL_law_2911 : decode cL_law 2911 = .ok (.iload 6, 2) := by decide +kernel
theorem dL_law_2913 : decode cL_law 2913 = .ok (.ifCond .ne 15, 3) := by decide +kernel
theorem dL_law_2916 : decode cL_law 2916 = .ok (.aload_n 3, 1) := by decide +kernel
theorem dL_law_2917 : decode cL_law 2917 = .ok (.iconst 0, 1) := by decide +kernel
theorem dL_law_2918 : decode cL_law 2918 = .ok (.laload, 1) := by decide +kernel
theorem dL_law_2919 : decode cL_law 2919 = .ok (.iload 7, 2) := by decide +kernel
theorem dL_law_2921 : decode cL_law 2921 = .ok (.i2l, 1) := by decide +kernel
theorem dL_law_2922 : decode cL_law 2922 = .ok (.lcmp, 1) := by decide +kernel
theorem dL_law_2923 : decode cL_law 2923 = .ok (.ifCond .eq 5, 3) := by decide +kernel
theorem dL_law_2926 : decode cL_law 2926 = .ok (.iconst 0, 1) := by decide +kernel
theorem dL_law_2927 : decode cL_law 2927 = .ok (.ireturn, 1) := by decide +kernel
theorem dL_law_2928 : decode cL_law 2928 = .ok (.goto 47, 3) := by decide +kernel
theorem dL_law_2931 : decode cL_law 2931 = .ok (.aload_n 1, 1) := by decide +kernel
theorem dL_law_2932 : decode cL_law 2932 = .ok (.aload_n 3, 1) := by decide +kernel
theorem dL_law_2933 : decode cL_law 2933 = .ok (.invokestatic 355, 3) := by decide +kernel
theorem dL_law_2936 : decode cL_law 2936 = .ok (.istore 6, 2) := by decide +kernel
theorem dL_law_2938 : decode cL_law 2938 = .ok (.aload_n 2, 1) := by decide +kernel
theorem dL_law_2939 : decode cL_law 2939 = .ok (.invokevirtual 357, 3) := by decide +kernel
theorem dL_law_2942 : decode cL_law 2942 = .ok (.istore 7, 2) := by decide +kernel
theorem dL_law_2944 : decode cL_law 2944 = .ok (.aload_n 2, 1) := by decide +kernel
theorem dL_law_2945 : decode cL_law 2945 = .ok (.invokevirtual 149, 3) := by decide +kernel
theorem dL_law_2948 : decode cL_law 2948 = .ok (.iload 6, 2) := by decide +kernel
theorem dL_law_2950 : decode cL_law 2950 = .ok (.if_icmp .eq 5, 3) := by decide +kernel
theorem dL_law_2953 : decode cL_law 2953 = .ok (.iconst 0, 1) := by decide +kernel
theorem dL_law_2954 : decode cL_law 2954 = .ok (.ireturn, 1) := by decide +kernel
theorem dL_law_2955 : decode cL_law 2955 = .ok (.iload 6, 2) := by decide +kernel
theorem dL_law_2957 : decode cL_law 2957 = .ok (.ifCond .ne 15, 3) := by decide +kernel
theorem dL_law_2960 : decode cL_law 2960 = .ok (.aload_n 3, 1) := by decide +kernel
theorem dL_law_2961 : decode cL_law 2961 = .ok (.iconst 0, 1) := by decide +kernel
theorem dL_law_2962 : decode cL_law 2962 = .ok (.laload, 1) := by decide +kernel
theorem dL_law_2963 : decode cL_law 2963 = .ok (.iload 7, 2) := by decide +kernel
theorem dL_law_2965 : decode cL_law 2965 = .ok (.i2l, 1) := by decide +kernel
theorem dL_law_2966 : decode cL_law 2966 = .ok (.lcmp, 1) := by decide +kernel
theorem dL_law_2967 : decode cL_law 2967 = .ok (.ifCond .eq 5, 3) := by decide +kernel
theorem dL_law_2970 : decode cL_law 2970 = .ok (.iconst 0, 1) := by decide +kernel
theorem dL_law_2971 : decode cL_law 2971 = .ok (.ireturn, 1) := by decide +kernel
theorem dL_law_2972 : decode cL_law 2972 = .ok (.goto 3, 3) := by decide +kernel
theorem dL_law_2975 : decode cL_law 2975 = .ok (.iinc 5 6, 3) := by decide +kernel
theorem dL_law_2978 : decode cL_law 2978 = .ok (.goto (-2950), 3) := by decide +kernel
theorem dL_law_2981 : decode cL_law 2981 = .ok (.iconst 1, 1) := by decide +kernel
theorem dL_law_2982 : decode cL_law 2982 = .ok (.ireturn, 1) := by decide +kernel
