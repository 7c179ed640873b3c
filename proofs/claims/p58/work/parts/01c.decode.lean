theorem dX0_init_0 : decode cX0_init 0 = .ok (.aload_n 0, 1) := by decide +kernel
theorem dX0_init_1 : decode cX0_init 1 = .ok (.invokespecial 3, 3) := by decide +kernel
theorem dX0_init_4 : decode cX0_init 4 = .ok (.aload_n 0, 1) := by decide +kernel
theorem dX0_init_5 : decode cX0_init 5 = .ok (.bipush 8, 2) := by decide +kernel
theorem dX0_init_7 : decode cX0_init 7 = .ok (.anewarray 9, 3) := by decide +kernel
theorem dX0_init_10 : decode cX0_init 10 = .ok (.putfield 11, 3) := by decide +kernel
theorem dX0_init_13 : decode cX0_init 13 = .ok (.iconst 0, 1) := by decide +kernel
theorem dX0_init_14 : decode cX0_init 14 = .ok (.istore_n 1, 1) := by decide +kernel
theorem dX0_init_15 : decode cX0_init 15 = .ok (.iload_n 1, 1) := by decide +kernel
theorem dX0_init_16 : decode cX0_init 16 = .ok (.bipush 8, 2) := by decide +kernel
theorem dX0_init_18 : decode cX0_init 18 = .ok (.if_icmp .ge 22, 3) := by decide +kernel
theorem dX0_init_21 : decode cX0_init 21 = .ok (.aload_n 0, 1) := by decide +kernel
theorem dX0_init_22 : decode cX0_init 22 = .ok (.getfield 11, 3) := by decide +kernel
theorem dX0_init_25 : decode cX0_init 25 = .ok (.iload_n 1, 1) := by decide +kernel
theorem dX0_init_26 : decode cX0_init 26 = .ok (.new 9, 3) := by decide +kernel
theorem dX0_init_29 : decode cX0_init 29 = .ok (.dup, 1) := by decide +kernel
theorem dX0_init_30 : decode cX0_init 30 = .ok (.invokespecial 17, 3) := by decide +kernel
theorem dX0_init_33 : decode cX0_init 33 = .ok (.aastore, 1) := by decide +kernel
theorem dX0_init_34 : decode cX0_init 34 = .ok (.iinc 1 1, 3) := by decide +kernel
theorem dX0_init_37 : decode cX0_init 37 = .ok (.goto (-22), 3) := by decide +kernel
theorem dX0_init_40 : decode cX0_init 40 = .ok (.return_, 1) := by decide +kernel
theorem dX0_clear_0 : decode cX0_clear 0 = .ok (.aload_n 0, 1) := by decide +kernel
theorem dX0_clear_1 : decode cX0_clear 1 = .ok (.iconst 0, 1) := by decide +kernel
theorem dX0_clear_2 : decode cX0_clear 2 = .ok (.putfield 18, 3) := by decide +kernel
theorem dX0_clear_5 : decode cX0_clear 5 = .ok (.return_, 1) := by decide +kernel
theorem dX0_remember_0 : decode cX0_remember 0 = .ok (.aload_n 0, 1) := by decide +kernel
theorem dX0_remember_1 : decode cX0_remember 1 = .ok (.getfield 11, 3) := by decide +kernel
theorem dX0_remember_4 : decode cX0_remember 4 = .ok (.aload_n 0, 1) := by decide +kernel
theorem dX0_remember_5 : decode cX0_remember 5 = .ok (.getfield 22, 3) := by decide +kernel
theorem dX0_remember_8 : decode cX0_remember 8 = .ok (.aaload, 1) := by decide +kernel
theorem dX0_remember_9 : decode cX0_remember 9 = .ok (.aload_n 1, 1) := by decide +kernel
theorem dX0_remember_10 : decode cX0_remember 10 = .ok (.invokevirtual 25, 3) := by decide +kernel
theorem dX0_remember_13 : decode cX0_remember 13 = .ok (.aload_n 0, 1) := by decide +kernel
theorem dX0_remember_14 : decode cX0_remember 14 = .ok (.aload_n 0, 1) := by decide +kernel
theorem dX0_remember_15 : decode cX0_remember 15 = .ok (.getfield 22, 3) := by decide +kernel
theorem dX0_remember_18 : decode cX0_remember 18 = .ok (.iconst 1, 1) := by decide +kernel
theorem dX0_remember_19 : decode cX0_remember 19 = .ok (.iadd, 1) := by decide +kernel
theorem dX0_remember_20 : decode cX0_remember 20 = .ok (.bipush 8, 2) := by decide +kernel
theorem dX0_remember_22 : decode cX0_remember 22 = .ok (.irem, 1) := by decide +kernel
theorem dX0_remember_23 : decode cX0_remember 23 = .ok (.putfield 22, 3) := by decide +kernel
theorem dX0_remember_26 : decode cX0_remember 26 = .ok (.aload_n 0, 1) := by decide +kernel
theorem dX0_remember_27 : decode cX0_remember 27 = .ok (.aload_n 0, 1) := by decide +kernel
theorem dX0_remember_28 : decode cX0_remember 28 = .ok (.getfield 18, 3) := by decide +kernel
theorem dX0_remember_31 : decode cX0_remember 31 = .ok (.iconst 1, 1) := by decide +kernel
theorem dX0_remember_32 : decode cX0_remember 32 = .ok (.iadd, 1) := by decide +kernel
theorem dX0_remember_33 : decode cX0_remember 33 = .ok (.bipush 8, 2) := by decide +kernel
theorem dX0_remember_35 : decode cX0_remember 35 = .ok (.invokestatic 29, 3) := by decide +kernel
theorem dX0_remember_38 : decode cX0_remember 38 = .ok (.putfield 18, 3) := by decide +kernel
theorem dX0_remember_41 : decode cX0_remember 41 = .ok (.return_, 1) := by decide +kernel
theorem dX0_bringBack_0 : decode cX0_bringBack 0 = .ok (.aload_n 0, 1) := by decide +kernel
theorem dX0_bringBack_1 : decode cX0_bringBack 1 = .ok (.getfield 18, 3) := by decide +kernel
theorem dX0_bringBack_4 : decode cX0_bringBack 4 = .ok (.ifCond .le 42, 3) := by decide +kernel
theorem dX0_bringBack_7 : decode cX0_bringBack 7 = .ok (.aload_n 0, 1) := by decide +kernel
theorem dX0_bringBack_8 : decode cX0_bringBack 8 = .ok (.aload_n 0, 1) := by decide +kernel
theorem dX0_bringBack_9 : decode cX0_bringBack 9 = .ok (.getfield 22, 3) := by decide +kernel
theorem dX0_bringBack_12 : decode cX0_bringBack 12 = .ok (.bipush 8, 2) := by decide +kernel
theorem dX0_bringBack_14 : decode cX0_bringBack 14 = .ok (.iadd, 1) := by decide +kernel
theorem dX0_bringBack_15 : decode cX0_bringBack 15 = .ok (.iconst 1, 1) := by decide +kernel
theorem dX0_bringBack_16 : decode cX0_bringBack 16 = .ok (.isub, 1) := by decide +kernel
theorem dX0_bringBack_17 : decode cX0_bringBack 17 = .ok (.bipush 8, 2) := by decide +kernel
theorem dX0_bringBack_19 : decode cX0_bringBack 19 = .ok (.irem, 1) := by decide +kernel
theorem dX0_bringBack_20 : decode cX0_bringBack 20 = .ok (.putfield 22, 3) := by decide +kernel
theorem dX0_bringBack_23 : decode cX0_bringBack 23 = .ok (.aload_n 1, 1) := by decide +kernel
theorem dX0_bringBack_24 : decode cX0_bringBack 24 = .ok (.aload_n 0, 1) := by decide +kernel
theorem dX0_bringBack_25 : decode cX0_bringBack 25 = .ok (.getfield 11, 3) := by decide +kernel
theorem dX0_bringBack_28 : decode cX0_bringBack 28 = .ok (.aload_n 0, 1) := by decide +kernel
theorem dX0_bringBack_29 : decode cX0_bringBack 29 = .ok (.getfield 22, 3) := by decide +kernel
theorem dX0_bringBack_32 : decode cX0_bringBack 32 = .ok (.aaload, 1) := by decide +kernel
theorem dX0_bringBack_33 : decode cX0_bringBack 33 = .ok (.invokevirtual 25, 3) := by decide +kernel
theorem dX0_bringBack_36 : decode cX0_bringBack 36 = .ok (.aload_n 0, 1) := by decide +kernel
theorem dX0_bringBack_37 : decode cX0_bringBack 37 = .ok (.dup, 1) := by decide +kernel
theorem dX0_bringBack_38 : decode cX0_bringBack 38 = .ok (.getfield 18, 3) := by decide +kernel
theorem dX0_bringBack_41 : decode cX0_bringBack 41 = .ok (.iconst 1, 1) := by decide +kernel
theorem dX0_bringBack_42 : decode cX0_bringBack 42 = .ok (.isub, 1) := by decide +kernel
theorem dX0_bringBack_43 : decode cX0_bringBack 43 = .ok (.putfield 18, 3) := by decide +kernel
theorem dX0_bringBack_46 : decode cX0_bringBack 46 = .ok (.return_, 1) := by decide +kernel
theorem dX1_init_0 : decode cX1_init 0 = .ok (.aload_n 0, 1) := by decide +kernel
theorem dX1_init_1 : decode cX1_init 1 = .ok (.invokespecial 3, 3) := by decide +kernel
theorem dX1_init_4 : decode cX1_init 4 = .ok (.aload_n 0, 1) := by decide +kernel
theorem dX1_init_5 : decode cX1_init 5 = .ok (.bipush 10, 2) := by decide +kernel
theorem dX1_init_7 : decode cX1_init 7 = .ok (.newarray .boolean, 2) := by decide +kernel
theorem dX1_init_9 : decode cX1_init 9 = .ok (.putfield 9, 3) := by decide +kernel
theorem dX1_init_12 : decode cX1_init 12 = .ok (.aload_n 0, 1) := by decide +kernel
theorem dX1_init_13 : decode cX1_init 13 = .ok (.bipush 10, 2) := by decide +kernel
theorem dX1_init_15 : decode cX1_init 15 = .ok (.newarray .int, 2) := by decide +kernel
theorem dX1_init_17 : decode cX1_init 17 = .ok (.putfield 15, 3) := by decide +kernel
theorem dX1_init_20 : decode cX1_init 20 = .ok (.aload_n 0, 1) := by decide +kernel
theorem dX1_init_21 : decode cX1_init 21 = .ok (.bipush 10, 2) := by decide +kernel
theorem dX1_init_23 : decode cX1_init 23 = .ok (.newarray .int, 2) := by decide +kernel
theorem dX1_init_25 : decode cX1_init 25 = .ok (.putfield 19, 3) := by decide +kernel
theorem dX1_init_28 : decode cX1_init 28 = .ok (.return_, 1) := by decide +kernel
theorem dX1_find_0 : decode cX1_find 0 = .ok (.iconst 0, 1) := by decide +kernel
theorem dX1_find_1 : decode cX1_find 1 = .ok (.istore_n 3, 1) := by decide +kernel
theorem dX1_find_2 : decode cX1_find 2 = .ok (.iload_n 3, 1) := by decide +kernel
theorem dX1_find_3 : decode cX1_find 3 = .ok (.aload_n 0, 1) := by decide +kernel
theorem dX1_find_4 : decode cX1_find 4 = .ok (.getfield 22, 3) := by decide +kernel
theorem dX1_find_7 : decode cX1_find 7 = .ok (.if_icmp .ge 31, 3) := by decide +kernel
theorem dX1_find_10 : decode cX1_find 10 = .ok (.aload_n 0, 1) := by decide +kernel
theorem dX1_find_11 : decode cX1_find 11 = .ok (.getfield 9, 3) := by decide +kernel
theorem dX1_find_14 : decode cX1_find 14 = .ok (.iload_n 3, 1) := by decide +kernel
theorem dX1_find_15 : decode cX1_find 15 = .ok (.baload, 1) := by decide +kernel
theorem dX1_find_16 : decode cX1_find 16 = .ok (.iload_n 1, 1) := by decide +kernel
theorem dX1_find_17 : decode cX1_find 17 = .ok (.if_icmp .ne 15, 3) := by decide +kernel
theorem dX1_find_20 : decode cX1_find 20 = .ok (.aload_n 0, 1) := by decide +kernel
theorem dX1_find_21 : decode cX1_find 21 = .ok (.getfield 15, 3) := by decide +kernel
theorem dX1_find_24 : decode cX1_find 24 = .ok (.iload_n 3, 1) := by decide +kernel
theorem dX1_find_25 : decode cX1_find 25 = .ok (.iaload, 1) := by decide +kernel
theorem dX1_find_26 : decode cX1_find 26 = .ok (.iload_n 2, 1) := by decide +kernel
theorem dX1_find_27 : decode cX1_find 27 = .ok (.if_icmp .ne 5, 3) := by decide +kernel
theorem dX1_find_30 : decode cX1_find 30 = .ok (.iload_n 3, 1) := by decide +kernel
theorem dX1_find_31 : decode cX1_find 31 = .ok (.ireturn, 1) := by decide +kernel
theorem dX1_find_32 : decode cX1_find 32 = .ok (.iinc 3 1, 3) := by decide +kernel
theorem dX1_find_35 : decode cX1_find 35 = .ok (.goto (-33), 3) := by decide +kernel
theorem dX1_find_38 : decode cX1_find 38 = .ok (.iconst (-1), 1) := by decide +kernel
theorem dX1_find_39 : decode cX1_find 39 = .ok (.ireturn, 1) := by decide +kernel
theorem dX1_addKind_0 : decode cX1_addKind 0 = .ok (.aload_n 0, 1) := by decide +kernel
theorem dX1_addKind_1 : decode cX1_addKind 1 = .ok (.getfield 22, 3) := by decide +kernel
theorem dX1_addKind_4 : decode cX1_addKind 4 = .ok (.bipush 10, 2) := by decide +kernel
theorem dX1_addKind_6 : decode cX1_addKind 6 = .ok (.if_icmp .lt 4, 3) := by decide +kernel
theorem dX1_addKind_9 : decode cX1_addKind 9 = .ok (.return_, 1) := by decide +kernel
theorem dX1_addKind_10 : decode cX1_addKind 10 = .ok (.aload_n 0, 1) := by decide +kernel
theorem dX1_addKind_11 : decode cX1_addKind 11 = .ok (.getfield 9, 3) := by decide +kernel
theorem dX1_addKind_14 : decode cX1_addKind 14 = .ok (.aload_n 0, 1) := by decide +kernel
theorem dX1_addKind_15 : decode cX1_addKind 15 = .ok (.getfield 22, 3) := by decide +kernel
theorem dX1_addKind_18 : decode cX1_addKind 18 = .ok (.iload_n 1, 1) := by decide +kernel
theorem dX1_addKind_19 : decode cX1_addKind 19 = .ok (.bastore, 1) := by decide +kernel
theorem dX1_addKind_20 : decode cX1_addKind 20 = .ok (.aload_n 0, 1) := by decide +kernel
theorem dX1_addKind_21 : decode cX1_addKind 21 = .ok (.getfield 15, 3) := by decide +kernel
theorem dX1_addKind_24 : decode cX1_addKind 24 = .ok (.aload_n 0, 1) := by decide +kernel
theorem dX1_addKind_25 : decode cX1_addKind 25 = .ok (.getfield 22, 3) := by decide +kernel
theorem dX1_addKind_28 : decode cX1_addKind 28 = .ok (.iload_n 2, 1) := by decide +kernel
theorem dX1_addKind_29 : decode cX1_addKind 29 = .ok (.iastore, 1) := by decide +kernel
theorem dX1_addKind_30 : decode cX1_addKind 30 = .ok (.aload_n 0, 1) := by decide +kernel
theorem dX1_addKind_31 : decode cX1_addKind 31 = .ok (.getfield 22, 3) := by decide +kernel
theorem dX1_addKind_34 : decode cX1_addKind 34 = .ok (.istore_n 3, 1) := by decide +kernel
theorem dX1_addKind_35 : decode cX1_addKind 35 = .ok (.iload_n 3, 1) := by decide +kernel
theorem dX1_addKind_36 : decode cX1_addKind 36 = .ok (.ifCond .le 42, 3) := by decide +kernel
theorem dX1_addKind_39 : decode cX1_addKind 39 = .ok (.aload_n 0, 1) := by decide +kernel
theorem dX1_addKind_40 : decode cX1_addKind 40 = .ok (.aload_n 0, 1) := by decide +kernel
theorem dX1_addKind_41 : decode cX1_addKind 41 = .ok (.getfield 22, 3) := by decide +kernel
theorem dX1_addKind_44 : decode cX1_addKind 44 = .ok (.aload_n 0, 1) := by decide +kernel
theorem dX1_addKind_45 : decode cX1_addKind 45 = .ok (.getfield 19, 3) := by decide +kernel
theorem dX1_addKind_48 : decode cX1_addKind 48 = .ok (.iload_n 3, 1) := by decide +kernel
theorem dX1_addKind_49 : decode cX1_addKind 49 = .ok (.iconst 1, 1) := by decide +kernel
theorem dX1_addKind_50 : decode cX1_addKind 50 = .ok (.isub, 1) := by decide +kernel
theorem dX1_addKind_51 : decode cX1_addKind 51 = .ok (.iaload, 1) := by decide +kernel
theorem dX1_addKind_52 : decode cX1_addKind 52 = .ok (.invokevirtual 26, 3) := by decide +kernel
theorem dX1_addKind_55 : decode cX1_addKind 55 = .ok (.ifCond .eq 23, 3) := by decide +kernel
theorem dX1_addKind_58 : decode cX1_addKind 58 = .ok (.aload_n 0, 1) := by decide +kernel
theorem dX1_addKind_59 : decode cX1_addKind 59 = .ok (.getfield 19, 3) := by decide +kernel
theorem dX1_addKind_62 : decode cX1_addKind 62 = .ok (.iload_n 3, 1) := by decide +kernel
theorem dX1_addKind_63 : decode cX1_addKind 63 = .ok (.aload_n 0, 1) := by decide +kernel
theorem dX1_addKind_64 : decode cX1_addKind 64 = .ok (.getfield 19, 3) := by decide +kernel
theorem dX1_addKind_67 : decode cX1_addKind 67 = .ok (.iload_n 3, 1) := by decide +kernel
theorem dX1_addKind_68 : decode cX1_addKind 68 = .ok (.iconst 1, 1) := by decide +kernel
theorem dX1_addKind_69 : decode cX1_addKind 69 = .ok (.isub, 1) := by decide +kernel
theorem dX1_addKind_70 : decode cX1_addKind 70 = .ok (.iaload, 1) := by decide +kernel
theorem dX1_addKind_71 : decode cX1_addKind 71 = .ok (.iastore, 1) := by decide +kernel
theorem dX1_addKind_72 : decode cX1_addKind 72 = .ok (.iinc 3 (-1), 3) := by decide +kernel
theorem dX1_addKind_75 : decode cX1_addKind 75 = .ok (.goto (-40), 3) := by decide +kernel
theorem dX1_addKind_78 : decode cX1_addKind 78 = .ok (.aload_n 0, 1) := by decide +kernel
theorem dX1_addKind_79 : decode cX1_addKind 79 = .ok (.getfield 19, 3) := by decide +kernel
theorem dX1_addKind_82 : decode cX1_addKind 82 = .ok (.iload_n 3, 1) := by decide +kernel
theorem dX1_addKind_83 : decode cX1_addKind 83 = .ok (.aload_n 0, 1) := by decide +kernel
theorem dX1_addKind_84 : decode cX1_addKind 84 = .ok (.getfield 22, 3) := by decide +kernel
theorem dX1_addKind_87 : decode cX1_addKind 87 = .ok (.iastore, 1) := by decide +kernel
theorem dX1_addKind_88 : decode cX1_addKind 88 = .ok (.aload_n 0, 1) := by decide +kernel
theorem dX1_addKind_89 : decode cX1_addKind 89 = .ok (.dup, 1) := by decide +kernel
theorem dX1_addKind_90 : decode cX1_addKind 90 = .ok (.getfield 22, 3) := by decide +kernel
theorem dX1_addKind_93 : decode cX1_addKind 93 = .ok (.iconst 1, 1) := by decide +kernel
theorem dX1_addKind_94 : decode cX1_addKind 94 = .ok (.iadd, 1) := by decide +kernel
theorem dX1_addKind_95 : decode cX1_addKind 95 = .ok (.putfield 22, 3) := by decide +kernel
theorem dX1_addKind_98 : decode cX1_addKind 98 = .ok (.return_, 1) := by decide +kernel
theorem dX1_isAhead_0 : decode cX1_isAhead 0 = .ok (.aload_n 0, 1) := by decide +kernel
theorem dX1_isAhead_1 : decode cX1_isAhead 1 = .ok (.getfield 15, 3) := by decide +kernel
theorem dX1_isAhead_4 : decode cX1_isAhead 4 = .ok (.iload_n 1, 1) := by decide +kernel
theorem dX1_isAhead_5 : decode cX1_isAhead 5 = .ok (.iaload, 1) := by decide +kernel
theorem dX1_isAhead_6 : decode cX1_isAhead 6 = .ok (.aload_n 0, 1) := by decide +kernel
theorem dX1_isAhead_7 : decode cX1_isAhead 7 = .ok (.getfield 15, 3) := by decide +kernel
theorem dX1_isAhead_10 : decode cX1_isAhead 10 = .ok (.iload_n 2, 1) := by decide +kernel
theorem dX1_isAhead_11 : decode cX1_isAhead 11 = .ok (.iaload, 1) := by decide +kernel
theorem dX1_isAhead_12 : decode cX1_isAhead 12 = .ok (.if_icmp .gt 36, 3) := by decide +kernel
theorem dX1_isAhead_15 : decode cX1_isAhead 15 = .ok (.aload_n 0, 1) := by decide +kernel
theorem dX1_isAhead_16 : decode cX1_isAhead 16 = .ok (.getfield 15, 3) := by decide +kernel
theorem dX1_isAhead_19 : decode cX1_isAhead 19 = .ok (.iload_n 1, 1) := by decide +kernel
theorem dX1_isAhead_20 : decode cX1_isAhead 20 = .ok (.iaload, 1) := by decide +kernel
theorem dX1_isAhead_21 : decode cX1_isAhead 21 = .ok (.aload_n 0, 1) := by decide +kernel
theorem dX1_isAhead_22 : decode cX1_isAhead 22 = .ok (.getfield 15, 3) := by decide +kernel
theorem dX1_isAhead_25 : decode cX1_isAhead 25 = .ok (.iload_n 2, 1) := by decide +kernel
theorem dX1_isAhead_26 : decode cX1_isAhead 26 = .ok (.iaload, 1) := by decide +kernel
theorem dX1_isAhead_27 : decode cX1_isAhead 27 = .ok (.if_icmp .ne 25, 3) := by decide +kernel
theorem dX1_isAhead_30 : decode cX1_isAhead 30 = .ok (.aload_n 0, 1) := by decide +kernel
theorem dX1_isAhead_31 : decode cX1_isAhead 31 = .ok (.getfield 9, 3) := by decide +kernel
theorem dX1_isAhead_34 : decode cX1_isAhead 34 = .ok (.iload_n 1, 1) := by decide +kernel
theorem dX1_isAhead_35 : decode cX1_isAhead 35 = .ok (.baload, 1) := by decide +kernel
theorem dX1_isAhead_36 : decode cX1_isAhead 36 = .ok (.ifCond .eq 16, 3) := by decide +kernel
theorem dX1_isAhead_39 : decode cX1_isAhead 39 = .ok (.aload_n 0, 1) := by decide +kernel
theorem dX1_isAhead_40 : decode cX1_isAhead 40 = .ok (.getfield 9, 3) := by decide +kernel
theorem dX1_isAhead_43 : decode cX1_isAhead 43 = .ok (.iload_n 2, 1) := by decide +kernel
theorem dX1_isAhead_44 : decode cX1_isAhead 44 = .ok (.baload, 1) := by decide +kernel
theorem dX1_isAhead_45 : decode cX1_isAhead 45 = .ok (.ifCond .ne 7, 3) := by decide +kernel
theorem dX1_isAhead_48 : decode cX1_isAhead 48 = .ok (.iconst 1, 1) := by decide +kernel
theorem dX1_isAhead_49 : decode cX1_isAhead 49 = .ok (.goto 4, 3) := by decide +kernel
theorem dX1_isAhead_52 : decode cX1_isAhead 52 = .ok (.iconst 0, 1) := by decide +kernel
theorem dX1_isAhead_53 : decode cX1_isAhead 53 = .ok (.ireturn, 1) := by decide +kernel
theorem dX2_init_0 : decode cX2_init 0 = .ok (.aload_n 0, 1) := by decide +kernel
theorem dX2_init_1 : decode cX2_init 1 = .ok (.invokespecial 3, 3) := by decide +kernel
theorem dX2_init_4 : decode cX2_init 4 = .ok (.aload_n 0, 1) := by decide +kernel
theorem dX2_init_5 : decode cX2_init 5 = .ok (.sipush 500, 3) := by decide +kernel
theorem dX2_init_8 : decode cX2_init 8 = .ok (.newarray .int, 2) := by decide +kernel
theorem dX2_init_10 : decode cX2_init 10 = .ok (.putfield 9, 3) := by decide +kernel
theorem dX2_init_13 : decode cX2_init 13 = .ok (.aload_n 0, 1) := by decide +kernel
theorem dX2_init_14 : decode cX2_init 14 = .ok (.bipush 8, 2) := by decide +kernel
theorem dX2_init_16 : decode cX2_init 16 = .ok (.newarray .boolean, 2) := by decide +kernel
theorem dX2_init_18 : decode cX2_init 18 = .ok (.putfield 15, 3) := by decide +kernel
theorem dX2_init_21 : decode cX2_init 21 = .ok (.aload_n 0, 1) := by decide +kernel
theorem dX2_init_22 : decode cX2_init 22 = .ok (.iconst (-1), 1) := by decide +kernel
theorem dX2_init_23 : decode cX2_init 23 = .ok (.putfield 19, 3) := by decide +kernel
theorem dX2_init_26 : decode cX2_init 26 = .ok (.return_, 1) := by decide +kernel
theorem dX2_addBytes_0 : decode cX2_addBytes 0 = .ok (.aload_n 0, 1) := by decide +kernel
theorem dX2_addBytes_1 : decode cX2_addBytes 1 = .ok (.getfield 23, 3) := by decide +kernel
theorem dX2_addBytes_4 : decode cX2_addBytes 4 = .ok (.sipush 480, 3) := by decide +kernel
theorem dX2_addBytes_7 : decode cX2_addBytes 7 = .ok (.if_icmp .le 5, 3) := by decide +kernel
theorem dX2_addBytes_10 : decode cX2_addBytes 10 = .ok (.iconst 0, 1) := by decide +kernel
theorem dX2_addBytes_11 : decode cX2_addBytes 11 = .ok (.ireturn, 1) := by decide +kernel
theorem dX2_addBytes_12 : decode cX2_addBytes 12 = .ok (.aload_n 0, 1) := by decide +kernel
theorem dX2_addBytes_13 : decode cX2_addBytes 13 = .ok (.iload_n 1, 1) := by decide +kernel
theorem dX2_addBytes_14 : decode cX2_addBytes 14 = .ok (.invokevirtual 26, 3) := by decide +kernel
theorem dX2_addBytes_17 : decode cX2_addBytes 17 = .ok (.aload_n 0, 1) := by decide +kernel
theorem dX2_addBytes_18 : decode cX2_addBytes 18 = .ok (.iload_n 2, 1) := by decide +kernel
theorem dX2_addBytes_19 : decode cX2_addBytes 19 = .ok (.invokevirtual 26, 3) := by decide +kernel
theorem dX2_addBytes_22 : decode cX2_addBytes 22 = .ok (.aload_n 0, 1) := by decide +kernel
theorem dX2_addBytes_23 : decode cX2_addBytes 23 = .ok (.iload_n 3, 1) := by decide +kernel
theorem dX2_addBytes_24 : decode cX2_addBytes 24 = .ok (.invokevirtual 26, 3) := by decide +kernel
theorem dX2_addBytes_27 : decode cX2_addBytes 27 = .ok (.aload_n 0, 1) := by decide +kernel
theorem dX2_addBytes_28 : decode cX2_addBytes 28 = .ok (.iload 4, 2) := by decide +kernel
theorem dX2_addBytes_30 : decode cX2_addBytes 30 = .ok (.invokevirtual 26, 3) := by decide +kernel
theorem dX2_addBytes_33 : decode cX2_addBytes 33 = .ok (.aload_n 0, 1) := by decide +kernel
theorem dX2_addBytes_34 : decode cX2_addBytes 34 = .ok (.iload 5, 2) := by decide +kernel
theorem dX2_addBytes_36 : decode cX2_addBytes 36 = .ok (.invokevirtual 26, 3) := by decide +kernel
theorem dX2_addBytes_39 : decode cX2_addBytes 39 = .ok (.iconst 1, 1) := by decide +kernel
theorem dX2_addBytes_40 : decode cX2_addBytes 40 = .ok (.ireturn, 1) := by decide +kernel
theorem dX2_addWord_0 : decode cX2_addWord 0 = .ok (.bipush 24, 2) := by decide +kernel
theorem dX2_addWord_2 : decode cX2_addWord 2 = .ok (.istore_n 2, 1) := by decide +kernel
theorem dX2_addWord_3 : decode cX2_addWord 3 = .ok (.iload_n 2, 1) := by decide +kernel
theorem dX2_addWord_4 : decode cX2_addWord 4 = .ok (.ifCond .lt 45, 3) := by decide +kernel
theorem dX2_addWord_7 : decode cX2_addWord 7 = .ok (.aload_n 0, 1) := by decide +kernel
theorem dX2_addWord_8 : decode cX2_addWord 8 = .ok (.getfield 23, 3) := by decide +kernel
theorem dX2_addWord_11 : decode cX2_addWord 11 = .ok (.sipush 500, 3) := by decide +kernel
theorem dX2_addWord_14 : decode cX2_addWord 14 = .ok (.if_icmp .ge 35, 3) := by decide +kernel
theorem dX2_addWord_17 : decode cX2_addWord 17 = .ok (.aload_n 0, 1) := by decide +kernel
theorem dX2_addWord_18 : decode cX2_addWord 18 = .ok (.getfield 9, 3) := by decide +kernel
theorem dX2_addWord_21 : decode cX2_addWord 21 = .ok (.aload_n 0, 1) := by decide +kernel
theorem dX2_addWord_22 : decode cX2_addWord 22 = .ok (.getfield 23, 3) := by decide +kernel
theorem dX2_addWord_25 : decode cX2_addWord 25 = .ok (.iload_n 1, 1) := by decide +kernel
theorem dX2_addWord_26 : decode cX2_addWord 26 = .ok (.iload_n 2, 1) := by decide +kernel
theorem dX2_addWord_27 : decode cX2_addWord 27 = .ok (.iushr, 1) := by decide +kernel
theorem dX2_addWord_28 : decode cX2_addWord 28 = .ok (.sipush 255, 3) := by decide +kernel
theorem dX2_addWord_31 : decode cX2_addWord 31 = .ok (.iand, 1) := by decide +kernel
theorem dX2_addWord_32 : decode cX2_addWord 32 = .ok (.iastore, 1) := by decide +kernel
theorem dX2_addWord_33 : decode cX2_addWord 33 = .ok (.aload_n 0, 1) := by decide +kernel
theorem dX2_addWord_34 : decode cX2_addWord 34 = .ok (.dup, 1) := by decide +kernel
theorem dX2_addWord_35 : decode cX2_addWord 35 = .ok (.getfield 23, 3) := by decide +kernel
theorem dX2_addWord_38 : decode cX2_addWord 38 = .ok (.iconst 1, 1) := by decide +kernel
theorem dX2_addWord_39 : decode cX2_addWord 39 = .ok (.iadd, 1) := by decide +kernel
theorem dX2_addWord_40 : decode cX2_addWord 40 = .ok (.putfield 23, 3) := by decide +kernel
theorem dX2_addWord_43 : decode cX2_addWord 43 = .ok (.iinc 2 (-8), 3) := by decide +kernel
theorem dX2_addWord_46 : decode cX2_addWord 46 = .ok (.goto (-43), 3) := by decide +kernel
theorem dX2_addWord_49 : decode cX2_addWord 49 = .ok (.return_, 1) := by decide +kernel
theorem dX2_readText_0 : decode cX2_readText 0 = .ok (.aload_n 0, 1) := by decide +kernel
theorem dX2_readText_1 : decode cX2_readText 1 = .ok (.iload_n 1, 1) := by decide +kernel
theorem dX2_readText_2 : decode cX2_readText 2 = .ok (.invokevirtual 30, 3) := by decide +kernel
theorem dX2_readText_5 : decode cX2_readText 5 = .ok (.aload_n 2, 1) := by decide +kernel
theorem dX2_readText_6 : decode cX2_readText 6 = .ok (.iconst 0, 1) := by decide +kernel
theorem dX2_readText_7 : decode cX2_readText 7 = .ok (.putfield 33, 3) := by decide +kernel
theorem dX2_readText_10 : decode cX2_readText 10 = .ok (.aload_n 3, 1) := by decide +kernel
theorem dX2_readText_11 : decode cX2_readText 11 = .ok (.invokevirtual 38, 3) := by decide +kernel
theorem dX2_readText_14 : decode cX2_readText 14 = .ok (.aload_n 0, 1) := by decide +kernel
theorem dX2_readText_15 : decode cX2_readText 15 = .ok (.aload_n 2, 1) := by decide +kernel
theorem dX2_readText_16 : decode cX2_readText 16 = .ok (.aload_n 3, 1) := by decide +kernel
theorem dX2_readText_17 : decode cX2_readText 17 = .ok (.invokevirtual 43, 3) := by decide +kernel
theorem dX2_readText_20 : decode cX2_readText 20 = .ok (.iconst 0, 1) := by decide +kernel
theorem dX2_readText_21 : decode cX2_readText 21 = .ok (.istore 4, 2) := by decide +kernel
theorem dX2_readText_23 : decode cX2_readText 23 = .ok (.iload 4, 2) := by decide +kernel
theorem dX2_readText_25 : decode cX2_readText 25 = .ok (.sipush 500, 3) := by decide +kernel
theorem dX2_readText_28 : decode cX2_readText 28 = .ok (.if_icmp .ge 34, 3) := by decide +kernel
theorem dX2_readText_31 : decode cX2_readText 31 = .ok (.aload_n 0, 1) := by decide +kernel
theorem dX2_readText_32 : decode cX2_readText 32 = .ok (.getfield 47, 3) := by decide +kernel
theorem dX2_readText_35 : decode cX2_readText 35 = .ok (.ifCond .ne 27, 3) := by decide +kernel
theorem dX2_readText_38 : decode cX2_readText 38 = .ok (.aload_n 0, 1) := by decide +kernel
theorem dX2_readText_39 : decode cX2_readText 39 = .ok (.getfield 50, 3) := by decide +kernel
theorem dX2_readText_42 : decode cX2_readText 42 = .ok (.iconst 3, 1) := by decide +kernel
theorem dX2_readText_43 : decode cX2_readText 43 = .ok (.if_icmp .ne 19, 3) := by decide +kernel
theorem dX2_readText_46 : decode cX2_readText 46 = .ok (.aload_n 0, 1) := by decide +kernel
theorem dX2_readText_47 : decode cX2_readText 47 = .ok (.invokevirtual 53, 3) := by decide +kernel
theorem dX2_readText_50 : decode cX2_readText 50 = .ok (.aload_n 0, 1) := by decide +kernel
theorem dX2_readText_51 : decode cX2_readText 51 = .ok (.aload_n 2, 1) := by decide +kernel
theorem dX2_readText_52 : decode cX2_readText 52 = .ok (.aload_n 3, 1) := by decide +kernel
theorem dX2_readText_53 : decode cX2_readText 53 = .ok (.invokevirtual 56, 3) := by decide +kernel
theorem dX2_readText_56 : decode cX2_readText 56 = .ok (.iinc 4 1, 3) := by decide +kernel
theorem dX2_readText_59 : decode cX2_readText 59 = .ok (.goto (-36), 3) := by decide +kernel
theorem dX2_readText_62 : decode cX2_readText 62 = .ok (.aload_n 0, 1) := by decide +kernel
theorem dX2_readText_63 : decode cX2_readText 63 = .ok (.getfield 50, 3) := by decide +kernel
theorem dX2_readText_66 : decode cX2_readText 66 = .ok (.ifCond .eq 12, 3) := by decide +kernel
theorem dX2_readText_69 : decode cX2_readText 69 = .ok (.aload_n 0, 1) := by decide +kernel
theorem dX2_readText_70 : decode cX2_readText 70 = .ok (.iconst 1, 1) := by decide +kernel
theorem dX2_readText_71 : decode cX2_readText 71 = .ok (.aload_n 0, 1) := by decide +kernel
theorem dX2_readText_72 : decode cX2_readText 72 = .ok (.getfield 59, 3) := by decide +kernel
theorem dX2_readText_75 : decode cX2_readText 75 = .ok (.invokevirtual 62, 3) := by decide +kernel
theorem dX2_readText_78 : decode cX2_readText 78 = .ok (.aload_n 0, 1) := by decide +kernel
theorem dX2_readText_79 : decode cX2_readText 79 = .ok (.getfield 47, 3) := by decide +kernel
theorem dX2_readText_82 : decode cX2_readText 82 = .ok (.ifCond .ne 7, 3) := by decide +kernel
theorem dX2_readText_85 : decode cX2_readText 85 = .ok (.iconst 1, 1) := by decide +kernel
theorem dX2_readText_86 : decode cX2_readText 86 = .ok (.goto 4, 3) := by decide +kernel
theorem dX2_readText_89 : decode cX2_readText 89 = .ok (.iconst 0, 1) := by decide +kernel
theorem dX2_readText_90 : decode cX2_readText 90 = .ok (.ireturn, 1) := by decide +kernel
theorem dX2_startText_0 : decode cX2_startText 0 = .ok (.aload_n 0, 1) := by decide +kernel
theorem dX2_startText_1 : decode cX2_startText 1 = .ok (.iload_n 1, 1) := by decide +kernel
theorem dX2_startText_2 : decode cX2_startText 2 = .ok (.aload_n 0, 1) := by decide +kernel
theorem dX2_startText_3 : decode cX2_startText 3 = .ok (.getfield 23, 3) := by decide +kernel
theorem dX2_startText_6 : decode cX2_startText 6 = .ok (.invokestatic 66, 3) := by decide +kernel
theorem dX2_startText_9 : decode cX2_startText 9 = .ok (.putfield 72, 3) := by decide +kernel
theorem dX2_startText_12 : decode cX2_startText 12 = .ok (.aload_n 0, 1) := by decide +kernel
theorem dX2_startText_13 : decode cX2_startText 13 = .ok (.iconst 0, 1) := by decide +kernel
theorem dX2_startText_14 : decode cX2_startText 14 = .ok (.putfield 23, 3) := by decide +kernel
theorem dX2_startText_17 : decode cX2_startText 17 = .ok (.aload_n 0, 1) := by decide +kernel
theorem dX2_startText_18 : decode cX2_startText 18 = .ok (.iconst 0, 1) := by decide +kernel
theorem dX2_startText_19 : decode cX2_startText 19 = .ok (.putfield 47, 3) := by decide +kernel
theorem dX2_startText_22 : decode cX2_startText 22 = .ok (.aload_n 0, 1) := by decide +kernel
theorem dX2_startText_23 : decode cX2_startText 23 = .ok (.iconst (-1), 1) := by decide +kernel
theorem dX2_startText_24 : decode cX2_startText 24 = .ok (.putfield 19, 3) := by decide +kernel
theorem dX2_startText_27 : decode cX2_startText 27 = .ok (.aload_n 0, 1) := by decide +kernel
theorem dX2_startText_28 : decode cX2_startText 28 = .ok (.iconst 0, 1) := by decide +kernel
theorem dX2_startText_29 : decode cX2_startText 29 = .ok (.putfield 75, 3) := by decide +kernel
theorem dX2_startText_32 : decode cX2_startText 32 = .ok (.iconst 0, 1) := by decide +kernel
theorem dX2_startText_33 : decode cX2_startText 33 = .ok (.istore_n 2, 1) := by decide +kernel
theorem dX2_startText_34 : decode cX2_startText 34 = .ok (.iload_n 2, 1) := by decide +kernel
theorem dX2_startText_35 : decode cX2_startText 35 = .ok (.bipush 8, 2) := by decide +kernel
theorem dX2_startText_37 : decode cX2_startText 37 = .ok (.if_icmp .ge 16, 3) := by decide +kernel
theorem dX2_startText_40 : decode cX2_startText 40 = .ok (.aload_n 0, 1) := by decide +kernel
theorem dX2_startText_41 : decode cX2_startText 41 = .ok (.getfield 15, 3) := by decide +kernel
theorem dX2_startText_44 : decode cX2_startText 44 = .ok (.iload_n 2, 1) := by decide +kernel
theorem dX2_startText_45 : decode cX2_startText 45 = .ok (.iconst 0, 1) := by decide +kernel
theorem dX2_startText_46 : decode cX2_startText 46 = .ok (.bastore, 1) := by decide +kernel
theorem dX2_startText_47 : decode cX2_startText 47 = .ok (.iinc 2 1, 3) := by decide +kernel
theorem dX2_startText_50 : decode cX2_startText 50 = .ok (.goto (-16), 3) := by decide +kernel
theorem dX2_startText_53 : decode cX2_startText 53 = .ok (.aload_n 0, 1) := by decide +kernel
theorem dX2_startText_54 : decode cX2_startText 54 = .ok (.invokevirtual 53, 3) := by decide +kernel
theorem dX2_startText_57 : decode cX2_startText 57 = .ok (.return_, 1) := by decide +kernel
theorem dX2_readHead_0 : decode cX2_readHead 0 = .ok (.aload_n 0, 1) := by decide +kernel
theorem dX2_readHead_1 : decode cX2_readHead 1 = .ok (.ldc 78, 2) := by decide +kernel
theorem dX2_readHead_3 : decode cX2_readHead 3 = .ok (.invokevirtual 80, 3) := by decide +kernel
theorem dX2_readHead_6 : decode cX2_readHead 6 = .ok (.aload_n 1, 1) := by decide +kernel
theorem dX2_readHead_7 : decode cX2_readHead 7 = .ok (.aload_n 0, 1) := by decide +kernel
theorem dX2_readHead_8 : decode cX2_readHead 8 = .ok (.bipush 10, 2) := by decide +kernel
theorem dX2_readHead_10 : decode cX2_readHead 10 = .ok (.sipush 500, 3) := by decide +kernel
theorem dX2_readHead_13 : decode cX2_readHead 13 = .ok (.invokevirtual 84, 3) := by decide +kernel
theorem dX2_readHead_16 : decode cX2_readHead 16 = .ok (.putfield 87, 3) := by decide +kernel
theorem dX2_readHead_19 : decode cX2_readHead 19 = .ok (.aload_n 1, 1) := by decide +kernel
theorem dX2_readHead_20 : decode cX2_readHead 20 = .ok (.aload_n 0, 1) := by decide +kernel
theorem dX2_readHead_21 : decode cX2_readHead 21 = .ok (.iconst 1, 1) := by decide +kernel
theorem dX2_readHead_22 : decode cX2_readHead 22 = .ok (.bipush 8, 2) := by decide +kernel
theorem dX2_readHead_24 : decode cX2_readHead 24 = .ok (.invokevirtual 84, 3) := by decide +kernel
theorem dX2_readHead_27 : decode cX2_readHead 27 = .ok (.putfield 88, 3) := by decide +kernel
theorem dX2_readHead_30 : decode cX2_readHead 30 = .ok (.aload_n 1, 1) := by decide +kernel
theorem dX2_readHead_31 : decode cX2_readHead 31 = .ok (.aload_n 0, 1) := by decide +kernel
theorem dX2_readHead_32 : decode cX2_readHead 32 = .ok (.iconst 1, 1) := by decide +kernel
theorem dX2_readHead_33 : decode cX2_readHead 33 = .ok (.bipush 50, 2) := by decide +kernel
theorem dX2_readHead_35 : decode cX2_readHead 35 = .ok (.invokevirtual 84, 3) := by decide +kernel
theorem dX2_readHead_38 : decode cX2_readHead 38 = .ok (.putfield 91, 3) := by decide +kernel
theorem dX2_readHead_41 : decode cX2_readHead 41 = .ok (.aload_n 1, 1) := by decide +kernel
theorem dX2_readHead_42 : decode cX2_readHead 42 = .ok (.aload_n 0, 1) := by decide +kernel
theorem dX2_readHead_43 : decode cX2_readHead 43 = .ok (.iconst 0, 1) := by decide +kernel
theorem dX2_readHead_44 : decode cX2_readHead 44 = .ok (.bipush 20, 2) := by decide +kernel
theorem dX2_readHead_46 : decode cX2_readHead 46 = .ok (.invokevirtual 84, 3) := by decide +kernel
theorem dX2_readHead_49 : decode cX2_readHead 49 = .ok (.putfield 94, 3) := by decide +kernel
theorem dX2_readHead_52 : decode cX2_readHead 52 = .ok (.aload_n 2, 1) := by decide +kernel
theorem dX2_readHead_53 : decode cX2_readHead 53 = .ok (.aload_n 0, 1) := by decide +kernel
theorem dX2_readHead_54 : decode cX2_readHead 54 = .ok (.iconst 0, 1) := by decide +kernel
theorem dX2_readHead_55 : decode cX2_readHead 55 = .ok (.bipush 20, 2) := by decide +kernel
theorem dX2_readHead_57 : decode cX2_readHead 57 = .ok (.invokevirtual 84, 3) := by decide +kernel
theorem dX2_readHead_60 : decode cX2_readHead 60 = .ok (.putfield 97, 3) := by decide +kernel
theorem dX2_readHead_63 : decode cX2_readHead 63 = .ok (.aload_n 0, 1) := by decide +kernel
theorem dX2_readHead_64 : decode cX2_readHead 64 = .ok (.invokevirtual 100, 3) := by decide +kernel
theorem dX2_readHead_67 : decode cX2_readHead 67 = .ok (.aload_n 0, 1) := by decide +kernel
theorem dX2_readHead_68 : decode cX2_readHead 68 = .ok (.ldc 103, 2) := by decide +kernel
theorem dX2_readHead_70 : decode cX2_readHead 70 = .ok (.invokevirtual 80, 3) := by decide +kernel
theorem dX2_readHead_73 : decode cX2_readHead 73 = .ok (.aload_n 1, 1) := by decide +kernel
theorem dX2_readHead_74 : decode cX2_readHead 74 = .ok (.aload_n 0, 1) := by decide +kernel
theorem dX2_readHead_75 : decode cX2_readHead 75 = .ok (.iconst 0, 1) := by decide +kernel
theorem dX2_readHead_76 : decode cX2_readHead 76 = .ok (.bipush 9, 2) := by decide +kernel
theorem dX2_readHead_78 : decode cX2_readHead 78 = .ok (.invokevirtual 84, 3) := by decide +kernel
theorem dX2_readHead_81 : decode cX2_readHead 81 = .ok (.putfield 105, 3) := by decide +kernel
theorem dX2_readHead_84 : decode cX2_readHead 84 = .ok (.aload_n 1, 1) := by decide +kernel
theorem dX2_readHead_85 : decode cX2_readHead 85 = .ok (.aload_n 0, 1) := by decide +kernel
theorem dX2_readHead_86 : decode cX2_readHead 86 = .ok (.iconst 0, 1) := by decide +kernel
theorem dX2_readHead_87 : decode cX2_readHead 87 = .ok (.bipush 9, 2) := by decide +kernel
theorem dX2_readHead_89 : decode cX2_readHead 89 = .ok (.invokevirtual 84, 3) := by decide +kernel
theorem dX2_readHead_92 : decode cX2_readHead 92 = .ok (.putfield 108, 3) := by decide +kernel
theorem dX2_readHead_95 : decode cX2_readHead 95 = .ok (.aload_n 1, 1) := by decide +kernel
theorem dX2_readHead_96 : decode cX2_readHead 96 = .ok (.aload_n 0, 1) := by decide +kernel
theorem dX2_readHead_97 : decode cX2_readHead 97 = .ok (.iconst 1, 1) := by decide +kernel
theorem dX2_readHead_98 : decode cX2_readHead 98 = .ok (.sipush 999, 3) := by decide +kernel
theorem dX2_readHead_101 : decode cX2_readHead 101 = .ok (.invokevirtual 84, 3) := by decide +kernel
theorem dX2_readHead_104 : decode cX2_readHead 104 = .ok (.putfield 111, 3) := by decide +kernel
theorem dX2_readHead_107 : decode cX2_readHead 107 = .ok (.return_, 1) := by decide +kernel
theorem dX2_readLine_0 : decode cX2_readLine 0 = .ok (.aload_n 0, 1) := by decide +kernel
theorem dX2_readLine_1 : decode cX2_readLine 1 = .ok (.ldc 114, 2) := by decide +kernel
theorem dX2_readLine_3 : decode cX2_readLine 3 = .ok (.invokevirtual 116, 3) := by decide +kernel
theorem dX2_readLine_6 : decode cX2_readLine 6 = .ok (.ifCond .eq 13, 3) := by decide +kernel
theorem dX2_readLine_9 : decode cX2_readLine 9 = .ok (.aload_n 0, 1) := by decide +kernel
theorem dX2_readLine_10 : decode cX2_readLine 10 = .ok (.iconst 0, 1) := by decide +kernel
theorem dX2_readLine_11 : decode cX2_readLine 11 = .ok (.aload_n 1, 1) := by decide +kernel
theorem dX2_readLine_12 : decode cX2_readLine 12 = .ok (.aload_n 2, 1) := by decide +kernel
theorem dX2_readLine_13 : decode cX2_readLine 13 = .ok (.invokevirtual 120, 3) := by decide +kernel
theorem dX2_readLine_16 : decode cX2_readLine 16 = .ok (.goto 34, 3) := by decide +kernel
theorem dX2_readLine_19 : decode cX2_readLine 19 = .ok (.aload_n 0, 1) := by decide +kernel
theorem dX2_readLine_20 : decode cX2_readLine 20 = .ok (.ldc 124, 2) := by decide +kernel
theorem dX2_readLine_22 : decode cX2_readLine 22 = .ok (.invokevirtual 116, 3) := by decide +kernel
theorem dX2_readLine_25 : decode cX2_readLine 25 = .ok (.ifCond .eq 13, 3) := by decide +kernel
theorem dX2_readLine_28 : decode cX2_readLine 28 = .ok (.aload_n 0, 1) := by decide +kernel
theorem dX2_readLine_29 : decode cX2_readLine 29 = .ok (.iconst 1, 1) := by decide +kernel
theorem dX2_readLine_30 : decode cX2_readLine 30 = .ok (.aload_n 1, 1) := by decide +kernel
theorem dX2_readLine_31 : decode cX2_readLine 31 = .ok (.aload_n 2, 1) := by decide +kernel
theorem dX2_readLine_32 : decode cX2_readLine 32 = .ok (.invokevirtual 120, 3) := by decide +kernel
theorem dX2_readLine_35 : decode cX2_readLine 35 = .ok (.goto 15, 3) := by decide +kernel
theorem dX2_readLine_38 : decode cX2_readLine 38 = .ok (.aload_n 0, 1) := by decide +kernel
theorem dX2_readLine_39 : decode cX2_readLine 39 = .ok (.ldc 126, 2) := by decide +kernel
theorem dX2_readLine_41 : decode cX2_readLine 41 = .ok (.invokevirtual 80, 3) := by decide +kernel
theorem dX2_readLine_44 : decode cX2_readLine 44 = .ok (.aload_n 0, 1) := by decide +kernel
theorem dX2_readLine_45 : decode cX2_readLine 45 = .ok (.aload_n 1, 1) := by decide +kernel
theorem dX2_readLine_46 : decode cX2_readLine 46 = .ok (.aload_n 2, 1) := by decide +kernel
theorem dX2_readLine_47 : decode cX2_readLine 47 = .ok (.invokevirtual 128, 3) := by decide +kernel
theorem dX2_readLine_50 : decode cX2_readLine 50 = .ok (.return_, 1) := by decide +kernel
theorem dX2_readKind_0 : decode cX2_readKind 0 = .ok (.aload_n 2, 1) := by decide +kernel
theorem dX2_readKind_1 : decode cX2_readKind 1 = .ok (.getfield 33, 3) := by decide +kernel
theorem dX2_readKind_4 : decode cX2_readKind 4 = .ok (.bipush 10, 2) := by decide +kernel
theorem dX2_readKind_6 : decode cX2_readKind 6 = .ok (.if_icmp .lt 13, 3) := by decide +kernel
theorem dX2_readKind_9 : decode cX2_readKind 9 = .ok (.aload_n 0, 1) := by decide +kernel
theorem dX2_readKind_10 : decode cX2_readKind 10 = .ok (.iconst 4, 1) := by decide +kernel
theorem dX2_readKind_11 : decode cX2_readKind 11 = .ok (.aload_n 0, 1) := by decide +kernel
theorem dX2_readKind_12 : decode cX2_readKind 12 = .ok (.getfield 59, 3) := by decide +kernel
theorem dX2_readKind_15 : decode cX2_readKind 15 = .ok (.invokevirtual 62, 3) := by decide +kernel
theorem dX2_readKind_18 : decode cX2_readKind 18 = .ok (.return_, 1) := by decide +kernel
theorem dX2_readKind_19 : decode cX2_readKind 19 = .ok (.aload_n 0, 1) := by decide +kernel
theorem dX2_readKind_20 : decode cX2_readKind 20 = .ok (.invokevirtual 53, 3) := by decide +kernel
theorem dX2_readKind_23 : decode cX2_readKind 23 = .ok (.aload_n 0, 1) := by decide +kernel
theorem dX2_readKind_24 : decode cX2_readKind 24 = .ok (.getfield 59, 3) := by decide +kernel
theorem dX2_readKind_27 : decode cX2_readKind 27 = .ok (.istore 4, 2) := by decide +kernel
theorem dX2_readKind_29 : decode cX2_readKind 29 = .ok (.aload_n 0, 1) := by decide +kernel
theorem dX2_readKind_30 : decode cX2_readKind 30 = .ok (.iconst 1, 1) := by decide +kernel
theorem dX2_readKind_31 : decode cX2_readKind 31 = .ok (.bipush 99, 2) := by decide +kernel
theorem dX2_readKind_33 : decode cX2_readKind 33 = .ok (.invokevirtual 84, 3) := by decide +kernel
theorem dX2_readKind_36 : decode cX2_readKind 36 = .ok (.istore 5, 2) := by decide +kernel
theorem dX2_readKind_38 : decode cX2_readKind 38 = .ok (.aload_n 2, 1) := by decide +kernel
theorem dX2_readKind_39 : decode cX2_readKind 39 = .ok (.iload_n 1, 1) := by decide +kernel
theorem dX2_readKind_40 : decode cX2_readKind 40 = .ok (.iload 5, 2) := by decide +kernel
theorem dX2_readKind_42 : decode cX2_readKind 42 = .ok (.invokevirtual 131, 3) := by decide +kernel
theorem dX2_readKind_45 : decode cX2_readKind 45 = .ok (.iconst (-1), 1) := by decide +kernel
theorem dX2_readKind_46 : decode cX2_readKind 46 = .ok (.if_icmp .eq 10, 3) := by decide +kernel
theorem dX2_readKind_49 : decode cX2_readKind 49 = .ok (.aload_n 0, 1) := by decide +kernel
theorem dX2_readKind_50 : decode cX2_readKind 50 = .ok (.iconst 3, 1) := by decide +kernel
theorem dX2_readKind_51 : decode cX2_readKind 51 = .ok (.iload 4, 2) := by decide +kernel
theorem dX2_readKind_53 : decode cX2_readKind 53 = .ok (.invokevirtual 62, 3) := by decide +kernel
theorem dX2_readKind_56 : decode cX2_readKind 56 = .ok (.aload_n 0, 1) := by decide +kernel
theorem dX2_readKind_57 : decode cX2_readKind 57 = .ok (.iconst 0, 1) := by decide +kernel
theorem dX2_readKind_58 : decode cX2_readKind 58 = .ok (.bipush 99, 2) := by decide +kernel
theorem dX2_readKind_60 : decode cX2_readKind 60 = .ok (.invokevirtual 84, 3) := by decide +kernel
theorem dX2_readKind_63 : decode cX2_readKind 63 = .ok (.istore 6, 2) := by decide +kernel
theorem dX2_readKind_65 : decode cX2_readKind 65 = .ok (.aload_n 0, 1) := by decide +kernel
theorem dX2_readKind_66 : decode cX2_readKind 66 = .ok (.getfield 47, 3) := by decide +kernel
theorem dX2_readKind_69 : decode cX2_readKind 69 = .ok (.ifCond .ne 21, 3) := by decide +kernel
theorem dX2_readKind_72 : decode cX2_readKind 72 = .ok (.aload_n 3, 1) := by decide +kernel
theorem dX2_readKind_73 : decode cX2_readKind 73 = .ok (.getfield 135, 3) := by decide +kernel
theorem dX2_readKind_76 : decode cX2_readKind 76 = .ok (.aload_n 2, 1) := by decide +kernel
theorem dX2_readKind_77 : decode cX2_readKind 77 = .ok (.getfield 33, 3) := by decide +kernel
theorem dX2_readKind_80 : decode cX2_readKind 80 = .ok (.iload 6, 2) := by decide +kernel
theorem dX2_readKind_82 : decode cX2_readKind 82 = .ok (.iastore, 1) := by decide +kernel
theorem dX2_readKind_83 : decode cX2_readKind 83 = .ok (.aload_n 2, 1) := by decide +kernel
theorem dX2_readKind_84 : decode cX2_readKind 84 = .ok (.iload_n 1, 1) := by decide +kernel
theorem dX2_readKind_85 : decode cX2_readKind 85 = .ok (.iload 5, 2) := by decide +kernel
theorem dX2_readKind_87 : decode cX2_readKind 87 = .ok (.invokevirtual 138, 3) := by decide +kernel
theorem dX2_readKind_90 : decode cX2_readKind 90 = .ok (.return_, 1) := by decide +kernel
theorem dX2_readRow_0 : decode cX2_readRow 0 = .ok (.aload_n 0, 1) := by decide +kernel
theorem dX2_readRow_1 : decode cX2_readRow 1 = .ok (.getfield 59, 3) := by decide +kernel
theorem dX2_readRow_4 : decode cX2_readRow 4 = .ok (.istore_n 3, 1) := by decide +kernel
theorem dX2_readRow_5 : decode cX2_readRow 5 = .ok (.aload_n 0, 1) := by decide +kernel
theorem dX2_readRow_6 : decode cX2_readRow 6 = .ok (.iconst 0, 1) := by decide +kernel
theorem dX2_readRow_7 : decode cX2_readRow 7 = .ok (.aload_n 1, 1) := by decide +kernel
theorem dX2_readRow_8 : decode cX2_readRow 8 = .ok (.getfield 88, 3) := by decide +kernel
theorem dX2_readRow_11 : decode cX2_readRow 11 = .ok (.iconst 1, 1) := by decide +kernel
theorem dX2_readRow_12 : decode cX2_readRow 12 = .ok (.isub, 1) := by decide +kernel
theorem dX2_readRow_13 : decode cX2_readRow 13 = .ok (.invokevirtual 84, 3) := by decide +kernel
theorem dX2_readRow_16 : decode cX2_readRow 16 = .ok (.istore 4, 2) := by decide +kernel
theorem dX2_readRow_18 : decode cX2_readRow 18 = .ok (.iload 4, 2) := by decide +kernel
theorem dX2_readRow_20 : decode cX2_readRow 20 = .ok (.ifCond .lt 10, 3) := by decide +kernel
theorem dX2_readRow_23 : decode cX2_readRow 23 = .ok (.iload 4, 2) := by decide +kernel
theorem dX2_readRow_25 : decode cX2_readRow 25 = .ok (.bipush 8, 2) := by decide +kernel
theorem dX2_readRow_27 : decode cX2_readRow 27 = .ok (.if_icmp .lt 4, 3) := by decide +kernel
theorem dX2_readRow_30 : decode cX2_readRow 30 = .ok (.return_, 1) := by decide +kernel
theorem dX2_readRow_31 : decode cX2_readRow 31 = .ok (.aload_n 0, 1) := by decide +kernel
theorem dX2_readRow_32 : decode cX2_readRow 32 = .ok (.getfield 15, 3) := by decide +kernel
theorem dX2_readRow_35 : decode cX2_readRow 35 = .ok (.iload 4, 2) := by decide +kernel
theorem dX2_readRow_37 : decode cX2_readRow 37 = .ok (.baload, 1) := by decide +kernel
theorem dX2_readRow_38 : decode cX2_readRow 38 = .ok (.ifCond .eq 9, 3) := by decide +kernel
theorem dX2_readRow_41 : decode cX2_readRow 41 = .ok (.aload_n 0, 1) := by decide +kernel
theorem dX2_readRow_42 : decode cX2_readRow 42 = .ok (.iconst 3, 1) := by decide +kernel
theorem dX2_readRow_43 : decode cX2_readRow 43 = .ok (.iload_n 3, 1) := by decide +kernel
theorem dX2_readRow_44 : decode cX2_readRow 44 = .ok (.invokevirtual 62, 3) := by decide +kernel
theorem dX2_readRow_47 : decode cX2_readRow 47 = .ok (.aload_n 0, 1) := by decide +kernel
theorem dX2_readRow_48 : decode cX2_readRow 48 = .ok (.getfield 15, 3) := by decide +kernel
theorem dX2_readRow_51 : decode cX2_readRow 51 = .ok (.iload 4, 2) := by decide +kernel
theorem dX2_readRow_53 : decode cX2_readRow 53 = .ok (.iconst 1, 1) := by decide +kernel
theorem dX2_readRow_54 : decode cX2_readRow 54 = .ok (.bastore, 1) := by decide +kernel
theorem dX2_readRow_55 : decode cX2_readRow 55 = .ok (.aload_n 2, 1) := by decide +kernel
theorem dX2_readRow_56 : decode cX2_readRow 56 = .ok (.getfield 142, 3) := by decide +kernel
theorem dX2_readRow_59 : decode cX2_readRow 59 = .ok (.iload 4, 2) := by decide +kernel
theorem dX2_readRow_61 : decode cX2_readRow 61 = .ok (.aaload, 1) := by decide +kernel
theorem dX2_readRow_62 : decode cX2_readRow 62 = .ok (.astore 5, 2) := by decide +kernel
theorem dX2_readRow_64 : decode cX2_readRow 64 = .ok (.iconst 0, 1) := by decide +kernel
theorem dX2_readRow_65 : decode cX2_readRow 65 = .ok (.istore 6, 2) := by decide +kernel
theorem dX2_readRow_67 : decode cX2_readRow 67 = .ok (.iload 6, 2) := by decide +kernel
theorem dX2_readRow_69 : decode cX2_readRow 69 = .ok (.bipush 6, 2) := by decide +kernel
theorem dX2_readRow_71 : decode cX2_readRow 71 = .ok (.if_icmp .gt 86, 3) := by decide +kernel
theorem dX2_readRow_74 : decode cX2_readRow 74 = .ok (.aload_n 0, 1) := by decide +kernel
theorem dX2_readRow_75 : decode cX2_readRow 75 = .ok (.getfield 47, 3) := by decide +kernel
theorem dX2_readRow_78 : decode cX2_readRow 78 = .ok (.ifCond .ne 79, 3) := by decide +kernel
theorem dX2_readRow_81 : decode cX2_readRow 81 = .ok (.aload_n 0, 1) := by decide +kernel
theorem dX2_readRow_82 : decode cX2_readRow 82 = .ok (.getfield 50, 3) := by decide +kernel
theorem dX2_readRow_85 : decode cX2_readRow 85 = .ok (.iconst 2, 1) := by decide +kernel
theorem dX2_readRow_86 : decode cX2_readRow 86 = .ok (.if_icmp .ne 71, 3) := by decide +kernel
theorem dX2_readRow_89 : decode cX2_readRow 89 = .ok (.aload_n 0, 1) := by decide +kernel
theorem dX2_readRow_90 : decode cX2_readRow 90 = .ok (.getfield 59, 3) := by decide +kernel
theorem dX2_readRow_93 : decode cX2_readRow 93 = .ok (.istore_n 3, 1) := by decide +kernel
theorem dX2_readRow_94 : decode cX2_readRow 94 = .ok (.aload_n 0, 1) := by decide +kernel
theorem dX2_readRow_95 : decode cX2_readRow 95 = .ok (.iconst 1, 1) := by decide +kernel
theorem dX2_readRow_96 : decode cX2_readRow 96 = .ok (.sipush 200, 3) := by decide +kernel
theorem dX2_readRow_99 : decode cX2_readRow 99 = .ok (.invokevirtual 84, 3) := by decide +kernel
theorem dX2_readRow_102 : decode cX2_readRow 102 = .ok (.istore 7, 2) := by decide +kernel
theorem dX2_readRow_104 : decode cX2_readRow 104 = .ok (.aload 5, 2) := by decide +kernel
theorem dX2_readRow_106 : decode cX2_readRow 106 = .ok (.getfield 145, 3) := by decide +kernel
theorem dX2_readRow_109 : decode cX2_readRow 109 = .ok (.bipush 6, 2) := by decide +kernel
theorem dX2_readRow_111 : decode cX2_readRow 111 = .ok (.if_icmp .lt 9, 3) := by decide +kernel
theorem dX2_readRow_114 : decode cX2_readRow 114 = .ok (.aload_n 0, 1) := by decide +kernel
theorem dX2_readRow_115 : decode cX2_readRow 115 = .ok (.iconst 4, 1) := by decide +kernel
theorem dX2_readRow_116 : decode cX2_readRow 116 = .ok (.iload_n 3, 1) := by decide +kernel
theorem dX2_readRow_117 : decode cX2_readRow 117 = .ok (.invokevirtual 62, 3) := by decide +kernel
theorem dX2_readRow_120 : decode cX2_readRow 120 = .ok (.iload 7, 2) := by decide +kernel
theorem dX2_readRow_122 : decode cX2_readRow 122 = .ok (.aload 5, 2) := by decide +kernel
theorem dX2_readRow_124 : decode cX2_readRow 124 = .ok (.aload_n 1, 1) := by decide +kernel
theorem dX2_readRow_125 : decode cX2_readRow 125 = .ok (.invokevirtual 150, 3) := by decide +kernel
theorem dX2_readRow_128 : decode cX2_readRow 128 = .ok (.if_icmp .le 9, 3) := by decide +kernel
theorem dX2_readRow_131 : decode cX2_readRow 131 = .ok (.aload_n 0, 1) := by decide +kernel
theorem dX2_readRow_132 : decode cX2_readRow 132 = .ok (.iconst 5, 1) := by decide +kernel
theorem dX2_readRow_133 : decode cX2_readRow 133 = .ok (.iload_n 3, 1) := by decide +kernel
theorem dX2_readRow_134 : decode cX2_readRow 134 = .ok (.invokevirtual 62, 3) := by decide +kernel
theorem dX2_readRow_137 : decode cX2_readRow 137 = .ok (.aload_n 0, 1) := by decide +kernel
theorem dX2_readRow_138 : decode cX2_readRow 138 = .ok (.getfield 47, 3) := by decide +kernel
theorem dX2_readRow_141 : decode cX2_readRow 141 = .ok (.ifCond .ne 10, 3) := by decide +kernel
theorem dX2_readRow_144 : decode cX2_readRow 144 = .ok (.aload 5, 2) := by decide +kernel
theorem dX2_readRow_146 : decode cX2_readRow 146 = .ok (.iload 7, 2) := by decide +kernel
theorem dX2_readRow_148 : decode cX2_readRow 148 = .ok (.invokevirtual 154, 3) := by decide +kernel
theorem dX2_readRow_151 : decode cX2_readRow 151 = .ok (.iinc 6 1, 3) := by decide +kernel
theorem dX2_readRow_154 : decode cX2_readRow 154 = .ok (.goto (-87), 3) := by decide +kernel
theorem dX2_readRow_157 : decode cX2_readRow 157 = .ok (.return_, 1) := by decide +kernel
theorem dX2_fail_0 : decode cX2_fail 0 = .ok (.aload_n 0, 1) := by decide +kernel
theorem dX2_fail_1 : decode cX2_fail 1 = .ok (.getfield 47, 3) := by decide +kernel
theorem dX2_fail_4 : decode cX2_fail 4 = .ok (.ifCond .ne 13, 3) := by decide +kernel
theorem dX2_fail_7 : decode cX2_fail 7 = .ok (.aload_n 0, 1) := by decide +kernel
theorem dX2_fail_8 : decode cX2_fail 8 = .ok (.iload_n 1, 1) := by decide +kernel
theorem dX2_fail_9 : decode cX2_fail 9 = .ok (.putfield 47, 3) := by decide +kernel
theorem dX2_fail_12 : decode cX2_fail 12 = .ok (.aload_n 0, 1) := by decide +kernel
theorem dX2_fail_13 : decode cX2_fail 13 = .ok (.iload_n 2, 1) := by decide +kernel
theorem dX2_fail_14 : decode cX2_fail 14 = .ok (.putfield 19, 3) := by decide +kernel
theorem dX2_fail_17 : decode cX2_fail 17 = .ok (.return_, 1) := by decide +kernel
theorem dX2_takeWord_0 : decode cX2_takeWord 0 = .ok (.aload_n 0, 1) := by decide +kernel
theorem dX2_takeWord_1 : decode cX2_takeWord 1 = .ok (.aload_n 1, 1) := by decide +kernel
theorem dX2_takeWord_2 : decode cX2_takeWord 2 = .ok (.invokevirtual 116, 3) := by decide +kernel
theorem dX2_takeWord_5 : decode cX2_takeWord 5 = .ok (.ifCond .ne 12, 3) := by decide +kernel
theorem dX2_takeWord_8 : decode cX2_takeWord 8 = .ok (.aload_n 0, 1) := by decide +kernel
theorem dX2_takeWord_9 : decode cX2_takeWord 9 = .ok (.iconst 1, 1) := by decide +kernel
theorem dX2_takeWord_10 : decode cX2_takeWord 10 = .ok (.aload_n 0, 1) := by decide +kernel
theorem dX2_takeWord_11 : decode cX2_takeWord 11 = .ok (.getfield 59, 3) := by decide +kernel
theorem dX2_takeWord_14 : decode cX2_takeWord 14 = .ok (.invokevirtual 62, 3) := by decide +kernel
theorem dX2_takeWord_17 : decode cX2_takeWord 17 = .ok (.aload_n 0, 1) := by decide +kernel
theorem dX2_takeWord_18 : decode cX2_takeWord 18 = .ok (.getfield 47, 3) := by decide +kernel
theorem dX2_takeWord_21 : decode cX2_takeWord 21 = .ok (.ifCond .ne 7, 3) := by decide +kernel
theorem dX2_takeWord_24 : decode cX2_takeWord 24 = .ok (.aload_n 0, 1) := by decide +kernel
theorem dX2_takeWord_25 : decode cX2_takeWord 25 = .ok (.invokevirtual 53, 3) := by decide +kernel
theorem dX2_takeWord_28 : decode cX2_takeWord 28 = .ok (.return_, 1) := by decide +kernel
theorem dX2_takeSemicolon_0 : decode cX2_takeSemicolon 0 = .ok (.aload_n 0, 1) := by decide +kernel
theorem dX2_takeSemicolon_1 : decode cX2_takeSemicolon 1 = .ok (.getfield 50, 3) := by decide +kernel
theorem dX2_takeSemicolon_4 : decode cX2_takeSemicolon 4 = .ok (.iconst 3, 1) := by decide +kernel
theorem dX2_takeSemicolon_5 : decode cX2_takeSemicolon 5 = .ok (.if_icmp .eq 12, 3) := by decide +kernel
theorem dX2_takeSemicolon_8 : decode cX2_takeSemicolon 8 = .ok (.aload_n 0, 1) := by decide +kernel
theorem dX2_takeSemicolon_9 : decode cX2_takeSemicolon 9 = .ok (.iconst 1, 1) := by decide +kernel
theorem dX2_takeSemicolon_10 : decode cX2_takeSemicolon 10 = .ok (.aload_n 0, 1) := by decide +kernel
theorem dX2_takeSemicolon_11 : decode cX2_takeSemicolon 11 = .ok (.getfield 59, 3) := by decide +kernel
theorem dX2_takeSemicolon_14 : decode cX2_takeSemicolon 14 = .ok (.invokevirtual 62, 3) := by decide +kernel
theorem dX2_takeSemicolon_17 : decode cX2_takeSemicolon 17 = .ok (.aload_n 0, 1) := by decide +kernel
theorem dX2_takeSemicolon_18 : decode cX2_takeSemicolon 18 = .ok (.getfield 47, 3) := by decide +kernel
theorem dX2_takeSemicolon_21 : decode cX2_takeSemicolon 21 = .ok (.ifCond .ne 7, 3) := by decide +kernel
theorem dX2_takeSemicolon_24 : decode cX2_takeSemicolon 24 = .ok (.aload_n 0, 1) := by decide +kernel
theorem dX2_takeSemicolon_25 : decode cX2_takeSemicolon 25 = .ok (.invokevirtual 53, 3) := by decide +kernel
theorem dX2_takeSemicolon_28 : decode cX2_takeSemicolon 28 = .ok (.return_, 1) := by decide +kernel
theorem dX2_takeNumber_0 : decode cX2_takeNumber 0 = .ok (.aload_n 0, 1) := by decide +kernel
theorem dX2_takeNumber_1 : decode cX2_takeNumber 1 = .ok (.getfield 50, 3) := by decide +kernel
theorem dX2_takeNumber_4 : decode cX2_takeNumber 4 = .ok (.iconst 2, 1) := by decide +kernel
theorem dX2_takeNumber_5 : decode cX2_takeNumber 5 = .ok (.if_icmp .eq 12, 3) := by decide +kernel
theorem dX2_takeNumber_8 : decode cX2_takeNumber 8 = .ok (.aload_n 0, 1) := by decide +kernel
theorem dX2_takeNumber_9 : decode cX2_takeNumber 9 = .ok (.iconst 1, 1) := by decide +kernel
theorem dX2_takeNumber_10 : decode cX2_takeNumber 10 = .ok (.aload_n 0, 1) := by decide +kernel
theorem dX2_takeNumber_11 : decode cX2_takeNumber 11 = .ok (.getfield 59, 3) := by decide +kernel
theorem dX2_takeNumber_14 : decode cX2_takeNumber 14 = .ok (.invokevirtual 62, 3) := by decide +kernel
theorem dX2_takeNumber_17 : decode cX2_takeNumber 17 = .ok (.aload_n 0, 1) := by decide +kernel
theorem dX2_takeNumber_18 : decode cX2_takeNumber 18 = .ok (.getfield 47, 3) := by decide +kernel
theorem dX2_takeNumber_21 : decode cX2_takeNumber 21 = .ok (.ifCond .eq 5, 3) := by decide +kernel
theorem dX2_takeNumber_24 : decode cX2_takeNumber 24 = .ok (.iconst (-1), 1) := by decide +kernel
theorem dX2_takeNumber_25 : decode cX2_takeNumber 25 = .ok (.ireturn, 1) := by decide +kernel
theorem dX2_takeNumber_26 : decode cX2_takeNumber 26 = .ok (.aload_n 0, 1) := by decide +kernel
theorem dX2_takeNumber_27 : decode cX2_takeNumber 27 = .ok (.invokevirtual 157, 3) := by decide +kernel
theorem dX2_takeNumber_30 : decode cX2_takeNumber 30 = .ok (.istore_n 3, 1) := by decide +kernel
theorem dX2_takeNumber_31 : decode cX2_takeNumber 31 = .ok (.iload_n 3, 1) := by decide +kernel
theorem dX2_takeNumber_32 : decode cX2_takeNumber 32 = .ok (.iload_n 1, 1) := by decide +kernel
theorem dX2_takeNumber_33 : decode cX2_takeNumber 33 = .ok (.if_icmp .lt 8, 3) := by decide +kernel
theorem dX2_takeNumber_36 : decode cX2_takeNumber 36 = .ok (.iload_n 3, 1) := by decide +kernel
theorem dX2_takeNumber_37 : decode cX2_takeNumber 37 = .ok (.iload_n 2, 1) := by decide +kernel
theorem dX2_takeNumber_38 : decode cX2_takeNumber 38 = .ok (.if_icmp .le 14, 3) := by decide +kernel
theorem dX2_takeNumber_41 : decode cX2_takeNumber 41 = .ok (.aload_n 0, 1) := by decide +kernel
theorem dX2_takeNumber_42 : decode cX2_takeNumber 42 = .ok (.iconst 2, 1) := by decide +kernel
theorem dX2_takeNumber_43 : decode cX2_takeNumber 43 = .ok (.aload_n 0, 1) := by decide +kernel
theorem dX2_takeNumber_44 : decode cX2_takeNumber 44 = .ok (.getfield 59, 3) := by decide +kernel
theorem dX2_takeNumber_47 : decode cX2_takeNumber 47 = .ok (.invokevirtual 62, 3) := by decide +kernel
theorem dX2_takeNumber_50 : decode cX2_takeNumber 50 = .ok (.iconst (-1), 1) := by decide +kernel
theorem dX2_takeNumber_51 : decode cX2_takeNumber 51 = .ok (.ireturn, 1) := by decide +kernel
theorem dX2_takeNumber_52 : decode cX2_takeNumber 52 = .ok (.aload_n 0, 1) := by decide +kernel
theorem dX2_takeNumber_53 : decode cX2_takeNumber 53 = .ok (.invokevirtual 53, 3) := by decide +kernel
theorem dX2_takeNumber_56 : decode cX2_takeNumber 56 = .ok (.iload_n 3, 1) := by decide +kernel
theorem dX2_takeNumber_57 : decode cX2_takeNumber 57 = .ok (.ireturn, 1) := by decide +kernel
theorem dX2_isWord_0 : decode cX2_isWord 0 = .ok (.aload_n 0, 1) := by decide +kernel
theorem dX2_isWord_1 : decode cX2_isWord 1 = .ok (.getfield 50, 3) := by decide +kernel
theorem dX2_isWord_4 : decode cX2_isWord 4 = .ok (.iconst 1, 1) := by decide +kernel
theorem dX2_isWord_5 : decode cX2_isWord 5 = .ok (.if_icmp .ne 19, 3) := by decide +kernel
theorem dX2_isWord_8 : decode cX2_isWord 8 = .ok (.aload_n 0, 1) := by decide +kernel
theorem dX2_isWord_9 : decode cX2_isWord 9 = .ok (.getfield 75, 3) := by decide +kernel
theorem dX2_isWord_12 : decode cX2_isWord 12 = .ok (.aload_n 0, 1) := by decide +kernel
theorem dX2_isWord_13 : decode cX2_isWord 13 = .ok (.getfield 59, 3) := by decide +kernel
theorem dX2_isWord_16 : decode cX2_isWord 16 = .ok (.isub, 1) := by decide +kernel
theorem dX2_isWord_17 : decode cX2_isWord 17 = .ok (.aload_n 1, 1) := by decide +kernel
theorem dX2_isWord_18 : decode cX2_isWord 18 = .ok (.invokevirtual 161, 3) := by decide +kernel
theorem dX2_isWord_21 : decode cX2_isWord 21 = .ok (.if_icmp .eq 5, 3) := by decide +kernel
theorem dX2_isWord_24 : decode cX2_isWord 24 = .ok (.iconst 0, 1) := by decide +kernel
theorem dX2_isWord_25 : decode cX2_isWord 25 = .ok (.ireturn, 1) := by decide +kernel
theorem dX2_isWord_26 : decode cX2_isWord 26 = .ok (.iconst 0, 1) := by decide +kernel
theorem dX2_isWord_27 : decode cX2_isWord 27 = .ok (.istore_n 2, 1) := by decide +kernel
theorem dX2_isWord_28 : decode cX2_isWord 28 = .ok (.iload_n 2, 1) := by decide +kernel
theorem dX2_isWord_29 : decode cX2_isWord 29 = .ok (.aload_n 1, 1) := by decide +kernel
theorem dX2_isWord_30 : decode cX2_isWord 30 = .ok (.invokevirtual 161, 3) := by decide +kernel
theorem dX2_isWord_33 : decode cX2_isWord 33 = .ok (.if_icmp .ge 43, 3) := by decide +kernel
theorem dX2_isWord_36 : decode cX2_isWord 36 = .ok (.aload_n 0, 1) := by decide +kernel
theorem dX2_isWord_37 : decode cX2_isWord 37 = .ok (.getfield 59, 3) := by decide +kernel
theorem dX2_isWord_40 : decode cX2_isWord 40 = .ok (.iload_n 2, 1) := by decide +kernel
theorem dX2_isWord_41 : decode cX2_isWord 41 = .ok (.iadd, 1) := by decide +kernel
theorem dX2_isWord_42 : decode cX2_isWord 42 = .ok (.aload_n 0, 1) := by decide +kernel
theorem dX2_isWord_43 : decode cX2_isWord 43 = .ok (.getfield 72, 3) := by decide +kernel
theorem dX2_isWord_46 : decode cX2_isWord 46 = .ok (.if_icmp .ge 30, 3) := by decide +kernel
theorem dX2_isWord_49 : decode cX2_isWord 49 = .ok (.aload_n 0, 1) := by decide +kernel
theorem dX2_isWord_50 : decode cX2_isWord 50 = .ok (.getfield 9, 3) := by decide +kernel
theorem dX2_isWord_53 : decode cX2_isWord 53 = .ok (.aload_n 0, 1) := by decide +kernel
theorem dX2_isWord_54 : decode cX2_isWord 54 = .ok (.getfield 59, 3) := by decide +kernel
theorem dX2_isWord_57 : decode cX2_isWord 57 = .ok (.iload_n 2, 1) := by decide +kernel
theorem dX2_isWord_58 : decode cX2_isWord 58 = .ok (.iadd, 1) := by decide +kernel
theorem dX2_isWord_59 : decode cX2_isWord 59 = .ok (.iaload, 1) := by decide +kernel
theorem dX2_isWord_60 : decode cX2_isWord 60 = .ok (.aload_n 1, 1) := by decide +kernel
theorem dX2_isWord_61 : decode cX2_isWord 61 = .ok (.iload_n 2, 1) := by decide +kernel
theorem dX2_isWord_62 : decode cX2_isWord 62 = .ok (.invokevirtual 166, 3) := by decide +kernel
theorem dX2_isWord_65 : decode cX2_isWord 65 = .ok (.if_icmp .eq 5, 3) := by decide +kernel
theorem dX2_isWord_68 : decode cX2_isWord 68 = .ok (.iconst 0, 1) := by decide +kernel
theorem dX2_isWord_69 : decode cX2_isWord 69 = .ok (.ireturn, 1) := by decide +kernel
theorem dX2_isWord_70 : decode cX2_isWord 70 = .ok (.iinc 2 1, 3) := by decide +kernel
theorem dX2_isWord_73 : decode cX2_isWord 73 = .ok (.goto (-45), 3) := by decide +kernel
theorem dX2_isWord_76 : decode cX2_isWord 76 = .ok (.iconst 1, 1) := by decide +kernel
theorem dX2_isWord_77 : decode cX2_isWord 77 = .ok (.ireturn, 1) := by decide +kernel
theorem dX2_advance_0 : decode cX2_advance 0 = .ok (.aload_n 0, 1) := by decide +kernel
theorem dX2_advance_1 : decode cX2_advance 1 = .ok (.aload_n 0, 1) := by decide +kernel
theorem dX2_advance_2 : decode cX2_advance 2 = .ok (.getfield 75, 3) := by decide +kernel
theorem dX2_advance_5 : decode cX2_advance 5 = .ok (.putfield 59, 3) := by decide +kernel
theorem dX2_advance_8 : decode cX2_advance 8 = .ok (.aload_n 0, 1) := by decide +kernel
theorem dX2_advance_9 : decode cX2_advance 9 = .ok (.getfield 59, 3) := by decide +kernel
theorem dX2_advance_12 : decode cX2_advance 12 = .ok (.aload_n 0, 1) := by decide +kernel
theorem dX2_advance_13 : decode cX2_advance 13 = .ok (.getfield 72, 3) := by decide +kernel
theorem dX2_advance_16 : decode cX2_advance 16 = .ok (.if_icmp .ge 30, 3) := by decide +kernel
theorem dX2_advance_19 : decode cX2_advance 19 = .ok (.aload_n 0, 1) := by decide +kernel
theorem dX2_advance_20 : decode cX2_advance 20 = .ok (.getfield 9, 3) := by decide +kernel
theorem dX2_advance_23 : decode cX2_advance 23 = .ok (.aload_n 0, 1) := by decide +kernel
theorem dX2_advance_24 : decode cX2_advance 24 = .ok (.getfield 59, 3) := by decide +kernel
theorem dX2_advance_27 : decode cX2_advance 27 = .ok (.iaload, 1) := by decide +kernel
theorem dX2_advance_28 : decode cX2_advance 28 = .ok (.bipush 32, 2) := by decide +kernel
theorem dX2_advance_30 : decode cX2_advance 30 = .ok (.if_icmp .ne 16, 3) := by decide +kernel
theorem dX2_advance_33 : decode cX2_advance 33 = .ok (.aload_n 0, 1) := by decide +kernel
theorem dX2_advance_34 : decode cX2_advance 34 = .ok (.dup, 1) := by decide +kernel
theorem dX2_advance_35 : decode cX2_advance 35 = .ok (.getfield 59, 3) := by decide +kernel
theorem dX2_advance_38 : decode cX2_advance 38 = .ok (.iconst 1, 1) := by decide +kernel
theorem dX2_advance_39 : decode cX2_advance 39 = .ok (.iadd, 1) := by decide +kernel
theorem dX2_advance_40 : decode cX2_advance 40 = .ok (.putfield 59, 3) := by decide +kernel
theorem dX2_advance_43 : decode cX2_advance 43 = .ok (.goto (-35), 3) := by decide +kernel
theorem dX2_advance_46 : decode cX2_advance 46 = .ok (.aload_n 0, 1) := by decide +kernel
theorem dX2_advance_47 : decode cX2_advance 47 = .ok (.getfield 59, 3) := by decide +kernel
theorem dX2_advance_50 : decode cX2_advance 50 = .ok (.aload_n 0, 1) := by decide +kernel
theorem dX2_advance_51 : decode cX2_advance 51 = .ok (.getfield 72, 3) := by decide +kernel
theorem dX2_advance_54 : decode cX2_advance 54 = .ok (.if_icmp .lt 11, 3) := by decide +kernel
theorem dX2_advance_57 : decode cX2_advance 57 = .ok (.aload_n 0, 1) := by decide +kernel
theorem dX2_advance_58 : decode cX2_advance 58 = .ok (.iconst 0, 1) := by decide +kernel
theorem dX2_advance_59 : decode cX2_advance 59 = .ok (.putfield 50, 3) := by decide +kernel
theorem dX2_advance_62 : decode cX2_advance 62 = .ok (.goto 145, 3) := by decide +kernel
theorem dX2_advance_65 : decode cX2_advance 65 = .ok (.aload_n 0, 1) := by decide +kernel
theorem dX2_advance_66 : decode cX2_advance 66 = .ok (.getfield 9, 3) := by decide +kernel
theorem dX2_advance_69 : decode cX2_advance 69 = .ok (.aload_n 0, 1) := by decide +kernel
theorem dX2_advance_70 : decode cX2_advance 70 = .ok (.getfield 59, 3) := by decide +kernel
theorem dX2_advance_73 : decode cX2_advance 73 = .ok (.iaload, 1) := by decide +kernel
theorem dX2_advance_74 : decode cX2_advance 74 = .ok (.bipush 59, 2) := by decide +kernel
theorem dX2_advance_76 : decode cX2_advance 76 = .ok (.if_icmp .ne 21, 3) := by decide +kernel
theorem dX2_advance_79 : decode cX2_advance 79 = .ok (.aload_n 0, 1) := by decide +kernel
theorem dX2_advance_80 : decode cX2_advance 80 = .ok (.iconst 3, 1) := by decide +kernel
theorem dX2_advance_81 : decode cX2_advance 81 = .ok (.putfield 50, 3) := by decide +kernel
theorem dX2_advance_84 : decode cX2_advance 84 = .ok (.aload_n 0, 1) := by decide +kernel
theorem dX2_advance_85 : decode cX2_advance 85 = .ok (.aload_n 0, 1) := by decide +kernel
theorem dX2_advance_86 : decode cX2_advance 86 = .ok (.getfield 59, 3) := by decide +kernel
theorem dX2_advance_89 : decode cX2_advance 89 = .ok (.iconst 1, 1) := by decide +kernel
theorem dX2_advance_90 : decode cX2_advance 90 = .ok (.iadd, 1) := by decide +kernel
theorem dX2_advance_91 : decode cX2_advance 91 = .ok (.putfield 75, 3) := by decide +kernel
theorem dX2_advance_94 : decode cX2_advance 94 = .ok (.goto 113, 3) := by decide +kernel
theorem dX2_advance_97 : decode cX2_advance 97 = .ok (.aload_n 0, 1) := by decide +kernel
theorem dX2_advance_98 : decode cX2_advance 98 = .ok (.bipush 97, 2) := by decide +kernel
theorem dX2_advance_100 : decode cX2_advance 100 = .ok (.bipush 122, 2) := by decide +kernel
theorem dX2_advance_102 : decode cX2_advance 102 = .ok (.aload_n 0, 1) := by decide +kernel
theorem dX2_advance_103 : decode cX2_advance 103 = .ok (.getfield 59, 3) := by decide +kernel
theorem dX2_advance_106 : decode cX2_advance 106 = .ok (.invokevirtual 170, 3) := by decide +kernel
theorem dX2_advance_109 : decode cX2_advance 109 = .ok (.ifCond .eq 41, 3) := by decide +kernel
theorem dX2_advance_112 : decode cX2_advance 112 = .ok (.aload_n 0, 1) := by decide +kernel
theorem dX2_advance_113 : decode cX2_advance 113 = .ok (.aload_n 0, 1) := by decide +kernel
theorem dX2_advance_114 : decode cX2_advance 114 = .ok (.bipush 97, 2) := by decide +kernel
theorem dX2_advance_116 : decode cX2_advance 116 = .ok (.bipush 122, 2) := by decide +kernel
theorem dX2_advance_118 : decode cX2_advance 118 = .ok (.invokevirtual 174, 3) := by decide +kernel
theorem dX2_advance_121 : decode cX2_advance 121 = .ok (.putfield 75, 3) := by decide +kernel
theorem dX2_advance_124 : decode cX2_advance 124 = .ok (.aload_n 0, 1) := by decide +kernel
theorem dX2_advance_125 : decode cX2_advance 125 = .ok (.aload_n 0, 1) := by decide +kernel
theorem dX2_advance_126 : decode cX2_advance 126 = .ok (.getfield 75, 3) := by decide +kernel
theorem dX2_advance_129 : decode cX2_advance 129 = .ok (.aload_n 0, 1) := by decide +kernel
theorem dX2_advance_130 : decode cX2_advance 130 = .ok (.getfield 59, 3) := by decide +kernel
theorem dX2_advance_133 : decode cX2_advance 133 = .ok (.isub, 1) := by decide +kernel
theorem dX2_advance_134 : decode cX2_advance 134 = .ok (.bipush 6, 2) := by decide +kernel
theorem dX2_advance_136 : decode cX2_advance 136 = .ok (.if_icmp .gt 7, 3) := by decide +kernel
theorem dX2_advance_139 : decode cX2_advance 139 = .ok (.iconst 1, 1) := by decide +kernel
theorem dX2_advance_140 : decode cX2_advance 140 = .ok (.goto 4, 3) := by decide +kernel
theorem dX2_advance_143 : decode cX2_advance 143 = .ok (.iconst 4, 1) := by decide +kernel
theorem dX2_advance_144 : decode cX2_advance 144 = .ok (.putfield 50, 3) := by decide +kernel
theorem dX2_advance_147 : decode cX2_advance 147 = .ok (.goto 60, 3) := by decide +kernel
theorem dX2_advance_150 : decode cX2_advance 150 = .ok (.aload_n 0, 1) := by decide +kernel
theorem dX2_advance_151 : decode cX2_advance 151 = .ok (.bipush 48, 2) := by decide +kernel
theorem dX2_advance_153 : decode cX2_advance 153 = .ok (.bipush 57, 2) := by decide +kernel
theorem dX2_advance_155 : decode cX2_advance 155 = .ok (.aload_n 0, 1) := by decide +kernel
theorem dX2_advance_156 : decode cX2_advance 156 = .ok (.getfield 59, 3) := by decide +kernel
theorem dX2_advance_159 : decode cX2_advance 159 = .ok (.invokevirtual 170, 3) := by decide +kernel
theorem dX2_advance_162 : decode cX2_advance 162 = .ok (.ifCond .eq 40, 3) := by decide +kernel
theorem dX2_advance_165 : decode cX2_advance 165 = .ok (.aload_n 0, 1) := by decide +kernel
theorem dX2_advance_166 : decode cX2_advance 166 = .ok (.aload_n 0, 1) := by decide +kernel
theorem dX2_advance_167 : decode cX2_advance 167 = .ok (.bipush 48, 2) := by decide +kernel
theorem dX2_advance_169 : decode cX2_advance 169 = .ok (.bipush 57, 2) := by decide +kernel
theorem dX2_advance_171 : decode cX2_advance 171 = .ok (.invokevirtual 174, 3) := by decide +kernel
theorem dX2_advance_174 : decode cX2_advance 174 = .ok (.putfield 75, 3) := by decide +kernel
theorem dX2_advance_177 : decode cX2_advance 177 = .ok (.aload_n 0, 1) := by decide +kernel
theorem dX2_advance_178 : decode cX2_advance 178 = .ok (.aload_n 0, 1) := by decide +kernel
theorem dX2_advance_179 : decode cX2_advance 179 = .ok (.getfield 75, 3) := by decide +kernel
theorem dX2_advance_182 : decode cX2_advance 182 = .ok (.aload_n 0, 1) := by decide +kernel
theorem dX2_advance_183 : decode cX2_advance 183 = .ok (.getfield 59, 3) := by decide +kernel
theorem dX2_advance_186 : decode cX2_advance 186 = .ok (.isub, 1) := by decide +kernel
theorem dX2_advance_187 : decode cX2_advance 187 = .ok (.iconst 3, 1) := by decide +kernel
theorem dX2_advance_188 : decode cX2_advance 188 = .ok (.if_icmp .gt 7, 3) := by decide +kernel
theorem dX2_advance_191 : decode cX2_advance 191 = .ok (.iconst 2, 1) := by decide +kernel
theorem dX2_advance_192 : decode cX2_advance 192 = .ok (.goto 4, 3) := by decide +kernel
theorem dX2_advance_195 : decode cX2_advance 195 = .ok (.iconst 4, 1) := by decide +kernel
theorem dX2_advance_196 : decode cX2_advance 196 = .ok (.putfield 50, 3) := by decide +kernel
theorem dX2_advance_199 : decode cX2_advance 199 = .ok (.goto 8, 3) := by decide +kernel
theorem dX2_advance_202 : decode cX2_advance 202 = .ok (.aload_n 0, 1) := by decide +kernel
theorem dX2_advance_203 : decode cX2_advance 203 = .ok (.iconst 4, 1) := by decide +kernel
theorem dX2_advance_204 : decode cX2_advance 204 = .ok (.putfield 50, 3) := by decide +kernel
theorem dX2_advance_207 : decode cX2_advance 207 = .ok (.return_, 1) := by decide +kernel
theorem dX2_endOfRun_0 : decode cX2_endOfRun 0 = .ok (.aload_n 0, 1) := by decide +kernel
theorem dX2_endOfRun_1 : decode cX2_endOfRun 1 = .ok (.getfield 59, 3) := by decide +kernel
theorem dX2_endOfRun_4 : decode cX2_endOfRun 4 = .ok (.istore_n 3, 1) := by decide +kernel
theorem dX2_endOfRun_5 : decode cX2_endOfRun 5 = .ok (.iload_n 3, 1) := by decide +kernel
theorem dX2_endOfRun_6 : decode cX2_endOfRun 6 = .ok (.aload_n 0, 1) := by decide +kernel
theorem dX2_endOfRun_7 : decode cX2_endOfRun 7 = .ok (.getfield 72, 3) := by decide +kernel
theorem dX2_endOfRun_10 : decode cX2_endOfRun 10 = .ok (.if_icmp .ge 19, 3) := by decide +kernel
theorem dX2_endOfRun_13 : decode cX2_endOfRun 13 = .ok (.aload_n 0, 1) := by decide +kernel
theorem dX2_endOfRun_14 : decode cX2_endOfRun 14 = .ok (.iload_n 1, 1) := by decide +kernel
theorem dX2_endOfRun_15 : decode cX2_endOfRun 15 = .ok (.iload_n 2, 1) := by decide +kernel
theorem dX2_endOfRun_16 : decode cX2_endOfRun 16 = .ok (.iload_n 3, 1) := by decide +kernel
theorem dX2_endOfRun_17 : decode cX2_endOfRun 17 = .ok (.invokevirtual 170, 3) := by decide +kernel
theorem dX2_endOfRun_20 : decode cX2_endOfRun 20 = .ok (.ifCond .eq 9, 3) := by decide +kernel
theorem dX2_endOfRun_23 : decode cX2_endOfRun 23 = .ok (.iinc 3 1, 3) := by decide +kernel
theorem dX2_endOfRun_26 : decode cX2_endOfRun 26 = .ok (.goto (-21), 3) := by decide +kernel
theorem dX2_endOfRun_29 : decode cX2_endOfRun 29 = .ok (.iload_n 3, 1) := by decide +kernel
theorem dX2_endOfRun_30 : decode cX2_endOfRun 30 = .ok (.ireturn, 1) := by decide +kernel
theorem dX2_isBetween_0 : decode cX2_isBetween 0 = .ok (.iload_n 3, 1) := by decide +kernel
theorem dX2_isBetween_1 : decode cX2_isBetween 1 = .ok (.ifCond .lt 34, 3) := by decide +kernel
theorem dX2_isBetween_4 : decode cX2_isBetween 4 = .ok (.iload_n 3, 1) := by decide +kernel
theorem dX2_isBetween_5 : decode cX2_isBetween 5 = .ok (.sipush 500, 3) := by decide +kernel
theorem dX2_isBetween_8 : decode cX2_isBetween 8 = .ok (.if_icmp .ge 27, 3) := by decide +kernel
theorem dX2_isBetween_11 : decode cX2_isBetween 11 = .ok (.aload_n 0, 1) := by decide +kernel
theorem dX2_isBetween_12 : decode cX2_isBetween 12 = .ok (.getfield 9, 3) := by decide +kernel
theorem dX2_isBetween_15 : decode cX2_isBetween 15 = .ok (.iload_n 3, 1) := by decide +kernel
theorem dX2_isBetween_16 : decode cX2_isBetween 16 = .ok (.iaload, 1) := by decide +kernel
theorem dX2_isBetween_17 : decode cX2_isBetween 17 = .ok (.iload_n 1, 1) := by decide +kernel
theorem dX2_isBetween_18 : decode cX2_isBetween 18 = .ok (.if_icmp .lt 17, 3) := by decide +kernel
theorem dX2_isBetween_21 : decode cX2_isBetween 21 = .ok (.aload_n 0, 1) := by decide +kernel
theorem dX2_isBetween_22 : decode cX2_isBetween 22 = .ok (.getfield 9, 3) := by decide +kernel
theorem dX2_isBetween_25 : decode cX2_isBetween 25 = .ok (.iload_n 3, 1) := by decide +kernel
theorem dX2_isBetween_26 : decode cX2_isBetween 26 = .ok (.iaload, 1) := by decide +kernel
theorem dX2_isBetween_27 : decode cX2_isBetween 27 = .ok (.iload_n 2, 1) := by decide +kernel
theorem dX2_isBetween_28 : decode cX2_isBetween 28 = .ok (.if_icmp .gt 7, 3) := by decide +kernel
theorem dX2_isBetween_31 : decode cX2_isBetween 31 = .ok (.iconst 1, 1) := by decide +kernel
theorem dX2_isBetween_32 : decode cX2_isBetween 32 = .ok (.goto 4, 3) := by decide +kernel
theorem dX2_isBetween_35 : decode cX2_isBetween 35 = .ok (.iconst 0, 1) := by decide +kernel
theorem dX2_isBetween_36 : decode cX2_isBetween 36 = .ok (.ireturn, 1) := by decide +kernel
theorem dX2_numberHere_0 : decode cX2_numberHere 0 = .ok (.iconst 0, 1) := by decide +kernel
theorem dX2_numberHere_1 : decode cX2_numberHere 1 = .ok (.istore_n 1, 1) := by decide +kernel
theorem dX2_numberHere_2 : decode cX2_numberHere 2 = .ok (.aload_n 0, 1) := by decide +kernel
theorem dX2_numberHere_3 : decode cX2_numberHere 3 = .ok (.getfield 59, 3) := by decide +kernel
theorem dX2_numberHere_6 : decode cX2_numberHere 6 = .ok (.istore_n 2, 1) := by decide +kernel
theorem dX2_numberHere_7 : decode cX2_numberHere 7 = .ok (.iload_n 2, 1) := by decide +kernel
theorem dX2_numberHere_8 : decode cX2_numberHere 8 = .ok (.aload_n 0, 1) := by decide +kernel
theorem dX2_numberHere_9 : decode cX2_numberHere 9 = .ok (.getfield 75, 3) := by decide +kernel
theorem dX2_numberHere_12 : decode cX2_numberHere 12 = .ok (.if_icmp .ge 32, 3) := by decide +kernel
theorem dX2_numberHere_15 : decode cX2_numberHere 15 = .ok (.iload_n 2, 1) := by decide +kernel
theorem dX2_numberHere_16 : decode cX2_numberHere 16 = .ok (.aload_n 0, 1) := by decide +kernel
theorem dX2_numberHere_17 : decode cX2_numberHere 17 = .ok (.getfield 72, 3) := by decide +kernel
theorem dX2_numberHere_20 : decode cX2_numberHere 20 = .ok (.if_icmp .ge 24, 3) := by decide +kernel
theorem dX2_numberHere_23 : decode cX2_numberHere 23 = .ok (.iload_n 1, 1) := by decide +kernel
theorem dX2_numberHere_24 : decode cX2_numberHere 24 = .ok (.bipush 10, 2) := by decide +kernel
theorem dX2_numberHere_26 : decode cX2_numberHere 26 = .ok (.imul, 1) := by decide +kernel
theorem dX2_numberHere_27 : decode cX2_numberHere 27 = .ok (.aload_n 0, 1) := by decide +kernel
theorem dX2_numberHere_28 : decode cX2_numberHere 28 = .ok (.getfield 9, 3) := by decide +kernel
theorem dX2_numberHere_31 : decode cX2_numberHere 31 = .ok (.iload_n 2, 1) := by decide +kernel
theorem dX2_numberHere_32 : decode cX2_numberHere 32 = .ok (.iaload, 1) := by decide +kernel
theorem dX2_numberHere_33 : decode cX2_numberHere 33 = .ok (.iadd, 1) := by decide +kernel
theorem dX2_numberHere_34 : decode cX2_numberHere 34 = .ok (.bipush 48, 2) := by decide +kernel
theorem dX2_numberHere_36 : decode cX2_numberHere 36 = .ok (.isub, 1) := by decide +kernel
theorem dX2_numberHere_37 : decode cX2_numberHere 37 = .ok (.istore_n 1, 1) := by decide +kernel
theorem dX2_numberHere_38 : decode cX2_numberHere 38 = .ok (.iinc 2 1, 3) := by decide +kernel
theorem dX2_numberHere_41 : decode cX2_numberHere 41 = .ok (.goto (-34), 3) := by decide +kernel
theorem dX2_numberHere_44 : decode cX2_numberHere 44 = .ok (.iload_n 1, 1) := by decide +kernel
theorem dX2_numberHere_45 : decode cX2_numberHere 45 = .ok (.ireturn, 1) := by decide +kernel
theorem dX3_init_0 : decode cX3_init 0 = .ok (.aload_n 0, 1) := by decide +kernel
theorem dX3_init_1 : decode cX3_init 1 = .ok (.invokespecial 5, 3) := by decide +kernel
theorem dX3_init_4 : decode cX3_init 4 = .ok (.aload_n 0, 1) := by decide +kernel
theorem dX3_init_5 : decode cX3_init 5 = .ok (.bipush 6, 2) := by decide +kernel
theorem dX3_init_7 : decode cX3_init 7 = .ok (.newarray .int, 2) := by decide +kernel
theorem dX3_init_9 : decode cX3_init 9 = .ok (.putfield 11, 3) := by decide +kernel
theorem dX3_init_12 : decode cX3_init 12 = .ok (.aload_n 0, 1) := by decide +kernel
theorem dX3_init_13 : decode cX3_init 13 = .ok (.bipush 32, 2) := by decide +kernel
theorem dX3_init_15 : decode cX3_init 15 = .ok (.newarray .long, 2) := by decide +kernel
theorem dX3_init_17 : decode cX3_init 17 = .ok (.putfield 15, 3) := by decide +kernel
theorem dX3_init_20 : decode cX3_init 20 = .ok (.aload_n 0, 1) := by decide +kernel
theorem dX3_init_21 : decode cX3_init 21 = .ok (.bipush 10, 2) := by decide +kernel
theorem dX3_init_23 : decode cX3_init 23 = .ok (.newarray .int, 2) := by decide +kernel
theorem dX3_init_25 : decode cX3_init 25 = .ok (.putfield 19, 3) := by decide +kernel
theorem dX3_init_28 : decode cX3_init 28 = .ok (.aload_n 0, 1) := by decide +kernel
theorem dX3_init_29 : decode cX3_init 29 = .ok (.iconst (-1), 1) := by decide +kernel
theorem dX3_init_30 : decode cX3_init 30 = .ok (.putfield 22, 3) := by decide +kernel
theorem dX3_init_33 : decode cX3_init 33 = .ok (.return_, 1) := by decide +kernel
theorem dX3_clear_0 : decode cX3_clear 0 = .ok (.aload_n 0, 1) := by decide +kernel
theorem dX3_clear_1 : decode cX3_clear 1 = .ok (.invokevirtual 26, 3) := by decide +kernel
theorem dX3_clear_4 : decode cX3_clear 4 = .ok (.aload_n 0, 1) := by decide +kernel
theorem dX3_clear_5 : decode cX3_clear 5 = .ok (.invokevirtual 29, 3) := by decide +kernel
theorem dX3_clear_8 : decode cX3_clear 8 = .ok (.aload_n 0, 1) := by decide +kernel
theorem dX3_clear_9 : decode cX3_clear 9 = .ok (.iconst (-1), 1) := by decide +kernel
theorem dX3_clear_10 : decode cX3_clear 10 = .ok (.putfield 22, 3) := by decide +kernel
theorem dX3_clear_13 : decode cX3_clear 13 = .ok (.aload_n 0, 1) := by decide +kernel
theorem dX3_clear_14 : decode cX3_clear 14 = .ok (.iconst 0, 1) := by decide +kernel
theorem dX3_clear_15 : decode cX3_clear 15 = .ok (.putfield 32, 3) := by decide +kernel
theorem dX3_clear_18 : decode cX3_clear 18 = .ok (.aload_n 0, 1) := by decide +kernel
theorem dX3_clear_19 : decode cX3_clear 19 = .ok (.iconst 0, 1) := by decide +kernel
theorem dX3_clear_20 : decode cX3_clear 20 = .ok (.putfield 35, 3) := by decide +kernel
theorem dX3_clear_23 : decode cX3_clear 23 = .ok (.return_, 1) := by decide +kernel
theorem dX3_copyFrom_0 : decode cX3_copyFrom 0 = .ok (.aload_n 1, 1) := by decide +kernel
theorem dX3_copyFrom_1 : decode cX3_copyFrom 1 = .ok (.getfield 11, 3) := by decide +kernel
theorem dX3_copyFrom_4 : decode cX3_copyFrom 4 = .ok (.iconst 0, 1) := by decide +kernel
theorem dX3_copyFrom_5 : decode cX3_copyFrom 5 = .ok (.aload_n 0, 1) := by decide +kernel
theorem dX3_copyFrom_6 : decode cX3_copyFrom 6 = .ok (.getfield 11, 3) := by decide +kernel
theorem dX3_copyFrom_9 : decode cX3_copyFrom 9 = .ok (.iconst 0, 1) := by decide +kernel
theorem dX3_copyFrom_10 : decode cX3_copyFrom 10 = .ok (.bipush 6, 2) := by decide +kernel
theorem dX3_copyFrom_12 : decode cX3_copyFrom 12 = .ok (.invokestatic 38, 3) := by decide +kernel
theorem dX3_copyFrom_15 : decode cX3_copyFrom 15 = .ok (.aload_n 0, 1) := by decide +kernel
theorem dX3_copyFrom_16 : decode cX3_copyFrom 16 = .ok (.aload_n 1, 1) := by decide +kernel
theorem dX3_copyFrom_17 : decode cX3_copyFrom 17 = .ok (.getfield 44, 3) := by decide +kernel
theorem dX3_copyFrom_20 : decode cX3_copyFrom 20 = .ok (.putfield 44, 3) := by decide +kernel
theorem dX3_copyFrom_23 : decode cX3_copyFrom 23 = .ok (.aload_n 0, 1) := by decide +kernel
theorem dX3_copyFrom_24 : decode cX3_copyFrom 24 = .ok (.aload_n 1, 1) := by decide +kernel
theorem dX3_copyFrom_25 : decode cX3_copyFrom 25 = .ok (.getfield 47, 3) := by decide +kernel
theorem dX3_copyFrom_28 : decode cX3_copyFrom 28 = .ok (.putfield 47, 3) := by decide +kernel
theorem dX3_copyFrom_31 : decode cX3_copyFrom 31 = .ok (.aload_n 1, 1) := by decide +kernel
theorem dX3_copyFrom_32 : decode cX3_copyFrom 32 = .ok (.getfield 15, 3) := by decide +kernel
theorem dX3_copyFrom_35 : decode cX3_copyFrom 35 = .ok (.iconst 0, 1) := by decide +kernel
theorem dX3_copyFrom_36 : decode cX3_copyFrom 36 = .ok (.aload_n 0, 1) := by decide +kernel
theorem dX3_copyFrom_37 : decode cX3_copyFrom 37 = .ok (.getfield 15, 3) := by decide +kernel
theorem dX3_copyFrom_40 : decode cX3_copyFrom 40 = .ok (.iconst 0, 1) := by decide +kernel
theorem dX3_copyFrom_41 : decode cX3_copyFrom 41 = .ok (.bipush 32, 2) := by decide +kernel
theorem dX3_copyFrom_43 : decode cX3_copyFrom 43 = .ok (.invokestatic 38, 3) := by decide +kernel
theorem dX3_copyFrom_46 : decode cX3_copyFrom 46 = .ok (.aload_n 0, 1) := by decide +kernel
theorem dX3_copyFrom_47 : decode cX3_copyFrom 47 = .ok (.aload_n 1, 1) := by decide +kernel
theorem dX3_copyFrom_48 : decode cX3_copyFrom 48 = .ok (.getfield 50, 3) := by decide +kernel
theorem dX3_copyFrom_51 : decode cX3_copyFrom 51 = .ok (.putfield 50, 3) := by decide +kernel
theorem dX3_copyFrom_54 : decode cX3_copyFrom 54 = .ok (.aload_n 0, 1) := by decide +kernel
theorem dX3_copyFrom_55 : decode cX3_copyFrom 55 = .ok (.aload_n 1, 1) := by decide +kernel
theorem dX3_copyFrom_56 : decode cX3_copyFrom 56 = .ok (.getfield 53, 3) := by decide +kernel
theorem dX3_copyFrom_59 : decode cX3_copyFrom 59 = .ok (.putfield 53, 3) := by decide +kernel
theorem dX3_copyFrom_62 : decode cX3_copyFrom 62 = .ok (.aload_n 1, 1) := by decide +kernel
theorem dX3_copyFrom_63 : decode cX3_copyFrom 63 = .ok (.getfield 19, 3) := by decide +kernel
theorem dX3_copyFrom_66 : decode cX3_copyFrom 66 = .ok (.iconst 0, 1) := by decide +kernel
theorem dX3_copyFrom_67 : decode cX3_copyFrom 67 = .ok (.aload_n 0, 1) := by decide +kernel
theorem dX3_copyFrom_68 : decode cX3_copyFrom 68 = .ok (.getfield 19, 3) := by decide +kernel
theorem dX3_copyFrom_71 : decode cX3_copyFrom 71 = .ok (.iconst 0, 1) := by decide +kernel
theorem dX3_copyFrom_72 : decode cX3_copyFrom 72 = .ok (.bipush 10, 2) := by decide +kernel
theorem dX3_copyFrom_74 : decode cX3_copyFrom 74 = .ok (.invokestatic 38, 3) := by decide +kernel
theorem dX3_copyFrom_77 : decode cX3_copyFrom 77 = .ok (.aload_n 0, 1) := by decide +kernel
theorem dX3_copyFrom_78 : decode cX3_copyFrom 78 = .ok (.aload_n 1, 1) := by decide +kernel
theorem dX3_copyFrom_79 : decode cX3_copyFrom 79 = .ok (.getfield 22, 3) := by decide +kernel
theorem dX3_copyFrom_82 : decode cX3_copyFrom 82 = .ok (.putfield 22, 3) := by decide +kernel
theorem dX3_copyFrom_85 : decode cX3_copyFrom 85 = .ok (.aload_n 0, 1) := by decide +kernel
theorem dX3_copyFrom_86 : decode cX3_copyFrom 86 = .ok (.aload_n 1, 1) := by decide +kernel
theorem dX3_copyFrom_87 : decode cX3_copyFrom 87 = .ok (.getfield 32, 3) := by decide +kernel
theorem dX3_copyFrom_90 : decode cX3_copyFrom 90 = .ok (.putfield 32, 3) := by decide +kernel
theorem dX3_copyFrom_93 : decode cX3_copyFrom 93 = .ok (.aload_n 0, 1) := by decide +kernel
theorem dX3_copyFrom_94 : decode cX3_copyFrom 94 = .ok (.aload_n 1, 1) := by decide +kernel
theorem dX3_copyFrom_95 : decode cX3_copyFrom 95 = .ok (.getfield 35, 3) := by decide +kernel
theorem dX3_copyFrom_98 : decode cX3_copyFrom 98 = .ok (.putfield 35, 3) := by decide +kernel
theorem dX3_copyFrom_101 : decode cX3_copyFrom 101 = .ok (.return_, 1) := by decide +kernel
theorem dX3_hasQuoin_0 : decode cX3_hasQuoin 0 = .ok (.aload_n 0, 1) := by decide +kernel
theorem dX3_hasQuoin_1 : decode cX3_hasQuoin 1 = .ok (.getfield 22, 3) := by decide +kernel
theorem dX3_hasQuoin_4 : decode cX3_hasQuoin 4 = .ok (.iconst (-1), 1) := by decide +kernel
theorem dX3_hasQuoin_5 : decode cX3_hasQuoin 5 = .ok (.if_icmp .eq 7, 3) := by decide +kernel
theorem dX3_hasQuoin_8 : decode cX3_hasQuoin 8 = .ok (.iconst 1, 1) := by decide +kernel
theorem dX3_hasQuoin_9 : decode cX3_hasQuoin 9 = .ok (.goto 4, 3) := by decide +kernel
theorem dX3_hasQuoin_12 : decode cX3_hasQuoin 12 = .ok (.iconst 0, 1) := by decide +kernel
theorem dX3_hasQuoin_13 : decode cX3_hasQuoin 13 = .ok (.ireturn, 1) := by decide +kernel
theorem dX3_roomIn_0 : decode cX3_roomIn 0 = .ok (.aload_n 1, 1) := by decide +kernel
theorem dX3_roomIn_1 : decode cX3_roomIn 1 = .ok (.getfield 56, 3) := by decide +kernel
theorem dX3_roomIn_4 : decode cX3_roomIn 4 = .ok (.aload_n 0, 1) := by decide +kernel
theorem dX3_roomIn_5 : decode cX3_roomIn 5 = .ok (.getfield 47, 3) := by decide +kernel
theorem dX3_roomIn_8 : decode cX3_roomIn 8 = .ok (.isub, 1) := by decide +kernel
theorem dX3_roomIn_9 : decode cX3_roomIn 9 = .ok (.aload_n 0, 1) := by decide +kernel
theorem dX3_roomIn_10 : decode cX3_roomIn 10 = .ok (.getfield 53, 3) := by decide +kernel
theorem dX3_roomIn_13 : decode cX3_roomIn 13 = .ok (.isub, 1) := by decide +kernel
theorem dX3_roomIn_14 : decode cX3_roomIn 14 = .ok (.ireturn, 1) := by decide +kernel
theorem dX3_gapIn_0 : decode cX3_gapIn 0 = .ok (.aload_n 0, 1) := by decide +kernel
theorem dX3_gapIn_1 : decode cX3_gapIn 1 = .ok (.aload_n 1, 1) := by decide +kernel
theorem dX3_gapIn_2 : decode cX3_gapIn 2 = .ok (.invokevirtual 61, 3) := by decide +kernel
theorem dX3_gapIn_5 : decode cX3_gapIn 5 = .ok (.aload_n 0, 1) := by decide +kernel
theorem dX3_gapIn_6 : decode cX3_gapIn 6 = .ok (.invokevirtual 65, 3) := by decide +kernel
theorem dX3_gapIn_9 : decode cX3_gapIn 9 = .ok (.ifCond .eq 20, 3) := by decide +kernel
theorem dX3_gapIn_12 : decode cX3_gapIn 12 = .ok (.aload_n 1, 1) := by decide +kernel
theorem dX3_gapIn_13 : decode cX3_gapIn 13 = .ok (.getfield 69, 3) := by decide +kernel
theorem dX3_gapIn_16 : decode cX3_gapIn 16 = .ok (.aload_n 0, 1) := by decide +kernel
theorem dX3_gapIn_17 : decode cX3_gapIn 17 = .ok (.getfield 22, 3) := by decide +kernel
theorem dX3_gapIn_20 : decode cX3_gapIn 20 = .ok (.iadd, 1) := by decide +kernel
theorem dX3_gapIn_21 : decode cX3_gapIn 21 = .ok (.aload_n 0, 1) := by decide +kernel
theorem dX3_gapIn_22 : decode cX3_gapIn 22 = .ok (.getfield 32, 3) := by decide +kernel
theorem dX3_gapIn_25 : decode cX3_gapIn 25 = .ok (.isub, 1) := by decide +kernel
theorem dX3_gapIn_26 : decode cX3_gapIn 26 = .ok (.goto 4, 3) := by decide +kernel
theorem dX3_gapIn_29 : decode cX3_gapIn 29 = .ok (.iconst 0, 1) := by decide +kernel
theorem dX3_gapIn_30 : decode cX3_gapIn 30 = .ok (.isub, 1) := by decide +kernel
theorem dX3_gapIn_31 : decode cX3_gapIn 31 = .ok (.ireturn, 1) := by decide +kernel
theorem dX3_isTightIn_0 : decode cX3_isTightIn 0 = .ok (.aload_n 0, 1) := by decide +kernel
theorem dX3_isTightIn_1 : decode cX3_isTightIn 1 = .ok (.aload_n 1, 1) := by decide +kernel
theorem dX3_isTightIn_2 : decode cX3_isTightIn 2 = .ok (.invokevirtual 72, 3) := by decide +kernel
theorem dX3_isTightIn_5 : decode cX3_isTightIn 5 = .ok (.ifCond .ne 14, 3) := by decide +kernel
theorem dX3_isTightIn_8 : decode cX3_isTightIn 8 = .ok (.aload_n 0, 1) := by decide +kernel
theorem dX3_isTightIn_9 : decode cX3_isTightIn 9 = .ok (.getfield 35, 3) := by decide +kernel
theorem dX3_isTightIn_12 : decode cX3_isTightIn 12 = .ok (.ifCond .ne 7, 3) := by decide +kernel
theorem dX3_isTightIn_15 : decode cX3_isTightIn 15 = .ok (.iconst 1, 1) := by decide +kernel
theorem dX3_isTightIn_16 : decode cX3_isTightIn 16 = .ok (.goto 4, 3) := by decide +kernel
theorem dX3_isTightIn_19 : decode cX3_isTightIn 19 = .ok (.iconst 0, 1) := by decide +kernel
theorem dX3_isTightIn_20 : decode cX3_isTightIn 20 = .ok (.ireturn, 1) := by decide +kernel
theorem dX3_loosenessIn_0 : decode cX3_loosenessIn 0 = .ok (.aload_n 0, 1) := by decide +kernel
theorem dX3_loosenessIn_1 : decode cX3_loosenessIn 1 = .ok (.getfield 35, 3) := by decide +kernel
theorem dX3_loosenessIn_4 : decode cX3_loosenessIn 4 = .ok (.bipush 10, 2) := by decide +kernel
theorem dX3_loosenessIn_6 : decode cX3_loosenessIn 6 = .ok (.aload_n 0, 1) := by decide +kernel
theorem dX3_loosenessIn_7 : decode cX3_loosenessIn 7 = .ok (.aload_n 1, 1) := by decide +kernel
theorem dX3_loosenessIn_8 : decode cX3_loosenessIn 8 = .ok (.invokevirtual 72, 3) := by decide +kernel
theorem dX3_loosenessIn_11 : decode cX3_loosenessIn 11 = .ok (.imul, 1) := by decide +kernel
theorem dX3_loosenessIn_12 : decode cX3_loosenessIn 12 = .ok (.iadd, 1) := by decide +kernel
theorem dX3_loosenessIn_13 : decode cX3_loosenessIn 13 = .ok (.ireturn, 1) := by decide +kernel
theorem dX3_isFirmIn_0 : decode cX3_isFirmIn 0 = .ok (.aload_n 0, 1) := by decide +kernel
theorem dX3_isFirmIn_1 : decode cX3_isFirmIn 1 = .ok (.aload_n 1, 1) := by decide +kernel
theorem dX3_isFirmIn_2 : decode cX3_isFirmIn 2 = .ok (.invokevirtual 72, 3) := by decide +kernel
theorem dX3_isFirmIn_5 : decode cX3_isFirmIn 5 = .ok (.ifCond .ne 16, 3) := by decide +kernel
theorem dX3_isFirmIn_8 : decode cX3_isFirmIn 8 = .ok (.aload_n 0, 1) := by decide +kernel
theorem dX3_isFirmIn_9 : decode cX3_isFirmIn 9 = .ok (.getfield 35, 3) := by decide +kernel
theorem dX3_isFirmIn_12 : decode cX3_isFirmIn 12 = .ok (.bipush 10, 2) := by decide +kernel
theorem dX3_isFirmIn_14 : decode cX3_isFirmIn 14 = .ok (.if_icmp .ge 7, 3) := by decide +kernel
theorem dX3_isFirmIn_17 : decode cX3_isFirmIn 17 = .ok (.iconst 1, 1) := by decide +kernel
theorem dX3_isFirmIn_18 : decode cX3_isFirmIn 18 = .ok (.goto 4, 3) := by decide +kernel
theorem dX3_isFirmIn_21 : decode cX3_isFirmIn 21 = .ok (.iconst 0, 1) := by decide +kernel
theorem dX3_isFirmIn_22 : decode cX3_isFirmIn 22 = .ok (.ireturn, 1) := by decide +kernel
theorem dX3_growthInImpression_0 : decode cX3_growthInImpression 0 = .ok (.aload_n 1, 1) := by decide +kernel
theorem dX3_growthInImpression_1 : decode cX3_growthInImpression 1 = .ok (.getfield 75, 3) := by decide +kernel
theorem dX3_growthInImpression_4 : decode cX3_growthInImpression 4 = .ok (.aload_n 0, 1) := by decide +kernel
theorem dX3_growthInImpression_5 : decode cX3_growthInImpression 5 = .ok (.getfield 44, 3) := by decide +kernel
theorem dX3_growthInImpression_8 : decode cX3_growthInImpression 8 = .ok (.imul, 1) := by decide +kernel
theorem dX3_growthInImpression_9 : decode cX3_growthInImpression 9 = .ok (.ireturn, 1) := by decide +kernel
theorem dX3_growthInDay_0 : decode cX3_growthInDay 0 = .ok (.aload_n 1, 1) := by decide +kernel
theorem dX3_growthInDay_1 : decode cX3_growthInDay 1 = .ok (.getfield 78, 3) := by decide +kernel
theorem dX3_growthInDay_4 : decode cX3_growthInDay 4 = .ok (.aload_n 0, 1) := by decide +kernel
theorem dX3_growthInDay_5 : decode cX3_growthInDay 5 = .ok (.aload_n 1, 1) := by decide +kernel
theorem dX3_growthInDay_6 : decode cX3_growthInDay 6 = .ok (.invokevirtual 81, 3) := by decide +kernel
theorem dX3_growthInDay_9 : decode cX3_growthInDay 9 = .ok (.imul, 1) := by decide +kernel
theorem dX3_growthInDay_10 : decode cX3_growthInDay 10 = .ok (.ireturn, 1) := by decide +kernel
theorem dX3_woodIn_0 : decode cX3_woodIn 0 = .ok (.iconst 0, 1) := by decide +kernel
theorem dX3_woodIn_1 : decode cX3_woodIn 1 = .ok (.istore_n 2, 1) := by decide +kernel
theorem dX3_woodIn_2 : decode cX3_woodIn 2 = .ok (.iconst 0, 1) := by decide +kernel
theorem dX3_woodIn_3 : decode cX3_woodIn 3 = .ok (.istore_n 3, 1) := by decide +kernel
theorem dX3_woodIn_4 : decode cX3_woodIn 4 = .ok (.iload_n 3, 1) := by decide +kernel
theorem dX3_woodIn_5 : decode cX3_woodIn 5 = .ok (.aload_n 1, 1) := by decide +kernel
theorem dX3_woodIn_6 : decode cX3_woodIn 6 = .ok (.getfield 84, 3) := by decide +kernel
theorem dX3_woodIn_9 : decode cX3_woodIn 9 = .ok (.if_icmp .ge 27, 3) := by decide +kernel
theorem dX3_woodIn_12 : decode cX3_woodIn 12 = .ok (.aload_n 1, 1) := by decide +kernel
theorem dX3_woodIn_13 : decode cX3_woodIn 13 = .ok (.getfield 87, 3) := by decide +kernel
theorem dX3_woodIn_16 : decode cX3_woodIn 16 = .ok (.iload_n 3, 1) := by decide +kernel
theorem dX3_woodIn_17 : decode cX3_woodIn 17 = .ok (.baload, 1) := by decide +kernel
theorem dX3_woodIn_18 : decode cX3_woodIn 18 = .ok (.ifCond .ne 12, 3) := by decide +kernel
theorem dX3_woodIn_21 : decode cX3_woodIn 21 = .ok (.iload_n 2, 1) := by decide +kernel
theorem dX3_woodIn_22 : decode cX3_woodIn 22 = .ok (.aload_n 0, 1) := by decide +kernel
theorem dX3_woodIn_23 : decode cX3_woodIn 23 = .ok (.getfield 19, 3) := by decide +kernel
theorem dX3_woodIn_26 : decode cX3_woodIn 26 = .ok (.iload_n 3, 1) := by decide +kernel
theorem dX3_woodIn_27 : decode cX3_woodIn 27 = .ok (.iaload, 1) := by decide +kernel
theorem dX3_woodIn_28 : decode cX3_woodIn 28 = .ok (.iadd, 1) := by decide +kernel
theorem dX3_woodIn_29 : decode cX3_woodIn 29 = .ok (.istore_n 2, 1) := by decide +kernel
theorem dX3_woodIn_30 : decode cX3_woodIn 30 = .ok (.iinc 3 1, 3) := by decide +kernel
theorem dX3_woodIn_33 : decode cX3_woodIn 33 = .ok (.goto (-29), 3) := by decide +kernel
theorem dX3_woodIn_36 : decode cX3_woodIn 36 = .ok (.iload_n 2, 1) := by decide +kernel
theorem dX3_woodIn_37 : decode cX3_woodIn 37 = .ok (.ireturn, 1) := by decide +kernel
theorem dX3_takesBlock_0 : decode cX3_takesBlock 0 = .ok (.aload_n 0, 1) := by decide +kernel
theorem dX3_takesBlock_1 : decode cX3_takesBlock 1 = .ok (.getfield 44, 3) := by decide +kernel
theorem dX3_takesBlock_4 : decode cX3_takesBlock 4 = .ok (.bipush 6, 2) := by decide +kernel
theorem dX3_takesBlock_6 : decode cX3_takesBlock 6 = .ok (.if_icmp .ge 16, 3) := by decide +kernel
theorem dX3_takesBlock_9 : decode cX3_takesBlock 9 = .ok (.iload_n 2, 1) := by decide +kernel
theorem dX3_takesBlock_10 : decode cX3_takesBlock 10 = .ok (.aload_n 0, 1) := by decide +kernel
theorem dX3_takesBlock_11 : decode cX3_takesBlock 11 = .ok (.aload_n 1, 1) := by decide +kernel
theorem dX3_takesBlock_12 : decode cX3_takesBlock 12 = .ok (.invokevirtual 72, 3) := by decide +kernel
theorem dX3_takesBlock_15 : decode cX3_takesBlock 15 = .ok (.if_icmp .gt 7, 3) := by decide +kernel
theorem dX3_takesBlock_18 : decode cX3_takesBlock 18 = .ok (.iconst 1, 1) := by decide +kernel
theorem dX3_takesBlock_19 : decode cX3_takesBlock 19 = .ok (.goto 4, 3) := by decide +kernel
theorem dX3_takesBlock_22 : decode cX3_takesBlock 22 = .ok (.iconst 0, 1) := by decide +kernel
theorem dX3_takesBlock_23 : decode cX3_takesBlock 23 = .ok (.ireturn, 1) := by decide +kernel
theorem dX3_blockAt_0 : decode cX3_blockAt 0 = .ok (.iload_n 1, 1) := by decide +kernel
theorem dX3_blockAt_1 : decode cX3_blockAt 1 = .ok (.ifCond .lt 26, 3) := by decide +kernel
theorem dX3_blockAt_4 : decode cX3_blockAt 4 = .ok (.iload_n 1, 1) := by decide +kernel
theorem dX3_blockAt_5 : decode cX3_blockAt 5 = .ok (.aload_n 0, 1) := by decide +kernel
theorem dX3_blockAt_6 : decode cX3_blockAt 6 = .ok (.getfield 44, 3) := by decide +kernel
theorem dX3_blockAt_9 : decode cX3_blockAt 9 = .ok (.if_icmp .ge 18, 3) := by decide +kernel
theorem dX3_blockAt_12 : decode cX3_blockAt 12 = .ok (.iload_n 1, 1) := by decide +kernel
theorem dX3_blockAt_13 : decode cX3_blockAt 13 = .ok (.bipush 6, 2) := by decide +kernel
theorem dX3_blockAt_15 : decode cX3_blockAt 15 = .ok (.if_icmp .ge 12, 3) := by decide +kernel
theorem dX3_blockAt_18 : decode cX3_blockAt 18 = .ok (.aload_n 0, 1) := by decide +kernel
theorem dX3_blockAt_19 : decode cX3_blockAt 19 = .ok (.getfield 11, 3) := by decide +kernel
theorem dX3_blockAt_22 : decode cX3_blockAt 22 = .ok (.iload_n 1, 1) := by decide +kernel
theorem dX3_blockAt_23 : decode cX3_blockAt 23 = .ok (.iaload, 1) := by decide +kernel
theorem dX3_blockAt_24 : decode cX3_blockAt 24 = .ok (.goto 4, 3) := by decide +kernel
theorem dX3_blockAt_27 : decode cX3_blockAt 27 = .ok (.iconst (-1), 1) := by decide +kernel
theorem dX3_blockAt_28 : decode cX3_blockAt 28 = .ok (.ireturn, 1) := by decide +kernel
theorem dX3_addBlock_0 : decode cX3_addBlock 0 = .ok (.aload_n 0, 1) := by decide +kernel
theorem dX3_addBlock_1 : decode cX3_addBlock 1 = .ok (.getfield 44, 3) := by decide +kernel
theorem dX3_addBlock_4 : decode cX3_addBlock 4 = .ok (.bipush 6, 2) := by decide +kernel
theorem dX3_addBlock_6 : decode cX3_addBlock 6 = .ok (.if_icmp .ge 33, 3) := by decide +kernel
theorem dX3_addBlock_9 : decode cX3_addBlock 9 = .ok (.aload_n 0, 1) := by decide +kernel
theorem dX3_addBlock_10 : decode cX3_addBlock 10 = .ok (.getfield 11, 3) := by decide +kernel
theorem dX3_addBlock_13 : decode cX3_addBlock 13 = .ok (.aload_n 0, 1) := by decide +kernel
theorem dX3_addBlock_14 : decode cX3_addBlock 14 = .ok (.getfield 44, 3) := by decide +kernel
theorem dX3_addBlock_17 : decode cX3_addBlock 17 = .ok (.iload_n 1, 1) := by decide +kernel
theorem dX3_addBlock_18 : decode cX3_addBlock 18 = .ok (.iastore, 1) := by decide +kernel
theorem dX3_addBlock_19 : decode cX3_addBlock 19 = .ok (.aload_n 0, 1) := by decide +kernel
theorem dX3_addBlock_20 : decode cX3_addBlock 20 = .ok (.dup, 1) := by decide +kernel
theorem dX3_addBlock_21 : decode cX3_addBlock 21 = .ok (.getfield 44, 3) := by decide +kernel
theorem dX3_addBlock_24 : decode cX3_addBlock 24 = .ok (.iconst 1, 1) := by decide +kernel
theorem dX3_addBlock_25 : decode cX3_addBlock 25 = .ok (.iadd, 1) := by decide +kernel
theorem dX3_addBlock_26 : decode cX3_addBlock 26 = .ok (.putfield 44, 3) := by decide +kernel
theorem dX3_addBlock_29 : decode cX3_addBlock 29 = .ok (.aload_n 0, 1) := by decide +kernel
theorem dX3_addBlock_30 : decode cX3_addBlock 30 = .ok (.dup, 1) := by decide +kernel
theorem dX3_addBlock_31 : decode cX3_addBlock 31 = .ok (.getfield 47, 3) := by decide +kernel
theorem dX3_addBlock_34 : decode cX3_addBlock 34 = .ok (.iload_n 1, 1) := by decide +kernel
theorem dX3_addBlock_35 : decode cX3_addBlock 35 = .ok (.iadd, 1) := by decide +kernel
theorem dX3_addBlock_36 : decode cX3_addBlock 36 = .ok (.putfield 47, 3) := by decide +kernel
theorem dX3_addBlock_39 : decode cX3_addBlock 39 = .ok (.return_, 1) := by decide +kernel
theorem dX3_removeBlock_0 : decode cX3_removeBlock 0 = .ok (.aload_n 0, 1) := by decide +kernel
theorem dX3_removeBlock_1 : decode cX3_removeBlock 1 = .ok (.iload_n 1, 1) := by decide +kernel
theorem dX3_removeBlock_2 : decode cX3_removeBlock 2 = .ok (.invokevirtual 91, 3) := by decide +kernel
theorem dX3_removeBlock_5 : decode cX3_removeBlock 5 = .ok (.istore_n 2, 1) := by decide +kernel
theorem dX3_removeBlock_6 : decode cX3_removeBlock 6 = .ok (.iload_n 2, 1) := by decide +kernel
theorem dX3_removeBlock_7 : decode cX3_removeBlock 7 = .ok (.iconst (-1), 1) := by decide +kernel
theorem dX3_removeBlock_8 : decode cX3_removeBlock 8 = .ok (.if_icmp .ne 5, 3) := by decide +kernel
theorem dX3_removeBlock_11 : decode cX3_removeBlock 11 = .ok (.iconst (-1), 1) := by decide +kernel
theorem dX3_removeBlock_12 : decode cX3_removeBlock 12 = .ok (.ireturn, 1) := by decide +kernel
theorem dX3_removeBlock_13 : decode cX3_removeBlock 13 = .ok (.iload_n 1, 1) := by decide +kernel
theorem dX3_removeBlock_14 : decode cX3_removeBlock 14 = .ok (.iconst 1, 1) := by decide +kernel
theorem dX3_removeBlock_15 : decode cX3_removeBlock 15 = .ok (.iadd, 1) := by decide +kernel
theorem dX3_removeBlock_16 : decode cX3_removeBlock 16 = .ok (.istore_n 3, 1) := by decide +kernel
theorem dX3_removeBlock_17 : decode cX3_removeBlock 17 = .ok (.iload_n 3, 1) := by decide +kernel
theorem dX3_removeBlock_18 : decode cX3_removeBlock 18 = .ok (.aload_n 0, 1) := by decide +kernel
theorem dX3_removeBlock_19 : decode cX3_removeBlock 19 = .ok (.getfield 44, 3) := by decide +kernel
theorem dX3_removeBlock_22 : decode cX3_removeBlock 22 = .ok (.if_icmp .ge 23, 3) := by decide +kernel
theorem dX3_removeBlock_25 : decode cX3_removeBlock 25 = .ok (.aload_n 0, 1) := by decide +kernel
theorem dX3_removeBlock_26 : decode cX3_removeBlock 26 = .ok (.getfield 11, 3) := by decide +kernel
theorem dX3_removeBlock_29 : decode cX3_removeBlock 29 = .ok (.iload_n 3, 1) := by decide +kernel
theorem dX3_removeBlock_30 : decode cX3_removeBlock 30 = .ok (.iconst 1, 1) := by decide +kernel
theorem dX3_removeBlock_31 : decode cX3_removeBlock 31 = .ok (.isub, 1) := by decide +kernel
theorem dX3_removeBlock_32 : decode cX3_removeBlock 32 = .ok (.aload_n 0, 1) := by decide +kernel
theorem dX3_removeBlock_33 : decode cX3_removeBlock 33 = .ok (.getfield 11, 3) := by decide +kernel
theorem dX3_removeBlock_36 : decode cX3_removeBlock 36 = .ok (.iload_n 3, 1) := by decide +kernel
theorem dX3_removeBlock_37 : decode cX3_removeBlock 37 = .ok (.iaload, 1) := by decide +kernel
theorem dX3_removeBlock_38 : decode cX3_removeBlock 38 = .ok (.iastore, 1) := by decide +kernel
theorem dX3_removeBlock_39 : decode cX3_removeBlock 39 = .ok (.iinc 3 1, 3) := by decide +kernel
theorem dX3_removeBlock_42 : decode cX3_removeBlock 42 = .ok (.goto (-25), 3) := by decide +kernel
theorem dX3_removeBlock_45 : decode cX3_removeBlock 45 = .ok (.aload_n 0, 1) := by decide +kernel
theorem dX3_removeBlock_46 : decode cX3_removeBlock 46 = .ok (.dup, 1) := by decide +kernel
theorem dX3_removeBlock_47 : decode cX3_removeBlock 47 = .ok (.getfield 44, 3) := by decide +kernel
theorem dX3_removeBlock_50 : decode cX3_removeBlock 50 = .ok (.iconst 1, 1) := by decide +kernel
theorem dX3_removeBlock_51 : decode cX3_removeBlock 51 = .ok (.isub, 1) := by decide +kernel
theorem dX3_removeBlock_52 : decode cX3_removeBlock 52 = .ok (.putfield 44, 3) := by decide +kernel
theorem dX3_removeBlock_55 : decode cX3_removeBlock 55 = .ok (.aload_n 0, 1) := by decide +kernel
theorem dX3_removeBlock_56 : decode cX3_removeBlock 56 = .ok (.dup, 1) := by decide +kernel
theorem dX3_removeBlock_57 : decode cX3_removeBlock 57 = .ok (.getfield 47, 3) := by decide +kernel
theorem dX3_removeBlock_60 : decode cX3_removeBlock 60 = .ok (.iload_n 2, 1) := by decide +kernel
theorem dX3_removeBlock_61 : decode cX3_removeBlock 61 = .ok (.isub, 1) := by decide +kernel
theorem dX3_removeBlock_62 : decode cX3_removeBlock 62 = .ok (.putfield 47, 3) := by decide +kernel
theorem dX3_removeBlock_65 : decode cX3_removeBlock 65 = .ok (.iload_n 2, 1) := by decide +kernel
theorem dX3_removeBlock_66 : decode cX3_removeBlock 66 = .ok (.ireturn, 1) := by decide +kernel
theorem dX3_dropBlocks_0 : decode cX3_dropBlocks 0 = .ok (.aload_n 0, 1) := by decide +kernel
theorem dX3_dropBlocks_1 : decode cX3_dropBlocks 1 = .ok (.iconst 0, 1) := by decide +kernel
theorem dX3_dropBlocks_2 : decode cX3_dropBlocks 2 = .ok (.putfield 44, 3) := by decide +kernel
theorem dX3_dropBlocks_5 : decode cX3_dropBlocks 5 = .ok (.aload_n 0, 1) := by decide +kernel
theorem dX3_dropBlocks_6 : decode cX3_dropBlocks 6 = .ok (.iconst 0, 1) := by decide +kernel
theorem dX3_dropBlocks_7 : decode cX3_dropBlocks 7 = .ok (.putfield 47, 3) := by decide +kernel
theorem dX3_dropBlocks_10 : decode cX3_dropBlocks 10 = .ok (.return_, 1) := by decide +kernel
theorem dX3_pieceAt_0 : decode cX3_pieceAt 0 = .ok (.iload_n 1, 1) := by decide +kernel
theorem dX3_pieceAt_1 : decode cX3_pieceAt 1 = .ok (.ifCond .lt 18, 3) := by decide +kernel
theorem dX3_pieceAt_4 : decode cX3_pieceAt 4 = .ok (.iload_n 1, 1) := by decide +kernel
theorem dX3_pieceAt_5 : decode cX3_pieceAt 5 = .ok (.aload_n 0, 1) := by decide +kernel
theorem dX3_pieceAt_6 : decode cX3_pieceAt 6 = .ok (.getfield 50, 3) := by decide +kernel
theorem dX3_pieceAt_9 : decode cX3_pieceAt 9 = .ok (.if_icmp .ge 10, 3) := by decide +kernel
theorem dX3_pieceAt_12 : decode cX3_pieceAt 12 = .ok (.iload_n 1, 1) := by decide +kernel
theorem dX3_pieceAt_13 : decode cX3_pieceAt 13 = .ok (.sipush 512, 3) := by decide +kernel
theorem dX3_pieceAt_16 : decode cX3_pieceAt 16 = .ok (.if_icmp .lt 5, 3) := by decide +kernel
theorem dX3_pieceAt_19 : decode cX3_pieceAt 19 = .ok (.iconst (-1), 1) := by decide +kernel
theorem dX3_pieceAt_20 : decode cX3_pieceAt 20 = .ok (.ireturn, 1) := by decide +kernel
theorem dX3_pieceAt_21 : decode cX3_pieceAt 21 = .ok (.iload_n 1, 1) := by decide +kernel
theorem dX3_pieceAt_22 : decode cX3_pieceAt 22 = .ok (.bipush 16, 2) := by decide +kernel
theorem dX3_pieceAt_24 : decode cX3_pieceAt 24 = .ok (.irem, 1) := by decide +kernel
theorem dX3_pieceAt_25 : decode cX3_pieceAt 25 = .ok (.iconst 4, 1) := by decide +kernel
theorem dX3_pieceAt_26 : decode cX3_pieceAt 26 = .ok (.imul, 1) := by decide +kernel
theorem dX3_pieceAt_27 : decode cX3_pieceAt 27 = .ok (.istore_n 2, 1) := by decide +kernel
theorem dX3_pieceAt_28 : decode cX3_pieceAt 28 = .ok (.aload_n 0, 1) := by decide +kernel
theorem dX3_pieceAt_29 : decode cX3_pieceAt 29 = .ok (.getfield 15, 3) := by decide +kernel
theorem dX3_pieceAt_32 : decode cX3_pieceAt 32 = .ok (.iload_n 1, 1) := by decide +kernel
theorem dX3_pieceAt_33 : decode cX3_pieceAt 33 = .ok (.bipush 16, 2) := by decide +kernel
theorem dX3_pieceAt_35 : decode cX3_pieceAt 35 = .ok (.idiv, 1) := by decide +kernel
theorem dX3_pieceAt_36 : decode cX3_pieceAt 36 = .ok (.laload, 1) := by decide +kernel
theorem dX3_pieceAt_37 : decode cX3_pieceAt 37 = .ok (.iload_n 2, 1) := by decide +kernel
theorem dX3_pieceAt_38 : decode cX3_pieceAt 38 = .ok (.lushr, 1) := by decide +kernel
theorem dX3_pieceAt_39 : decode cX3_pieceAt 39 = .ok (.l2i, 1) := by decide +kernel
theorem dX3_pieceAt_40 : decode cX3_pieceAt 40 = .ok (.bipush 15, 2) := by decide +kernel
theorem dX3_pieceAt_42 : decode cX3_pieceAt 42 = .ok (.iand, 1) := by decide +kernel
theorem dX3_pieceAt_43 : decode cX3_pieceAt 43 = .ok (.ireturn, 1) := by decide +kernel
theorem dX3_setPiece_0 : decode cX3_setPiece 0 = .ok (.iload_n 1, 1) := by decide +kernel
theorem dX3_setPiece_1 : decode cX3_setPiece 1 = .ok (.ifCond .lt 54, 3) := by decide +kernel
theorem dX3_setPiece_4 : decode cX3_setPiece 4 = .ok (.iload_n 1, 1) := by decide +kernel
theorem dX3_setPiece_5 : decode cX3_setPiece 5 = .ok (.sipush 512, 3) := by decide +kernel
theorem dX3_setPiece_8 : decode cX3_setPiece 8 = .ok (.if_icmp .ge 47, 3) := by decide +kernel
theorem dX3_setPiece_11 : decode cX3_setPiece 11 = .ok (.iload_n 1, 1) := by decide +kernel
theorem dX3_setPiece_12 : decode cX3_setPiece 12 = .ok (.bipush 16, 2) := by decide +kernel
theorem dX3_setPiece_14 : decode cX3_setPiece 14 = .ok (.irem, 1) := by decide +kernel
theorem dX3_setPiece_15 : decode cX3_setPiece 15 = .ok (.iconst 4, 1) := by decide +kernel
theorem dX3_setPiece_16 : decode cX3_setPiece 16 = .ok (.imul, 1) := by decide +kernel
theorem dX3_setPiece_17 : decode cX3_setPiece 17 = .ok (.istore_n 3, 1) := by decide +kernel
theorem dX3_setPiece_18 : decode cX3_setPiece 18 = .ok (.aload_n 0, 1) := by decide +kernel
theorem dX3_setPiece_19 : decode cX3_setPiece 19 = .ok (.getfield 15, 3) := by decide +kernel
theorem dX3_setPiece_22 : decode cX3_setPiece 22 = .ok (.iload_n 1, 1) := by decide +kernel
theorem dX3_setPiece_23 : decode cX3_setPiece 23 = .ok (.bipush 16, 2) := by decide +kernel
theorem dX3_setPiece_25 : decode cX3_setPiece 25 = .ok (.idiv, 1) := by decide +kernel
theorem dX3_setPiece_26 : decode cX3_setPiece 26 = .ok (.laload, 1) := by decide +kernel
theorem dX3_setPiece_27 : decode cX3_setPiece 27 = .ok (.ldc2_w 95, 3) := by decide +kernel
theorem dX3_setPiece_30 : decode cX3_setPiece 30 = .ok (.iload_n 3, 1) := by decide +kernel
theorem dX3_setPiece_31 : decode cX3_setPiece 31 = .ok (.lshl, 1) := by decide +kernel
theorem dX3_setPiece_32 : decode cX3_setPiece 32 = .ok (.ldc2_w 97, 3) := by decide +kernel
theorem dX3_setPiece_35 : decode cX3_setPiece 35 = .ok (.lxor, 1) := by decide +kernel
theorem dX3_setPiece_36 : decode cX3_setPiece 36 = .ok (.land, 1) := by decide +kernel
theorem dX3_setPiece_37 : decode cX3_setPiece 37 = .ok (.lstore 4, 2) := by decide +kernel
theorem dX3_setPiece_39 : decode cX3_setPiece 39 = .ok (.aload_n 0, 1) := by decide +kernel
theorem dX3_setPiece_40 : decode cX3_setPiece 40 = .ok (.getfield 15, 3) := by decide +kernel
theorem dX3_setPiece_43 : decode cX3_setPiece 43 = .ok (.iload_n 1, 1) := by decide +kernel
theorem dX3_setPiece_44 : decode cX3_setPiece 44 = .ok (.bipush 16, 2) := by decide +kernel
theorem dX3_setPiece_46 : decode cX3_setPiece 46 = .ok (.idiv, 1) := by decide +kernel
theorem dX3_setPiece_47 : decode cX3_setPiece 47 = .ok (.lload 4, 2) := by decide +kernel
theorem dX3_setPiece_49 : decode cX3_setPiece 49 = .ok (.iload_n 2, 1) := by decide +kernel
theorem dX3_setPiece_50 : decode cX3_setPiece 50 = .ok (.i2l, 1) := by decide +kernel
theorem dX3_setPiece_51 : decode cX3_setPiece 51 = .ok (.iload_n 3, 1) := by decide +kernel
theorem dX3_setPiece_52 : decode cX3_setPiece 52 = .ok (.lshl, 1) := by decide +kernel
theorem dX3_setPiece_53 : decode cX3_setPiece 53 = .ok (.lor, 1) := by decide +kernel
theorem dX3_setPiece_54 : decode cX3_setPiece 54 = .ok (.lastore, 1) := by decide +kernel
theorem dX3_setPiece_55 : decode cX3_setPiece 55 = .ok (.return_, 1) := by decide +kernel
theorem dX3_addPiece_0 : decode cX3_addPiece 0 = .ok (.iload_n 2, 1) := by decide +kernel
theorem dX3_addPiece_1 : decode cX3_addPiece 1 = .ok (.ifCond .lt 63, 3) := by decide +kernel
theorem dX3_addPiece_4 : decode cX3_addPiece 4 = .ok (.iload_n 2, 1) := by decide +kernel
theorem dX3_addPiece_5 : decode cX3_addPiece 5 = .ok (.bipush 10, 2) := by decide +kernel
theorem dX3_addPiece_7 : decode cX3_addPiece 7 = .ok (.if_icmp .ge 57, 3) := by decide +kernel
theorem dX3_addPiece_10 : decode cX3_addPiece 10 = .ok (.aload_n 0, 1) := by decide +kernel
theorem dX3_addPiece_11 : decode cX3_addPiece 11 = .ok (.getfield 50, 3) := by decide +kernel
theorem dX3_addPiece_14 : decode cX3_addPiece 14 = .ok (.sipush 512, 3) := by decide +kernel
theorem dX3_addPiece_17 : decode cX3_addPiece 17 = .ok (.if_icmp .ge 47, 3) := by decide +kernel
theorem dX3_addPiece_20 : decode cX3_addPiece 20 = .ok (.aload_n 0, 1) := by decide +kernel
theorem dX3_addPiece_21 : decode cX3_addPiece 21 = .ok (.aload_n 0, 1) := by decide +kernel
theorem dX3_addPiece_22 : decode cX3_addPiece 22 = .ok (.getfield 50, 3) := by decide +kernel
theorem dX3_addPiece_25 : decode cX3_addPiece 25 = .ok (.iload_n 2, 1) := by decide +kernel
theorem dX3_addPiece_26 : decode cX3_addPiece 26 = .ok (.invokevirtual 99, 3) := by decide +kernel
theorem dX3_addPiece_29 : decode cX3_addPiece 29 = .ok (.aload_n 0, 1) := by decide +kernel
theorem dX3_addPiece_30 : decode cX3_addPiece 30 = .ok (.dup, 1) := by decide +kernel
theorem dX3_addPiece_31 : decode cX3_addPiece 31 = .ok (.getfield 50, 3) := by decide +kernel
theorem dX3_addPiece_34 : decode cX3_addPiece 34 = .ok (.iconst 1, 1) := by decide +kernel
theorem dX3_addPiece_35 : decode cX3_addPiece 35 = .ok (.iadd, 1) := by decide +kernel
theorem dX3_addPiece_36 : decode cX3_addPiece 36 = .ok (.putfield 50, 3) := by decide +kernel
theorem dX3_addPiece_39 : decode cX3_addPiece 39 = .ok (.aload_n 0, 1) := by decide +kernel
theorem dX3_addPiece_40 : decode cX3_addPiece 40 = .ok (.dup, 1) := by decide +kernel
theorem dX3_addPiece_41 : decode cX3_addPiece 41 = .ok (.getfield 53, 3) := by decide +kernel
theorem dX3_addPiece_44 : decode cX3_addPiece 44 = .ok (.aload_n 1, 1) := by decide +kernel
theorem dX3_addPiece_45 : decode cX3_addPiece 45 = .ok (.getfield 103, 3) := by decide +kernel
theorem dX3_addPiece_48 : decode cX3_addPiece 48 = .ok (.iload_n 2, 1) := by decide +kernel
theorem dX3_addPiece_49 : decode cX3_addPiece 49 = .ok (.iaload, 1) := by decide +kernel
theorem dX3_addPiece_50 : decode cX3_addPiece 50 = .ok (.iadd, 1) := by decide +kernel
theorem dX3_addPiece_51 : decode cX3_addPiece 51 = .ok (.putfield 53, 3) := by decide +kernel
theorem dX3_addPiece_54 : decode cX3_addPiece 54 = .ok (.aload_n 0, 1) := by decide +kernel
theorem dX3_addPiece_55 : decode cX3_addPiece 55 = .ok (.getfield 19, 3) := by decide +kernel
theorem dX3_addPiece_58 : decode cX3_addPiece 58 = .ok (.iload_n 2, 1) := by decide +kernel
theorem dX3_addPiece_59 : decode cX3_addPiece 59 = .ok (.dup2, 1) := by decide +kernel
theorem dX3_addPiece_60 : decode cX3_addPiece 60 = .ok (.iaload, 1) := by decide +kernel
theorem dX3_addPiece_61 : decode cX3_addPiece 61 = .ok (.iconst 1, 1) := by decide +kernel
theorem dX3_addPiece_62 : decode cX3_addPiece 62 = .ok (.iadd, 1) := by decide +kernel
theorem dX3_addPiece_63 : decode cX3_addPiece 63 = .ok (.iastore, 1) := by decide +kernel
theorem dX3_addPiece_64 : decode cX3_addPiece 64 = .ok (.return_, 1) := by decide +kernel
theorem dX3_removePiece_0 : decode cX3_removePiece 0 = .ok (.aload_n 0, 1) := by decide +kernel
theorem dX3_removePiece_1 : decode cX3_removePiece 1 = .ok (.iload_n 2, 1) := by decide +kernel
theorem dX3_removePiece_2 : decode cX3_removePiece 2 = .ok (.invokevirtual 106, 3) := by decide +kernel
theorem dX3_removePiece_5 : decode cX3_removePiece 5 = .ok (.istore_n 3, 1) := by decide +kernel
theorem dX3_removePiece_6 : decode cX3_removePiece 6 = .ok (.iload_n 3, 1) := by decide +kernel
theorem dX3_removePiece_7 : decode cX3_removePiece 7 = .ok (.ifCond .lt 9, 3) := by decide +kernel
theorem dX3_removePiece_10 : decode cX3_removePiece 10 = .ok (.iload_n 3, 1) := by decide +kernel
theorem dX3_removePiece_11 : decode cX3_removePiece 11 = .ok (.bipush 10, 2) := by decide +kernel
theorem dX3_removePiece_13 : decode cX3_removePiece 13 = .ok (.if_icmp .lt 5, 3) := by decide +kernel
theorem dX3_removePiece_16 : decode cX3_removePiece 16 = .ok (.iconst (-1), 1) := by decide +kernel
theorem dX3_removePiece_17 : decode cX3_removePiece 17 = .ok (.ireturn, 1) := by decide +kernel
theorem dX3_removePiece_18 : decode cX3_removePiece 18 = .ok (.iload_n 2, 1) := by decide +kernel
theorem dX3_removePiece_19 : decode cX3_removePiece 19 = .ok (.iconst 1, 1) := by decide +kernel
theorem dX3_removePiece_20 : decode cX3_removePiece 20 = .ok (.iadd, 1) := by decide +kernel
theorem dX3_removePiece_21 : decode cX3_removePiece 21 = .ok (.istore 4, 2) := by decide +kernel
theorem dX3_removePiece_23 : decode cX3_removePiece 23 = .ok (.iload 4, 2) := by decide +kernel
theorem dX3_removePiece_25 : decode cX3_removePiece 25 = .ok (.aload_n 0, 1) := by decide +kernel
theorem dX3_removePiece_26 : decode cX3_removePiece 26 = .ok (.getfield 50, 3) := by decide +kernel
theorem dX3_removePiece_29 : decode cX3_removePiece 29 = .ok (.if_icmp .ge 23, 3) := by decide +kernel
theorem dX3_removePiece_32 : decode cX3_removePiece 32 = .ok (.aload_n 0, 1) := by decide +kernel
theorem dX3_removePiece_33 : decode cX3_removePiece 33 = .ok (.iload 4, 2) := by decide +kernel
theorem dX3_removePiece_35 : decode cX3_removePiece 35 = .ok (.iconst 1, 1) := by decide +kernel
theorem dX3_removePiece_36 : decode cX3_removePiece 36 = .ok (.isub, 1) := by decide +kernel
theorem dX3_removePiece_37 : decode cX3_removePiece 37 = .ok (.aload_n 0, 1) := by decide +kernel
theorem dX3_removePiece_38 : decode cX3_removePiece 38 = .ok (.iload 4, 2) := by decide +kernel
theorem dX3_removePiece_40 : decode cX3_removePiece 40 = .ok (.invokevirtual 106, 3) := by decide +kernel
theorem dX3_removePiece_43 : decode cX3_removePiece 43 = .ok (.invokevirtual 99, 3) := by decide +kernel
theorem dX3_removePiece_46 : decode cX3_removePiece 46 = .ok (.iinc 4 1, 3) := by decide +kernel
theorem dX3_removePiece_49 : decode cX3_removePiece 49 = .ok (.goto (-26), 3) := by decide +kernel
theorem dX3_removePiece_52 : decode cX3_removePiece 52 = .ok (.aload_n 0, 1) := by decide +kernel
theorem dX3_removePiece_53 : decode cX3_removePiece 53 = .ok (.dup, 1) := by decide +kernel
theorem dX3_removePiece_54 : decode cX3_removePiece 54 = .ok (.getfield 50, 3) := by decide +kernel
theorem dX3_removePiece_57 : decode cX3_removePiece 57 = .ok (.iconst 1, 1) := by decide +kernel
theorem dX3_removePiece_58 : decode cX3_removePiece 58 = .ok (.isub, 1) := by decide +kernel
theorem dX3_removePiece_59 : decode cX3_removePiece 59 = .ok (.putfield 50, 3) := by decide +kernel
theorem dX3_removePiece_62 : decode cX3_removePiece 62 = .ok (.aload_n 0, 1) := by decide +kernel
theorem dX3_removePiece_63 : decode cX3_removePiece 63 = .ok (.dup, 1) := by decide +kernel
theorem dX3_removePiece_64 : decode cX3_removePiece 64 = .ok (.getfield 53, 3) := by decide +kernel
theorem dX3_removePiece_67 : decode cX3_removePiece 67 = .ok (.aload_n 1, 1) := by decide +kernel
theorem dX3_removePiece_68 : decode cX3_removePiece 68 = .ok (.getfield 103, 3) := by decide +kernel
theorem dX3_removePiece_71 : decode cX3_removePiece 71 = .ok (.iload_n 3, 1) := by decide +kernel
theorem dX3_removePiece_72 : decode cX3_removePiece 72 = .ok (.iaload, 1) := by decide +kernel
theorem dX3_removePiece_73 : decode cX3_removePiece 73 = .ok (.isub, 1) := by decide +kernel
theorem dX3_removePiece_74 : decode cX3_removePiece 74 = .ok (.putfield 53, 3) := by decide +kernel
theorem dX3_removePiece_77 : decode cX3_removePiece 77 = .ok (.aload_n 0, 1) := by decide +kernel
theorem dX3_removePiece_78 : decode cX3_removePiece 78 = .ok (.getfield 19, 3) := by decide +kernel
theorem dX3_removePiece_81 : decode cX3_removePiece 81 = .ok (.iload_n 3, 1) := by decide +kernel
theorem dX3_removePiece_82 : decode cX3_removePiece 82 = .ok (.dup2, 1) := by decide +kernel
theorem dX3_removePiece_83 : decode cX3_removePiece 83 = .ok (.iaload, 1) := by decide +kernel
theorem dX3_removePiece_84 : decode cX3_removePiece 84 = .ok (.iconst 1, 1) := by decide +kernel
theorem dX3_removePiece_85 : decode cX3_removePiece 85 = .ok (.isub, 1) := by decide +kernel
theorem dX3_removePiece_86 : decode cX3_removePiece 86 = .ok (.iastore, 1) := by decide +kernel
theorem dX3_removePiece_87 : decode cX3_removePiece 87 = .ok (.iload_n 3, 1) := by decide +kernel
theorem dX3_removePiece_88 : decode cX3_removePiece 88 = .ok (.ireturn, 1) := by decide +kernel
theorem dX3_dropPieces_0 : decode cX3_dropPieces 0 = .ok (.aload_n 0, 1) := by decide +kernel
theorem dX3_dropPieces_1 : decode cX3_dropPieces 1 = .ok (.iconst 0, 1) := by decide +kernel
theorem dX3_dropPieces_2 : decode cX3_dropPieces 2 = .ok (.putfield 50, 3) := by decide +kernel
theorem dX3_dropPieces_5 : decode cX3_dropPieces 5 = .ok (.aload_n 0, 1) := by decide +kernel
theorem dX3_dropPieces_6 : decode cX3_dropPieces 6 = .ok (.iconst 0, 1) := by decide +kernel
theorem dX3_dropPieces_7 : decode cX3_dropPieces 7 = .ok (.putfield 53, 3) := by decide +kernel
theorem dX3_dropPieces_10 : decode cX3_dropPieces 10 = .ok (.iconst 0, 1) := by decide +kernel
theorem dX3_dropPieces_11 : decode cX3_dropPieces 11 = .ok (.istore_n 1, 1) := by decide +kernel
theorem dX3_dropPieces_12 : decode cX3_dropPieces 12 = .ok (.iload_n 1, 1) := by decide +kernel
theorem dX3_dropPieces_13 : decode cX3_dropPieces 13 = .ok (.bipush 10, 2) := by decide +kernel
theorem dX3_dropPieces_15 : decode cX3_dropPieces 15 = .ok (.if_icmp .ge 16, 3) := by decide +kernel
theorem dX3_dropPieces_18 : decode cX3_dropPieces 18 = .ok (.aload_n 0, 1) := by decide +kernel
theorem dX3_dropPieces_19 : decode cX3_dropPieces 19 = .ok (.getfield 19, 3) := by decide +kernel
theorem dX3_dropPieces_22 : decode cX3_dropPieces 22 = .ok (.iload_n 1, 1) := by decide +kernel
theorem dX3_dropPieces_23 : decode cX3_dropPieces 23 = .ok (.iconst 0, 1) := by decide +kernel
theorem dX3_dropPieces_24 : decode cX3_dropPieces 24 = .ok (.iastore, 1) := by decide +kernel
theorem dX3_dropPieces_25 : decode cX3_dropPieces 25 = .ok (.iinc 1 1, 3) := by decide +kernel
theorem dX3_dropPieces_28 : decode cX3_dropPieces 28 = .ok (.goto (-16), 3) := by decide +kernel
theorem dX3_dropPieces_31 : decode cX3_dropPieces 31 = .ok (.return_, 1) := by decide +kernel
theorem dX4_init_0 : decode cX4_init 0 = .ok (.aload_n 0, 1) := by decide +kernel
theorem dX4_init_1 : decode cX4_init 1 = .ok (.invokespecial 3, 3) := by decide +kernel
theorem dX4_init_4 : decode cX4_init 4 = .ok (.aload_n 0, 1) := by decide +kernel
theorem dX4_init_5 : decode cX4_init 5 = .ok (.bipush 11, 2) := by decide +kernel
theorem dX4_init_7 : decode cX4_init 7 = .ok (.sipush 501, 3) := by decide +kernel
theorem dX4_init_10 : decode cX4_init 10 = .ok (.multianewarray 9 2, 4) := by decide +kernel
theorem dX4_init_14 : decode cX4_init 14 = .ok (.putfield 11, 3) := by decide +kernel
theorem dX4_init_17 : decode cX4_init 17 = .ok (.aload_n 0, 1) := by decide +kernel
theorem dX4_init_18 : decode cX4_init 18 = .ok (.sipush 501, 3) := by decide +kernel
theorem dX4_init_21 : decode cX4_init 21 = .ok (.newarray .int, 2) := by decide +kernel
theorem dX4_init_23 : decode cX4_init 23 = .ok (.putfield 16, 3) := by decide +kernel
theorem dX4_init_26 : decode cX4_init 26 = .ok (.aload_n 0, 1) := by decide +kernel
theorem dX4_init_27 : decode cX4_init 27 = .ok (.sipush 501, 3) := by decide +kernel
theorem dX4_init_30 : decode cX4_init 30 = .ok (.newarray .int, 2) := by decide +kernel
theorem dX4_init_32 : decode cX4_init 32 = .ok (.putfield 20, 3) := by decide +kernel
theorem dX4_init_35 : decode cX4_init 35 = .ok (.aload_n 0, 1) := by decide +kernel
theorem dX4_init_36 : decode cX4_init 36 = .ok (.bipush 10, 2) := by decide +kernel
theorem dX4_init_38 : decode cX4_init 38 = .ok (.newarray .int, 2) := by decide +kernel
theorem dX4_init_40 : decode cX4_init 40 = .ok (.putfield 23, 3) := by decide +kernel
theorem dX4_init_43 : decode cX4_init 43 = .ok (.aload_n 0, 1) := by decide +kernel
theorem dX4_init_44 : decode cX4_init 44 = .ok (.bipush 10, 2) := by decide +kernel
theorem dX4_init_46 : decode cX4_init 46 = .ok (.newarray .int, 2) := by decide +kernel
theorem dX4_init_48 : decode cX4_init 48 = .ok (.putfield 26, 3) := by decide +kernel
theorem dX4_init_51 : decode cX4_init 51 = .ok (.return_, 1) := by decide +kernel
theorem dX4_stockFrom_0 : decode cX4_stockFrom 0 = .ok (.aload_n 1, 1) := by decide +kernel
theorem dX4_stockFrom_1 : decode cX4_stockFrom 1 = .ok (.getfield 29, 3) := by decide +kernel
theorem dX4_stockFrom_4 : decode cX4_stockFrom 4 = .ok (.iconst 0, 1) := by decide +kernel
theorem dX4_stockFrom_5 : decode cX4_stockFrom 5 = .ok (.aload_n 0, 1) := by decide +kernel
theorem dX4_stockFrom_6 : decode cX4_stockFrom 6 = .ok (.getfield 23, 3) := by decide +kernel
theorem dX4_stockFrom_9 : decode cX4_stockFrom 9 = .ok (.iconst 0, 1) := by decide +kernel
theorem dX4_stockFrom_10 : decode cX4_stockFrom 10 = .ok (.bipush 10, 2) := by decide +kernel
theorem dX4_stockFrom_12 : decode cX4_stockFrom 12 = .ok (.invokestatic 34, 3) := by decide +kernel
theorem dX4_stockFrom_15 : decode cX4_stockFrom 15 = .ok (.return_, 1) := by decide +kernel
theorem dX4_study_0 : decode cX4_study 0 = .ok (.aload_n 0, 1) := by decide +kernel
theorem dX4_study_1 : decode cX4_study 1 = .ok (.getfield 11, 3) := by decide +kernel
theorem dX4_study_4 : decode cX4_study 4 = .ok (.aload_n 1, 1) := by decide +kernel
theorem dX4_study_5 : decode cX4_study 5 = .ok (.getfield 40, 3) := by decide +kernel
theorem dX4_study_8 : decode cX4_study 8 = .ok (.aaload, 1) := by decide +kernel
theorem dX4_study_9 : decode cX4_study 9 = .ok (.astore_n 2, 1) := by decide +kernel
theorem dX4_study_10 : decode cX4_study 10 = .ok (.aload_n 2, 1) := by decide +kernel
theorem dX4_study_11 : decode cX4_study 11 = .ok (.iconst 0, 1) := by decide +kernel
theorem dX4_study_12 : decode cX4_study 12 = .ok (.iconst 0, 1) := by decide +kernel
theorem dX4_study_13 : decode cX4_study 13 = .ok (.iastore, 1) := by decide +kernel
theorem dX4_study_14 : decode cX4_study 14 = .ok (.iconst 1, 1) := by decide +kernel
theorem dX4_study_15 : decode cX4_study 15 = .ok (.istore_n 3, 1) := by decide +kernel
theorem dX4_study_16 : decode cX4_study 16 = .ok (.iload_n 3, 1) := by decide +kernel
theorem dX4_study_17 : decode cX4_study 17 = .ok (.sipush 500, 3) := by decide +kernel
theorem dX4_study_20 : decode cX4_study 20 = .ok (.if_icmp .gt 14, 3) := by decide +kernel
theorem dX4_study_23 : decode cX4_study 23 = .ok (.aload_n 2, 1) := by decide +kernel
theorem dX4_study_24 : decode cX4_study 24 = .ok (.iload_n 3, 1) := by decide +kernel
theorem dX4_study_25 : decode cX4_study 25 = .ok (.ldc 46, 2) := by decide +kernel
theorem dX4_study_27 : decode cX4_study 27 = .ok (.iastore, 1) := by decide +kernel
theorem dX4_study_28 : decode cX4_study 28 = .ok (.iinc 3 1, 3) := by decide +kernel
theorem dX4_study_31 : decode cX4_study 31 = .ok (.goto (-15), 3) := by decide +kernel
theorem dX4_study_34 : decode cX4_study 34 = .ok (.aload_n 0, 1) := by decide +kernel
theorem dX4_study_35 : decode cX4_study 35 = .ok (.aload_n 1, 1) := by decide +kernel
theorem dX4_study_36 : decode cX4_study 36 = .ok (.aload_n 1, 1) := by decide +kernel
theorem dX4_study_37 : decode cX4_study 37 = .ok (.getfield 40, 3) := by decide +kernel
theorem dX4_study_40 : decode cX4_study 40 = .ok (.iconst 1, 1) := by decide +kernel
theorem dX4_study_41 : decode cX4_study 41 = .ok (.isub, 1) := by decide +kernel
theorem dX4_study_42 : decode cX4_study 42 = .ok (.invokevirtual 47, 3) := by decide +kernel
theorem dX4_study_45 : decode cX4_study 45 = .ok (.return_, 1) := by decide +kernel
theorem dX4_studyFrom_0 : decode cX4_studyFrom 0 = .ok (.iload_n 2, 1) := by decide +kernel
theorem dX4_studyFrom_1 : decode cX4_studyFrom 1 = .ok (.istore_n 3, 1) := by decide +kernel
theorem dX4_studyFrom_2 : decode cX4_studyFrom 2 = .ok (.iload_n 3, 1) := by decide +kernel
theorem dX4_studyFrom_3 : decode cX4_studyFrom 3 = .ok (.ifCond .lt 66, 3) := by decide +kernel
theorem dX4_studyFrom_6 : decode cX4_studyFrom 6 = .ok (.aload_n 1, 1) := by decide +kernel
theorem dX4_studyFrom_7 : decode cX4_studyFrom 7 = .ok (.getfield 51, 3) := by decide +kernel
theorem dX4_studyFrom_10 : decode cX4_studyFrom 10 = .ok (.iload_n 3, 1) := by decide +kernel
theorem dX4_studyFrom_11 : decode cX4_studyFrom 11 = .ok (.iaload, 1) := by decide +kernel
theorem dX4_studyFrom_12 : decode cX4_studyFrom 12 = .ok (.istore 4, 2) := by decide +kernel
theorem dX4_studyFrom_14 : decode cX4_studyFrom 14 = .ok (.aload_n 0, 1) := by decide +kernel
theorem dX4_studyFrom_15 : decode cX4_studyFrom 15 = .ok (.getfield 11, 3) := by decide +kernel
theorem dX4_studyFrom_18 : decode cX4_studyFrom 18 = .ok (.iload_n 3, 1) := by decide +kernel
theorem dX4_studyFrom_19 : decode cX4_studyFrom 19 = .ok (.iconst 1, 1) := by decide +kernel
theorem dX4_studyFrom_20 : decode cX4_studyFrom 20 = .ok (.iadd, 1) := by decide +kernel
theorem dX4_studyFrom_21 : decode cX4_studyFrom 21 = .ok (.aaload, 1) := by decide +kernel
theorem dX4_studyFrom_22 : decode cX4_studyFrom 22 = .ok (.iconst 0, 1) := by decide +kernel
theorem dX4_studyFrom_23 : decode cX4_studyFrom 23 = .ok (.aload_n 0, 1) := by decide +kernel
theorem dX4_studyFrom_24 : decode cX4_studyFrom 24 = .ok (.getfield 11, 3) := by decide +kernel
theorem dX4_studyFrom_27 : decode cX4_studyFrom 27 = .ok (.iload_n 3, 1) := by decide +kernel
theorem dX4_studyFrom_28 : decode cX4_studyFrom 28 = .ok (.aaload, 1) := by decide +kernel
theorem dX4_studyFrom_29 : decode cX4_studyFrom 29 = .ok (.iconst 0, 1) := by decide +kernel
theorem dX4_studyFrom_30 : decode cX4_studyFrom 30 = .ok (.sipush 501, 3) := by decide +kernel
theorem dX4_studyFrom_33 : decode cX4_studyFrom 33 = .ok (.invokestatic 34, 3) := by decide +kernel
theorem dX4_studyFrom_36 : decode cX4_studyFrom 36 = .ok (.aload_n 0, 1) := by decide +kernel
theorem dX4_studyFrom_37 : decode cX4_studyFrom 37 = .ok (.getfield 11, 3) := by decide +kernel
theorem dX4_studyFrom_40 : decode cX4_studyFrom 40 = .ok (.iload_n 3, 1) := by decide +kernel
theorem dX4_studyFrom_41 : decode cX4_studyFrom 41 = .ok (.aaload, 1) := by decide +kernel
theorem dX4_studyFrom_42 : decode cX4_studyFrom 42 = .ok (.aload_n 1, 1) := by decide +kernel
theorem dX4_studyFrom_43 : decode cX4_studyFrom 43 = .ok (.getfield 54, 3) := by decide +kernel
theorem dX4_studyFrom_46 : decode cX4_studyFrom 46 = .ok (.aload_n 1, 1) := by decide +kernel
theorem dX4_studyFrom_47 : decode cX4_studyFrom 47 = .ok (.getfield 57, 3) := by decide +kernel
theorem dX4_studyFrom_50 : decode cX4_studyFrom 50 = .ok (.iload 4, 2) := by decide +kernel
theorem dX4_studyFrom_52 : decode cX4_studyFrom 52 = .ok (.iaload, 1) := by decide +kernel
theorem dX4_studyFrom_53 : decode cX4_studyFrom 53 = .ok (.aload_n 0, 1) := by decide +kernel
theorem dX4_studyFrom_54 : decode cX4_studyFrom 54 = .ok (.getfield 23, 3) := by decide +kernel
theorem dX4_studyFrom_57 : decode cX4_studyFrom 57 = .ok (.iload 4, 2) := by decide +kernel
theorem dX4_studyFrom_59 : decode cX4_studyFrom 59 = .ok (.iaload, 1) := by decide +kernel
theorem dX4_studyFrom_60 : decode cX4_studyFrom 60 = .ok (.invokestatic 60, 3) := by decide +kernel
theorem dX4_studyFrom_63 : decode cX4_studyFrom 63 = .ok (.iinc 3 (-1), 3) := by decide +kernel
theorem dX4_studyFrom_66 : decode cX4_studyFrom 66 = .ok (.goto (-64), 3) := by decide +kernel
theorem dX4_studyFrom_69 : decode cX4_studyFrom 69 = .ok (.return_, 1) := by decide +kernel
theorem dX4_addKind_0 : decode cX4_addKind 0 = .ok (.iload_n 2, 1) := by decide +kernel
theorem dX4_addKind_1 : decode cX4_addKind 1 = .ok (.iconst 1, 1) := by decide +kernel
theorem dX4_addKind_2 : decode cX4_addKind 2 = .ok (.if_icmp .ge 4, 3) := by decide +kernel
theorem dX4_addKind_5 : decode cX4_addKind 5 = .ok (.return_, 1) := by decide +kernel
theorem dX4_addKind_6 : decode cX4_addKind 6 = .ok (.iload_n 3, 1) := by decide +kernel
theorem dX4_addKind_7 : decode cX4_addKind 7 = .ok (.iload_n 1, 1) := by decide +kernel
theorem dX4_addKind_8 : decode cX4_addKind 8 = .ok (.iload_n 2, 1) := by decide +kernel
theorem dX4_addKind_9 : decode cX4_addKind 9 = .ok (.idiv, 1) := by decide +kernel
theorem dX4_addKind_10 : decode cX4_addKind 10 = .ok (.invokestatic 64, 3) := by decide +kernel
theorem dX4_addKind_13 : decode cX4_addKind 13 = .ok (.istore 4, 2) := by decide +kernel
theorem dX4_addKind_15 : decode cX4_addKind 15 = .ok (.iconst 1, 1) := by decide +kernel
theorem dX4_addKind_16 : decode cX4_addKind 16 = .ok (.istore 5, 2) := by decide +kernel
theorem dX4_addKind_18 : decode cX4_addKind 18 = .ok (.iload 4, 2) := by decide +kernel
theorem dX4_addKind_20 : decode cX4_addKind 20 = .ok (.ifCond .le 47, 3) := by decide +kernel
theorem dX4_addKind_23 : decode cX4_addKind 23 = .ok (.iload 5, 2) := by decide +kernel
theorem dX4_addKind_25 : decode cX4_addKind 25 = .ok (.sipush 500, 3) := by decide +kernel
theorem dX4_addKind_28 : decode cX4_addKind 28 = .ok (.if_icmp .gt 39, 3) := by decide +kernel
theorem dX4_addKind_31 : decode cX4_addKind 31 = .ok (.iload 5, 2) := by decide +kernel
theorem dX4_addKind_33 : decode cX4_addKind 33 = .ok (.iload 4, 2) := by decide +kernel
theorem dX4_addKind_35 : decode cX4_addKind 35 = .ok (.invokestatic 64, 3) := by decide +kernel
theorem dX4_addKind_38 : decode cX4_addKind 38 = .ok (.istore 6, 2) := by decide +kernel
theorem dX4_addKind_40 : decode cX4_addKind 40 = .ok (.aload_n 0, 1) := by decide +kernel
theorem dX4_addKind_41 : decode cX4_addKind 41 = .ok (.iload_n 1, 1) := by decide +kernel
theorem dX4_addKind_42 : decode cX4_addKind 42 = .ok (.iload_n 2, 1) := by decide +kernel
theorem dX4_addKind_43 : decode cX4_addKind 43 = .ok (.iload 6, 2) := by decide +kernel
theorem dX4_addKind_45 : decode cX4_addKind 45 = .ok (.imul, 1) := by decide +kernel
theorem dX4_addKind_46 : decode cX4_addKind 46 = .ok (.iload 6, 2) := by decide +kernel
theorem dX4_addKind_48 : decode cX4_addKind 48 = .ok (.invokestatic 70, 3) := by decide +kernel
theorem dX4_addKind_51 : decode cX4_addKind 51 = .ok (.iload 4, 2) := by decide +kernel
theorem dX4_addKind_53 : decode cX4_addKind 53 = .ok (.iload 6, 2) := by decide +kernel
theorem dX4_addKind_55 : decode cX4_addKind 55 = .ok (.isub, 1) := by decide +kernel
theorem dX4_addKind_56 : decode cX4_addKind 56 = .ok (.istore 4, 2) := by decide +kernel
theorem dX4_addKind_58 : decode cX4_addKind 58 = .ok (.iload 5, 2) := by decide +kernel
theorem dX4_addKind_60 : decode cX4_addKind 60 = .ok (.iconst 2, 1) := by decide +kernel
theorem dX4_addKind_61 : decode cX4_addKind 61 = .ok (.imul, 1) := by decide +kernel
theorem dX4_addKind_62 : decode cX4_addKind 62 = .ok (.istore 5, 2) := by decide +kernel
theorem dX4_addKind_64 : decode cX4_addKind 64 = .ok (.goto (-46), 3) := by decide +kernel
theorem dX4_addKind_67 : decode cX4_addKind 67 = .ok (.return_, 1) := by decide +kernel
theorem dX4_addBundle_0 : decode cX4_addBundle 0 = .ok (.iload_n 1, 1) := by decide +kernel
theorem dX4_addBundle_1 : decode cX4_addBundle 1 = .ok (.aload_n 0, 1) := by decide +kernel
theorem dX4_addBundle_2 : decode cX4_addBundle 2 = .ok (.arraylength, 1) := by decide +kernel
theorem dX4_addBundle_3 : decode cX4_addBundle 3 = .ok (.iconst 1, 1) := by decide +kernel
theorem dX4_addBundle_4 : decode cX4_addBundle 4 = .ok (.isub, 1) := by decide +kernel
theorem dX4_addBundle_5 : decode cX4_addBundle 5 = .ok (.invokestatic 64, 3) := by decide +kernel
theorem dX4_addBundle_8 : decode cX4_addBundle 8 = .ok (.istore 4, 2) := by decide +kernel
theorem dX4_addBundle_10 : decode cX4_addBundle 10 = .ok (.iload 4, 2) := by decide +kernel
theorem dX4_addBundle_12 : decode cX4_addBundle 12 = .ok (.iload_n 2, 1) := by decide +kernel
theorem dX4_addBundle_13 : decode cX4_addBundle 13 = .ok (.if_icmp .lt 34, 3) := by decide +kernel
theorem dX4_addBundle_16 : decode cX4_addBundle 16 = .ok (.aload_n 0, 1) := by decide +kernel
theorem dX4_addBundle_17 : decode cX4_addBundle 17 = .ok (.iload 4, 2) := by decide +kernel
theorem dX4_addBundle_19 : decode cX4_addBundle 19 = .ok (.iload_n 2, 1) := by decide +kernel
theorem dX4_addBundle_20 : decode cX4_addBundle 20 = .ok (.isub, 1) := by decide +kernel
theorem dX4_addBundle_21 : decode cX4_addBundle 21 = .ok (.iaload, 1) := by decide +kernel
theorem dX4_addBundle_22 : decode cX4_addBundle 22 = .ok (.iload_n 3, 1) := by decide +kernel
theorem dX4_addBundle_23 : decode cX4_addBundle 23 = .ok (.iadd, 1) := by decide +kernel
theorem dX4_addBundle_24 : decode cX4_addBundle 24 = .ok (.istore 5, 2) := by decide +kernel
theorem dX4_addBundle_26 : decode cX4_addBundle 26 = .ok (.iload 5, 2) := by decide +kernel
theorem dX4_addBundle_28 : decode cX4_addBundle 28 = .ok (.aload_n 0, 1) := by decide +kernel
theorem dX4_addBundle_29 : decode cX4_addBundle 29 = .ok (.iload 4, 2) := by decide +kernel
theorem dX4_addBundle_31 : decode cX4_addBundle 31 = .ok (.iaload, 1) := by decide +kernel
theorem dX4_addBundle_32 : decode cX4_addBundle 32 = .ok (.if_icmp .ge 9, 3) := by decide +kernel
theorem dX4_addBundle_35 : decode cX4_addBundle 35 = .ok (.aload_n 0, 1) := by decide +kernel
theorem dX4_addBundle_36 : decode cX4_addBundle 36 = .ok (.iload 4, 2) := by decide +kernel
theorem dX4_addBundle_38 : decode cX4_addBundle 38 = .ok (.iload 5, 2) := by decide +kernel
theorem dX4_addBundle_40 : decode cX4_addBundle 40 = .ok (.iastore, 1) := by decide +kernel
theorem dX4_addBundle_41 : decode cX4_addBundle 41 = .ok (.iinc 4 (-1), 3) := by decide +kernel
theorem dX4_addBundle_44 : decode cX4_addBundle 44 = .ok (.goto (-34), 3) := by decide +kernel
theorem dX4_addBundle_47 : decode cX4_addBundle 47 = .ok (.return_, 1) := by decide +kernel
theorem dX4_canMake_0 : decode cX4_canMake 0 = .ok (.iload_n 1, 1) := by decide +kernel
theorem dX4_canMake_1 : decode cX4_canMake 1 = .ok (.ifCond .lt 27, 3) := by decide +kernel
theorem dX4_canMake_4 : decode cX4_canMake 4 = .ok (.iload_n 1, 1) := by decide +kernel
theorem dX4_canMake_5 : decode cX4_canMake 5 = .ok (.sipush 500, 3) := by decide +kernel
theorem dX4_canMake_8 : decode cX4_canMake 8 = .ok (.if_icmp .gt 20, 3) := by decide +kernel
theorem dX4_canMake_11 : decode cX4_canMake 11 = .ok (.aload_n 0, 1) := by decide +kernel
theorem dX4_canMake_12 : decode cX4_canMake 12 = .ok (.getfield 11, 3) := by decide +kernel
theorem dX4_canMake_15 : decode cX4_canMake 15 = .ok (.iconst 0, 1) := by decide +kernel
theorem dX4_canMake_16 : decode cX4_canMake 16 = .ok (.aaload, 1) := by decide +kernel
theorem dX4_canMake_17 : decode cX4_canMake 17 = .ok (.iload_n 1, 1) := by decide +kernel
theorem dX4_canMake_18 : decode cX4_canMake 18 = .ok (.iaload, 1) := by decide +kernel
theorem dX4_canMake_19 : decode cX4_canMake 19 = .ok (.ldc 46, 2) := by decide +kernel
theorem dX4_canMake_21 : decode cX4_canMake 21 = .ok (.if_icmp .ge 7, 3) := by decide +kernel
theorem dX4_canMake_24 : decode cX4_canMake 24 = .ok (.iconst 1, 1) := by decide +kernel
theorem dX4_canMake_25 : decode cX4_canMake 25 = .ok (.goto 4, 3) := by decide +kernel
theorem dX4_canMake_28 : decode cX4_canMake 28 = .ok (.iconst 0, 1) := by decide +kernel
theorem dX4_canMake_29 : decode cX4_canMake 29 = .ok (.ireturn, 1) := by decide +kernel
theorem dX4_choose_0 : decode cX4_choose 0 = .ok (.aload_n 0, 1) := by decide +kernel
theorem dX4_choose_1 : decode cX4_choose 1 = .ok (.ldc 46, 2) := by decide +kernel
theorem dX4_choose_3 : decode cX4_choose 3 = .ok (.putfield 73, 3) := by decide +kernel
theorem dX4_choose_6 : decode cX4_choose 6 = .ok (.iload_n 3, 1) := by decide +kernel
theorem dX4_choose_7 : decode cX4_choose 7 = .ok (.ifCond .eq 39, 3) := by decide +kernel
theorem dX4_choose_10 : decode cX4_choose 10 = .ok (.iconst 0, 1) := by decide +kernel
theorem dX4_choose_11 : decode cX4_choose 11 = .ok (.istore 4, 2) := by decide +kernel
theorem dX4_choose_13 : decode cX4_choose 13 = .ok (.iload 4, 2) := by decide +kernel
theorem dX4_choose_15 : decode cX4_choose 15 = .ok (.aload_n 1, 1) := by decide +kernel
theorem dX4_choose_16 : decode cX4_choose 16 = .ok (.getfield 76, 3) := by decide +kernel
theorem dX4_choose_19 : decode cX4_choose 19 = .ok (.if_icmp .gt 24, 3) := by decide +kernel
theorem dX4_choose_22 : decode cX4_choose 22 = .ok (.aload_n 0, 1) := by decide +kernel
theorem dX4_choose_23 : decode cX4_choose 23 = .ok (.iload_n 2, 1) := by decide +kernel
theorem dX4_choose_24 : decode cX4_choose 24 = .ok (.aload_n 1, 1) := by decide +kernel
theorem dX4_choose_25 : decode cX4_choose 25 = .ok (.getfield 79, 3) := by decide +kernel
theorem dX4_choose_28 : decode cX4_choose 28 = .ok (.isub, 1) := by decide +kernel
theorem dX4_choose_29 : decode cX4_choose 29 = .ok (.iload 4, 2) := by decide +kernel
theorem dX4_choose_31 : decode cX4_choose 31 = .ok (.isub, 1) := by decide +kernel
theorem dX4_choose_32 : decode cX4_choose 32 = .ok (.iload 4, 2) := by decide +kernel
theorem dX4_choose_34 : decode cX4_choose 34 = .ok (.invokevirtual 82, 3) := by decide +kernel
theorem dX4_choose_37 : decode cX4_choose 37 = .ok (.iinc 4 1, 3) := by decide +kernel
theorem dX4_choose_40 : decode cX4_choose 40 = .ok (.goto (-27), 3) := by decide +kernel
theorem dX4_choose_43 : decode cX4_choose 43 = .ok (.goto 9, 3) := by decide +kernel
theorem dX4_choose_46 : decode cX4_choose 46 = .ok (.aload_n 0, 1) := by decide +kernel
theorem dX4_choose_47 : decode cX4_choose 47 = .ok (.iload_n 2, 1) := by decide +kernel
theorem dX4_choose_48 : decode cX4_choose 48 = .ok (.iconst (-1), 1) := by decide +kernel
theorem dX4_choose_49 : decode cX4_choose 49 = .ok (.invokevirtual 82, 3) := by decide +kernel
theorem dX4_choose_52 : decode cX4_choose 52 = .ok (.aload_n 0, 1) := by decide +kernel
theorem dX4_choose_53 : decode cX4_choose 53 = .ok (.getfield 73, 3) := by decide +kernel
theorem dX4_choose_56 : decode cX4_choose 56 = .ok (.ldc 46, 2) := by decide +kernel
theorem dX4_choose_58 : decode cX4_choose 58 = .ok (.if_icmp .ne 5, 3) := by decide +kernel
theorem dX4_choose_61 : decode cX4_choose 61 = .ok (.iconst 0, 1) := by decide +kernel
theorem dX4_choose_62 : decode cX4_choose 62 = .ok (.ireturn, 1) := by decide +kernel
theorem dX4_choose_63 : decode cX4_choose 63 = .ok (.aload_n 0, 1) := by decide +kernel
theorem dX4_choose_64 : decode cX4_choose 64 = .ok (.aload_n 1, 1) := by decide +kernel
theorem dX4_choose_65 : decode cX4_choose 65 = .ok (.invokevirtual 86, 3) := by decide +kernel
theorem dX4_choose_68 : decode cX4_choose 68 = .ok (.iconst 1, 1) := by decide +kernel
theorem dX4_choose_69 : decode cX4_choose 69 = .ok (.ireturn, 1) := by decide +kernel
theorem dX4_chooseIfFewer_0 : decode cX4_chooseIfFewer 0 = .ok (.aload_n 0, 1) := by decide +kernel
theorem dX4_chooseIfFewer_1 : decode cX4_chooseIfFewer 1 = .ok (.iload_n 1, 1) := by decide +kernel
theorem dX4_chooseIfFewer_2 : decode cX4_chooseIfFewer 2 = .ok (.invokevirtual 90, 3) := by decide +kernel
theorem dX4_chooseIfFewer_5 : decode cX4_chooseIfFewer 5 = .ok (.ifCond .eq 40, 3) := by decide +kernel
theorem dX4_chooseIfFewer_8 : decode cX4_chooseIfFewer 8 = .ok (.aload_n 0, 1) := by decide +kernel
theorem dX4_chooseIfFewer_9 : decode cX4_chooseIfFewer 9 = .ok (.getfield 11, 3) := by decide +kernel
theorem dX4_chooseIfFewer_12 : decode cX4_chooseIfFewer 12 = .ok (.iconst 0, 1) := by decide +kernel
theorem dX4_chooseIfFewer_13 : decode cX4_chooseIfFewer 13 = .ok (.aaload, 1) := by decide +kernel
theorem dX4_chooseIfFewer_14 : decode cX4_chooseIfFewer 14 = .ok (.iload_n 1, 1) := by decide +kernel
theorem dX4_chooseIfFewer_15 : decode cX4_chooseIfFewer 15 = .ok (.iaload, 1) := by decide +kernel
theorem dX4_chooseIfFewer_16 : decode cX4_chooseIfFewer 16 = .ok (.aload_n 0, 1) := by decide +kernel
theorem dX4_chooseIfFewer_17 : decode cX4_chooseIfFewer 17 = .ok (.getfield 73, 3) := by decide +kernel
theorem dX4_chooseIfFewer_20 : decode cX4_chooseIfFewer 20 = .ok (.if_icmp .ge 25, 3) := by decide +kernel
theorem dX4_chooseIfFewer_23 : decode cX4_chooseIfFewer 23 = .ok (.aload_n 0, 1) := by decide +kernel
theorem dX4_chooseIfFewer_24 : decode cX4_chooseIfFewer 24 = .ok (.aload_n 0, 1) := by decide +kernel
theorem dX4_chooseIfFewer_25 : decode cX4_chooseIfFewer 25 = .ok (.getfield 11, 3) := by decide +kernel
theorem dX4_chooseIfFewer_28 : decode cX4_chooseIfFewer 28 = .ok (.iconst 0, 1) := by decide +kernel
theorem dX4_chooseIfFewer_29 : decode cX4_chooseIfFewer 29 = .ok (.aaload, 1) := by decide +kernel
theorem dX4_chooseIfFewer_30 : decode cX4_chooseIfFewer 30 = .ok (.iload_n 1, 1) := by decide +kernel
theorem dX4_chooseIfFewer_31 : decode cX4_chooseIfFewer 31 = .ok (.iaload, 1) := by decide +kernel
theorem dX4_chooseIfFewer_32 : decode cX4_chooseIfFewer 32 = .ok (.putfield 73, 3) := by decide +kernel
theorem dX4_chooseIfFewer_35 : decode cX4_chooseIfFewer 35 = .ok (.aload_n 0, 1) := by decide +kernel
theorem dX4_chooseIfFewer_36 : decode cX4_chooseIfFewer 36 = .ok (.iload_n 1, 1) := by decide +kernel
theorem dX4_chooseIfFewer_37 : decode cX4_chooseIfFewer 37 = .ok (.putfield 94, 3) := by decide +kernel
theorem dX4_chooseIfFewer_40 : decode cX4_chooseIfFewer 40 = .ok (.aload_n 0, 1) := by decide +kernel
theorem dX4_chooseIfFewer_41 : decode cX4_chooseIfFewer 41 = .ok (.iload_n 2, 1) := by decide +kernel
theorem dX4_chooseIfFewer_42 : decode cX4_chooseIfFewer 42 = .ok (.putfield 97, 3) := by decide +kernel
theorem dX4_chooseIfFewer_45 : decode cX4_chooseIfFewer 45 = .ok (.return_, 1) := by decide +kernel
theorem dX4_takeLongestFirst_0 : decode cX4_takeLongestFirst 0 = .ok (.aload_n 0, 1) := by decide +kernel
theorem dX4_takeLongestFirst_1 : decode cX4_takeLongestFirst 1 = .ok (.getfield 94, 3) := by decide +kernel
theorem dX4_takeLongestFirst_4 : decode cX4_takeLongestFirst 4 = .ok (.istore_n 2, 1) := by decide +kernel
theorem dX4_takeLongestFirst_5 : decode cX4_takeLongestFirst 5 = .ok (.iconst 0, 1) := by decide +kernel
theorem dX4_takeLongestFirst_6 : decode cX4_takeLongestFirst 6 = .ok (.istore_n 3, 1) := by decide +kernel
theorem dX4_takeLongestFirst_7 : decode cX4_takeLongestFirst 7 = .ok (.iload_n 3, 1) := by decide +kernel
theorem dX4_takeLongestFirst_8 : decode cX4_takeLongestFirst 8 = .ok (.aload_n 1, 1) := by decide +kernel
theorem dX4_takeLongestFirst_9 : decode cX4_takeLongestFirst 9 = .ok (.getfield 40, 3) := by decide +kernel
theorem dX4_takeLongestFirst_12 : decode cX4_takeLongestFirst 12 = .ok (.if_icmp .ge 62, 3) := by decide +kernel
theorem dX4_takeLongestFirst_15 : decode cX4_takeLongestFirst 15 = .ok (.aload_n 1, 1) := by decide +kernel
theorem dX4_takeLongestFirst_16 : decode cX4_takeLongestFirst 16 = .ok (.getfield 51, 3) := by decide +kernel
theorem dX4_takeLongestFirst_19 : decode cX4_takeLongestFirst 19 = .ok (.iload_n 3, 1) := by decide +kernel
theorem dX4_takeLongestFirst_20 : decode cX4_takeLongestFirst 20 = .ok (.iaload, 1) := by decide +kernel
theorem dX4_takeLongestFirst_21 : decode cX4_takeLongestFirst 21 = .ok (.istore 4, 2) := by decide +kernel
theorem dX4_takeLongestFirst_23 : decode cX4_takeLongestFirst 23 = .ok (.aload_n 0, 1) := by decide +kernel
theorem dX4_takeLongestFirst_24 : decode cX4_takeLongestFirst 24 = .ok (.getfield 26, 3) := by decide +kernel
theorem dX4_takeLongestFirst_27 : decode cX4_takeLongestFirst 27 = .ok (.iload 4, 2) := by decide +kernel
theorem dX4_takeLongestFirst_29 : decode cX4_takeLongestFirst 29 = .ok (.aload_n 0, 1) := by decide +kernel
theorem dX4_takeLongestFirst_30 : decode cX4_takeLongestFirst 30 = .ok (.iload_n 3, 1) := by decide +kernel
theorem dX4_takeLongestFirst_31 : decode cX4_takeLongestFirst 31 = .ok (.iload_n 2, 1) := by decide +kernel
theorem dX4_takeLongestFirst_32 : decode cX4_takeLongestFirst 32 = .ok (.aload_n 1, 1) := by decide +kernel
theorem dX4_takeLongestFirst_33 : decode cX4_takeLongestFirst 33 = .ok (.getfield 57, 3) := by decide +kernel
theorem dX4_takeLongestFirst_36 : decode cX4_takeLongestFirst 36 = .ok (.iload 4, 2) := by decide +kernel
theorem dX4_takeLongestFirst_38 : decode cX4_takeLongestFirst 38 = .ok (.iaload, 1) := by decide +kernel
theorem dX4_takeLongestFirst_39 : decode cX4_takeLongestFirst 39 = .ok (.aload_n 0, 1) := by decide +kernel
theorem dX4_takeLongestFirst_40 : decode cX4_takeLongestFirst 40 = .ok (.getfield 23, 3) := by decide +kernel
theorem dX4_takeLongestFirst_43 : decode cX4_takeLongestFirst 43 = .ok (.iload 4, 2) := by decide +kernel
theorem dX4_takeLongestFirst_45 : decode cX4_takeLongestFirst 45 = .ok (.iaload, 1) := by decide +kernel
theorem dX4_takeLongestFirst_46 : decode cX4_takeLongestFirst 46 = .ok (.invokevirtual 100, 3) := by decide +kernel
theorem dX4_takeLongestFirst_49 : decode cX4_takeLongestFirst 49 = .ok (.iastore, 1) := by decide +kernel
theorem dX4_takeLongestFirst_50 : decode cX4_takeLongestFirst 50 = .ok (.iload_n 2, 1) := by decide +kernel
theorem dX4_takeLongestFirst_51 : decode cX4_takeLongestFirst 51 = .ok (.aload_n 0, 1) := by decide +kernel
theorem dX4_takeLongestFirst_52 : decode cX4_takeLongestFirst 52 = .ok (.getfield 26, 3) := by decide +kernel
theorem dX4_takeLongestFirst_55 : decode cX4_takeLongestFirst 55 = .ok (.iload 4, 2) := by decide +kernel
theorem dX4_takeLongestFirst_57 : decode cX4_takeLongestFirst 57 = .ok (.iaload, 1) := by decide +kernel
theorem dX4_takeLongestFirst_58 : decode cX4_takeLongestFirst 58 = .ok (.aload_n 1, 1) := by decide +kernel
theorem dX4_takeLongestFirst_59 : decode cX4_takeLongestFirst 59 = .ok (.getfield 57, 3) := by decide +kernel
theorem dX4_takeLongestFirst_62 : decode cX4_takeLongestFirst 62 = .ok (.iload 4, 2) := by decide +kernel
theorem dX4_takeLongestFirst_64 : decode cX4_takeLongestFirst 64 = .ok (.iaload, 1) := by decide +kernel
theorem dX4_takeLongestFirst_65 : decode cX4_takeLongestFirst 65 = .ok (.imul, 1) := by decide +kernel
theorem dX4_takeLongestFirst_66 : decode cX4_takeLongestFirst 66 = .ok (.isub, 1) := by decide +kernel
theorem dX4_takeLongestFirst_67 : decode cX4_takeLongestFirst 67 = .ok (.istore_n 2, 1) := by decide +kernel
theorem dX4_takeLongestFirst_68 : decode cX4_takeLongestFirst 68 = .ok (.iinc 3 1, 3) := by decide +kernel
theorem dX4_takeLongestFirst_71 : decode cX4_takeLongestFirst 71 = .ok (.goto (-64), 3) := by decide +kernel
theorem dX4_takeLongestFirst_74 : decode cX4_takeLongestFirst 74 = .ok (.return_, 1) := by decide +kernel
theorem dX4_mostAt_0 : decode cX4_mostAt 0 = .ok (.iload_n 3, 1) := by decide +kernel
theorem dX4_mostAt_1 : decode cX4_mostAt 1 = .ok (.iconst 1, 1) := by decide +kernel
theorem dX4_mostAt_2 : decode cX4_mostAt 2 = .ok (.if_icmp .lt 14, 3) := by decide +kernel
theorem dX4_mostAt_5 : decode cX4_mostAt 5 = .ok (.iload_n 2, 1) := by decide +kernel
theorem dX4_mostAt_6 : decode cX4_mostAt 6 = .ok (.ifCond .lt 10, 3) := by decide +kernel
theorem dX4_mostAt_9 : decode cX4_mostAt 9 = .ok (.iload_n 2, 1) := by decide +kernel
theorem dX4_mostAt_10 : decode cX4_mostAt 10 = .ok (.sipush 500, 3) := by decide +kernel
theorem dX4_mostAt_13 : decode cX4_mostAt 13 = .ok (.if_icmp .le 5, 3) := by decide +kernel
theorem dX4_mostAt_16 : decode cX4_mostAt 16 = .ok (.iconst 0, 1) := by decide +kernel
theorem dX4_mostAt_17 : decode cX4_mostAt 17 = .ok (.ireturn, 1) := by decide +kernel
theorem dX4_mostAt_18 : decode cX4_mostAt 18 = .ok (.iload 4, 2) := by decide +kernel
theorem dX4_mostAt_20 : decode cX4_mostAt 20 = .ok (.iload_n 2, 1) := by decide +kernel
theorem dX4_mostAt_21 : decode cX4_mostAt 21 = .ok (.iload_n 3, 1) := by decide +kernel
theorem dX4_mostAt_22 : decode cX4_mostAt 22 = .ok (.idiv, 1) := by decide +kernel
theorem dX4_mostAt_23 : decode cX4_mostAt 23 = .ok (.invokestatic 64, 3) := by decide +kernel
theorem dX4_mostAt_26 : decode cX4_mostAt 26 = .ok (.istore 5, 2) := by decide +kernel
theorem dX4_mostAt_28 : decode cX4_mostAt 28 = .ok (.iload 5, 2) := by decide +kernel
theorem dX4_mostAt_30 : decode cX4_mostAt 30 = .ok (.ifCond .le 41, 3) := by decide +kernel
theorem dX4_mostAt_33 : decode cX4_mostAt 33 = .ok (.aload_n 0, 1) := by decide +kernel
theorem dX4_mostAt_34 : decode cX4_mostAt 34 = .ok (.getfield 11, 3) := by decide +kernel
theorem dX4_mostAt_37 : decode cX4_mostAt 37 = .ok (.iload_n 1, 1) := by decide +kernel
theorem dX4_mostAt_38 : decode cX4_mostAt 38 = .ok (.iconst 1, 1) := by decide +kernel
theorem dX4_mostAt_39 : decode cX4_mostAt 39 = .ok (.iadd, 1) := by decide +kernel
theorem dX4_mostAt_40 : decode cX4_mostAt 40 = .ok (.aaload, 1) := by decide +kernel
theorem dX4_mostAt_41 : decode cX4_mostAt 41 = .ok (.iload_n 2, 1) := by decide +kernel
theorem dX4_mostAt_42 : decode cX4_mostAt 42 = .ok (.iload 5, 2) := by decide +kernel
theorem dX4_mostAt_44 : decode cX4_mostAt 44 = .ok (.iload_n 3, 1) := by decide +kernel
theorem dX4_mostAt_45 : decode cX4_mostAt 45 = .ok (.imul, 1) := by decide +kernel
theorem dX4_mostAt_46 : decode cX4_mostAt 46 = .ok (.isub, 1) := by decide +kernel
theorem dX4_mostAt_47 : decode cX4_mostAt 47 = .ok (.iaload, 1) := by decide +kernel
theorem dX4_mostAt_48 : decode cX4_mostAt 48 = .ok (.iload 5, 2) := by decide +kernel
theorem dX4_mostAt_50 : decode cX4_mostAt 50 = .ok (.iadd, 1) := by decide +kernel
theorem dX4_mostAt_51 : decode cX4_mostAt 51 = .ok (.aload_n 0, 1) := by decide +kernel
theorem dX4_mostAt_52 : decode cX4_mostAt 52 = .ok (.getfield 11, 3) := by decide +kernel
theorem dX4_mostAt_55 : decode cX4_mostAt 55 = .ok (.iload_n 1, 1) := by decide +kernel
theorem dX4_mostAt_56 : decode cX4_mostAt 56 = .ok (.aaload, 1) := by decide +kernel
theorem dX4_mostAt_57 : decode cX4_mostAt 57 = .ok (.iload_n 2, 1) := by decide +kernel
theorem dX4_mostAt_58 : decode cX4_mostAt 58 = .ok (.iaload, 1) := by decide +kernel
theorem dX4_mostAt_59 : decode cX4_mostAt 59 = .ok (.if_icmp .ne 6, 3) := by decide +kernel
theorem dX4_mostAt_62 : decode cX4_mostAt 62 = .ok (.iload 5, 2) := by decide +kernel
theorem dX4_mostAt_64 : decode cX4_mostAt 64 = .ok (.ireturn, 1) := by decide +kernel
theorem dX4_mostAt_65 : decode cX4_mostAt 65 = .ok (.iinc 5 (-1), 3) := by decide +kernel
theorem dX4_mostAt_68 : decode cX4_mostAt 68 = .ok (.goto (-40), 3) := by decide +kernel
theorem dX4_mostAt_71 : decode cX4_mostAt 71 = .ok (.iconst 0, 1) := by decide +kernel
theorem dX4_mostAt_72 : decode cX4_mostAt 72 = .ok (.ireturn, 1) := by decide +kernel
theorem dX4_woodTaken_0 : decode cX4_woodTaken 0 = .ok (.iconst 0, 1) := by decide +kernel
theorem dX4_woodTaken_1 : decode cX4_woodTaken 1 = .ok (.istore_n 2, 1) := by decide +kernel
theorem dX4_woodTaken_2 : decode cX4_woodTaken 2 = .ok (.iconst 0, 1) := by decide +kernel
theorem dX4_woodTaken_3 : decode cX4_woodTaken 3 = .ok (.istore_n 3, 1) := by decide +kernel
theorem dX4_woodTaken_4 : decode cX4_woodTaken 4 = .ok (.iload_n 3, 1) := by decide +kernel
theorem dX4_woodTaken_5 : decode cX4_woodTaken 5 = .ok (.aload_n 1, 1) := by decide +kernel
theorem dX4_woodTaken_6 : decode cX4_woodTaken 6 = .ok (.getfield 40, 3) := by decide +kernel
theorem dX4_woodTaken_9 : decode cX4_woodTaken 9 = .ok (.if_icmp .ge 27, 3) := by decide +kernel
theorem dX4_woodTaken_12 : decode cX4_woodTaken 12 = .ok (.aload_n 1, 1) := by decide +kernel
theorem dX4_woodTaken_13 : decode cX4_woodTaken 13 = .ok (.getfield 104, 3) := by decide +kernel
theorem dX4_woodTaken_16 : decode cX4_woodTaken 16 = .ok (.iload_n 3, 1) := by decide +kernel
theorem dX4_woodTaken_17 : decode cX4_woodTaken 17 = .ok (.baload, 1) := by decide +kernel
theorem dX4_woodTaken_18 : decode cX4_woodTaken 18 = .ok (.ifCond .ne 12, 3) := by decide +kernel
theorem dX4_woodTaken_21 : decode cX4_woodTaken 21 = .ok (.iload_n 2, 1) := by decide +kernel
theorem dX4_woodTaken_22 : decode cX4_woodTaken 22 = .ok (.aload_n 0, 1) := by decide +kernel
theorem dX4_woodTaken_23 : decode cX4_woodTaken 23 = .ok (.getfield 26, 3) := by decide +kernel
theorem dX4_woodTaken_26 : decode cX4_woodTaken 26 = .ok (.iload_n 3, 1) := by decide +kernel
theorem dX4_woodTaken_27 : decode cX4_woodTaken 27 = .ok (.iaload, 1) := by decide +kernel
theorem dX4_woodTaken_28 : decode cX4_woodTaken 28 = .ok (.iadd, 1) := by decide +kernel
theorem dX4_woodTaken_29 : decode cX4_woodTaken 29 = .ok (.istore_n 2, 1) := by decide +kernel
theorem dX4_woodTaken_30 : decode cX4_woodTaken 30 = .ok (.iinc 3 1, 3) := by decide +kernel
theorem dX4_woodTaken_33 : decode cX4_woodTaken 33 = .ok (.goto (-29), 3) := by decide +kernel
theorem dX4_woodTaken_36 : decode cX4_woodTaken 36 = .ok (.iload_n 2, 1) := by decide +kernel
