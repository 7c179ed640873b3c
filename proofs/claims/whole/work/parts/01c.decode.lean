theorem dX0_init_0 : decode cX0_init 0 = .ok (.aload_n 0, 1) := by decide +kernel
theorem dX0_init_1 : decode cX0_init 1 = .ok (.invokespecial 3, 3) := by decide +kernel
theorem dX0_init_4 : decode cX0_init 4 = .ok (.aload_n 0, 1) := by decide +kernel
theorem dX0_init_5 : decode cX0_init 5 = .ok (.bipush 8, 2) := by decide +kernel
theorem dX0_init_7 : decode cX0_init 7 = .ok (.anewarray 9, 3) := by decide +kernel
theorem dX0_init_10 : decode cX0_init 10 = .ok (.putfield 11, 3) := by decide +kernel
theorem dX0_init_13 : decode cX0_init 13 = .ok (.iconst 0, 1) := by decide +kernel
theorem dX0_init_14 : decode cX0_init 14 = .ok (.istore_n 1, 1) := by decide +kernel
theorem dX0_init_15 : decode cX0_init 15 = .ok (.iload_n 1, 1) := by decide +kernel
theorem dX0_init_16 : decode cX0_init 16 = .ok (.bipush 8, 2) := by decide +kernel
theorem dX0_init_18 : decode cX0_init 18 = .ok (.if_icmp .ge 22, 3) := by decide +kernel
theorem dX0_init_21 : decode cX0_init 21 = .ok (.aload_n 0, 1) := by decide +kernel
theorem dX0_init_22 : decode cX0_init 22 = .ok (.getfield 11, 3) := by decide +kernel
theorem dX0_init_25 : decode cX0_init 25 = .ok (.iload_n 1, 1) := by decide +kernel
theorem dX0_init_26 : decode cX0_init 26 = .ok (.new 9, 3) := by decide +kernel
theorem dX0_init_29 : decode cX0_init 29 = .ok (.dup, 1) := by decide +kernel
theorem dX0_init_30 : decode cX0_init 30 = .ok (.invokespecial 17, 3) := by decide +kernel
theorem dX0_init_33 : decode cX0_init 33 = .ok (.aastore, 1) := by decide +kernel
theorem dX0_init_34 : decode cX0_init 34 = .ok (.iinc 1 1, 3) := by decide +kernel
theorem dX0_init_37 : decode cX0_init 37 = .ok (.goto (-22), 3) := by decide +kernel
theorem dX0_init_40 : decode cX0_init 40 = .ok (.return_, 1) := by decide +kernel
theorem dX0_clear_0 : decode cX0_clear 0 = .ok (.aload_n 0, 1) := by decide +kernel
theorem dX0_clear_1 : decode cX0_clear 1 = .ok (.iconst 0, 1) := by decide +kernel
theorem dX0_clear_2 : decode cX0_clear 2 = .ok (.putfield 18, 3) := by decide +kernel
theorem dX0_clear_5 : decode cX0_clear 5 = .ok (.return_, 1) := by decide +kernel
theorem dX0_remember_0 : decode cX0_remember 0 = .ok (.aload_n 0, 1) := by decide +kernel
theorem dX0_remember_1 : decode cX0_remember 1 = .ok (.getfield 11, 3) := by decide +kernel
theorem dX0_remember_4 : decode cX0_remember 4 = .ok (.aload_n 0, 1) := by decide +kernel
theorem dX0_remember_5 : decode cX0_remember 5 = .ok (.getfield 22, 3) := by decide +kernel
theorem dX0_remember_8 : decode cX0_remember 8 = .ok (.aaload, 1) := by decide +kernel
theorem dX0_remember_9 : decode cX0_remember 9 = .ok (.aload_n 1, 1) := by decide +kernel
theorem dX0_remember_10 : decode cX0_remember 10 = .ok (.invokevirtual 25, 3) := by decide +kernel
theorem dX0_remember_13 : decode cX0_remember 13 = .ok (.aload_n 0, 1) := by decide +kernel
theorem dX0_remember_14 : decode cX0_remember 14 = .ok (.aload_n 0, 1) := by decide +kernel
theorem dX0_remember_15 : decode cX0_remember 15 = .ok (.getfield 22, 3) := by decide +kernel
theorem dX0_remember_18 : decode cX0_remember 18 = .ok (.iconst 1, 1) := by decide +kernel
theorem dX0_remember_19 : decode cX0_remember 19 = .ok (.iadd, 1) := by decide +kernel
theorem dX0_remember_20 : decode cX0_remember 20 = .ok (.bipush 8, 2) := by decide +kernel
theorem dX0_remember_22 : decode cX0_remember 22 = .ok (.irem, 1) := by decide +kernel
theorem dX0_remember_23 : decode cX0_remember 23 = .ok (.putfield 22, 3) := by decide +kernel
theorem dX0_remember_26 : decode cX0_remember 26 = .ok (.aload_n 0, 1) := by decide +kernel
theorem dX0_remember_27 : decode cX0_remember 27 = .ok (.aload_n 0, 1) := by decide +kernel
theorem dX0_remember_28 : decode cX0_remember 28 = .ok (.getfield 18, 3) := by decide +kernel
theorem dX0_remember_31 : decode cX0_remember 31 = .ok (.iconst 1, 1) := by decide +kernel
theorem dX0_remember_32 : decode cX0_remember 32 = .ok (.iadd, 1) := by decide +kernel
theorem dX0_remember_33 : decode cX0_remember 33 = .ok (.bipush 8, 2) := by decide +kernel
theorem dX0_remember_35 : decode cX0_remember 35 = .ok (.invokestatic 29, 3) := by decide +kernel
theorem dX0_remember_38 : decode cX0_remember 38 = .ok (.putfield 18, 3) := by decide +kernel
theorem dX0_remember_41 : decode cX0_remember 41 = .ok (.return_, 1) := by decide +kernel
theorem dX0_bringBack_0 : decode cX0_bringBack 0 = .ok (.aload_n 0, 1) := by decide +kernel
theorem dX0_bringBack_1 : decode cX0_bringBack 1 = .ok (.getfield 18, 3) := by decide +kernel
theorem dX0_bringBack_4 : decode cX0_bringBack 4 = .ok (.ifCond .le 42, 3) := by decide +kernel
theorem dX0_bringBack_7 : decode cX0_bringBack 7 = .ok (.aload_n 0, 1) := by decide +kernel
theorem dX0_bringBack_8 : decode cX0_bringBack 8 = .ok (.aload_n 0, 1) := by decide +kernel
theorem dX0_bringBack_9 : decode cX0_bringBack 9 = .ok (.getfield 22, 3) := by decide +kernel
theorem dX0_bringBack_12 : decode cX0_bringBack 12 = .ok (.bipush 8, 2) := by decide +kernel
theorem dX0_bringBack_14 : decode cX0_bringBack 14 = .ok (.iadd, 1) := by decide +kernel
theorem dX0_bringBack_15 : decode cX0_bringBack 15 = .ok (.iconst 1, 1) := by decide +kernel
theorem dX0_bringBack_16 : decode cX0_bringBack 16 = .ok (.isub, 1) := by decide +kernel
theorem dX0_bringBack_17 : decode cX0_bringBack 17 = .ok (.bipush 8, 2) := by decide +kernel
theorem dX0_bringBack_19 : decode cX0_bringBack 19 = .ok (.irem, 1) := by decide +kernel
theorem dX0_bringBack_20 : decode cX0_bringBack 20 = .ok (.putfield 22, 3) := by decide +kernel
theorem dX0_bringBack_23 : decode cX0_bringBack 23 = .ok (.aload_n 1, 1) := by decide +kernel
theorem dX0_bringBack_24 : decode cX0_bringBack 24 = .ok (.aload_n 0, 1) := by decide +kernel
theorem dX0_bringBack_25 : decode cX0_bringBack 25 = .ok (.getfield 11, 3) := by decide +kernel
theorem dX0_bringBack_28 : decode cX0_bringBack 28 = .ok (.aload_n 0, 1) := by decide +kernel
theorem dX0_bringBack_29 : decode cX0_bringBack 29 = .ok (.getfield 22, 3) := by decide +kernel
theorem dX0_bringBack_32 : decode cX0_bringBack 32 = .ok (.aaload, 1) := by decide +kernel
theorem dX0_bringBack_33 : decode cX0_bringBack 33 = .ok (.invokevirtual 25, 3) := by decide +kernel
theorem dX0_bringBack_36 : decode cX0_bringBack 36 = .ok (.aload_n 0, 1) := by decide +kernel
theorem dX0_bringBack_37 : decode cX0_bringBack 37 = .ok (.dup, 1) := by decide +kernel
theorem dX0_bringBack_38 : decode cX0_bringBack 38 = .ok (.getfield 18, 3) := by decide +kernel
theorem dX0_bringBack_41 : decode cX0_bringBack 41 = .ok (.iconst 1, 1) := by decide +kernel
theorem dX0_bringBack_42 : decode cX0_bringBack 42 = .ok (.isub, 1) := by decide +kernel
theorem dX0_bringBack_43 : decode cX0_bringBack 43 = .ok (.putfield 18, 3) := by decide +kernel
theorem dX0_bringBack_46 : decode cX0_bringBack 46 = .ok (.return_, 1) := by decide +kernel
theorem dX1_init_0 : decode cX1_init 0 = .ok (.aload_n 0, 1) := by decide +kernel
theorem dX1_init_1 : decode cX1_init 1 = .ok (.invokespecial 3, 3) := by decide +kernel
theorem dX1_init_4 : decode cX1_init 4 = .ok (.aload_n 0, 1) := by decide +kernel
theorem dX1_init_5 : decode cX1_init 5 = .ok (.bipush 10, 2) := by decide +kernel
theorem dX1_init_7 : decode cX1_init 7 = .ok (.newarray .boolean, 2) := by decide +kernel
theorem dX1_init_9 : decode cX1_init 9 = .ok (.putfield 9, 3) := by decide +kernel
theorem dX1_init_12 : decode cX1_init 12 = .ok (.aload_n 0, 1) := by decide +kernel
theorem dX1_init_13 : decode cX1_init 13 = .ok (.bipush 10, 2) := by decide +kernel
theorem dX1_init_15 : decode cX1_init 15 = .ok (.newarray .int, 2) := by decide +kernel
theorem dX1_init_17 : decode cX1_init 17 = .ok (.putfield 15, 3) := by decide +kernel
theorem dX1_init_20 : decode cX1_init 20 = .ok (.aload_n 0, 1) := by decide +kernel
theorem dX1_init_21 : decode cX1_init 21 = .ok (.bipush 10, 2) := by decide +kernel
theorem dX1_init_23 : decode cX1_init 23 = .ok (.newarray .int, 2) := by decide +kernel
theorem dX1_init_25 : decode cX1_init 25 = .ok (.putfield 19, 3) := by decide +kernel
theorem dX1_init_28 : decode cX1_init 28 = .ok (.return_, 1) := by decide +kernel
theorem dX1_find_0 : decode cX1_find 0 = .ok (.iconst 0, 1) := by decide +kernel
theorem dX1_find_1 : decode cX1_find 1 = .ok (.istore_n 3, 1) := by decide +kernel
theorem dX1_find_2 : decode cX1_find 2 = .ok (.iload_n 3, 1) := by decide +kernel
theorem dX1_find_3 : decode cX1_find 3 = .ok (.aload_n 0, 1) := by decide +kernel
theorem dX1_find_4 : decode cX1_find 4 = .ok (.getfield 22, 3) := by decide +kernel
theorem dX1_find_7 : decode cX1_find 7 = .ok (.if_icmp .ge 31, 3) := by decide +kernel
theorem dX1_find_10 : decode cX1_find 10 = .ok (.aload_n 0, 1) := by decide +kernel
theorem dX1_find_11 : decode cX1_find 11 = .ok (.getfield 9, 3) := by decide +kernel
theorem dX1_find_14 : decode cX1_find 14 = .ok (.iload_n 3, 1) := by decide +kernel
theorem dX1_find_15 : decode cX1_find 15 = .ok (.baload, 1) := by decide +kernel
theorem dX1_find_16 : decode cX1_find 16 = .ok (.iload_n 1, 1) := by decide +kernel
theorem dX1_find_17 : decode cX1_find 17 = .ok (.if_icmp .ne 15, 3) := by decide +kernel
theorem dX1_find_20 : decode cX1_find 20 = .ok (.aload_n 0, 1) := by decide +kernel
theorem dX1_find_21 : decode cX1_find 21 = .ok (.getfield 15, 3) := by decide +kernel
theorem dX1_find_24 : decode cX1_find 24 = .ok (.iload_n 3, 1) := by decide +kernel
theorem dX1_find_25 : decode cX1_find 25 = .ok (.iaload, 1) := by decide +kernel
theorem dX1_find_26 : decode cX1_find 26 = .ok (.iload_n 2, 1) := by decide +kernel
theorem dX1_find_27 : decode cX1_find 27 = .ok (.if_icmp .ne 5, 3) := by decide +kernel
theorem dX1_find_30 : decode cX1_find 30 = .ok (.iload_n 3, 1) := by decide +kernel
theorem dX1_find_31 : decode cX1_find 31 = .ok (.ireturn, 1) := by decide +kernel
theorem dX1_find_32 : decode cX1_find 32 = .ok (.iinc 3 1, 3) := by decide +kernel
theorem dX1_find_35 : decode cX1_find 35 = .ok (.goto (-33), 3) := by decide +kernel
theorem dX1_find_38 : decode cX1_find 38 = .ok (.iconst (-1), 1) := by decide +kernel
theorem dX1_find_39 : decode cX1_find 39 = .ok (.ireturn, 1) := by decide +kernel
theorem dX1_addKind_0 : decode cX1_addKind 0 = .ok (.aload_n 0, 1) := by decide +kernel
theorem dX1_addKind_1 : decode cX1_addKind 1 = .ok (.getfield 22, 3) := by decide +kernel
theorem dX1_addKind_4 : decode cX1_addKind 4 = .ok (.bipush 10, 2) := by decide +kernel
theorem dX1_addKind_6 : decode cX1_addKind 6 = .ok (.if_icmp .lt 4, 3) := by decide +kernel
theorem dX1_addKind_9 : decode cX1_addKind 9 = .ok (.return_, 1) := by decide +kernel
theorem dX1_addKind_10 : decode cX1_addKind 10 = .ok (.aload_n 0, 1) := by decide +kernel
theorem dX1_addKind_11 : decode cX1_addKind 11 = .ok (.getfield 9, 3) := by decide +kernel
theorem dX1_addKind_14 : decode cX1_addKind 14 = .ok (.aload_n 0, 1) := by decide +kernel
theorem dX1_addKind_15 : decode cX1_addKind 15 = .ok (.getfield 22, 3) := by decide +kernel
theorem dX1_addKind_18 : decode cX1_addKind 18 = .ok (.iload_n 1, 1) := by decide +kernel
theorem dX1_addKind_19 : decode cX1_addKind 19 = .ok (.bastore, 1) := by decide +kernel
theorem dX1_addKind_20 : decode cX1_addKind 20 = .ok (.aload_n 0, 1) := by decide +kernel
theorem dX1_addKind_21 : decode cX1_addKind 21 = .ok (.getfield 15, 3) := by decide +kernel
theorem dX1_addKind_24 : decode cX1_addKind 24 = .ok (.aload_n 0, 1) := by decide +kernel
theorem dX1_addKind_25 : decode cX1_addKind 25 = .ok (.getfield 22, 3) := by decide +kernel
theorem dX1_addKind_28 : decode cX1_addKind 28 = .ok (.iload_n 2, 1) := by decide +kernel
theorem dX1_addKind_29 : decode cX1_addKind 29 = .ok (.iastore, 1) := by decide +kernel
theorem dX1_addKind_30 : decode cX1_addKind 30 = .ok (.aload_n 0, 1) := by decide +kernel
theorem dX1_addKind_31 : decode cX1_addKind 31 = .ok (.getfield 22, 3) := by decide +kernel
theorem dX1_addKind_34 : decode cX1_addKind 34 = .ok (.istore_n 3, 1) := by decide +kernel
theorem dX1_addKind_35 : decode cX1_addKind 35 = .ok (.iload_n 3, 1) := by decide +kernel
theorem dX1_addKind_36 : decode cX1_addKind 36 = .ok (.ifCond .le 42, 3) := by decide +kernel
theorem dX1_addKind_39 : decode cX1_addKind 39 = .ok (.aload_n 0, 1) := by decide +kernel
theorem dX1_addKind_40 : decode cX1_addKind 40 = .ok (.aload_n 0, 1) := by decide +kernel
theorem dX1_addKind_41 : decode cX1_addKind 41 = .ok (.getfield 22, 3) := by decide +kernel
theorem dX1_addKind_44 : decode cX1_addKind 44 = .ok (.aload_n 0, 1) := by decide +kernel
theorem dX1_addKind_45 : decode cX1_addKind 45 = .ok (.getfield 19, 3) := by decide +kernel
theorem dX1_addKind_48 : decode cX1_addKind 48 = .ok (.iload_n 3, 1) := by decide +kernel
theorem dX1_addKind_49 : decode cX1_addKind 49 = .ok (.iconst 1, 1) := by decide +kernel
theorem dX1_addKind_50 : decode cX1_addKind 50 = .ok (.isub, 1) := by decide +kernel
theorem dX1_addKind_51 : decode cX1_addKind 51 = .ok (.iaload, 1) := by decide +kernel
theorem dX1_addKind_52 : decode cX1_addKind 52 = .ok (.invokevirtual 26, 3) := by decide +kernel
theorem dX1_addKind_55 : decode cX1_addKind 55 = .ok (.ifCond .eq 23, 3) := by decide +kernel
theorem dX1_addKind_58 : decode cX1_addKind 58 = .ok (.aload_n 0, 1) := by decide +kernel
theorem dX1_addKind_59 : decode cX1_addKind 59 = .ok (.getfield 19, 3) := by decide +kernel
theorem dX1_addKind_62 : decode cX1_addKind 62 = .ok (.iload_n 3, 1) := by decide +kernel
theorem dX1_addKind_63 : decode cX1_addKind 63 = .ok (.aload_n 0, 1) := by decide +kernel
theorem dX1_addKind_64 : decode cX1_addKind 64 = .ok (.getfield 19, 3) := by decide +kernel
theorem dX1_addKind_67 : decode cX1_addKind 67 = .ok (.iload_n 3, 1) := by decide +kernel
theorem dX1_addKind_68 : decode cX1_addKind 68 = .ok (.iconst 1, 1) := by decide +kernel
theorem dX1_addKind_69 : decode cX1_addKind 69 = .ok (.isub, 1) := by decide +kernel
theorem dX1_addKind_70 : decode cX1_addKind 70 = .ok (.iaload, 1) := by decide +kernel
theorem dX1_addKind_71 : decode cX1_addKind 71 = .ok (.iastore, 1) := by decide +kernel
theorem dX1_addKind_72 : decode cX1_addKind 72 = .ok (.iinc 3 (-1), 3) := by decide +kernel
theorem dX1_addKind_75 : decode cX1_addKind 75 = .ok (.goto (-40), 3) := by decide +kernel
theorem dX1_addKind_78 : decode cX1_addKind 78 = .ok (.aload_n 0, 1) := by decide +kernel
theorem dX1_addKind_79 : decode cX1_addKind 79 = .ok (.getfield 19, 3) := by decide +kernel
theorem dX1_addKind_82 : decode cX1_addKind 82 = .ok (.iload_n 3, 1) := by decide +kernel
theorem dX1_addKind_83 : decode cX1_addKind 83 = .ok (.aload_n 0, 1) := by decide +kernel
theorem dX1_addKind_84 : decode cX1_addKind 84 = .ok (.getfield 22, 3) := by decide +kernel
theorem dX1_addKind_87 : decode cX1_addKind 87 = .ok (.iastore, 1) := by decide +kernel
theorem dX1_addKind_88 : decode cX1_addKind 88 = .ok (.aload_n 0, 1) := by decide +kernel
theorem dX1_addKind_89 : decode cX1_addKind 89 = .ok (.dup, 1) := by decide +kernel
theorem dX1_addKind_90 : decode cX1_addKind 90 = .ok (.getfield 22, 3) := by decide +kernel
theorem dX1_addKind_93 : decode cX1_addKind 93 = .ok (.iconst 1, 1) := by decide +kernel
theorem dX1_addKind_94 : decode cX1_addKind 94 = .ok (.iadd, 1) := by decide +kernel
theorem dX1_addKind_95 : decode cX1_addKind 95 = .ok (.putfield 22, 3) := by decide +kernel
theorem dX1_addKind_98 : decode cX1_addKind 98 = .ok (.return_, 1) := by decide +kernel
theorem dX1_isAhead_0 : decode cX1_isAhead 0 = .ok (.aload_n 0, 1) := by decide +kernel
theorem dX1_isAhead_1 : decode cX1_isAhead 1 = .ok (.getfield 15, 3) := by decide +kernel
theorem dX1_isAhead_4 : decode cX1_isAhead 4 = .ok (.iload_n 1, 1) := by decide +kernel
theorem dX1_isAhead_5 : decode cX1_isAhead 5 = .ok (.iaload, 1) := by decide +kernel
theorem dX1_isAhead_6 : decode cX1_isAhead 6 = .ok (.aload_n 0, 1) := by decide +kernel
theorem dX1_isAhead_7 : decode cX1_isAhead 7 = .ok (.getfield 15, 3) := by decide +kernel
theorem dX1_isAhead_10 : decode cX1_isAhead 10 = .ok (.iload_n 2, 1) := by decide +kernel
theorem dX1_isAhead_11 : decode cX1_isAhead 11 = .ok (.iaload, 1) := by decide +kernel
theorem dX1_isAhead_12 : decode cX1_isAhead 12 = .ok (.if_icmp .gt 36, 3) := by decide +kernel
theorem dX1_isAhead_15 : decode cX1_isAhead 15 = .ok (.aload_n 0, 1) := by decide +kernel
theorem dX1_isAhead_16 : decode cX1_isAhead 16 = .ok (.getfield 15, 3) := by decide +kernel
theorem dX1_isAhead_19 : decode cX1_isAhead 19 = .ok (.iload_n 1, 1) := by decide +kernel
theorem dX1_isAhead_20 : decode cX1_isAhead 20 = .ok (.iaload, 1) := by decide +kernel
theorem dX1_isAhead_21 : decode cX1_isAhead 21 = .ok (.aload_n 0, 1) := by decide +kernel
theorem dX1_isAhead_22 : decode cX1_isAhead 22 = .ok (.getfield 15, 3) := by decide +kernel
theorem dX1_isAhead_25 : decode cX1_isAhead 25 = .ok (.iload_n 2, 1) := by decide +kernel
theorem dX1_isAhead_26 : decode cX1_isAhead 26 = .ok (.iaload, 1) := by decide +kernel
theorem dX1_isAhead_27 : decode cX1_isAhead 27 = .ok (.if_icmp .ne 25, 3) := by decide +kernel
theorem dX1_isAhead_30 : decode cX1_isAhead 30 = .ok (.aload_n 0, 1) := by decide +kernel
theorem dX1_isAhead_31 : decode cX1_isAhead 31 = .ok (.getfield 9, 3) := by decide +kernel
theorem dX1_isAhead_34 : decode cX1_isAhead 34 = .ok (.iload_n 1, 1) := by decide +kernel
theorem dX1_isAhead_35 : decode cX1_isAhead 35 = .ok (.baload, 1) := by decide +kernel
theorem dX1_isAhead_36 : decode cX1_isAhead 36 = .ok (.ifCond .eq 16, 3) := by decide +kernel
theorem dX1_isAhead_39 : decode cX1_isAhead 39 = .ok (.aload_n 0, 1) := by decide +kernel
theorem dX1_isAhead_40 : decode cX1_isAhead 40 = .ok (.getfield 9, 3) := by decide +kernel
theorem dX1_isAhead_43 : decode cX1_isAhead 43 = .ok (.iload_n 2, 1) := by decide +kernel
theorem dX1_isAhead_44 : decode cX1_isAhead 44 = .ok (.baload, 1) := by decide +kernel
theorem dX1_isAhead_45 : decode cX1_isAhead 45 = .ok (.ifCond .ne 7, 3) := by decide +kernel
theorem dX1_isAhead_48 : decode cX1_isAhead 48 = .ok (.iconst 1, 1) := by decide +kernel
theorem dX1_isAhead_49 : decode cX1_isAhead 49 = .ok (.goto 4, 3) := by decide +kernel
theorem dX1_isAhead_52 : decode cX1_isAhead 52 = .ok (.iconst 0, 1) := by decide +kernel
theorem dX1_isAhead_53 : decode cX1_isAhead 53 = .ok (.ireturn, 1) := by decide +kernel
theorem dX2_init_0 : decode cX2_init 0 = .ok (.aload_n 0, 1) := by decide +kernel
theorem dX2_init_1 : decode cX2_init 1 = .ok (.invokespecial 3, 3) := by decide +kernel
theorem dX2_init_4 : decode cX2_init 4 = .ok (.aload_n 0, 1) := by decide +kernel
theorem dX2_init_5 : decode cX2_init 5 = .ok (.sipush 500, 3) := by decide +kernel
theorem dX2_init_8 : decode cX2_init 8 = .ok (.newarray .int, 2) := by decide +kernel
theorem dX2_init_10 : decode cX2_init 10 = .ok (.putfield 9, 3) := by decide +kernel
theorem dX2_init_13 : decode cX2_init 13 = .ok (.aload_n 0, 1) := by decide +kernel
theorem dX2_init_14 : decode cX2_init 14 = .ok (.bipush 8, 2) := by decide +kernel
theorem dX2_init_16 : decode cX2_init 16 = .ok (.newarray .boolean, 2) := by decide +kernel
theorem dX2_init_18 : decode cX2_init 18 = .ok (.putfield 15, 3) := by decide +kernel
theorem dX2_init_21 : decode cX2_init 21 = .ok (.aload_n 0, 1) := by decide +kernel
theorem dX2_init_22 : decode cX2_init 22 = .ok (.iconst (-1), 1) := by decide +kernel
theorem dX2_init_23 : decode cX2_init 23 = .ok (.putfield 19, 3) := by decide +kernel
theorem dX2_init_26 : decode cX2_init 26 = .ok (.return_, 1) := by decide +kernel
theorem dX2_addBytes_0 : decode cX2_addBytes 0 = .ok (.aload_n 0, 1) := by decide +kernel
theorem dX2_addBytes_1 : decode cX2_addBytes 1 = .ok (.getfield 23, 3) := by decide +kernel
theorem dX2_addBytes_4 : decode cX2_addBytes 4 = .ok (.sipush 480, 3) := by decide +kernel
theorem dX2_addBytes_7 : decode cX2_addBytes 7 = .ok (.if_icmp .le 5, 3) := by decide +kernel
theorem dX2_addBytes_10 : decode cX2_addBytes 10 = .ok (.iconst 0, 1) := by decide +kernel
theorem dX2_addBytes_11 : decode cX2_addBytes 11 = .ok (.ireturn, 1) := by decide +kernel
theorem dX2_addBytes_12 : decode cX2_addBytes 12 = .ok (.aload_n 0, 1) := by decide +kernel
theorem dX2_addBytes_13 : decode cX2_addBytes 13 = .ok (.iload_n 1, 1) := by decide +kernel
theorem dX2_addBytes_14 : decode cX2_addBytes 14 = .ok (.invokevirtual 26, 3) := by decide +kernel
theorem dX2_addBytes_17 : decode cX2_addBytes 17 = .ok (.aload_n 0, 1) := by decide +kernel
theorem dX2_addBytes_18 : decode cX2_addBytes 18 = .ok (.iload_n 2, 1) := by decide +kernel
theorem dX2_addBytes_19 : decode cX2_addBytes 19 = .ok (.invokevirtual 26, 3) := by decide +kernel
theorem dX2_addBytes_22 : decode cX2_addBytes 22 = .ok (.aload_n 0, 1) := by decide +kernel
theorem dX2_addBytes_23 : decode cX2_addBytes 23 = .ok (.iload_n 3, 1) := by decide +kernel
theorem dX2_addBytes_24 : decode cX2_addBytes 24 = .ok (.invokevirtual 26, 3) := by decide +kernel
theorem dX2_addBytes_27 : decode cX2_addBytes 27 = .ok (.aload_n 0, 1) := by decide +kernel
theorem dX2_addBytes_28 : decode cX2_addBytes 28 = .ok (.iload 4, 2) := by decide +kernel
theorem dX2_addBytes_30 : decode cX2_addBytes 30 = .ok (.invokevirtual 26, 3) := by decide +kernel
theorem dX2_addBytes_33 : decode cX2_addBytes 33 = .ok (.aload_n 0, 1) := by decide +kernel
theorem dX2_addBytes_34 : decode cX2_addBytes 34 = .ok (.iload 5, 2) := by decide +kernel
theorem dX2_addBytes_36 : decode cX2_addBytes 36 = .ok (.invokevirtual 26, 3) := by decide +kernel
theorem dX2_addBytes_39 : decode cX2_addBytes 39 = .ok (.iconst 1, 1) := by decide +kernel
theorem dX2_addBytes_40 : decode cX2_addBytes 40 = .ok (.ireturn, 1) := by decide +kernel
theorem dX2_addWord_0 : decode cX2_addWord 0 = .ok (.bipush 24, 2) := by decide +kernel
theorem dX2_addWord_2 : decode cX2_addWord 2 = .ok (.istore_n 2, 1) := by decide +kernel
theorem dX2_addWord_3 : decode cX2_addWord 3 = .ok (.iload_n 2, 1) := by decide +kernel
theorem dX2_addWord_4 : decode cX2_addWord 4 = .ok (.ifCond .lt 45, 3) := by decide +kernel
theorem dX2_addWord_7 : decode cX2_addWord 7 = .ok (.aload_n 0, 1) := by decide +kernel
theorem dX2_addWord_8 : decode cX2_addWord 8 = .ok (.getfield 23, 3) := by decide +kernel
theorem dX2_addWord_11 : decode cX2_addWord 11 = .ok (.sipush 500, 3) := by decide +kernel
theorem dX2_addWord_14 : decode cX2_addWord 14 = .ok (.if_icmp .ge 35, 3) := by decide +kernel
theorem dX2_addWord_17 : decode cX2_addWord 17 = .ok (.aload_n 0, 1) := by decide +kernel
theorem dX2_addWord_18 : decode cX2_addWord 18 = .ok (.getfield 9, 3) := by decide +kernel
theorem dX2_addWord_21 : decode cX2_addWord 21 = .ok (.aload_n 0, 1) := by decide +kernel
theorem dX2_addWord_22 : decode cX2_addWord 22 = .ok (.getfield 23, 3) := by decide +kernel
theorem dX2_addWord_25 : decode cX2_addWord 25 = .ok (.iload_n 1, 1) := by decide +kernel
theorem dX2_addWord_26 : decode cX2_addWord 26 = .ok (.iload_n 2, 1) := by decide +kernel
theorem dX2_addWord_27 : decode cX2_addWord 27 = .ok (.iushr, 1) := by decide +kernel
theorem dX2_addWord_28 : decode cX2_addWord 28 = .ok (.sipush 255, 3) := by decide +kernel
theorem dX2_addWord_31 : decode cX2_addWord 31 = .ok (.iand, 1) := by decide +kernel
theorem dX2_addWord_32 : decode cX2_addWord 32 = .ok (.iastore, 1) := by decide +kernel
theorem dX2_addWord_33 : decode cX2_addWord 33 = .ok (.aload_n 0, 1) := by decide +kernel
theorem dX2_addWord_34 : decode cX2_addWord 34 = .ok (.dup, 1) := by decide +kernel
theorem dX2_addWord_35 : decode cX2_addWord 35 = .ok (.getfield 23, 3) := by decide +kernel
theorem dX2_addWord_38 : decode cX2_addWord 38 = .ok (.iconst 1, 1) := by decide +kernel
theorem dX2_addWord_39 : decode cX2_addWord 39 = .ok (.iadd, 1) := by decide +kernel
theorem dX2_addWord_40 : decode cX2_addWord 40 = .ok (.putfield 23, 3) := by decide +kernel
theorem dX2_addWord_43 : decode cX2_addWord 43 = .ok (.iinc 2 (-8), 3) := by decide +kernel
theorem dX2_addWord_46 : decode cX2_addWord 46 = .ok (.goto (-43), 3) := by decide +kernel
theorem dX2_addWord_49 : decode cX2_addWord 49 = .ok (.return_, 1) := by decide +kernel
theorem dX2_readText_0 : decode cX2_readText 0 = .ok (.aload_n 0, 1) := by decide +kernel
theorem dX2_readText_1 : decode cX2_readText 1 = .ok (.iload_n 1, 1) := by decide +kernel
theorem dX2_readText_2 : decode cX2_readText 2 = .ok (.invokevirtual 30, 3) := by decide +kernel
theorem dX2_readText_5 : decode cX2_readText 5 = .ok (.aload_n 2, 1) := by decide +kernel
theorem dX2_readText_6 : decode cX2_readText 6 = .ok (.iconst 0, 1) := by decide +kernel
theorem dX2_readText_7 : decode cX2_readText 7 = .ok (.putfield 33, 3) := by decide +kernel
theorem dX2_readText_10 : decode cX2_readText 10 = .ok (.aload_n 3, 1) := by decide +kernel
theorem dX2_readText_11 : decode cX2_readText 11 = .ok (.invokevirtual 38, 3) := by decide +kernel
theorem dX2_readText_14 : decode cX2_readText 14 = .ok (.aload_n 0, 1) := by decide +kernel
theorem dX2_readText_15 : decode cX2_readText 15 = .ok (.aload_n 2, 1) := by decide +kernel
theorem dX2_readText_16 : decode cX2_readText 16 = .ok (.aload_n 3, 1) := by decide +kernel
theorem dX2_readText_17 : decode cX2_readText 17 = .ok (.invokevirtual 43, 3) := by decide +kernel
theorem dX2_readText_20 : decode cX2_readText 20 = .ok (.iconst 0, 1) := by decide +kernel
theorem dX2_readText_21 : decode cX2_readText 21 = .ok (.istore 4, 2) := by decide +kernel
theorem dX2_readText_23 : decode cX2_readText 23 = .ok (.iload 4, 2) := by decide +kernel
theorem dX2_readText_25 : decode cX2_readText 25 = .ok (.sipush 500, 3) := by decide +kernel
theorem dX2_readText_28 : decode cX2_readText 28 = .ok (.if_icmp .ge 34, 3) := by decide +kernel
theorem dX2_readText_31 : decode cX2_readText 31 = .ok (.aload_n 0, 1) := by decide +kernel
theorem dX2_readText_32 : decode cX2_readText 32 = .ok (.getfield 47, 3) := by decide +kernel
theorem dX2_readText_35 : decode cX2_readText 35 = .ok (.ifCond .ne 27, 3) := by decide +kernel
theorem dX2_readText_38 : decode cX2_readText 38 = .ok (.aload_n 0, 1) := by decide +kernel
theorem dX2_readText_39 : decode cX2_readText 39 = .ok (.getfield 50, 3) := by decide +kernel
theorem dX2_readText_42 : decode cX2_readText 42 = .ok (.iconst 3, 1) := by decide +kernel
theorem dX2_readText_43 : decode cX2_readText 43 = .ok (.if_icmp .ne 19, 3) := by decide +kernel
theorem dX2_readText_46 : decode cX2_readText 46 = .ok (.aload_n 0, 1) := by decide +kernel
theorem dX2_readText_47 : decode cX2_readText 47 = .ok (.invokevirtual 53, 3) := by decide +kernel
theorem dX2_readText_50 : decode cX2_readText 50 = .ok (.aload_n 0, 1) := by decide +kernel
theorem dX2_readText_51 : decode cX2_readText 51 = .ok (.aload_n 2, 1) := by decide +kernel
theorem dX2_readText_52 : decode cX2_readText 52 = .ok (.aload_n 3, 1) := by decide +kernel
theorem dX2_readText_53 : decode cX2_readText 53 = .ok (.invokevirtual 56, 3) := by decide +kernel
theorem dX2_readText_56 : decode cX2_readText 56 = .ok (.iinc 4 1, 3) := by decide +kernel
theorem dX2_readText_59 : decode cX2_readText 59 = .ok (.goto (-36), 3) := by decide +kernel
theorem dX2_readText_62 : decode cX2_readText 62 = .ok (.aload_n 0, 1) := by decide +kernel
theorem dX2_readText_63 : decode cX2_readText 63 = .ok (.getfield 50, 3) := by decide +kernel
theorem dX2_readText_66 : decode cX2_readText 66 = .ok (.ifCond .eq 12, 3) := by decide +kernel
theorem dX2_readText_69 : decode cX2_readText 69 = .ok (.aload_n 0, 1) := by decide +kernel
theorem dX2_readText_70 : decode cX2_readText 70 = .ok (.iconst 1, 1) := by decide +kernel
theorem dX2_readText_71 : decode cX2_readText 71 = .ok (.aload_n 0, 1) := by decide +kernel
theorem dX2_readText_72 : decode cX2_readText 72 = .ok (.getfield 59, 3) := by decide +kernel
theorem dX2_readText_75 : decode cX2_readText 75 = .ok (.invokevirtual 62, 3) := by decide +kernel
theorem dX2_readText_78 : decode cX2_readText 78 = .ok (.aload_n 0, 1) := by decide +kernel
theorem dX2_readText_79 : decode cX2_readText 79 = .ok (.getfield 47, 3) := by decide +kernel
theorem dX2_readText_82 : decode cX2_readText 82 = .ok (.ifCond .ne 7, 3) := by decide +kernel
theorem dX2_readText_85 : decode cX2_readText 85 = .ok (.iconst 1, 1) := by decide +kernel
theorem dX2_readText_86 : decode cX2_readText 86 = .ok (.goto 4, 3) := by decide +kernel
theorem dX2_readText_89 : decode cX2_readText 89 = .ok (.iconst 0, 1) := by decide +kernel
theorem dX2_readText_90 : decode cX2_readText 90 = .ok (.ireturn, 1) := by decide +kernel
theorem dX2_startText_0 : decode cX2_startText 0 = .ok (.aload_n 0, 1) := by decide +kernel
theorem dX2_startText_1 : decode cX2_startText 1 = .ok (.iload_n 1, 1) := by decide +kernel
theorem dX2_startText_2 : decode cX2_startText 2 = .ok (.aload_n 0, 1) := by decide +kernel
theorem dX2_startText_3 : decode cX2_startText 3 = .ok (.getfield 23, 3) := by decide +kernel
theorem dX2_startText_6 : decode cX2_startText 6 = .ok (.invokestatic 66, 3) := by decide +kernel
theorem dX2_startText_9 : decode cX2_startText 9 = .ok (.putfield 72, 3) := by decide +kernel
theorem dX2_startText_12 : decode cX2_startText 12 = .ok (.aload_n 0, 1) := by decide +kernel
theorem dX2_startText_13 : decode cX2_startText 13 = .ok (.iconst 0, 1) := by decide +kernel
theorem dX2_startText_14 : decode cX2_startText 14 = .ok (.putfield 23, 3) := by decide +kernel
theorem dX2_startText_17 : decode cX2_startText 17 = .ok (.aload_n 0, 1) := by decide +kernel
theorem dX2_startText_18 : decode cX2_startText 18 = .ok (.iconst 0, 1) := by decide +kernel
theorem dX2_startText_19 : decode cX2_startText 19 = .ok (.putfield 47, 3) := by decide +kernel
theorem dX2_startText_22 : decode cX2_startText 22 = .ok (.aload_n 0, 1) := by decide +kernel
theorem dX2_startText_23 : decode cX2_startText 23 = .ok (.iconst (-1), 1) := by decide +kernel
theorem dX2_startText_24 : decode cX2_startText 24 = .ok (.putfield 19, 3) := by decide +kernel
theorem dX2_startText_27 : decode cX2_startText 27 = .ok (.aload_n 0, 1) := by decide +kernel
theorem dX2_startText_28 : decode cX2_startText 28 = .ok (.iconst 0, 1) := by decide +kernel
theorem dX2_startText_29 : decode cX2_startText 29 = .ok (.putfield 75, 3) := by decide +kernel
theorem dX2_startText_32 : decode cX2_startText 32 = .ok (.iconst 0, 1) := by decide +kernel
theorem dX2_startText_33 : decode cX2_startText 33 = .ok (.istore_n 2, 1) := by decide +kernel
theorem dX2_startText_34 : decode cX2_startText 34 = .ok (.iload_n 2, 1) := by decide +kernel
theorem dX2_startText_35 : decode cX2_startText 35 = .ok (.bipush 8, 2) := by decide +kernel
theorem dX2_startText_37 : decode cX2_startText 37 = .ok (.if_icmp .ge 16, 3) := by decide +kernel
theorem dX2_startText_40 : decode cX2_startText 40 = .ok (.aload_n 0, 1) := by decide +kernel
theorem dX2_startText_41 : decode cX2_startText 41 = .ok (.getfield 15, 3) := by decide +kernel
theorem dX2_startText_44 : decode cX2_startText 44 = .ok (.iload_n 2, 1) := by decide +kernel
theorem dX2_startText_45 : decode cX2_startText 45 = .ok (.iconst 0, 1) := by decide +kernel
theorem dX2_startText_46 : decode cX2_startText 46 = .ok (.bastore, 1) := by decide +kernel
theorem dX2_startText_47 : decode cX2_startText 47 = .ok (.iinc 2 1, 3) := by decide +kernel
theorem dX2_startText_50 : decode cX2_startText 50 = .ok (.goto (-16), 3) := by decide +kernel
theorem dX2_startText_53 : decode cX2_startText 53 = .ok (.aload_n 0, 1) := by decide +kernel
theorem dX2_startText_54 : decode cX2_startText 54 = .ok (.invokevirtual 53, 3) := by decide +kernel
theorem dX2_startText_57 : decode cX2_startText 57 = .ok (.return_, 1) := by decide +kernel
theorem dX2_readHead_0 : decode cX2_readHead 0 = .ok (.aload_n 0, 1) := by decide +kernel
theorem dX2_readHead_1 : decode cX2_readHead 1 = .ok (.ldc 78, 2) := by decide +kernel
theorem dX2_readHead_3 : decode cX2_readHead 3 = .ok (.invokevirtual 80, 3) := by decide +kernel
theorem dX2_readHead_6 : decode cX2_readHead 6 = .ok (.aload_n 1, 1) := by decide +kernel
theorem dX2_readHead_7 : decode cX2_readHead 7 = .ok (.aload_n 0, 1) := by decide +kernel
theorem dX2_readHead_8 : decode cX2_readHead 8 = .ok (.bipush 10, 2) := by decide +kernel
theorem dX2_readHead_10 : decode cX2_readHead 10 = .ok (.sipush 500, 3) := by decide +kernel
theorem dX2_readHead_13 : decode cX2_readHead 13 = .ok (.invokevirtual 84, 3) := by decide +kernel
theorem dX2_readHead_16 : decode cX2_readHead 16 = .ok (.putfield 87, 3) := by decide +kernel
theorem dX2_readHead_19 : decode cX2_readHead 19 = .ok (.aload_n 1, 1) := by decide +kernel
theorem dX2_readHead_20 : decode cX2_readHead 20 = .ok (.aload_n 0, 1) := by decide +kernel
theorem dX2_readHead_21 : decode cX2_readHead 21 = .ok (.iconst 1, 1) := by decide +kernel
theorem dX2_readHead_22 : decode cX2_readHead 22 = .ok (.bipush 8, 2) := by decide +kernel
theorem dX2_readHead_24 : decode cX2_readHead 24 = .ok (.invokevirtual 84, 3) := by decide +kernel
theorem dX2_readHead_27 : decode cX2_readHead 27 = .ok (.putfield 88, 3) := by decide +kernel
theorem dX2_readHead_30 : decode cX2_readHead 30 = .ok (.aload_n 1, 1) := by decide +kernel
theorem dX2_readHead_31 : decode cX2_readHead 31 = .ok (.aload_n 0, 1) := by decide +kernel
theorem dX2_readHead_32 : decode cX2_readHead 32 = .ok (.iconst 1, 1) := by decide +kernel
theorem dX2_readHead_33 : decode cX2_readHead 33 = .ok (.bipush 50, 2) := by decide +kernel
theorem dX2_readHead_35 : decode cX2_readHead 35 = .ok (.invokevirtual 84, 3) := by decide +kernel
theorem dX2_readHead_38 : decode cX2_readHead 38 = .ok (.putfield 91, 3) := by decide +kernel
theorem dX2_readHead_41 : decode cX2_readHead 41 = .ok (.aload_n 1, 1) := by decide +kernel
theorem dX2_readHead_42 : decode cX2_readHead 42 = .ok (.aload_n 0, 1) := by decide +kernel
theorem dX2_readHead_43 : decode cX2_readHead 43 = .ok (.iconst 0, 1) := by decide +kernel
theorem dX2_readHead_44 : decode cX2_readHead 44 = .ok (.bipush 20, 2) := by decide +kernel
theorem dX2_readHead_46 : decode cX2_readHead 46 = .ok (.invokevirtual 84, 3) := by decide +kernel
theorem dX2_readHead_49 : decode cX2_readHead 49 = .ok (.putfield 94, 3) := by decide +kernel
theorem dX2_readHead_52 : decode cX2_readHead 52 = .ok (.aload_n 2, 1) := by decide +kernel
theorem dX2_readHead_53 : decode cX2_readHead 53 = .ok (.aload_n 0, 1) := by decide +kernel
theorem dX2_readHead_54 : decode cX2_readHead 54 = .ok (.iconst 0, 1) := by decide +kernel
theorem dX2_readHead_55 : decode cX2_readHead 55 = .ok (.bipush 20, 2) := by decide +kernel
theorem dX2_readHead_57 : decode cX2_readHead 57 = .ok (.invokevirtual 84, 3) := by decide +kernel
theorem dX2_readHead_60 : decode cX2_readHead 60 = .ok (.putfield 97, 3) := by decide +kernel
theorem dX2_readHead_63 : decode cX2_readHead 63 = .ok (.aload_n 0, 1) := by decide +kernel
theorem dX2_readHead_64 : decode cX2_readHead 64 = .ok (.invokevirtual 100, 3) := by decide +kernel
theorem dX2_readHead_67 : decode cX2_readHead 67 = .ok (.aload_n 0, 1) := by decide +kernel
theorem dX2_readHead_68 : decode cX2_readHead 68 = .ok (.ldc 103, 2) := by decide +kernel
theorem dX2_readHead_70 : decode cX2_readHead 70 = .ok (.invokevirtual 80, 3) := by decide +kernel
theorem dX2_readHead_73 : decode cX2_readHead 73 = .ok (.aload_n 1, 1) := by decide +kernel
theorem dX2_readHead_74 : decode cX2_readHead 74 = .ok (.aload_n 0, 1) := by decide +kernel
theorem dX2_readHead_75 : decode cX2_readHead 75 = .ok (.iconst 0, 1) := by decide +kernel
theorem dX2_readHead_76 : decode cX2_readHead 76 = .ok (.bipush 9, 2) := by decide +kernel
theorem dX2_readHead_78 : decode cX2_readHead 78 = .ok (.invokevirtual 84, 3) := by decide +kernel
theorem dX2_readHead_81 : decode cX2_readHead 81 = .ok (.putfield 105, 3) := by decide +kernel
theorem dX2_readHead_84 : decode cX2_readHead 84 = .ok (.aload_n 1, 1) := by decide +kernel
theorem dX2_readHead_85 : decode cX2_readHead 85 = .ok (.aload_n 0, 1) := by decide +kernel
theorem dX2_readHead_86 : decode cX2_readHead 86 = .ok (.iconst 0, 1) := by decide +kernel
theorem dX2_readHead_87 : decode cX2_readHead 87 = .ok (.bipush 9, 2) := by decide +kernel
theorem dX2_readHead_89 : decode cX2_readHead 89 = .ok (.invokevirtual 84, 3) := by decide +kernel
theorem dX2_readHead_92 : decode cX2_readHead 92 = .ok (.putfield 108, 3) := by decide +kernel
theorem dX2_readHead_95 : decode cX2_readHead 95 = .ok (.aload_n 1, 1) := by decide +kernel
theorem dX2_readHead_96 : decode cX2_readHead 96 = .ok (.aload_n 0, 1) := by decide +kernel
theorem dX2_readHead_97 : decode cX2_readHead 97 = .ok (.iconst 1, 1) := by decide +kernel
theorem dX2_readHead_98 : decode cX2_readHead 98 = .ok (.sipush 999, 3) := by decide +kernel
theorem dX2_readHead_101 : decode cX2_readHead 101 = .ok (.invokevirtual 84, 3) := by decide +kernel
theorem dX2_readHead_104 : decode cX2_readHead 104 = .ok (.putfield 111, 3) := by decide +kernel
theorem dX2_readHead_107 : decode cX2_readHead 107 = .ok (.return_, 1) := by decide +kernel
theorem dX2_readLine_0 : decode cX2_readLine 0 = .ok (.aload_n 0, 1) := by decide +kernel
theorem dX2_readLine_1 : decode cX2_readLine 1 = .ok (.ldc 114, 2) := by decide +kernel
theorem dX2_readLine_3 : decode cX2_readLine 3 = .ok (.invokevirtual 116, 3) := by decide +kernel
theorem dX2_readLine_6 : decode cX2_readLine 6 = .ok (.ifCond .eq 13, 3) := by decide +kernel
theorem dX2_readLine_9 : decode cX2_readLine 9 = .ok (.aload_n 0, 1) := by decide +kernel
theorem dX2_readLine_10 : decode cX2_readLine 10 = .ok (.iconst 0, 1) := by decide +kernel
theorem dX2_readLine_11 : decode cX2_readLine 11 = .ok (.aload_n 1, 1) := by decide +kernel
theorem dX2_readLine_12 : decode cX2_readLine 12 = .ok (.aload_n 2, 1) := by decide +kernel
theorem dX2_readLine_13 : decode cX2_readLine 13 = .ok (.invokevirtual 120, 3) := by decide +kernel
theorem dX2_readLine_16 : decode cX2_readLine 16 = .ok (.goto 34, 3) := by decide +kernel
theorem dX2_readLine_19 : decode cX2_readLine 19 = .ok (.aload_n 0, 1) := by decide +kernel
theorem dX2_readLine_20 : decode cX2_readLine 20 = .ok (.ldc 124, 2) := by decide +kernel
theorem dX2_readLine_22 : decode cX2_readLine 22 = .ok (.invokevirtual 116, 3) := by decide +kernel
theorem dX2_readLine_25 : decode cX2_readLine 25 = .ok (.ifCond .eq 13, 3) := by decide +kernel
theorem dX2_readLine_28 : decode cX2_readLine 28 = .ok (.aload_n 0, 1) := by decide +kernel
theorem dX2_readLine_29 : decode cX2_readLine 29 = .ok (.iconst 1, 1) := by decide +kernel
theorem dX2_readLine_30 : decode cX2_readLine 30 = .ok (.aload_n 1, 1) := by decide +kernel
theorem dX2_readLine_31 : decode cX2_readLine 31 = .ok (.aload_n 2, 1) := by decide +kernel
theorem dX2_readLine_32 : decode cX2_readLine 32 = .ok (.invokevirtual 120, 3) := by decide +kernel
theorem dX2_readLine_35 : decode cX2_readLine 35 = .ok (.goto 15, 3) := by decide +kernel
theorem dX2_readLine_38 : decode cX2_readLine 38 = .ok (.aload_n 0, 1) := by decide +kernel
theorem dX2_readLine_39 : decode cX2_readLine 39 = .ok (.ldc 126, 2) := by decide +kernel
theorem dX2_readLine_41 : decode cX2_readLine 41 = .ok (.invokevirtual 80, 3) := by decide +kernel
theorem dX2_readLine_44 : decode cX2_readLine 44 = .ok (.aload_n 0, 1) := by decide +kernel
theorem dX2_readLine_45 : decode cX2_readLine 45 = .ok (.aload_n 1, 1) := by decide +kernel
theorem dX2_readLine_46 : decode cX2_readLine 46 = .ok (.aload_n 2, 1) := by decide +kernel
theorem dX2_readLine_47 : decode cX2_readLine 47 = .ok (.invokevirtual 128, 3) := by decide +kernel
theorem dX2_readLine_50 : decode cX2_readLine 50 = .ok (.return_, 1) := by decide +kernel
theorem dX2_readKind_0 : decode cX2_readKind 0 = .ok (.aload_n 2, 1) := by decide +kernel
theorem dX2_readKind_1 : decode cX2_readKind 1 = .ok (.getfield 33, 3) := by decide +kernel
theorem dX2_readKind_4 : decode cX2_readKind 4 = .ok (.bipush 10, 2) := by decide +kernel
theorem dX2_readKind_6 : decode cX2_readKind 6 = .ok (.if_icmp .lt 13, 3) := by decide +kernel
theorem dX2_readKind_9 : decode cX2_readKind 9 = .ok (.aload_n 0, 1) := by decide +kernel
theorem dX2_readKind_10 : decode cX2_readKind 10 = .ok (.iconst 4, 1) := by decide +kernel
theorem dX2_readKind_11 : decode cX2_readKind 11 = .ok (.aload_n 0, 1) := by decide +kernel
theorem dX2_readKind_12 : decode cX2_readKind 12 = .ok (.getfield 59, 3) := by decide +kernel
theorem dX2_readKind_15 : decode cX2_readKind 15 = .ok (.invokevirtual 62, 3) := by decide +kernel
theorem dX2_readKind_18 : decode cX2_readKind 18 = .ok (.return_, 1) := by decide +kernel
theorem dX2_readKind_19 : decode cX2_readKind 19 = .ok (.aload_n 0, 1) := by decide +kernel
theorem dX2_readKind_20 : decode cX2_readKind 20 = .ok (.invokevirtual 53, 3) := by decide +kernel
theorem dX2_readKind_23 : decode cX2_readKind 23 = .ok (.aload_n 0, 1) := by decide +kernel
theorem dX2_readKind_24 : decode cX2_readKind 24 = .ok (.getfield 59, 3) := by decide +kernel
theorem dX2_readKind_27 : decode cX2_readKind 27 = .ok (.istore 4, 2) := by decide +kernel
theorem dX2_readKind_29 : decode cX2_readKind 29 = .ok (.aload_n 0, 1) := by decide +kernel
theorem dX2_readKind_30 : decode cX2_readKind 30 = .ok (.iconst 1, 1) := by decide +kernel
theorem dX2_readKind_31 : decode cX2_readKind 31 = .ok (.bipush 99, 2) := by decide +kernel
theorem dX2_readKind_33 : decode cX2_readKind 33 = .ok (.invokevirtual 84, 3) := by decide +kernel
theorem dX2_readKind_36 : decode cX2_readKind 36 = .ok (.istore 5, 2) := by decide +kernel
theorem dX2_readKind_38 : decode cX2_readKind 38 = .ok (.aload_n 2, 1) := by decide +kernel
theorem dX2_readKind_39 : decode cX2_readKind 39 = .ok (.iload_n 1, 1) := by decide +kernel
theorem dX2_readKind_40 : decode cX2_readKind 40 = .ok (.iload 5, 2) := by decide +kernel
theorem dX2_readKind_42 : decode cX2_readKind 42 = .ok (.invokevirtual 131, 3) := by decide +kernel
theorem dX2_readKind_45 : decode cX2_readKind 45 = .ok (.iconst (-1), 1) := by decide +kernel
theorem dX2_readKind_46 : decode cX2_readKind 46 = .ok (.if_icmp .eq 10, 3) := by decide +kernel
theorem dX2_readKind_49 : decode cX2_readKind 49 = .ok (.aload_n 0, 1) := by decide +kernel
theorem dX2_readKind_50 : decode cX2_readKind 50 = .ok (.iconst 3, 1) := by decide +kernel
theorem dX2_readKind_51 : decode cX2_readKind 51 = .ok (.iload 4, 2) := by decide +kernel
theorem dX2_readKind_53 : decode cX2_readKind 53 = .ok (.invokevirtual 62, 3) := by decide +kernel
theorem dX2_readKind_56 : decode cX2_readKind 56 = .ok (.aload_n 0, 1) := by decide +kernel
theorem dX2_readKind_57 : decode cX2_readKind 57 = .ok (.iconst 0, 1) := by decide +kernel
theorem dX2_readKind_58 : decode cX2_readKind 58 = .ok (.bipush 99, 2) := by decide +kernel
theorem dX2_readKind_60 : decode cX2_readKind 60 = .ok (.invokevirtual 84, 3) := by decide +kernel
theorem dX2_readKind_63 : decode cX2_readKind 63 = .ok (.istore 6, 2) := by decide +kernel
theorem dX2_readKind_65 : decode cX2_readKind 65 = .ok (.aload_n 0, 1) := by decide +kernel
theorem dX2_readKind_66 : decode cX2_readKind 66 = .ok (.getfield 47, 3) := by decide +kernel
theorem dX2_readKind_69 : decode cX2_readKind 69 = .ok (.ifCond .ne 21, 3) := by decide +kernel
theorem dX2_readKind_72 : decode cX2_readKind 72 = .ok (.aload_n 3, 1) := by decide +kernel
theorem dX2_readKind_73 : decode cX2_readKind 73 = .ok (.getfield 135, 3) := by decide +kernel
theorem dX2_readKind_76 : decode cX2_readKind 76 = .ok (.aload_n 2, 1) := by decide +kernel
theorem dX2_readKind_77 : decode cX2_readKind 77 = .ok (.getfield 33, 3) := by decide +kernel
theorem dX2_readKind_80 : decode cX2_readKind 80 = .ok (.iload 6, 2) := by decide +kernel
theorem dX2_readKind_82 : decode cX2_readKind 82 = .ok (.iastore, 1) := by decide +kernel
theorem dX2_readKind_83 : decode cX2_readKind 83 = .ok (.aload_n 2, 1) := by decide +kernel
theorem dX2_readKind_84 : decode cX2_readKind 84 = .ok (.iload_n 1, 1) := by decide +kernel
theorem dX2_readKind_85 : decode cX2_readKind 85 = .ok (.iload 5, 2) := by decide +kernel
theorem dX2_readKind_87 : decode cX2_readKind 87 = .ok (.invokevirtual 138, 3) := by decide +kernel
theorem dX2_readKind_90 : decode cX2_readKind 90 = .ok (.return_, 1) := by decide +kernel
theorem dX2_readRow_0 : decode cX2_readRow 0 = .ok (.aload_n 0, 1) := by decide +kernel
theorem dX2_readRow_1 : decode cX2_readRow 1 = .ok (.getfield 59, 3) := by decide +kernel
theorem dX2_readRow_4 : decode cX2_readRow 4 = .ok (.istore_n 3, 1) := by decide +kernel
theorem dX2_readRow_5 : decode cX2_readRow 5 = .ok (.aload_n 0, 1) := by decide +kernel
theorem dX2_readRow_6 : decode cX2_readRow 6 = .ok (.iconst 0, 1) := by decide +kernel
theorem dX2_readRow_7 : decode cX2_readRow 7 = .ok (.aload_n 1, 1) := by decide +kernel
theorem dX2_readRow_8 : decode cX2_readRow 8 = .ok (.getfield 88, 3) := by decide +kernel
theorem dX2_readRow_11 : decode cX2_readRow 11 = .ok (.iconst 1, 1) := by decide +kernel
theorem dX2_readRow_12 : decode cX2_readRow 12 = .ok (.isub, 1) := by decide +kernel
theorem dX2_readRow_13 : decode cX2_readRow 13 = .ok (.invokevirtual 84, 3) := by decide +kernel
theorem dX2_readRow_16 : decode cX2_readRow 16 = .ok (.istore 4, 2) := by decide +kernel
theorem dX2_readRow_18 : decode cX2_readRow 18 = .ok (.iload 4, 2) := by decide +kernel
theorem dX2_readRow_20 : decode cX2_readRow 20 = .ok (.ifCond .lt 10, 3) := by decide +kernel
theorem dX2_readRow_23 : decode cX2_readRow 23 = .ok (.iload 4, 2) := by decide +kernel
theorem dX2_readRow_25 : decode cX2_readRow 25 = .ok (.bipush 8, 2) := by decide +kernel
theorem dX2_readRow_27 : decode cX2_readRow 27 = .ok (.if_icmp .lt 4, 3) := by decide +kernel
theorem dX2_readRow_30 : decode cX2_readRow 30 = .ok (.return_, 1) := by decide +kernel
theorem dX2_readRow_31 : decode cX2_readRow 31 = .ok (.aload_n 0, 1) := by decide +kernel
theorem dX2_readRow_32 : decode cX2_readRow 32 = .ok (.getfield 15, 3) := by decide +kernel
theorem dX2_readRow_35 : decode cX2_readRow 35 = .ok (.iload 4, 2) := by decide +kernel
theorem dX2_readRow_37 : decode cX2_readRow 37 = .ok (.baload, 1) := by decide +kernel
theorem dX2_readRow_38 : decode cX2_readRow 38 = .ok (.ifCond .eq 9, 3) := by decide +kernel
theorem dX2_readRow_41 : decode cX2_readRow 41 = .ok (.aload_n 0, 1) := by decide +kernel
theorem dX2_readRow_42 : decode cX2_readRow 42 = .ok (.iconst 3, 1) := by decide +kernel
theorem dX2_readRow_43 : decode cX2_readRow 43 = .ok (.iload_n 3, 1) := by decide +kernel
theorem dX2_readRow_44 : decode cX2_readRow 44 = .ok (.invokevirtual 62, 3) := by decide +kernel
theorem dX2_readRow_47 : decode cX2_readRow 47 = .ok (.aload_n 0, 1) := by decide +kernel
theorem dX2_readRow_48 : decode cX2_readRow 48 = .ok (.getfield 15, 3) := by decide +kernel
theorem dX2_readRow_51 : decode cX2_readRow 51 = .ok (.iload 4, 2) := by decide +kernel
theorem dX2_readRow_53 : decode cX2_readRow 53 = .ok (.iconst 1, 1) := by decide +kernel
theorem dX2_readRow_54 : decode cX2_readRow 54 = .ok (.bastore, 1) := by decide +kernel
theorem dX2_readRow_55 : decode cX2_readRow 55 = .ok (.aload_n 2, 1) := by decide +kernel
theorem dX2_readRow_56 : decode cX2_readRow 56 = .ok (.getfield 142, 3) := by decide +kernel
theorem dX2_readRow_59 : decode cX2_readRow 59 = .ok (.iload 4, 2) := by decide +kernel
theorem dX2_readRow_61 : decode cX2_readRow 61 = .ok (.aaload, 1) := by decide +kernel
theorem dX2_readRow_62 : decode cX2_readRow 62 = .ok (.astore 5, 2) := by decide +kernel
theorem dX2_readRow_64 : decode cX2_readRow 64 = .ok (.iconst 0, 1) := by decide +kernel
theorem dX2_readRow_65 : decode cX2_readRow 65 = .ok (.istore 6, 2) := by decide +kernel
theorem dX2_readRow_67 : decode cX2_readRow 67 = .ok (.iload 6, 2) := by decide +kernel
theorem dX2_readRow_69 : decode cX2_readRow 69 = .ok (.bipush 6, 2) := by decide +kernel
theorem dX2_readRow_71 : decode cX2_readRow 71 = .ok (.if_icmp .gt 86, 3) := by decide +kernel
theorem dX2_readRow_74 : decode cX2_readRow 74 = .ok (.aload_n 0, 1) := by decide +kernel
theorem dX2_readRow_75 : decode cX2_readRow 75 = .ok (.getfield 47, 3) := by decide +kernel
theorem dX2_readRow_78 : decode cX2_readRow 78 = .ok (.ifCond .ne 79, 3) := by decide +kernel
theorem dX2_readRow_81 : decode cX2_readRow 81 = .ok (.aload_n 0, 1) := by decide +kernel
theorem dX2_readRow_82 : decode cX2_readRow 82 = .ok (.getfield 50, 3) := by decide +kernel
theorem dX2_readRow_85 : decode cX2_readRow 85 = .ok (.iconst 2, 1) := by decide +kernel
theorem dX2_readRow_86 : decode cX2_readRow 86 = .ok (.if_icmp .ne 71, 3) := by decide +kernel
theorem dX2_readRow_89 : decode cX2_readRow 89 = .ok (.aload_n 0, 1) := by decide +kernel
theorem dX2_readRow_90 : decode cX2_readRow 90 = .ok (.getfield 59, 3) := by decide +kernel
theorem dX2_readRow_93 : decode cX2_readRow 93 = .ok (.istore_n 3, 1) := by decide +kernel
theorem dX2_readRow_94 : decode cX2_readRow 94 = .ok (.aload_n 0, 1) := by decide +kernel
theorem dX2_readRow_95 : decode cX2_readRow 95 = .ok (.iconst 1, 1) := by decide +kernel
theorem dX2_readRow_96 : decode cX2_readRow 96 = .ok (.sipush 200, 3) := by decide +kernel
theorem dX2_readRow_99 : decode cX2_readRow 99 = .ok (.invokevirtual 84, 3) := by decide +kernel
theorem dX2_readRow_102 : decode cX2_readRow 102 = .ok (.istore 7, 2) := by decide +kernel
theorem dX2_readRow_104 : decode cX2_readRow 104 = .ok (.aload 5, 2) := by decide +kernel
theorem dX2_readRow_106 : decode cX2_readRow 106 = .ok (.getfield 145, 3) := by decide +kernel
theorem dX2_readRow_109 : decode cX2_readRow 109 = .ok (.bipush 6, 2) := by decide +kernel
theorem dX2_readRow_111 : decode cX2_readRow 111 = .ok (.if_icmp .lt 9, 3) := by decide +kernel
theorem dX2_readRow_114 : decode cX2_readRow 114 = .ok (.aload_n 0, 1) := by decide +kernel
theorem dX2_readRow_115 : decode cX2_readRow 115 = .ok (.iconst 4, 1) := by decide +kernel
theorem dX2_readRow_116 : decode cX2_readRow 116 = .ok (.iload_n 3, 1) := by decide +kernel
theorem dX2_readRow_117 : decode cX2_readRow 117 = .ok (.invokevirtual 62, 3) := by decide +kernel
theorem dX2_readRow_120 : decode cX2_readRow 120 = .ok (.iload 7, 2) := by decide +kernel
theorem dX2_readRow_122 : decode cX2_readRow 122 = .ok (.aload 5, 2) := by decide +kernel
theorem dX2_readRow_124 : decode cX2_readRow 124 = .ok (.aload_n 1, 1) := by decide +kernel
theorem dX2_readRow_125 : decode cX2_readRow 125 = .ok (.invokevirtual 150, 3) := by decide +kernel
theorem dX2_readRow_128 : decode cX2_readRow 128 = .ok (.if_icmp .le 9, 3) := by decide +kernel
theorem dX2_readRow_131 : decode cX2_readRow 131 = .ok (.aload_n 0, 1) := by decide +kernel
theorem dX2_readRow_132 : decode cX2_readRow 132 = .ok (.iconst 5, 1) := by decide +kernel
theorem dX2_readRow_133 : decode cX2_readRow 133 = .ok (.iload_n 3, 1) := by decide +kernel
theorem dX2_readRow_134 : decode cX2_readRow 134 = .ok (.invokevirtual 62, 3) := by decide +kernel
theorem dX2_readRow_137 : decode cX2_readRow 137 = .ok (.aload_n 0, 1) := by decide +kernel
theorem dX2_readRow_138 : decode cX2_readRow 138 = .ok (.getfield 47, 3) := by decide +kernel
theorem dX2_readRow_141 : decode cX2_readRow 141 = .ok (.ifCond .ne 10, 3) := by decide +kernel
theorem dX2_readRow_144 : decode cX2_readRow 144 = .ok (.aload 5, 2) := by decide +kernel
theorem dX2_readRow_146 : decode cX2_readRow 146 = .ok (.iload 7, 2) := by decide +kernel
theorem dX2_readRow_148 : decode cX2_readRow 148 = .ok (.invokevirtual 154, 3) := by decide +kernel
theorem dX2_readRow_151 : decode cX2_readRow 151 = .ok (.iinc 6 1, 3) := by decide +kernel
theorem dX2_readRow_154 : decode cX2_readRow 154 = .ok (.goto (-87), 3) := by decide +kernel
theorem dX2_readRow_157 : decode cX2_readRow 157 = .ok (.return_, 1) := by decide +kernel
theorem dX2_fail_0 : decode cX2_fail 0 = .ok (.aload_n 0, 1) := by decide +kernel
theorem dX2_fail_1 : decode cX2_fail 1 = .ok (.getfield 47, 3) := by decide +kernel
theorem dX2_fail_4 : decode cX2_fail 4 = .ok (.ifCond .ne 13, 3) := by decide +kernel
theorem dX2_fail_7 : decode cX2_fail 7 = .ok (.aload_n 0, 1) := by decide +kernel
theorem dX2_fail_8 : decode cX2_fail 8 = .ok (.iload_n 1, 1) := by decide +kernel
theorem dX2_fail_9 : decode cX2_fail 9 = .ok (.putfield 47, 3) := by decide +kernel
theorem dX2_fail_12 : decode cX2_fail 12 = .ok (.aload_n 0, 1) := by decide +kernel
theorem dX2_fail_13 : decode cX2_fail 13 = .ok (.iload_n 2, 1) := by decide +kernel
theorem dX2_fail_14 : decode cX2_fail 14 = .ok (.putfield 19, 3) := by decide +kernel
theorem dX2_fail_17 : decode cX2_fail 17 = .ok (.return_, 1) := by decide +kernel
theorem dX2_takeWord_0 : decode cX2_takeWord 0 = .ok (.aload_n 0, 1) := by decide +kernel
theorem dX2_takeWord_1 : decode cX2_takeWord 1 = .ok (.aload_n 1, 1) := by decide +kernel
theorem dX2_takeWord_2 : decode cX2_takeWord 2 = .ok (.invokevirtual 116, 3) := by decide +kernel
theorem dX2_takeWord_5 : decode cX2_takeWord 5 = .ok (.ifCond .ne 12, 3) := by decide +kernel
theorem dX2_takeWord_8 : decode cX2_takeWord 8 = .ok (.aload_n 0, 1) := by decide +kernel
theorem dX2_takeWord_9 : decode cX2_takeWord 9 = .ok (.iconst 1, 1) := by decide +kernel
theorem dX2_takeWord_10 : decode cX2_takeWord 10 = .ok (.aload_n 0, 1) := by decide +kernel
theorem dX2_takeWord_11 : decode cX2_takeWord 11 = .ok (.getfield 59, 3) := by decide +kernel
theorem dX2_takeWord_14 : decode cX2_takeWord 14 = .ok (.invokevirtual 62, 3) := by decide +kernel
theorem dX2_takeWord_17 : decode cX2_takeWord 17 = .ok (.aload_n 0, 1) := by decide +kernel
theorem dX2_takeWord_18 : decode cX2_takeWord 18 = .ok (.getfield 47, 3) := by decide +kernel
theorem dX2_takeWord_21 : decode cX2_takeWord 21 = .ok (.ifCond .ne 7, 3) := by decide +kernel
theorem dX2_takeWord_24 : decode cX2_takeWord 24 = .ok (.aload_n 0, 1) := by decide +kernel
theorem dX2_takeWord_25 : decode cX2_takeWord 25 = .ok (.invokevirtual 53, 3) := by decide +kernel
theorem dX2_takeWord_28 : decode cX2_takeWord 28 = .ok (.return_, 1) := by decide +kernel
theorem dX2_takeSemicolon_0 : decode cX2_takeSemicolon 0 = .ok (.aload_n 0, 1) := by decide +kernel
theorem dX2_takeSemicolon_1 : decode cX2_takeSemicolon 1 = .ok (.getfield 50, 3) := by decide +kernel
theorem dX2_takeSemicolon_4 : decode cX2_takeSemicolon 4 = .ok (.iconst 3, 1) := by decide +kernel
theorem dX2_takeSemicolon_5 : decode cX2_takeSemicolon 5 = .ok (.if_icmp .eq 12, 3) := by decide +kernel
theorem dX2_takeSemicolon_8 : decode cX2_takeSemicolon 8 = .ok (.aload_n 0, 1) := by decide +kernel
theorem dX2_takeSemicolon_9 : decode cX2_takeSemicolon 9 = .ok (.iconst 1, 1) := by decide +kernel
theorem dX2_takeSemicolon_10 : decode cX2_takeSemicolon 10 = .ok (.aload_n 0, 1) := by decide +kernel
theorem dX2_takeSemicolon_11 : decode cX2_takeSemicolon 11 = .ok (.getfield 59, 3) := by decide +kernel
theorem dX2_takeSemicolon_14 : decode cX2_takeSemicolon 14 = .ok (.invokevirtual 62, 3) := by decide +kernel
theorem dX2_takeSemicolon_17 : decode cX2_takeSemicolon 17 = .ok (.aload_n 0, 1) := by decide +kernel
theorem dX2_takeSemicolon_18 : decode cX2_takeSemicolon 18 = .ok (.getfield 47, 3) := by decide +kernel
theorem dX2_takeSemicolon_21 : decode cX2_takeSemicolon 21 = .ok (.ifCond .ne 7, 3) := by decide +kernel
theorem dX2_takeSemicolon_24 : decode cX2_takeSemicolon 24 = .ok (.aload_n 0, 1) := by decide +kernel
theorem dX2_takeSemicolon_25 : decode cX2_takeSemicolon 25 = .ok (.invokevirtual 53, 3) := by decide +kernel
theorem dX2_takeSemicolon_28 : decode cX2_takeSemicolon 28 = .ok (.return_, 1) := by decide +kernel
theorem dX2_takeNumber_0 : decode cX2_takeNumber 0 = .ok (.aload_n 0, 1) := by decide +kernel
theorem dX2_takeNumber_1 : decode cX2_takeNumber 1 = .ok (.getfield 50, 3) := by decide +kernel
theorem dX2_takeNumber_4 : decode cX2_takeNumber 4 = .ok (.iconst 2, 1) := by decide +kernel
theorem dX2_takeNumber_5 : decode cX2_takeNumber 5 = .ok (.if_icmp .eq 12, 3) := by decide +kernel
theorem dX2_takeNumber_8 : decode cX2_takeNumber 8 = .ok (.aload_n 0, 1) := by decide +kernel
theorem dX2_takeNumber_9 : decode cX2_takeNumber 9 = .ok (.iconst 1, 1) := by decide +kernel
theorem dX2_takeNumber_10 : decode cX2_takeNumber 10 = .ok (.aload_n 0, 1) := by decide +kernel
theorem dX2_takeNumber_11 : decode cX2_takeNumber 11 = .ok (.getfield 59, 3) := by decide +kernel
theorem dX2_takeNumber_14 : decode cX2_takeNumber 14 = .ok (.invokevirtual 62, 3) := by decide +kernel
theorem dX2_takeNumber_17 : decode cX2_takeNumber 17 = .ok (.aload_n 0, 1) := by decide +kernel
theorem dX2_takeNumber_18 : decode cX2_takeNumber 18 = .ok (.getfield 47, 3) := by decide +kernel
theorem dX2_takeNumber_21 : decode cX2_takeNumber 21 = .ok (.ifCond .eq 5, 3) := by decide +kernel
theorem dX2_takeNumber_24 : decode cX2_takeNumber 24 = .ok (.iconst (-1), 1) := by decide +kernel
theorem dX2_takeNumber_25 : decode cX2_takeNumber 25 = .ok (.ireturn, 1) := by decide +kernel
theorem dX2_takeNumber_26 : decode cX2_takeNumber 26 = .ok (.aload_n 0, 1) := by decide +kernel
theorem dX2_takeNumber_27 : decode cX2_takeNumber 27 = .ok (.invokevirtual 157, 3) := by decide +kernel
theorem dX2_takeNumber_30 : decode cX2_takeNumber 30 = .ok (.istore_n 3, 1) := by decide +kernel
theorem dX2_takeNumber_31 : decode cX2_takeNumber 31 = .ok (.iload_n 3, 1) := by decide +kernel
theorem dX2_takeNumber_32 : decode cX2_takeNumber 32 = .ok (.iload_n 1, 1) := by decide +kernel
theorem dX2_takeNumber_33 : decode cX2_takeNumber 33 = .ok (.if_icmp .lt 8, 3) := by decide +kernel
theorem dX2_takeNumber_36 : decode cX2_takeNumber 36 = .ok (.iload_n 3, 1) := by decide +kernel
theorem dX2_takeNumber_37 : decode cX2_takeNumber 37 = .ok (.iload_n 2, 1) := by decide +kernel
theorem dX2_takeNumber_38 : decode cX2_takeNumber 38 = .ok (.if_icmp .le 14, 3) := by decide +kernel
theorem dX2_takeNumber_41 : decode cX2_takeNumber 41 = .ok (.aload_n 0, 1) := by decide +kernel
theorem dX2_takeNumber_42 : decode cX2_takeNumber 42 = .ok (.iconst 2, 1) := by decide +kernel
theorem dX2_takeNumber_43 : decode cX2_takeNumber 43 = .ok (.aload_n 0, 1) := by decide +kernel
theorem dX2_takeNumber_44 : decode cX2_takeNumber 44 = .ok (.getfield 59, 3) := by decide +kernel
theorem dX2_takeNumber_47 : decode cX2_takeNumber 47 = .ok (.invokevirtual 62, 3) := by decide +kernel
theorem dX2_takeNumber_50 : decode cX2_takeNumber 50 = .ok (.iconst (-1), 1) := by decide +kernel
theorem dX2_takeNumber_51 : decode cX2_takeNumber 51 = .ok (.ireturn, 1) := by decide +kernel
theorem dX2_takeNumber_52 : decode cX2_takeNumber 52 = .ok (.aload_n 0, 1) := by decide +kernel
theorem dX2_takeNumber_53 : decode cX2_takeNumber 53 = .ok (.invokevirtual 53, 3) := by decide +kernel
theorem dX2_takeNumber_56 : decode cX2_takeNumber 56 = .ok (.iload_n 3, 1) := by decide +kernel
theorem dX2_takeNumber_57 : decode cX2_takeNumber 57 = .ok (.ireturn, 1) := by decide +kernel
theorem dX2_isWord_0 : decode cX2_isWord 0 = .ok (.aload_n 0, 1) := by decide +kernel
theorem dX2_isWord_1 : decode cX2_isWord 1 = .ok (.getfield 50, 3) := by decide +kernel
theorem dX2_isWord_4 : decode cX2_isWord 4 = .ok (.iconst 1, 1) := by decide +kernel
theorem dX2_isWord_5 : decode cX2_isWord 5 = .ok (.if_icmp .ne 19, 3) := by decide +kernel
theorem dX2_isWord_8 : decode cX2_isWord 8 = .ok (.aload_n 0, 1) := by decide +kernel
theorem dX2_isWord_9 : decode cX2_isWord 9 = .ok (.getfield 75, 3) := by decide +kernel
theorem dX2_isWord_12 : decode cX2_isWord 12 = .ok (.aload_n 0, 1) := by decide +kernel
theorem dX2_isWord_13 : decode cX2_isWord 13 = .ok (.getfield 59, 3) := by decide +kernel
theorem dX2_isWord_16 : decode cX2_isWord 16 = .ok (.isub, 1) := by decide +kernel
theorem dX2_isWord_17 : decode cX2_isWord 17 = .ok (.aload_n 1, 1) := by decide +kernel
theorem dX2_isWord_18 : decode cX2_isWord 18 = .ok (.invokevirtual 161, 3) := by decide +kernel
theorem dX2_isWord_21 : decode cX2_isWord 21 = .ok (.if_icmp .eq 5, 3) := by decide +kernel
theorem dX2_isWord_24 : decode cX2_isWord 24 = .ok (.iconst 0, 1) := by decide +kernel
theorem dX2_isWord_25 : decode cX2_isWord 25 = .ok (.ireturn, 1) := by decide +kernel
theorem dX2_isWord_26 : decode cX2_isWord 26 = .ok (.iconst 0, 1) := by decide +kernel
theorem dX2_isWord_27 : decode cX2_isWord 27 = .ok (.istore_n 2, 1) := by decide +kernel
theorem dX2_isWord_28 : decode cX2_isWord 28 = .ok (.iload_n 2, 1) := by decide +kernel
theorem dX2_isWord_29 : decode cX2_isWord 29 = .ok (.aload_n 1, 1) := by decide +kernel
theorem dX2_isWord_30 : decode cX2_isWord 30 = .ok (.invokevirtual 161, 3) := by decide +kernel
theorem dX2_isWord_33 : decode cX2_isWord 33 = .ok (.if_icmp .ge 43, 3) := by decide +kernel
theorem dX2_isWord_36 : decode cX2_isWord 36 = .ok (.aload_n 0, 1) := by decide +kernel
theorem dX2_isWord_37 : decode cX2_isWord 37 = .ok (.getfield 59, 3) := by decide +kernel
theorem dX2_isWord_40 : decode cX2_isWord 40 = .ok (.iload_n 2, 1) := by decide +kernel
theorem dX2_isWord_41 : decode cX2_isWord 41 = .ok (.iadd, 1) := by decide +kernel
theorem dX2_isWord_42 : decode cX2_isWord 42 = .ok (.aload_n 0, 1) := by decide +kernel
theorem dX2_isWord_43 : decode cX2_isWord 43 = .ok (.getfield 72, 3) := by decide +kernel
theorem dX2_isWord_46 : decode cX2_isWord 46 = .ok (.if_icmp .ge 30, 3) := by decide +kernel
theorem dX2_isWord_49 : decode cX2_isWord 49 = .ok (.aload_n 0, 1) := by decide +kernel
theorem dX2_isWord_50 : decode cX2_isWord 50 = .ok (.getfield 9, 3) := by decide +kernel
theorem dX2_isWord_53 : decode cX2_isWord 53 = .ok (.aload_n 0, 1) := by decide +kernel
theorem dX2_isWord_54 : decode cX2_isWord 54 = .ok (.getfield 59, 3) := by decide +kernel
theorem dX2_isWord_57 : decode cX2_isWord 57 = .ok (.iload_n 2, 1) := by decide +kernel
theorem dX2_isWord_58 : decode cX2_isWord 58 = .ok (.iadd, 1) := by decide +kernel
theorem dX2_isWord_59 : decode cX2_isWord 59 = .ok (.iaload, 1) := by decide +kernel
theorem dX2_isWord_60 : decode cX2_isWord 60 = .ok (.aload_n 1, 1) := by decide +kernel
theorem dX2_isWord_61 : decode cX2_isWord 61 = .ok (.iload_n 2, 1) := by decide +kernel
theorem dX2_isWord_62 : decode cX2_isWord 62 = .ok (.invokevirtual 166, 3) := by decide +kernel
theorem dX2_isWord_65 : decode cX2_isWord 65 = .ok (.if_icmp .eq 5, 3) := by decide +kernel
theorem dX2_isWord_68 : decode cX2_isWord 68 = .ok (.iconst 0, 1) := by decide +kernel
theorem dX2_isWord_69 : decode cX2_isWord 69 = .ok (.ireturn, 1) := by decide +kernel
theorem dX2_isWord_70 : decode cX2_isWord 70 = .ok (.iinc 2 1, 3) := by decide +kernel
theorem dX2_isWord_73 : decode cX2_isWord 73 = .ok (.goto (-45), 3) := by decide +kernel
theorem dX2_isWord_76 : decode cX2_isWord 76 = .ok (.iconst 1, 1) := by decide +kernel
theorem dX2_isWord_77 : decode cX2_isWord 77 = .ok (.ireturn, 1) := by decide +kernel
theorem dX2_advance_0 : decode cX2_advance 0 = .ok (.aload_n 0, 1) := by decide +kernel
theorem dX2_advance_1 : decode cX2_advance 1 = .ok (.aload_n 0, 1) := by decide +kernel
theorem dX2_advance_2 : decode cX2_advance 2 = .ok (.getfield 75, 3) := by decide +kernel
theorem dX2_advance_5 : decode cX2_advance 5 = .ok (.putfield 59, 3) := by decide +kernel
theorem dX2_advance_8 : decode cX2_advance 8 = .ok (.aload_n 0, 1) := by decide +kernel
theorem dX2_advance_9 : decode cX2_advance 9 = .ok (.getfield 59, 3) := by decide +kernel
theorem dX2_advance_12 : decode cX2_advance 12 = .ok (.aload_n 0, 1) := by decide +kernel
theorem dX2_advance_13 : decode cX2_advance 13 = .ok (.getfield 72, 3) := by decide +kernel
theorem dX2_advance_16 : decode cX2_advance 16 = .ok (.if_icmp .ge 30, 3) := by decide +kernel
theorem dX2_advance_19 : decode cX2_advance 19 = .ok (.aload_n 0, 1) := by decide +kernel
theorem dX2_advance_20 : decode cX2_advance 20 = .ok (.getfield 9, 3) := by decide +kernel
theorem dX2_advance_23 : decode cX2_advance 23 = .ok (.aload_n 0, 1) := by decide +kernel
theorem dX2_advance_24 : decode cX2_advance 24 = .ok (.getfield 59, 3) := by decide +kernel
theorem dX2_advance_27 : decode cX2_advance 27 = .ok (.iaload, 1) := by decide +kernel
theorem dX2_advance_28 : decode cX2_advance 28 = .ok (.bipush 32, 2) := by decide +kernel
theorem dX2_advance_30 : decode cX2_advance 30 = .ok (.if_icmp .ne 16, 3) := by decide +kernel
theorem dX2_advance_33 : decode cX2_advance 33 = .ok (.aload_n 0, 1) := by decide +kernel
theorem dX2_advance_34 : decode cX2_advance 34 = .ok (.dup, 1) := by decide +kernel
theorem dX2_advance_35 : decode cX2_advance 35 = .ok (.getfield 59, 3) := by decide +kernel
theorem dX2_advance_38 : decode cX2_advance 38 = .ok (.iconst 1, 1) := by decide +kernel
theorem dX2_advance_39 : decode cX2_advance 39 = .ok (.iadd, 1) := by decide +kernel
theorem dX2_advance_40 : decode cX2_advance 40 = .ok (.putfield 59, 3) := by decide +kernel
theorem dX2_advance_43 : decode cX2_advance 43 = .ok (.goto (-35), 3) := by decide +kernel
theorem dX2_advance_46 : decode cX2_advance 46 = .ok (.aload_n 0, 1) := by decide +kernel
theorem dX2_advance_47 : decode cX2_advance 47 = .ok (.getfield 59, 3) := by decide +kernel
theorem dX2_advance_50 : decode cX2_advance 50 = .ok (.aload_n 0, 1) := by decide +kernel
theorem dX2_advance_51 : decode cX2_advance 51 = .ok (.getfield 72, 3) := by decide +kernel
theorem dX2_advance_54 : decode cX2_advance 54 = .ok (.if_icmp .lt 11, 3) := by decide +kernel
theorem dX2_advance_57 : decode cX2_advance 57 = .ok (.aload_n 0, 1) := by decide +kernel
theorem dX2_advance_58 : decode cX2_advance 58 = .ok (.iconst 0, 1) := by decide +kernel
theorem dX2_advance_59 : decode cX2_advance 59 = .ok (.putfield 50, 3) := by decide +kernel
theorem dX2_advance_62 : decode cX2_advance 62 = .ok (.goto 145, 3) := by decide +kernel
theorem dX2_advance_65 : decode cX2_advance 65 = .ok (.aload_n 0, 1) := by decide +kernel
theorem dX2_advance_66 : decode cX2_advance 66 = .ok (.getfield 9, 3) := by decide +kernel
theorem dX2_advance_69 : decode cX2_advance 69 = .ok (.aload_n 0, 1) := by decide +kernel
theorem dX2_advance_70 : decode cX2_advance 70 = .ok (.getfield 59, 3) := by decide +kernel
theorem dX2_advance_73 : decode cX2_advance 73 = .ok (.iaload, 1) := by decide +kernel
theorem dX2_advance_74 : decode cX2_advance 74 = .ok (.bipush 59, 2) := by decide +kernel
theorem dX2_advance_76 : decode cX2_advance 76 = .ok (.if_icmp .ne 21, 3) := by decide +kernel
theorem dX2_advance_79 : decode cX2_advance 79 = .ok (.aload_n 0, 1) := by decide +kernel
theorem dX2_advance_80 : decode cX2_advance 80 = .ok (.iconst 3, 1) := by decide +kernel
theorem dX2_advance_81 : decode cX2_advance 81 = .ok (.putfield 50, 3) := by decide +kernel
theorem dX2_advance_84 : decode cX2_advance 84 = .ok (.aload_n 0, 1) := by decide +kernel
theorem dX2_advance_85 : decode cX2_advance 85 = .ok (.aload_n 0, 1) := by decide +kernel
theorem dX2_advance_86 : decode cX2_advance 86 = .ok (.getfield 59, 3) := by decide +kernel
theorem dX2_advance_89 : decode cX2_advance 89 = .ok (.iconst 1, 1) := by decide +kernel
theorem dX2_advance_90 : decode cX2_advance 90 = .ok (.iadd, 1) := by decide +kernel
theorem dX2_advance_91 : decode cX2_advance 91 = .ok (.putfield 75, 3) := by decide +kernel
theorem dX2_advance_94 : decode cX2_advance 94 = .ok (.goto 113, 3) := by decide +kernel
theorem dX2_advance_97 : decode cX2_advance 97 = .ok (.aload_n 0, 1) := by decide +kernel
theorem dX2_advance_98 : decode cX2_advance 98 = .ok (.bipush 97, 2) := by decide +kernel
theorem dX2_advance_100 : decode cX2_advance 100 = .ok (.bipush 122, 2) := by decide +kernel
theorem dX2_advance_102 : decode cX2_advance 102 = .ok (.aload_n 0, 1) := by decide +kernel
theorem dX2_advance_103 : decode cX2_advance 103 = .ok (.getfield 59, 3) := by decide +kernel
theorem dX2_advance_106 : decode cX2_advance 106 = .ok (.invokevirtual 170, 3) := by decide +kernel
theorem dX2_advance_109 : decode cX2_advance 109 = .ok (.ifCond .eq 41, 3) := by decide +kernel
theorem dX2_advance_112 : decode cX2_advance 112 = .ok (.aload_n 0, 1) := by decide +kernel
theorem dX2_advance_113 : decode cX2_advance 113 = .ok (.aload_n 0, 1) := by decide +kernel
theorem dX2_advance_114 : decode cX2_advance 114 = .ok (.bipush 97, 2) := by decide +kernel
theorem dX2_advance_116 : decode cX2_advance 116 = .ok (.bipush 122, 2) := by decide +kernel
theorem dX2_advance_118 : decode cX2_advance 118 = .ok (.invokevirtual 174, 3) := by decide +kernel
theorem dX2_advance_121 : decode cX2_advance 121 = .ok (.putfield 75, 3) := by decide +kernel
theorem dX2_advance_124 : decode cX2_advance 124 = .ok (.aload_n 0, 1) := by decide +kernel
theorem dX2_advance_125 : decode cX2_advance 125 = .ok (.aload_n 0, 1) := by decide +kernel
theorem dX2_advance_126 : decode cX2_advance 126 = .ok (.getfield 75, 3) := by decide +kernel
theorem dX2_advance_129 : decode cX2_advance 129 = .ok (.aload_n 0, 1) := by decide +kernel
theorem dX2_advance_130 : decode cX2_advance 130 = .ok (.getfield 59, 3) := by decide +kernel
theorem dX2_advance_133 : decode cX2_advance 133 = .ok (.isub, 1) := by decide +kernel
theorem dX2_advance_134 : decode cX2_advance 134 = .ok (.bipush 6, 2) := by decide +kernel
theorem dX2_advance_136 : decode cX2_advance 136 = .ok (.if_icmp .gt 7, 3) := by decide +kernel
theorem dX2_advance_139 : decode cX2_advance 139 = .ok (.iconst 1, 1) := by decide +kernel
theorem dX2_advance_140 : decode cX2_advance 140 = .ok (.goto 4, 3) := by decide +kernel
theorem dX2_advance_143 : decode cX2_advance 143 = .ok (.iconst 4, 1) := by decide +kernel
theorem dX2_advance_144 : decode cX2_advance 144 = .ok (.putfield 50, 3) := by decide +kernel
theorem dX2_advance_147 : decode cX2_advance 147 = .ok (.goto 60, 3) := by decide +kernel
theorem dX2_advance_150 : decode cX2_advance 150 = .ok (.aload_n 0, 1) := by decide +kernel
theorem dX2_advance_151 : decode cX2_advance 151 = .ok (.bipush 48, 2) := by decide +kernel
theorem dX2_advance_153 : decode cX2_advance 153 = .ok (.bipush 57, 2) := by decide +kernel
theorem dX2_advance_155 : decode cX2_advance 155 = .ok (.aload_n 0, 1) := by decide +kernel
theorem dX2_advance_156 : decode cX2_advance 156 = .ok (.getfield 59, 3) := by decide +kernel
theorem dX2_advance_159 : decode cX2_advance 159 = .ok (.invokevirtual 170, 3) := by decide +kernel
theorem dX2_advance_162 : decode cX2_advance 162 = .ok (.ifCond .eq 40, 3) := by decide +kernel
theorem dX2_advance_165 : decode cX2_advance 165 = .ok (.aload_n 0, 1) := by decide +kernel
theorem dX2_advance_166 : decode cX2_advance 166 = .ok (.aload_n 0, 1) := by decide +kernel
theorem dX2_advance_167 : decode cX2_advance 167 = .ok (.bipush 48, 2) := by decide +kernel
theorem dX2_advance_169 : decode cX2_advance 169 = .ok (.bipush 57, 2) := by decide +kernel
theorem dX2_advance_171 : decode cX2_advance 171 = .ok (.invokevirtual 174, 3) := by decide +kernel
theorem dX2_advance_174 : decode cX2_advance 174 = .ok (.putfield 75, 3) := by decide +kernel
theorem dX2_advance_177 : decode cX2_advance 177 = .ok (.aload_n 0, 1) := by decide +kernel
theorem dX2_advance_178 : decode cX2_advance 178 = .ok (.aload_n 0, 1) := by decide +kernel
theorem dX2_advance_179 : decode cX2_advance 179 = .ok (.getfield 75, 3) := by decide +kernel
theorem dX2_advance_182 : decode cX2_advance 182 = .ok (.aload_n 0, 1) := by decide +kernel
theorem dX2_advance_183 : decode cX2_advance 183 = .ok (.getfield 59, 3) := by decide +kernel
theorem dX2_advance_186 : decode cX2_advance 186 = .ok (.isub, 1) := by decide +kernel
theorem dX2_advance_187 : decode cX2_advance 187 = .ok (.iconst 3, 1) := by decide +kernel
theorem dX2_advance_188 : decode cX2_advance 188 = .ok (.if_icmp .gt 7, 3) := by decide +kernel
theorem dX2_advance_191 : decode cX2_advance 191 = .ok (.iconst 2, 1) := by decide +kernel
theorem dX2_advance_192 : decode cX2_advance 192 = .ok (.goto 4, 3) := by decide +kernel
theorem dX2_advance_195 : decode cX2_advance 195 = .ok (.iconst 4, 1) := by decide +kernel
theorem dX2_advance_196 : decode cX2_advance 196 = .ok (.putfield 50, 3) := by decide +kernel
theorem dX2_advance_199 : decode cX2_advance 199 = .ok (.goto 8, 3) := by decide +kernel
theorem dX2_advance_202 : decode cX2_advance 202 = .ok (.aload_n 0, 1) := by decide +kernel
theorem dX2_advance_203 : decode cX2_advance 203 = .ok (.iconst 4, 1) := by decide +kernel
theorem dX2_advance_204 : decode cX2_advance 204 = .ok (.putfield 50, 3) := by decide +kernel
theorem dX2_advance_207 : decode cX2_advance 207 = .ok (.return_, 1) := by decide +kernel
theorem dX2_endOfRun_0 : decode cX2_endOfRun 0 = .ok (.aload_n 0, 1) := by decide +kernel
theorem dX2_endOfRun_1 : decode cX2_endOfRun 1 = .ok (.getfield 59, 3) := by decide +kernel
theorem dX2_endOfRun_4 : decode cX2_endOfRun 4 = .ok (.istore_n 3, 1) := by decide +kernel
theorem dX2_endOfRun_5 : decode cX2_endOfRun 5 = .ok (.iload_n 3, 1) := by decide +kernel
theorem dX2_endOfRun_6 : decode cX2_endOfRun 6 = .ok (.aload_n 0, 1) := by decide +kernel
theorem dX2_endOfRun_7 : decode cX2_endOfRun 7 = .ok (.getfield 72, 3) := by decide +kernel
theorem dX2_endOfRun_10 : decode cX2_endOfRun 10 = .ok (.if_icmp .ge 19, 3) := by decide +kernel
theorem dX2_endOfRun_13 : decode cX2_endOfRun 13 = .ok (.aload_n 0, 1) := by decide +kernel
theorem dX2_endOfRun_14 : decode cX2_endOfRun 14 = .ok (.iload_n 1, 1) := by decide +kernel
theorem dX2_endOfRun_15 : decode cX2_endOfRun 15 = .ok (.iload_n 2, 1) := by decide +kernel
theorem dX2_endOfRun_16 : decode cX2_endOfRun 16 = .ok (.iload_n 3, 1) := by decide +kernel
theorem dX2_endOfRun_17 : decode cX2_endOfRun 17 = .ok (.invokevirtual 170, 3) := by decide +kernel
theorem dX2_endOfRun_20 : decode cX2_endOfRun 20 = .ok (.ifCond .eq 9, 3) := by decide +kernel
theorem dX2_endOfRun_23 : decode cX2_endOfRun 23 = .ok (.iinc 3 1, 3) := by decide +kernel
theorem dX2_endOfRun_26 : decode cX2_endOfRun 26 = .ok (.goto (-21), 3) := by decide +kernel
theorem dX2_endOfRun_29 : decode cX2_endOfRun 29 = .ok (.iload_n 3, 1) := by decide +kernel
theorem dX2_endOfRun_30 : decode cX2_endOfRun 30 = .ok (.ireturn, 1) := by decide +kernel
theorem dX2_isBetween_0 : decode cX2_isBetween 0 = .ok (.iload_n 3, 1) := by decide +kernel
theorem dX2_isBetween_1 : decode cX2_isBetween 1 = .ok (.ifCond .lt 34, 3) := by decide +kernel
theorem dX2_isBetween_4 : decode cX2_isBetween 4 = .ok (.iload_n 3, 1) := by decide +kernel
theorem dX2_isBetween_5 : decode cX2_isBetween 5 = .ok (.sipush 500, 3) := by decide +kernel
theorem dX2_isBetween_8 : decode cX2_isBetween 8 = .ok (.if_icmp .ge 27, 3) := by decide +kernel
theorem dX2_isBetween_11 : decode cX2_isBetween 11 = .ok (.aload_n 0, 1) := by decide +kernel
theorem dX2_isBetween_12 : decode cX2_isBetween 12 = .ok (.getfield 9, 3) := by decide +kernel
theorem dX2_isBetween_15 : decode cX2_isBetween 15 = .ok (.iload_n 3, 1) := by decide +kernel
theorem dX2_isBetween_16 : decode cX2_isBetween 16 = .ok (.iaload, 1) := by decide +kernel
theorem dX2_isBetween_17 : decode cX2_isBetween 17 = .ok (.iload_n 1, 1) := by decide +kernel
theorem dX2_isBetween_18 : decode cX2_isBetween 18 = .ok (.if_icmp .lt 17, 3) := by decide +kernel
theorem dX2_isBetween_21 : decode cX2_isBetween 21 = .ok (.aload_n 0, 1) := by decide +kernel
theorem dX2_isBetween_22 : decode cX2_isBetween 22 = .ok (.getfield 9, 3) := by decide +kernel
theorem dX2_isBetween_25 : decode cX2_isBetween 25 = .ok (.iload_n 3, 1) := by decide +kernel
theorem dX2_isBetween_26 : decode cX2_isBetween 26 = .ok (.iaload, 1) := by decide +kernel
theorem dX2_isBetween_27 : decode cX2_isBetween 27 = .ok (.iload_n 2, 1) := by decide +kernel
theorem dX2_isBetween_28 : decode cX2_isBetween 28 = .ok (.if_icmp .gt 7, 3) := by decide +kernel
theorem dX2_isBetween_31 : decode cX2_isBetween 31 = .ok (.iconst 1, 1) := by decide +kernel
theorem dX2_isBetween_32 : decode cX2_isBetween 32 = .ok (.goto 4, 3) := by decide +kernel
theorem dX2_isBetween_35 : decode cX2_isBetween 35 = .ok (.iconst 0, 1) := by decide +kernel
theorem dX2_isBetween_36 : decode cX2_isBetween 36 = .ok (.ireturn, 1) := by decide +kernel
theorem dX2_numberHere_0 : decode cX2_numberHere 0 = .ok (.iconst 0, 1) := by decide +kernel
theorem dX2_numberHere_1 : decode cX2_numberHere 1 = .ok (.istore_n 1, 1) := by decide +kernel
theorem dX2_numberHere_2 : decode cX2_numberHere 2 = .ok (.aload_n 0, 1) := by decide +kernel
theorem dX2_numberHere_3 : decode cX2_numberHere 3 = .ok (.getfield 59, 3) := by decide +kernel
theorem dX2_numberHere_6 : decode cX2_numberHere 6 = .ok (.istore_n 2, 1) := by decide +kernel
theorem dX2_numberHere_7 : decode cX2_numberHere 7 = .ok (.iload_n 2, 1) := by decide +kernel
theorem dX2_numberHere_8 : decode cX2_numberHere 8 = .ok (.aload_n 0, 1) := by decide +kernel
theorem dX2_numberHere_9 : decode cX2_numberHere 9 = .ok (.getfield 75, 3) := by decide +kernel
theorem dX2_numberHere_12 : decode cX2_numberHere 12 = .ok (.if_icmp .ge 32, 3) := by decide +kernel
theorem dX2_numberHere_15 : decode cX2_numberHere 15 = .ok (.iload_n 2, 1) := by decide +kernel
theorem dX2_numberHere_16 : decode cX2_numberHere 16 = .ok (.aload_n 0, 1) := by decide +kernel
theorem dX2_numberHere_17 : decode cX2_numberHere 17 = .ok (.getfield 72, 3) := by decide +kernel
theorem dX2_numberHere_20 : decode cX2_numberHere 20 = .ok (.if_icmp .ge 24, 3) := by decide +kernel
theorem dX2_numberHere_23 : decode cX2_numberHere 23 = .ok (.iload_n 1, 1) := by decide +kernel
theorem dX2_numberHere_24 : decode cX2_numberHere 24 = .ok (.bipush 10, 2) := by decide +kernel
theorem dX2_numberHere_26 : decode cX2_numberHere 26 = .ok (.imul, 1) := by decide +kernel
theorem dX2_numberHere_27 : decode cX2_numberHere 27 = .ok (.aload_n 0, 1) := by decide +kernel
theorem dX2_numberHere_28 : decode cX2_numberHere 28 = .ok (.getfield 9, 3) := by decide +kernel
theorem dX2_numberHere_31 : decode cX2_numberHere 31 = .ok (.iload_n 2, 1) := by decide +kernel
theorem dX2_numberHere_32 : decode cX2_numberHere 32 = .ok (.iaload, 1) := by decide +kernel
theorem dX2_numberHere_33 : decode cX2_numberHere 33 = .ok (.iadd, 1) := by decide +kernel
theorem dX2_numberHere_34 : decode cX2_numberHere 34 = .ok (.bipush 48, 2) := by decide +kernel
theorem dX2_numberHere_36 : decode cX2_numberHere 36 = .ok (.isub, 1) := by decide +kernel
theorem dX2_numberHere_37 : decode cX2_numberHere 37 = .ok (.istore_n 1, 1) := by decide +kernel
theorem dX2_numberHere_38 : decode cX2_numberHere 38 = .ok (.iinc 2 1, 3) := by decide +kernel
theorem dX2_numberHere_41 : decode cX2_numberHere 41 = .ok (.goto (-34), 3) := by decide +kernel
theorem dX2_numberHere_44 : decode cX2_numberHere 44 = .ok (.iload_n 1, 1) := by decide +kernel
theorem dX2_numberHere_45 : decode cX2_numberHere 45 = .ok (.ireturn, 1) := by decide +kernel
theorem dX3_init_0 : decode cX3_init 0 = .ok (.aload_n 0, 1) := by decide +kernel
theorem dX3_init_1 : decode cX3_init 1 = .ok (.invokespecial 5, 3) := by decide +kernel
theorem dX3_init_4 : decode cX3_init 4 = .ok (.aload_n 0, 1) := by decide +kernel
theorem dX3_init_5 : decode cX3_init 5 = .ok (.bipush 6, 2) := by decide +kernel
theorem dX3_init_7 : decode cX3_init 7 = .ok (.newarray .int, 2) := by decide +kernel
theorem dX3_init_9 : decode cX3_init 9 = .ok (.putfield 11, 3) := by decide +kernel
theorem dX3_init_12 : decode cX3_init 12 = .ok (.aload_n 0, 1) := by decide +kernel
theorem dX3_init_13 : decode cX3_init 13 = .ok (.bipush 32, 2) := by decide +kernel
theorem dX3_init_15 : decode cX3_init 15 = .ok (.newarray .long, 2) := by decide +kernel
theorem dX3_init_17 : decode cX3_init 17 = .ok (.putfield 15, 3) := by decide +kernel
theorem dX3_init_20 : decode cX3_init 20 = .ok (.aload_n 0, 1) := by decide +kernel
theorem dX3_init_21 : decode cX3_init 21 = .ok (.bipush 10, 2) := by decide +kernel
theorem dX3_init_23 : decode cX3_init 23 = .ok (.newarray .int, 2) := by decide +kernel
theorem dX3_init_25 : decode cX3_init 25 = .ok (.putfield 19, 3) := by decide +kernel
theorem dX3_init_28 : decode cX3_init 28 = .ok (.aload_n 0, 1) := by decide +kernel
theorem dX3_init_29 : decode cX3_init 29 = .ok (.iconst (-1), 1) := by decide +kernel
theorem dX3_init_30 : decode cX3_init 30 = .ok (.putfield 22, 3) := by decide +kernel
theorem dX3_init_33 : decode cX3_init 33 = .ok (.return_, 1) := by decide +kernel
theorem dX3_clear_0 : decode cX3_clear 0 = .ok (.aload_n 0, 1) := by decide +kernel
theorem dX3_clear_1 : decode cX3_clear 1 = .ok (.invokevirtual 26, 3) := by decide +kernel
theorem dX3_clear_4 : decode cX3_clear 4 = .ok (.aload_n 0, 1) := by decide +kernel
theorem dX3_clear_5 : decode cX3_clear 5 = .ok (.invokevirtual 29, 3) := by decide +kernel
theorem dX3_clear_8 : decode cX3_clear 8 = .ok (.aload_n 0, 1) := by decide +kernel
theorem dX3_clear_9 : decode cX3_clear 9 = .ok (.iconst (-1), 1) := by decide +kernel
theorem dX3_clear_10 : decode cX3_clear 10 = .ok (.putfield 22, 3) := by decide +kernel
theorem dX3_clear_13 : decode cX3_clear 13 = .ok (.aload_n 0, 1) := by decide +kernel
theorem dX3_clear_14 : decode cX3_clear 14 = .ok (.iconst 0, 1) := by decide +kernel
theorem dX3_clear_15 : decode cX3_clear 15 = .ok (.putfield 32, 3) := by decide +kernel
theorem dX3_clear_18 : decode cX3_clear 18 = .ok (.aload_n 0, 1) := by decide +kernel
theorem dX3_clear_19 : decode cX3_clear 19 = .ok (.iconst 0, 1) := by decide +kernel
theorem dX3_clear_20 : decode cX3_clear 20 = .ok (.putfield 35, 3) := by decide +kernel
theorem dX3_clear_23 : decode cX3_clear 23 = .ok (.return_, 1) := by decide +kernel
theorem dX3_copyFrom_0 : decode cX3_copyFrom 0 = .ok (.aload_n 1, 1) := by decide +kernel
theorem dX3_copyFrom_1 : decode cX3_copyFrom 1 = .ok (.getfield 11, 3) := by decide +kernel
theorem dX3_copyFrom_4 : decode cX3_copyFrom 4 = .ok (.iconst 0, 1) := by decide +kernel
theorem dX3_copyFrom_5 : decode cX3_copyFrom 5 = .ok (.aload_n 0, 1) := by decide +kernel
theorem dX3_copyFrom_6 : decode cX3_copyFrom 6 = .ok (.getfield 11, 3) := by decide +kernel
theorem dX3_copyFrom_9 : decode cX3_copyFrom 9 = .ok (.iconst 0, 1) := by decide +kernel
theorem dX3_copyFrom_10 : decode cX3_copyFrom 10 = .ok (.bipush 6, 2) := by decide +kernel
theorem dX3_copyFrom_12 : decode cX3_copyFrom 12 = .ok (.invokestatic 38, 3) := by decide +kernel
theorem dX3_copyFrom_15 : decode cX3_copyFrom 15 = .ok (.aload_n 0, 1) := by decide +kernel
theorem dX3_copyFrom_16 : decode cX3_copyFrom 16 = .ok (.aload_n 1, 1) := by decide +kernel
theorem dX3_copyFrom_17 : decode cX3_copyFrom 17 = .ok (.getfield 44, 3) := by decide +kernel
theorem dX3_copyFrom_20 : decode cX3_copyFrom 20 = .ok (.putfield 44, 3) := by decide +kernel
theorem dX3_copyFrom_23 : decode cX3_copyFrom 23 = .ok (.aload_n 0, 1) := by decide +kernel
theorem dX3_copyFrom_24 : decode cX3_copyFrom 24 = .ok (.aload_n 1, 1) := by decide +kernel
theorem dX3_copyFrom_25 : decode cX3_copyFrom 25 = .ok (.getfield 47, 3) := by decide +kernel
theorem dX3_copyFrom_28 : decode cX3_copyFrom 28 = .ok (.putfield 47, 3) := by decide +kernel
theorem dX3_copyFrom_31 : decode cX3_copyFrom 31 = .ok (.aload_n 1, 1) := by decide +kernel
theorem dX3_copyFrom_32 : decode cX3_copyFrom 32 = .ok (.getfield 15, 3) := by decide +kernel
theorem dX3_copyFrom_35 : decode cX3_copyFrom 35 = .ok (.iconst 0, 1) := by decide +kernel
theorem dX3_copyFrom_36 : decode cX3_copyFrom 36 = .ok (.aload_n 0, 1) := by decide +kernel
theorem dX3_copyFrom_37 : decode cX3_copyFrom 37 = .ok (.getfield 15, 3) := by decide +kernel
theorem dX3_copyFrom_40 : decode cX3_copyFrom 40 = .ok (.iconst 0, 1) := by decide +kernel
theorem dX3_copyFrom_41 : decode cX3_copyFrom 41 = .ok (.bipush 32, 2) := by decide +kernel
theorem dX3_copyFrom_43 : decode cX3_copyFrom 43 = .ok (.invokestatic 38, 3) := by decide +kernel
theorem dX3_copyFrom_46 : decode cX3_copyFrom 46 = .ok (.aload_n 0, 1) := by decide +kernel
theorem dX3_copyFrom_47 : decode cX3_copyFrom 47 = .ok (.aload_n 1, 1) := by decide +kernel
theorem dX3_copyFrom_48 : decode cX3_copyFrom 48 = .ok (.getfield 50, 3) := by decide +kernel
theorem dX3_copyFrom_51 : decode cX3_copyFrom 51 = .ok (.putfield 50, 3) := by decide +kernel
theorem dX3_copyFrom_54 : decode cX3_copyFrom 54 = .ok (.aload_n 0, 1) := by decide +kernel
theorem dX3_copyFrom_55 : decode cX3_copyFrom 55 = .ok (.aload_n 1, 1) := by decide +kernel
theorem dX3_copyFrom_56 : decode cX3_copyFrom 56 = .ok (.getfield 53, 3) := by decide +kernel
theorem dX3_copyFrom_59 : decode cX3_copyFrom 59 = .ok (.putfield 53, 3) := by decide +kernel
theorem dX3_copyFrom_62 : decode cX3_copyFrom 62 = .ok (.aload_n 1, 1) := by decide +kernel
theorem dX3_copyFrom_63 : decode cX3_copyFrom 63 = .ok (.getfield 19, 3) := by decide +kernel
theorem dX3_copyFrom_66 : decode cX3_copyFrom 66 = .ok (.iconst 0, 1) := by decide +kernel
theorem dX3_copyFrom_67 : decode cX3_copyFrom 67 = .ok (.aload_n 0, 1) := by decide +kernel
theorem dX3_copyFrom_68 : decode cX3_copyFrom 68 = .ok (.getfield 19, 3) := by decide +kernel
theorem dX3_copyFrom_71 : decode cX3_copyFrom 71 = .ok (.iconst 0, 1) := by decide +kernel
theorem dX3_copyFrom_72 : decode cX3_copyFrom 72 = .ok (.bipush 10, 2) := by decide +kernel
theorem dX3_copyFrom_74 : decode cX3_copyFrom 74 = .ok (.invokestatic 38, 3) := by decide +kernel
theorem dX3_copyFrom_77 : decode cX3_copyFrom 77 = .ok (.aload_n 0, 1) := by decide +kernel
theorem dX3_copyFrom_78 : decode cX3_copyFrom 78 = .ok (.aload_n 1, 1) := by decide +kernel
theorem dX3_copyFrom_79 : decode cX3_copyFrom 79 = .ok (.getfield 22, 3) := by decide +kernel
theorem dX3_copyFrom_82 : decode cX3_copyFrom 82 = .ok (.putfield 22, 3) := by decide +kernel
theorem dX3_copyFrom_85 : decode cX3_copyFrom 85 = .ok (.aload_n 0, 1) := by decide +kernel
theorem dX3_copyFrom_86 : decode cX3_copyFrom 86 = .ok (.aload_n 1, 1) := by decide +kernel
theorem dX3_copyFrom_87 : decode cX3_copyFrom 87 = .ok (.getfield 32, 3) := by decide +kernel
theorem dX3_copyFrom_90 : decode cX3_copyFrom 90 = .ok (.putfield 32, 3) := by decide +kernel
theorem dX3_copyFrom_93 : decode cX3_copyFrom 93 = .ok (.aload_n 0, 1) := by decide +kernel
theorem dX3_copyFrom_94 : decode cX3_copyFrom 94 = .ok (.aload_n 1, 1) := by decide +kernel
theorem dX3_copyFrom_95 : decode cX3_copyFrom 95 = .ok (.getfield 35, 3) := by decide +kernel
theorem dX3_copyFrom_98 : decode cX3_copyFrom 98 = .ok (.putfield 35, 3) := by decide +kernel
theorem dX3_copyFrom_101 : decode cX3_copyFrom 101 = .ok (.return_, 1) := by decide +kernel
theorem dX3_hasQuoin_0 : decode cX3_hasQuoin 0 = .ok (.aload_n 0, 1) := by decide +kernel
theorem dX3_hasQuoin_1 : decode cX3_hasQuoin 1 = .ok (.getfield 22, 3) := by decide +kernel
theorem dX3_hasQuoin_4 : decode cX3_hasQuoin 4 = .ok (.iconst (-1), 1) := by decide +kernel
theorem dX3_hasQuoin_5 : decode cX3_hasQuoin 5 = .ok (.if_icmp .eq 7, 3) := by decide +kernel
theorem dX3_hasQuoin_8 : decode cX3_hasQuoin 8 = .ok (.iconst 1, 1) := by decide +kernel
theorem dX3_hasQuoin_9 : decode cX3_hasQuoin 9 = .ok (.goto 4, 3) := by decide +kernel
theorem dX3_hasQuoin_12 : decode cX3_hasQuoin 12 = .ok (.iconst 0, 1) := by decide +kernel
theorem dX3_hasQuoin_13 : decode cX3_hasQuoin 13 = .ok (.ireturn, 1) := by decide +kernel
theorem dX3_roomIn_0 : decode cX3_roomIn 0 = .ok (.aload_n 1, 1) := by decide +kernel
theorem dX3_roomIn_1 : decode cX3_roomIn 1 = .ok (.getfield 56, 3) := by decide +kernel
theorem dX3_roomIn_4 : decode cX3_roomIn 4 = .ok (.aload_n 0, 1) := by decide +kernel
theorem dX3_roomIn_5 : decode cX3_roomIn 5 = .ok (.getfield 47, 3) := by decide +kernel
theorem dX3_roomIn_8 : decode cX3_roomIn 8 = .ok (.isub, 1) := by decide +kernel
theorem dX3_roomIn_9 : decode cX3_roomIn 9 = .ok (.aload_n 0, 1) := by decide +kernel
theorem dX3_roomIn_10 : decode cX3_roomIn 10 = .ok (.getfield 53, 3) := by decide +kernel
theorem dX3_roomIn_13 : decode cX3_roomIn 13 = .ok (.isub, 1) := by decide +kernel
theorem dX3_roomIn_14 : decode cX3_roomIn 14 = .ok (.ireturn, 1) := by decide +kernel
theorem dX3_gapIn_0 : decode cX3_gapIn 0 = .ok (.aload_n 0, 1) := by decide +kernel
theorem dX3_gapIn_1 : decode cX3_gapIn 1 = .ok (.aload_n 1, 1) := by decide +kernel
theorem dX3_gapIn_2 : decode cX3_gapIn 2 = .ok (.invokevirtual 61, 3) := by decide +kernel
theorem dX3_gapIn_5 : decode cX3_gapIn 5 = .ok (.aload_n 0, 1) := by decide +kernel
theorem dX3_gapIn_6 : decode cX3_gapIn 6 = .ok (.invokevirtual 65, 3) := by decide +kernel
theorem dX3_gapIn_9 : decode cX3_gapIn 9 = .ok (.ifCond .eq 20, 3) := by decide +kernel
theorem dX3_gapIn_12 : decode cX3_gapIn 12 = .ok (.aload_n 1, 1) := by decide +kernel
theorem dX3_gapIn_13 : decode cX3_gapIn 13 = .ok (.getfield 69, 3) := by decide +kernel
theorem dX3_gapIn_16 : decode cX3_gapIn 16 = .ok (.aload_n 0, 1) := by decide +kernel
theorem dX3_gapIn_17 : decode cX3_gapIn 17 = .ok (.getfield 22, 3) := by decide +kernel
theorem dX3_gapIn_20 : decode cX3_gapIn 20 = .ok (.iadd, 1) := by decide +kernel
theorem dX3_gapIn_21 : decode cX3_gapIn 21 = .ok (.aload_n 0, 1) := by decide +kernel
theorem dX3_gapIn_22 : decode cX3_gapIn 22 = .ok (.getfield 32, 3) := by decide +kernel
theorem dX3_gapIn_25 : decode cX3_gapIn 25 = .ok (.isub, 1) := by decide +kernel
theorem dX3_gapIn_26 : decode cX3_gapIn 26 = .ok (.goto 4, 3) := by decide +kernel
theorem dX3_gapIn_29 : decode cX3_gapIn 29 = .ok (.iconst 0, 1) := by decide +kernel
theorem dX3_gapIn_30 : decode cX3_gapIn 30 = .ok (.isub, 1) := by decide +kernel
theorem dX3_gapIn_31 : decode cX3_gapIn 31 = .ok (.ireturn, 1) := by decide +kernel
theorem dX3_isTightIn_0 : decode cX3_isTightIn 0 = .ok (.aload_n 0, 1) := by decide +kernel
theorem dX3_isTightIn_1 : decode cX3_isTightIn 1 = .ok (.aload_n 1, 1) := by decide +kernel
theorem dX3_isTightIn_2 : decode cX3_isTightIn 2 = .ok (.invokevirtual 72, 3) := by decide +kernel
theorem dX3_isTightIn_5 : decode cX3_isTightIn 5 = .ok (.ifCond .ne 14, 3) := by decide +kernel
theorem dX3_isTightIn_8 : decode cX3_isTightIn 8 = .ok (.aload_n 0, 1) := by decide +kernel
theorem dX3_isTightIn_9 : decode cX3_isTightIn 9 = .ok (.getfield 35, 3) := by decide +kernel
theorem dX3_isTightIn_12 : decode cX3_isTightIn 12 = .ok (.ifCond .ne 7, 3) := by decide +kernel
theorem dX3_isTightIn_15 : decode cX3_isTightIn 15 = .ok (.iconst 1, 1) := by decide +kernel
theorem dX3_isTightIn_16 : decode cX3_isTightIn 16 = .ok (.goto 4, 3) := by decide +kernel
theorem dX3_isTightIn_19 : decode cX3_isTightIn 19 = .ok (.iconst 0, 1) := by decide +kernel
theorem dX3_isTightIn_20 : decode cX3_isTightIn 20 = .ok (.ireturn, 1) := by decide +kernel
theorem dX3_loosenessIn_0 : decode cX3_loosenessIn 0 = .ok (.aload_n 0, 1) := by decide +kernel
theorem dX3_loosenessIn_1 : decode cX3_loosenessIn 1 = .ok (.getfield 35, 3) := by decide +kernel
theorem dX3_loosenessIn_4 : decode cX3_loosenessIn 4 = .ok (.bipush 10, 2) := by decide +kernel
theorem dX3_loosenessIn_6 : decode cX3_loosenessIn 6 = .ok (.aload_n 0, 1) := by decide +kernel
theorem dX3_loosenessIn_7 : decode cX3_loosenessIn 7 = .ok (.aload_n 1, 1) := by decide +kernel
theorem dX3_loosenessIn_8 : decode cX3_loosenessIn 8 = .ok (.invokevirtual 72, 3) := by decide +kernel
theorem dX3_loosenessIn_11 : decode cX3_loosenessIn 11 = .ok (.imul, 1) := by decide +kernel
theorem dX3_loosenessIn_12 : decode cX3_loosenessIn 12 = .ok (.iadd, 1) := by decide +kernel
theorem dX3_loosenessIn_13 : decode cX3_loosenessIn 13 = .ok (.ireturn, 1) := by decide +kernel
theorem dX3_isFirmIn_0 : decode cX3_isFirmIn 0 = .ok (.aload_n 0, 1) := by decide +kernel
theorem dX3_isFirmIn_1 : decode cX3_isFirmIn 1 = .ok (.aload_n 1, 1) := by decide +kernel
theorem dX3_isFirmIn_2 : decode cX3_isFirmIn 2 = .ok (.invokevirtual 72, 3) := by decide +kernel
theorem dX3_isFirmIn_5 : decode cX3_isFirmIn 5 = .ok (.ifCond .ne 16, 3) := by decide +kernel
theorem dX3_isFirmIn_8 : decode cX3_isFirmIn 8 = .ok (.aload_n 0, 1) := by decide +kernel
theorem dX3_isFirmIn_9 : decode cX3_isFirmIn 9 = .ok (.getfield 35, 3) := by decide +kernel
theorem dX3_isFirmIn_12 : decode cX3_isFirmIn 12 = .ok (.bipush 10, 2) := by decide +kernel
theorem dX3_isFirmIn_14 : decode cX3_isFirmIn 14 = .ok (.if_icmp .ge 7, 3) := by decide +kernel
theorem dX3_isFirmIn_17 : decode cX3_isFirmIn 17 = .ok (.iconst 1, 1) := by decide +kernel
theorem dX3_isFirmIn_18 : decode cX3_isFirmIn 18 = .ok (.goto 4, 3) := by decide +kernel
theorem dX3_isFirmIn_21 : decode cX3_isFirmIn 21 = .ok (.iconst 0, 1) := by decide +kernel
theorem dX3_isFirmIn_22 : decode cX3_isFirmIn 22 = .ok (.ireturn, 1) := by decide +kernel
theorem dX3_growthInImpression_0 : decode cX3_growthInImpression 0 = .ok (.aload_n 1, 1) := by decide +kernel
theorem dX3_growthInImpression_1 : decode cX3_growthInImpression 1 = .ok (.getfield 75, 3) := by decide +kernel
theorem dX3_growthInImpression_4 : decode cX3_growthInImpression 4 = .ok (.aload_n 0, 1) := by decide +kernel
theorem dX3_growthInImpression_5 : decode cX3_growthInImpression 5 = .ok (.getfield 44, 3) := by decide +kernel
theorem dX3_growthInImpression_8 : decode cX3_growthInImpression 8 = .ok (.imul, 1) := by decide +kernel
theorem dX3_growthInImpression_9 : decode cX3_growthInImpression 9 = .ok (.ireturn, 1) := by decide +kernel
theorem dX3_growthInDay_0 : decode cX3_growthInDay 0 = .ok (.aload_n 1, 1) := by decide +kernel
theorem dX3_growthInDay_1 : decode cX3_growthInDay 1 = .ok (.getfield 78, 3) := by decide +kernel
theorem dX3_growthInDay_4 : decode cX3_growthInDay 4 = .ok (.aload_n 0, 1) := by decide +kernel
theorem dX3_growthInDay_5 : decode cX3_growthInDay 5 = .ok (.aload_n 1, 1) := by decide +kernel
theorem dX3_growthInDay_6 : decode cX3_growthInDay 6 = .ok (.invokevirtual 81, 3) := by decide +kernel
theorem dX3_growthInDay_9 : decode cX3_growthInDay 9 = .ok (.imul, 1) := by decide +kernel
theorem dX3_growthInDay_10 : decode cX3_growthInDay 10 = .ok (.ireturn, 1) := by decide +kernel
theorem dX3_woodIn_0 : decode cX3_woodIn 0 = .ok (.iconst 0, 1) := by decide +kernel
theorem dX3_woodIn_1 : decode cX3_woodIn 1 = .ok (.istore_n 2, 1) := by decide +kernel
theorem dX3_woodIn_2 : decode cX3_woodIn 2 = .ok (.iconst 0, 1) := by decide +kernel
theorem dX3_woodIn_3 : decode cX3_woodIn 3 = .ok (.istore_n 3, 1) := by decide +kernel
theorem dX3_woodIn_4 : decode cX3_woodIn 4 = .ok (.iload_n 3, 1) := by decide +kernel
theorem dX3_woodIn_5 : decode cX3_woodIn 5 = .ok (.aload_n 1, 1) := by decide +kernel
theorem dX3_woodIn_6 : decode cX3_woodIn 6 = .ok (.getfield 84, 3) := by decide +kernel
theorem dX3_woodIn_9 : decode cX3_woodIn 9 = .ok (.if_icmp .ge 27, 3) := by decide +kernel
theorem dX3_woodIn_12 : decode cX3_woodIn 12 = .ok (.aload_n 1, 1) := by decide +kernel
theorem dX3_woodIn_13 : decode cX3_woodIn 13 = .ok (.getfield 87, 3) := by decide +kernel
theorem dX3_woodIn_16 : decode cX3_woodIn 16 = .ok (.iload_n 3, 1) := by decide +kernel
theorem dX3_woodIn_17 : decode cX3_woodIn 17 = .ok (.baload, 1) := by decide +kernel
theorem dX3_woodIn_18 : decode cX3_woodIn 18 = .ok (.ifCond .ne 12, 3) := by decide +kernel
theorem dX3_woodIn_21 : decode cX3_woodIn 21 = .ok (.iload_n 2, 1) := by decide +kernel
theorem dX3_woodIn_22 : decode cX3_woodIn 22 = .ok (.aload_n 0, 1) := by decide +kernel
theorem dX3_woodIn_23 : decode cX3_woodIn 23 = .ok (.getfield 19, 3) := by decide +kernel
theorem dX3_woodIn_26 : decode cX3_woodIn 26 = .ok (.iload_n 3, 1) := by decide +kernel
theorem dX3_woodIn_27 : decode cX3_woodIn 27 = .ok (.iaload, 1) := by decide +kernel
theorem dX3_woodIn_28 : decode cX3_woodIn 28 = .ok (.iadd, 1) := by decide +kernel
theorem dX3_woodIn_29 : decode cX3_woodIn 29 = .ok (.istore_n 2, 1) := by decide +kernel
theorem dX3_woodIn_30 : decode cX3_woodIn 30 = .ok (.iinc 3 1, 3) := by decide +kernel
theorem dX3_woodIn_33 : decode cX3_woodIn 33 = .ok (.goto (-29), 3) := by decide +kernel
theorem dX3_woodIn_36 : decode cX3_woodIn 36 = .ok (.iload_n 2, 1) := by decide +kernel
theorem dX3_woodIn_37 : decode cX3_woodIn 37 = .ok (.ireturn, 1) := by decide +kernel
theorem dX3_takesBlock_0 : decode cX3_takesBlock 0 = .ok (.aload_n 0, 1) := by decide +kernel
theorem dX3_takesBlock_1 : decode cX3_takesBlock 1 = .ok (.getfield 44, 3) := by decide +kernel
theorem dX3_takesBlock_4 : decode cX3_takesBlock 4 = .ok (.bipush 6, 2) := by decide +kernel
theorem dX3_takesBlock_6 : decode cX3_takesBlock 6 = .ok (.if_icmp .ge 16, 3) := by decide +kernel
theorem dX3_takesBlock_9 : decode cX3_takesBlock 9 = .ok (.iload_n 2, 1) := by decide +kernel
theorem dX3_takesBlock_10 : decode cX3_takesBlock 10 = .ok (.aload_n 0, 1) := by decide +kernel
theorem dX3_takesBlock_11 : decode cX3_takesBlock 11 = .ok (.aload_n 1, 1) := by decide +kernel
theorem dX3_takesBlock_12 : decode cX3_takesBlock 12 = .ok (.invokevirtual 72, 3) := by decide +kernel
theorem dX3_takesBlock_15 : decode cX3_takesBlock 15 = .ok (.if_icmp .gt 7, 3) := by decide +kernel
theorem dX3_takesBlock_18 : decode cX3_takesBlock 18 = .ok (.iconst 1, 1) := by decide +kernel
theorem dX3_takesBlock_19 : decode cX3_takesBlock 19 = .ok (.goto 4, 3) := by decide +kernel
theorem dX3_takesBlock_22 : decode cX3_takesBlock 22 = .ok (.iconst 0, 1) := by decide +kernel
theorem dX3_takesBlock_23 : decode cX3_takesBlock 23 = .ok (.ireturn, 1) := by decide +kernel
theorem dX3_blockAt_0 : decode cX3_blockAt 0 = .ok (.iload_n 1, 1) := by decide +kernel
theorem dX3_blockAt_1 : decode cX3_blockAt 1 = .ok (.ifCond .lt 26, 3) := by decide +kernel
theorem dX3_blockAt_4 : decode cX3_blockAt 4 = .ok (.iload_n 1, 1) := by decide +kernel
theorem dX3_blockAt_5 : decode cX3_blockAt 5 = .ok (.aload_n 0, 1) := by decide +kernel
theorem dX3_blockAt_6 : decode cX3_blockAt 6 = .ok (.getfield 44, 3) := by decide +kernel
theorem dX3_blockAt_9 : decode cX3_blockAt 9 = .ok (.if_icmp .ge 18, 3) := by decide +kernel
theorem dX3_blockAt_12 : decode cX3_blockAt 12 = .ok (.iload_n 1, 1) := by decide +kernel
theorem dX3_blockAt_13 : decode cX3_blockAt 13 = .ok (.bipush 6, 2) := by decide +kernel
theorem dX3_blockAt_15 : decode cX3_blockAt 15 = .ok (.if_icmp .ge 12, 3) := by decide +kernel
theorem dX3_blockAt_18 : decode cX3_blockAt 18 = .ok (.aload_n 0, 1) := by decide +kernel
theorem dX3_blockAt_19 : decode cX3_blockAt 19 = .ok (.getfield 11, 3) := by decide +kernel
theorem dX3_blockAt_22 : decode cX3_blockAt 22 = .ok (.iload_n 1, 1) := by decide +kernel
theorem dX3_blockAt_23 : decode cX3_blockAt 23 = .ok (.iaload, 1) := by decide +kernel
theorem dX3_blockAt_24 : decode cX3_blockAt 24 = .ok (.goto 4, 3) := by decide +kernel
theorem dX3_blockAt_27 : decode cX3_blockAt 27 = .ok (.iconst (-1), 1) := by decide +kernel
theorem dX3_blockAt_28 : decode cX3_blockAt 28 = .ok (.ireturn, 1) := by decide +kernel
theorem dX3_addBlock_0 : decode cX3_addBlock 0 = .ok (.aload_n 0, 1) := by decide +kernel
theorem dX3_addBlock_1 : decode cX3_addBlock 1 = .ok (.getfield 44, 3) := by decide +kernel
theorem dX3_addBlock_4 : decode cX3_addBlock 4 = .ok (.bipush 6, 2) := by decide +kernel
theorem dX3_addBlock_6 : decode cX3_addBlock 6 = .ok (.if_icmp .ge 33, 3) := by decide +kernel
theorem dX3_addBlock_9 : decode cX3_addBlock 9 = .ok (.aload_n 0, 1) := by decide +kernel
theorem dX3_addBlock_10 : decode cX3_addBlock 10 = .ok (.getfield 11, 3) := by decide +kernel
theorem dX3_addBlock_13 : decode cX3_addBlock 13 = .ok (.aload_n 0, 1) := by decide +kernel
theorem dX3_addBlock_14 : decode cX3_addBlock 14 = .ok (.getfield 44, 3) := by decide +kernel
theorem dX3_addBlock_17 : decode cX3_addBlock 17 = .ok (.iload_n 1, 1) := by decide +kernel
theorem dX3_addBlock_18 : decode cX3_addBlock 18 = .ok (.iastore, 1) := by decide +kernel
theorem dX3_addBlock_19 : decode cX3_addBlock 19 = .ok (.aload_n 0, 1) := by decide +kernel
theorem dX3_addBlock_20 : decode cX3_addBlock 20 = .ok (.dup, 1) := by decide +kernel
theorem dX3_addBlock_21 : decode cX3_addBlock 21 = .ok (.getfield 44, 3) := by decide +kernel
theorem dX3_addBlock_24 : decode cX3_addBlock 24 = .ok (.iconst 1, 1) := by decide +kernel
theorem dX3_addBlock_25 : decode cX3_addBlock 25 = .ok (.iadd, 1) := by decide +kernel
theorem dX3_addBlock_26 : decode cX3_addBlock 26 = .ok (.putfield 44, 3) := by decide +kernel
theorem dX3_addBlock_29 : decode cX3_addBlock 29 = .ok (.aload_n 0, 1) := by decide +kernel
theorem dX3_addBlock_30 : decode cX3_addBlock 30 = .ok (.dup, 1) := by decide +kernel
theorem dX3_addBlock_31 : decode cX3_addBlock 31 = .ok (.getfield 47, 3) := by decide +kernel
theorem dX3_addBlock_34 : decode cX3_addBlock 34 = .ok (.iload_n 1, 1) := by decide +kernel
theorem dX3_addBlock_35 : decode cX3_addBlock 35 = .ok (.iadd, 1) := by decide +kernel
theorem dX3_addBlock_36 : decode cX3_addBlock 36 = .ok (.putfield 47, 3) := by decide +kernel
theorem dX3_addBlock_39 : decode cX3_addBlock 39 = .ok (.return_, 1) := by decide +kernel
theorem dX3_removeBlock_0 : decode cX3_removeBlock 0 = .ok (.aload_n 0, 1) := by decide +kernel
theorem dX3_removeBlock_1 : decode cX3_removeBlock 1 = .ok (.iload_n 1, 1) := by decide +kernel
theorem dX3_removeBlock_2 : decode cX3_removeBlock 2 = .ok (.invokevirtual 91, 3) := by decide +kernel
theorem dX3_removeBlock_5 : decode cX3_removeBlock 5 = .ok (.istore_n 2, 1) := by decide +kernel
theorem dX3_removeBlock_6 : decode cX3_removeBlock 6 = .ok (.iload_n 2, 1) := by decide +kernel
theorem dX3_removeBlock_7 : decode cX3_removeBlock 7 = .ok (.iconst (-1), 1) := by decide +kernel
theorem dX3_removeBlock_8 : decode cX3_removeBlock 8 = .ok (.if_icmp .ne 5, 3) := by decide +kernel
theorem dX3_removeBlock_11 : decode cX3_removeBlock 11 = .ok (.iconst (-1), 1) := by decide +kernel
theorem dX3_removeBlock_12 : decode cX3_removeBlock 12 = .ok (.ireturn, 1) := by decide +kernel
theorem dX3_removeBlock_13 : decode cX3_removeBlock 13 = .ok (.iload_n 1, 1) := by decide +kernel
theorem dX3_removeBlock_14 : decode cX3_removeBlock 14 = .ok (.iconst 1, 1) := by decide +kernel
theorem dX3_removeBlock_15 : decode cX3_removeBlock 15 = .ok (.iadd, 1) := by decide +kernel
theorem dX3_removeBlock_16 : decode cX3_removeBlock 16 = .ok (.istore_n 3, 1) := by decide +kernel
theorem dX3_removeBlock_17 : decode cX3_removeBlock 17 = .ok (.iload_n 3, 1) := by decide +kernel
theorem dX3_removeBlock_18 : decode cX3_removeBlock 18 = .ok (.aload_n 0, 1) := by decide +kernel
theorem dX3_removeBlock_19 : decode cX3_removeBlock 19 = .ok (.getfield 44, 3) := by decide +kernel
theorem dX3_removeBlock_22 : decode cX3_removeBlock 22 = .ok (.if_icmp .ge 23, 3) := by decide +kernel
theorem dX3_removeBlock_25 : decode cX3_removeBlock 25 = .ok (.aload_n 0, 1) := by decide +kernel
theorem dX3_removeBlock_26 : decode cX3_removeBlock 26 = .ok (.getfield 11, 3) := by decide +kernel
theorem dX3_removeBlock_29 : decode cX3_removeBlock 29 = .ok (.iload_n 3, 1) := by decide +kernel
theorem dX3_removeBlock_30 : decode cX3_removeBlock 30 = .ok (.iconst 1, 1) := by decide +kernel
theorem dX3_removeBlock_31 : decode cX3_removeBlock 31 = .ok (.isub, 1) := by decide +kernel
theorem dX3_removeBlock_32 : decode cX3_removeBlock 32 = .ok (.aload_n 0, 1) := by decide +kernel
theorem dX3_removeBlock_33 : decode cX3_removeBlock 33 = .ok (.getfield 11, 3) := by decide +kernel
theorem dX3_removeBlock_36 : decode cX3_removeBlock 36 = .ok (.iload_n 3, 1) := by decide +kernel
theorem dX3_removeBlock_37 : decode cX3_removeBlock 37 = .ok (.iaload, 1) := by decide +kernel
theorem dX3_removeBlock_38 : decode cX3_removeBlock 38 = .ok (.iastore, 1) := by decide +kernel
theorem dX3_removeBlock_39 : decode cX3_removeBlock 39 = .ok (.iinc 3 1, 3) := by decide +kernel
theorem dX3_removeBlock_42 : decode cX3_removeBlock 42 = .ok (.goto (-25), 3) := by decide +kernel
theorem dX3_removeBlock_45 : decode cX3_removeBlock 45 = .ok (.aload_n 0, 1) := by decide +kernel
theorem dX3_removeBlock_46 : decode cX3_removeBlock 46 = .ok (.dup, 1) := by decide +kernel
theorem dX3_removeBlock_47 : decode cX3_removeBlock 47 = .ok (.getfield 44, 3) := by decide +kernel
theorem dX3_removeBlock_50 : decode cX3_removeBlock 50 = .ok (.iconst 1, 1) := by decide +kernel
theorem dX3_removeBlock_51 : decode cX3_removeBlock 51 = .ok (.isub, 1) := by decide +kernel
theorem dX3_removeBlock_52 : decode cX3_removeBlock 52 = .ok (.putfield 44, 3) := by decide +kernel
theorem dX3_removeBlock_55 : decode cX3_removeBlock 55 = .ok (.aload_n 0, 1) := by decide +kernel
theorem dX3_removeBlock_56 : decode cX3_removeBlock 56 = .ok (.dup, 1) := by decide +kernel
theorem dX3_removeBlock_57 : decode cX3_removeBlock 57 = .ok (.getfield 47, 3) := by decide +kernel
theorem dX3_removeBlock_60 : decode cX3_removeBlock 60 = .ok (.iload_n 2, 1) := by decide +kernel
theorem dX3_removeBlock_61 : decode cX3_removeBlock 61 = .ok (.isub, 1) := by decide +kernel
theorem dX3_removeBlock_62 : decode cX3_removeBlock 62 = .ok (.putfield 47, 3) := by decide +kernel
theorem dX3_removeBlock_65 : decode cX3_removeBlock 65 = .ok (.iload_n 2, 1) := by decide +kernel
theorem dX3_removeBlock_66 : decode cX3_removeBlock 66 = .ok (.ireturn, 1) := by decide +kernel
theorem dX3_dropBlocks_0 : decode cX3_dropBlocks 0 = .ok (.aload_n 0, 1) := by decide +kernel
theorem dX3_dropBlocks_1 : decode cX3_dropBlocks 1 = .ok (.iconst 0, 1) := by decide +kernel
theorem dX3_dropBlocks_2 : decode cX3_dropBlocks 2 = .ok (.putfield 44, 3) := by decide +kernel
theorem dX3_dropBlocks_5 : decode cX3_dropBlocks 5 = .ok (.aload_n 0, 1) := by decide +kernel
theorem dX3_dropBlocks_6 : decode cX3_dropBlocks 6 = .ok (.iconst 0, 1) := by decide +kernel
theorem dX3_dropBlocks_7 : decode cX3_dropBlocks 7 = .ok (.putfield 47, 3) := by decide +kernel
theorem dX3_dropBlocks_10 : decode cX3_dropBlocks 10 = .ok (.return_, 1) := by decide +kernel
theorem dX3_pieceAt_0 : decode cX3_pieceAt 0 = .ok (.iload_n 1, 1) := by decide +kernel
theorem dX3_pieceAt_1 : decode cX3_pieceAt 1 = .ok (.ifCond .lt 18, 3) := by decide +kernel
theorem dX3_pieceAt_4 : decode cX3_pieceAt 4 = .ok (.iload_n 1, 1) := by decide +kernel
theorem dX3_pieceAt_5 : decode cX3_pieceAt 5 = .ok (.aload_n 0, 1) := by decide +kernel
theorem dX3_pieceAt_6 : decode cX3_pieceAt 6 = .ok (.getfield 50, 3) := by decide +kernel
theorem dX3_pieceAt_9 : decode cX3_pieceAt 9 = .ok (.if_icmp .ge 10, 3) := by decide +kernel
theorem dX3_pieceAt_12 : decode cX3_pieceAt 12 = .ok (.iload_n 1, 1) := by decide +kernel
theorem dX3_pieceAt_13 : decode cX3_pieceAt 13 = .ok (.sipush 512, 3) := by decide +kernel
theorem dX3_pieceAt_16 : decode cX3_pieceAt 16 = .ok (.if_icmp .lt 5, 3) := by decide +kernel
theorem dX3_pieceAt_19 : decode cX3_pieceAt 19 = .ok (.iconst (-1), 1) := by decide +kernel
theorem dX3_pieceAt_20 : decode cX3_pieceAt 20 = .ok (.ireturn, 1) := by decide +kernel
theorem dX3_pieceAt_21 : decode cX3_pieceAt 21 = .ok (.iload_n 1, 1) := by decide +kernel
theorem dX3_pieceAt_22 : decode cX3_pieceAt 22 = .ok (.bipush 16, 2) := by decide +kernel
theorem dX3_pieceAt_24 : decode cX3_pieceAt 24 = .ok (.irem, 1) := by decide +kernel
theorem dX3_pieceAt_25 : decode cX3_pieceAt 25 = .ok (.iconst 4, 1) := by decide +kernel
theorem dX3_pieceAt_26 : decode cX3_pieceAt 26 = .ok (.imul, 1) := by decide +kernel
theorem dX3_pieceAt_27 : decode cX3_pieceAt 27 = .ok (.istore_n 2, 1) := by decide +kernel
theorem dX3_pieceAt_28 : decode cX3_pieceAt 28 = .ok (.aload_n 0, 1) := by decide +kernel
theorem dX3_pieceAt_29 : decode cX3_pieceAt 29 = .ok (.getfield 15, 3) := by decide +kernel
theorem dX3_pieceAt_32 : decode cX3_pieceAt 32 = .ok (.iload_n 1, 1) := by decide +kernel
theorem dX3_pieceAt_33 : decode cX3_pieceAt 33 = .ok (.bipush 16, 2) := by decide +kernel
theorem dX3_pieceAt_35 : decode cX3_pieceAt 35 = .ok (.idiv, 1) := by decide +kernel
theorem dX3_pieceAt_36 : decode cX3_pieceAt 36 = .ok (.laload, 1) := by decide +kernel
theorem dX3_pieceAt_37 : decode cX3_pieceAt 37 = .ok (.iload_n 2, 1) := by decide +kernel
theorem dX3_pieceAt_38 : decode cX3_pieceAt 38 = .ok (.lushr, 1) := by decide +kernel
theorem dX3_pieceAt_39 : decode cX3_pieceAt 39 = .ok (.l2i, 1) := by decide +kernel
theorem dX3_pieceAt_40 : decode cX3_pieceAt 40 = .ok (.bipush 15, 2) := by decide +kernel
theorem dX3_pieceAt_42 : decode cX3_pieceAt 42 = .ok (.iand, 1) := by decide +kernel
theorem dX3_pieceAt_43 : decode cX3_pieceAt 43 = .ok (.ireturn, 1) := by decide +kernel
theorem dX3_setPiece_0 : decode cX3_setPiece 0 = .ok (.iload_n 1, 1) := by decide +kernel
theorem dX3_setPiece_1 : decode cX3_setPiece 1 = .ok (.ifCond .lt 54, 3) := by decide +kernel
theorem dX3_setPiece_4 : decode cX3_setPiece 4 = .ok (.iload_n 1, 1) := by decide +kernel
theorem dX3_setPiece_5 : decode cX3_setPiece 5 = .ok (.sipush 512, 3) := by decide +kernel
theorem dX3_setPiece_8 : decode cX3_setPiece 8 = .ok (.if_icmp .ge 47, 3) := by decide +kernel
theorem dX3_setPiece_11 : decode cX3_setPiece 11 = .ok (.iload_n 1, 1) := by decide +kernel
theorem dX3_setPiece_12 : decode cX3_setPiece 12 = .ok (.bipush 16, 2) := by decide +kernel
theorem dX3_setPiece_14 : decode cX3_setPiece 14 = .ok (.irem, 1) := by decide +kernel
theorem dX3_setPiece_15 : decode cX3_setPiece 15 = .ok (.iconst 4, 1) := by decide +kernel
theorem dX3_setPiece_16 : decode cX3_setPiece 16 = .ok (.imul, 1) := by decide +kernel
theorem dX3_setPiece_17 : decode cX3_setPiece 17 = .ok (.istore_n 3, 1) := by decide +kernel
theorem dX3_setPiece_18 : decode cX3_setPiece 18 = .ok (.aload_n 0, 1) := by decide +kernel
theorem dX3_setPiece_19 : decode cX3_setPiece 19 = .ok (.getfield 15, 3) := by decide +kernel
theorem dX3_setPiece_22 : decode cX3_setPiece 22 = .ok (.iload_n 1, 1) := by decide +kernel
theorem dX3_setPiece_23 : decode cX3_setPiece 23 = .ok (.bipush 16, 2) := by decide +kernel
theorem dX3_setPiece_25 : decode cX3_setPiece 25 = .ok (.idiv, 1) := by decide +kernel
theorem dX3_setPiece_26 : decode cX3_setPiece 26 = .ok (.laload, 1) := by decide +kernel
theorem dX3_setPiece_27 : decode cX3_setPiece 27 = .ok (.ldc2_w 95, 3) := by decide +kernel
theorem dX3_setPiece_30 : decode cX3_setPiece 30 = .ok (.iload_n 3, 1) := by decide +kernel
theorem dX3_setPiece_31 : decode cX3_setPiece 31 = .ok (.lshl, 1) := by decide +kernel
theorem dX3_setPiece_32 : decode cX3_setPiece 32 = .ok (.ldc2_w 97, 3) := by decide +kernel
theorem dX3_setPiece_35 : decode cX3_setPiece 35 = .ok (.lxor, 1) := by decide +kernel
theorem dX3_setPiece_36 : decode cX3_setPiece 36 = .ok (.land, 1) := by decide +kernel
theorem dX3_setPiece_37 : decode cX3_setPiece 37 = .ok (.lstore 4, 2) := by decide +kernel
theorem dX3_setPiece_39 : decode cX3_setPiece 39 = .ok (.aload_n 0, 1) := by decide +kernel
theorem dX3_setPiece_40 : decode cX3_setPiece 40 = .ok (.getfield 15, 3) := by decide +kernel
theorem dX3_setPiece_43 : decode cX3_setPiece 43 = .ok (.iload_n 1, 1) := by decide +kernel
theorem dX3_setPiece_44 : decode cX3_setPiece 44 = .ok (.bipush 16, 2) := by decide +kernel
theorem dX3_setPiece_46 : decode cX3_setPiece 46 = .ok (.idiv, 1) := by decide +kernel
theorem dX3_setPiece_47 : decode cX3_setPiece 47 = .ok (.lload 4, 2) := by decide +kernel
theorem dX3_setPiece_49 : decode cX3_setPiece 49 = .ok (.iload_n 2, 1) := by decide +kernel
theorem dX3_setPiece_50 : decode cX3_setPiece 50 = .ok (.i2l, 1) := by decide +kernel
theorem dX3_setPiece_51 : decode cX3_setPiece 51 = .ok (.iload_n 3, 1) := by decide +kernel
theorem dX3_setPiece_52 : decode cX3_setPiece 52 = .ok (.lshl, 1) := by decide +kernel
theorem dX3_setPiece_53 : decode cX3_setPiece 53 = .ok (.lor, 1) := by decide +kernel
theorem dX3_setPiece_54 : decode cX3_setPiece 54 = .ok (.lastore, 1) := by decide +kernel
theorem dX3_setPiece_55 : decode cX3_setPiece 55 = .ok (.return_, 1) := by decide +kernel
theorem dX3_addPiece_0 : decode cX3_addPiece 0 = .ok (.iload_n 2, 1) := by decide +kernel
theorem dX3_addPiece_1 : decode cX3_addPiece 1 = .ok (.ifCond .lt 63, 3) := by decide +kernel
theorem dX3_addPiece_4 : decode cX3_addPiece 4 = .ok (.iload_n 2, 1) := by decide +kernel
theorem dX3_addPiece_5 : decode cX3_addPiece 5 = .ok (.bipush 10, 2) := by decide +kernel
theorem dX3_addPiece_7 : decode cX3_addPiece 7 = .ok (.if_icmp .ge 57, 3) := by decide +kernel
theorem dX3_addPiece_10 : decode cX3_addPiece 10 = .ok (.aload_n 0, 1) := by decide +kernel
theorem dX3_addPiece_11 : decode cX3_addPiece 11 = .ok (.getfield 50, 3) := by decide +kernel
theorem dX3_addPiece_14 : decode cX3_addPiece 14 = .ok (.sipush 512, 3) := by decide +kernel
theorem dX3_addPiece_17 : decode cX3_addPiece 17 = .ok (.if_icmp .ge 47, 3) := by decide +kernel
theorem dX3_addPiece_20 : decode cX3_addPiece 20 = .ok (.aload_n 0, 1) := by decide +kernel
theorem dX3_addPiece_21 : decode cX3_addPiece 21 = .ok (.aload_n 0, 1) := by decide +kernel
theorem dX3_addPiece_22 : decode cX3_addPiece 22 = .ok (.getfield 50, 3) := by decide +kernel
theorem dX3_addPiece_25 : decode cX3_addPiece 25 = .ok (.iload_n 2, 1) := by decide +kernel
theorem dX3_addPiece_26 : decode cX3_addPiece 26 = .ok (.invokevirtual 99, 3) := by decide +kernel
theorem dX3_addPiece_29 : decode cX3_addPiece 29 = .ok (.aload_n 0, 1) := by decide +kernel
theorem dX3_addPiece_30 : decode cX3_addPiece 30 = .ok (.dup, 1) := by decide +kernel
theorem dX3_addPiece_31 : decode cX3_addPiece 31 = .ok (.getfield 50, 3) := by decide +kernel
theorem dX3_addPiece_34 : decode cX3_addPiece 34 = .ok (.iconst 1, 1) := by decide +kernel
theorem dX3_addPiece_35 : decode cX3_addPiece 35 = .ok (.iadd, 1) := by decide +kernel
theorem dX3_addPiece_36 : decode cX3_addPiece 36 = .ok (.putfield 50, 3) := by decide +kernel
theorem dX3_addPiece_39 : decode cX3_addPiece 39 = .ok (.aload_n 0, 1) := by decide +kernel
theorem dX3_addPiece_40 : decode cX3_addPiece 40 = .ok (.dup, 1) := by decide +kernel
theorem dX3_addPiece_41 : decode cX3_addPiece 41 = .ok (.getfield 53, 3) := by decide +kernel
theorem dX3_addPiece_44 : decode cX3_addPiece 44 = .ok (.aload_n 1, 1) := by decide +kernel
theorem dX3_addPiece_45 : decode cX3_addPiece 45 = .ok (.getfield 103, 3) := by decide +kernel
theorem dX3_addPiece_48 : decode cX3_addPiece 48 = .ok (.iload_n 2, 1) := by decide +kernel
theorem dX3_addPiece_49 : decode cX3_addPiece 49 = .ok (.iaload, 1) := by decide +kernel
theorem dX3_addPiece_50 : decode cX3_addPiece 50 = .ok (.iadd, 1) := by decide +kernel
theorem dX3_addPiece_51 : decode cX3_addPiece 51 = .ok (.putfield 53, 3) := by decide +kernel
theorem dX3_addPiece_54 : decode cX3_addPiece 54 = .ok (.aload_n 0, 1) := by decide +kernel
theorem dX3_addPiece_55 : decode cX3_addPiece 55 = .ok (.getfield 19, 3) := by decide +kernel
theorem dX3_addPiece_58 : decode cX3_addPiece 58 = .ok (.iload_n 2, 1) := by decide +kernel
theorem dX3_addPiece_59 : decode cX3_addPiece 59 = .ok (.dup2, 1) := by decide +kernel
theorem dX3_addPiece_60 : decode cX3_addPiece 60 = .ok (.iaload, 1) := by decide +kernel
theorem dX3_addPiece_61 : decode cX3_addPiece 61 = .ok (.iconst 1, 1) := by decide +kernel
theorem dX3_addPiece_62 : decode cX3_addPiece 62 = .ok (.iadd, 1) := by decide +kernel
theorem dX3_addPiece_63 : decode cX3_addPiece 63 = .ok (.iastore, 1) := by decide +kernel
theorem dX3_addPiece_64 : decode cX3_addPiece 64 = .ok (.return_, 1) := by decide +kernel
theorem dX3_removePiece_0 : decode cX3_removePiece 0 = .ok (.aload_n 0, 1) := by decide +kernel
theorem dX3_removePiece_1 : decode cX3_removePiece 1 = .ok (.iload_n 2, 1) := by decide +kernel
theorem dX3_removePiece_2 : decode cX3_removePiece 2 = .ok (.invokevirtual 106, 3) := by decide +kernel
theorem dX3_removePiece_5 : decode cX3_removePiece 5 = .ok (.istore_n 3, 1) := by decide +kernel
theorem dX3_removePiece_6 : decode cX3_removePiece 6 = .ok (.iload_n 3, 1) := by decide +kernel
theorem dX3_removePiece_7 : decode cX3_removePiece 7 = .ok (.ifCond .lt 9, 3) := by decide +kernel
theorem dX3_removePiece_10 : decode cX3_removePiece 10 = .ok (.iload_n 3, 1) := by decide +kernel
theorem dX3_removePiece_11 : decode cX3_removePiece 11 = .ok (.bipush 10, 2) := by decide +kernel
theorem dX3_removePiece_13 : decode cX3_removePiece 13 = .ok (.if_icmp .lt 5, 3) := by decide +kernel
theorem dX3_removePiece_16 : decode cX3_removePiece 16 = .ok (.iconst (-1), 1) := by decide +kernel
theorem dX3_removePiece_17 : decode cX3_removePiece 17 = .ok (.ireturn, 1) := by decide +kernel
theorem dX3_removePiece_18 : decode cX3_removePiece 18 = .ok (.iload_n 2, 1) := by decide +kernel
theorem dX3_removePiece_19 : decode cX3_removePiece 19 = .ok (.iconst 1, 1) := by decide +kernel
theorem dX3_removePiece_20 : decode cX3_removePiece 20 = .ok (.iadd, 1) := by decide +kernel
theorem dX3_removePiece_21 : decode cX3_removePiece 21 = .ok (.istore 4, 2) := by decide +kernel
theorem dX3_removePiece_23 : decode cX3_removePiece 23 = .ok (.iload 4, 2) := by decide +kernel
theorem dX3_removePiece_25 : decode cX3_removePiece 25 = .ok (.aload_n 0, 1) := by decide +kernel
theorem dX3_removePiece_26 : decode cX3_removePiece 26 = .ok (.getfield 50, 3) := by decide +kernel
theorem dX3_removePiece_29 : decode cX3_removePiece 29 = .ok (.if_icmp .ge 23, 3) := by decide +kernel
theorem dX3_removePiece_32 : decode cX3_removePiece 32 = .ok (.aload_n 0, 1) := by decide +kernel
theorem dX3_removePiece_33 : decode cX3_removePiece 33 = .ok (.iload 4, 2) := by decide +kernel
theorem dX3_removePiece_35 : decode cX3_removePiece 35 = .ok (.iconst 1, 1) := by decide +kernel
theorem dX3_removePiece_36 : decode cX3_removePiece 36 = .ok (.isub, 1) := by decide +kernel
theorem dX3_removePiece_37 : decode cX3_removePiece 37 = .ok (.aload_n 0, 1) := by decide +kernel
theorem dX3_removePiece_38 : decode cX3_removePiece 38 = .ok (.iload 4, 2) := by decide +kernel
theorem dX3_removePiece_40 : decode cX3_removePiece 40 = .ok (.invokevirtual 106, 3) := by decide +kernel
theorem dX3_removePiece_43 : decode cX3_removePiece 43 = .ok (.invokevirtual 99, 3) := by decide +kernel
theorem dX3_removePiece_46 : decode cX3_removePiece 46 = .ok (.iinc 4 1, 3) := by decide +kernel
theorem dX3_removePiece_49 : decode cX3_removePiece 49 = .ok (.goto (-26), 3) := by decide +kernel
theorem dX3_removePiece_52 : decode cX3_removePiece 52 = .ok (.aload_n 0, 1) := by decide +kernel
theorem dX3_removePiece_53 : decode cX3_removePiece 53 = .ok (.dup, 1) := by decide +kernel
theorem dX3_removePiece_54 : decode cX3_removePiece 54 = .ok (.getfield 50, 3) := by decide +kernel
theorem dX3_removePiece_57 : decode cX3_removePiece 57 = .ok (.iconst 1, 1) := by decide +kernel
theorem dX3_removePiece_58 : decode cX3_removePiece 58 = .ok (.isub, 1) := by decide +kernel
theorem dX3_removePiece_59 : decode cX3_removePiece 59 = .ok (.putfield 50, 3) := by decide +kernel
theorem dX3_removePiece_62 : decode cX3_removePiece 62 = .ok (.aload_n 0, 1) := by decide +kernel
theorem dX3_removePiece_63 : decode cX3_removePiece 63 = .ok (.dup, 1) := by decide +kernel
theorem dX3_removePiece_64 : decode cX3_removePiece 64 = .ok (.getfield 53, 3) := by decide +kernel
theorem dX3_removePiece_67 : decode cX3_removePiece 67 = .ok (.aload_n 1, 1) := by decide +kernel
theorem dX3_removePiece_68 : decode cX3_removePiece 68 = .ok (.getfield 103, 3) := by decide +kernel
theorem dX3_removePiece_71 : decode cX3_removePiece 71 = .ok (.iload_n 3, 1) := by decide +kernel
theorem dX3_removePiece_72 : decode cX3_removePiece 72 = .ok (.iaload, 1) := by decide +kernel
theorem dX3_removePiece_73 : decode cX3_removePiece 73 = .ok (.isub, 1) := by decide +kernel
theorem dX3_removePiece_74 : decode cX3_removePiece 74 = .ok (.putfield 53, 3) := by decide +kernel
theorem dX3_removePiece_77 : decode cX3_removePiece 77 = .ok (.aload_n 0, 1) := by decide +kernel
theorem dX3_removePiece_78 : decode cX3_removePiece 78 = .ok (.getfield 19, 3) := by decide +kernel
theorem dX3_removePiece_81 : decode cX3_removePiece 81 = .ok (.iload_n 3, 1) := by decide +kernel
theorem dX3_removePiece_82 : decode cX3_removePiece 82 = .ok (.dup2, 1) := by decide +kernel
theorem dX3_removePiece_83 : decode cX3_removePiece 83 = .ok (.iaload, 1) := by decide +kernel
theorem dX3_removePiece_84 : decode cX3_removePiece 84 = .ok (.iconst 1, 1) := by decide +kernel
theorem dX3_removePiece_85 : decode cX3_removePiece 85 = .ok (.isub, 1) := by decide +kernel
theorem dX3_removePiece_86 : decode cX3_removePiece 86 = .ok (.iastore, 1) := by decide +kernel
theorem dX3_removePiece_87 : decode cX3_removePiece 87 = .ok (.iload_n 3, 1) := by decide +kernel
theorem dX3_removePiece_88 : decode cX3_removePiece 88 = .ok (.ireturn, 1) := by decide +kernel
theorem dX3_dropPieces_0 : decode cX3_dropPieces 0 = .ok (.aload_n 0, 1) := by decide +kernel
theorem dX3_dropPieces_1 : decode cX3_dropPieces 1 = .ok (.iconst 0, 1) := by decide +kernel
theorem dX3_dropPieces_2 : decode cX3_dropPieces 2 = .ok (.putfield 50, 3) := by decide +kernel
theorem dX3_dropPieces_5 : decode cX3_dropPieces 5 = .ok (.aload_n 0, 1) := by decide +kernel
theorem dX3_dropPieces_6 : decode cX3_dropPieces 6 = .ok (.iconst 0, 1) := by decide +kernel
theorem dX3_dropPieces_7 : decode cX3_dropPieces 7 = .ok (.putfield 53, 3) := by decide +kernel
theorem dX3_dropPieces_10 : decode cX3_dropPieces 10 = .ok (.iconst 0, 1) := by decide +kernel
theorem dX3_dropPieces_11 : decode cX3_dropPieces 11 = .ok (.istore_n 1, 1) := by decide +kernel
theorem dX3_dropPieces_12 : decode cX3_dropPieces 12 = .ok (.iload_n 1, 1) := by decide +kernel
theorem dX3_dropPieces_13 : decode cX3_dropPieces 13 = .ok (.bipush 10, 2) := by decide +kernel
theorem dX3_dropPieces_15 : decode cX3_dropPieces 15 = .ok (.if_icmp .ge 16, 3) := by decide +kernel
theorem dX3_dropPieces_18 : decode cX3_dropPieces 18 = .ok (.aload_n 0, 1) := by decide +kernel
theorem dX3_dropPieces_19 : decode cX3_dropPieces 19 = .ok (.getfield 19, 3) := by decide +kernel
theorem dX3_dropPieces_22 : decode cX3_dropPieces 22 = .ok (.iload_n 1, 1) := by decide +kernel
theorem dX3_dropPieces_23 : decode cX3_dropPieces 23 = .ok (.iconst 0, 1) := by decide +kernel
theorem dX3_dropPieces_24 : decode cX3_dropPieces 24 = .ok (.iastore, 1) := by decide +kernel
theorem dX3_dropPieces_25 : decode cX3_dropPieces 25 = .ok (.iinc 1 1, 3) := by decide +kernel
theorem dX3_dropPieces_28 : decode cX3_dropPieces 28 = .ok (.goto (-16), 3) := by decide +kernel
theorem dX3_dropPieces_31 : decode cX3_dropPieces 31 = .ok (.return_, 1) := by decide +kernel
theorem dX4_init_0 : decode cX4_init 0 = .ok (.aload_n 0, 1) := by decide +kernel
theorem dX4_init_1 : decode cX4_init 1 = .ok (.invokespecial 3, 3) := by decide +kernel
theorem dX4_init_4 : decode cX4_init 4 = .ok (.aload_n 0, 1) := by decide +kernel
theorem dX4_init_5 : decode cX4_init 5 = .ok (.bipush 11, 2) := by decide +kernel
theorem dX4_init_7 : decode cX4_init 7 = .ok (.sipush 501, 3) := by decide +kernel
theorem dX4_init_10 : decode cX4_init 10 = .ok (.multianewarray 9 2, 4) := by decide +kernel
theorem dX4_init_14 : decode cX4_init 14 = .ok (.putfield 11, 3) := by decide +kernel
theorem dX4_init_17 : decode cX4_init 17 = .ok (.aload_n 0, 1) := by decide +kernel
theorem dX4_init_18 : decode cX4_init 18 = .ok (.sipush 501, 3) := by decide +kernel
theorem dX4_init_21 : decode cX4_init 21 = .ok (.newarray .int, 2) := by decide +kernel
theorem dX4_init_23 : decode cX4_init 23 = .ok (.putfield 16, 3) := by decide +kernel
theorem dX4_init_26 : decode cX4_init 26 = .ok (.aload_n 0, 1) := by decide +kernel
theorem dX4_init_27 : decode cX4_init 27 = .ok (.sipush 501, 3) := by decide +kernel
theorem dX4_init_30 : decode cX4_init 30 = .ok (.newarray .int, 2) := by decide +kernel
theorem dX4_init_32 : decode cX4_init 32 = .ok (.putfield 20, 3) := by decide +kernel
theorem dX4_init_35 : decode cX4_init 35 = .ok (.aload_n 0, 1) := by decide +kernel
theorem dX4_init_36 : decode cX4_init 36 = .ok (.bipush 10, 2) := by decide +kernel
theorem dX4_init_38 : decode cX4_init 38 = .ok (.newarray .int, 2) := by decide +kernel
theorem dX4_init_40 : decode cX4_init 40 = .ok (.putfield 23, 3) := by decide +kernel
theorem dX4_init_43 : decode cX4_init 43 = .ok (.aload_n 0, 1) := by decide +kernel
theorem dX4_init_44 : decode cX4_init 44 = .ok (.bipush 10, 2) := by decide +kernel
theorem dX4_init_46 : decode cX4_init 46 = .ok (.newarray .int, 2) := by decide +kernel
theorem dX4_init_48 : decode cX4_init 48 = .ok (.putfield 26, 3) := by decide +kernel
theorem dX4_init_51 : decode cX4_init 51 = .ok (.return_, 1) := by decide +kernel
theorem dX4_stockFrom_0 : decode cX4_stockFrom 0 = .ok (.aload_n 1, 1) := by decide +kernel
theorem dX4_stockFrom_1 : decode cX4_stockFrom 1 = .ok (.getfield 29, 3) := by decide +kernel
theorem dX4_stockFrom_4 : decode cX4_stockFrom 4 = .ok (.iconst 0, 1) := by decide +kernel
theorem dX4_stockFrom_5 : decode cX4_stockFrom 5 = .ok (.aload_n 0, 1) := by decide +kernel
theorem dX4_stockFrom_6 : decode cX4_stockFrom 6 = .ok (.getfield 23, 3) := by decide +kernel
theorem dX4_stockFrom_9 : decode cX4_stockFrom 9 = .ok (.iconst 0, 1) := by decide +kernel
theorem dX4_stockFrom_10 : decode cX4_stockFrom 10 = .ok (.bipush 10, 2) := by decide +kernel
theorem dX4_stockFrom_12 : decode cX4_stockFrom 12 = .ok (.invokestatic 34, 3) := by decide +kernel
theorem dX4_stockFrom_15 : decode cX4_stockFrom 15 = .ok (.return_, 1) := by decide +kernel
theorem dX4_study_0 : decode cX4_study 0 = .ok (.aload_n 0, 1) := by decide +kernel
theorem dX4_study_1 : decode cX4_study 1 = .ok (.getfield 11, 3) := by decide +kernel
theorem dX4_study_4 : decode cX4_study 4 = .ok (.aload_n 1, 1) := by decide +kernel
theorem dX4_study_5 : decode cX4_study 5 = .ok (.getfield 40, 3) := by decide +kernel
theorem dX4_study_8 : decode cX4_study 8 = .ok (.aaload, 1) := by decide +kernel
theorem dX4_study_9 : decode cX4_study 9 = .ok (.astore_n 2, 1) := by decide +kernel
theorem dX4_study_10 : decode cX4_study 10 = .ok (.aload_n 2, 1) := by decide +kernel
theorem dX4_study_11 : decode cX4_study 11 = .ok (.iconst 0, 1) := by decide +kernel
theorem dX4_study_12 : decode cX4_study 12 = .ok (.iconst 0, 1) := by decide +kernel
theorem dX4_study_13 : decode cX4_study 13 = .ok (.iastore, 1) := by decide +kernel
theorem dX4_study_14 : decode cX4_study 14 = .ok (.iconst 1, 1) := by decide +kernel
theorem dX4_study_15 : decode cX4_study 15 = .ok (.istore_n 3, 1) := by decide +kernel
theorem dX4_study_16 : decode cX4_study 16 = .ok (.iload_n 3, 1) := by decide +kernel
theorem dX4_study_17 : decode cX4_study 17 = .ok (.sipush 500, 3) := by decide +kernel
theorem dX4_study_20 : decode cX4_study 20 = .ok (.if_icmp .gt 14, 3) := by decide +kernel
theorem dX4_study_23 : decode cX4_study 23 = .ok (.aload_n 2, 1) := by decide +kernel
theorem dX4_study_24 : decode cX4_study 24 = .ok (.iload_n 3, 1) := by decide +kernel
theorem dX4_study_25 : decode cX4_study 25 = .ok (.ldc 46, 2) := by decide +kernel
theorem dX4_study_27 : decode cX4_study 27 = .ok (.iastore, 1) := by decide +kernel
theorem dX4_study_28 : decode cX4_study 28 = .ok (.iinc 3 1, 3) := by decide +kernel
theorem dX4_study_31 : decode cX4_study 31 = .ok (.goto (-15), 3) := by decide +kernel
theorem dX4_study_34 : decode cX4_study 34 = .ok (.aload_n 0, 1) := by decide +kernel
theorem dX4_study_35 : decode cX4_study 35 = .ok (.aload_n 1, 1) := by decide +kernel
theorem dX4_study_36 : decode cX4_study 36 = .ok (.aload_n 1, 1) := by decide +kernel
theorem dX4_study_37 : decode cX4_study 37 = .ok (.getfield 40, 3) := by decide +kernel
theorem dX4_study_40 : decode cX4_study 40 = .ok (.iconst 1, 1) := by decide +kernel
theorem dX4_study_41 : decode cX4_study 41 = .ok (.isub, 1) := by decide +kernel
theorem dX4_study_42 : decode cX4_study 42 = .ok (.invokevirtual 47, 3) := by decide +kernel
theorem dX4_study_45 : decode cX4_study 45 = .ok (.return_, 1) := by decide +kernel
theorem dX4_studyFrom_0 : decode cX4_studyFrom 0 = .ok (.iload_n 2, 1) := by decide +kernel
theorem dX4_studyFrom_1 : decode cX4_studyFrom 1 = .ok (.istore_n 3, 1) := by decide +kernel
theorem dX4_studyFrom_2 : decode cX4_studyFrom 2 = .ok (.iload_n 3, 1) := by decide +kernel
theorem dX4_studyFrom_3 : decode cX4_studyFrom 3 = .ok (.ifCond .lt 66, 3) := by decide +kernel
theorem dX4_studyFrom_6 : decode cX4_studyFrom 6 = .ok (.aload_n 1, 1) := by decide +kernel
theorem dX4_studyFrom_7 : decode cX4_studyFrom 7 = .ok (.getfield 51, 3) := by decide +kernel
theorem dX4_studyFrom_10 : decode cX4_studyFrom 10 = .ok (.iload_n 3, 1) := by decide +kernel
theorem dX4_studyFrom_11 : decode cX4_studyFrom 11 = .ok (.iaload, 1) := by decide +kernel
theorem dX4_studyFrom_12 : decode cX4_studyFrom 12 = .ok (.istore 4, 2) := by decide +kernel
theorem dX4_studyFrom_14 : decode cX4_studyFrom 14 = .ok (.aload_n 0, 1) := by decide +kernel
theorem dX4_studyFrom_15 : decode cX4_studyFrom 15 = .ok (.getfield 11, 3) := by decide +kernel
theorem dX4_studyFrom_18 : decode cX4_studyFrom 18 = .ok (.iload_n 3, 1) := by decide +kernel
theorem dX4_studyFrom_19 : decode cX4_studyFrom 19 = .ok (.iconst 1, 1) := by decide +kernel
theorem dX4_studyFrom_20 : decode cX4_studyFrom 20 = .ok (.iadd, 1) := by decide +kernel
theorem dX4_studyFrom_21 : decode cX4_studyFrom 21 = .ok (.aaload, 1) := by decide +kernel
theorem dX4_studyFrom_22 : decode cX4_studyFrom 22 = .ok (.iconst 0, 1) := by decide +kernel
theorem dX4_studyFrom_23 : decode cX4_studyFrom 23 = .ok (.aload_n 0, 1) := by decide +kernel
theorem dX4_studyFrom_24 : decode cX4_studyFrom 24 = .ok (.getfield 11, 3) := by decide +kernel
theorem dX4_studyFrom_27 : decode cX4_studyFrom 27 = .ok (.iload_n 3, 1) := by decide +kernel
theorem dX4_studyFrom_28 : decode cX4_studyFrom 28 = .ok (.aaload, 1) := by decide +kernel
theorem dX4_studyFrom_29 : decode cX4_studyFrom 29 = .ok (.iconst 0, 1) := by decide +kernel
theorem dX4_studyFrom_30 : decode cX4_studyFrom 30 = .ok (.sipush 501, 3) := by decide +kernel
theorem dX4_studyFrom_33 : decode cX4_studyFrom 33 = .ok (.invokestatic 34, 3) := by decide +kernel
theorem dX4_studyFrom_36 : decode cX4_studyFrom 36 = .ok (.aload_n 0, 1) := by decide +kernel
theorem dX4_studyFrom_37 : decode cX4_studyFrom 37 = .ok (.getfield 11, 3) := by decide +kernel
theorem dX4_studyFrom_40 : decode cX4_studyFrom 40 = .ok (.iload_n 3, 1) := by decide +kernel
theorem dX4_studyFrom_41 : decode cX4_studyFrom 41 = .ok (.aaload, 1) := by decide +kernel
theorem dX4_studyFrom_42 : decode cX4_studyFrom 42 = .ok (.aload_n 1, 1) := by decide +kernel
theorem dX4_studyFrom_43 : decode cX4_studyFrom 43 = .ok (.getfield 54, 3) := by decide +kernel
theorem dX4_studyFrom_46 : decode cX4_studyFrom 46 = .ok (.aload_n 1, 1) := by decide +kernel
theorem dX4_studyFrom_47 : decode cX4_studyFrom 47 = .ok (.getfield 57, 3) := by decide +kernel
theorem dX4_studyFrom_50 : decode cX4_studyFrom 50 = .ok (.iload 4, 2) := by decide +kernel
theorem dX4_studyFrom_52 : decode cX4_studyFrom 52 = .ok (.iaload, 1) := by decide +kernel
theorem dX4_studyFrom_53 : decode cX4_studyFrom 53 = .ok (.aload_n 0, 1) := by decide +kernel
theorem dX4_studyFrom_54 : decode cX4_studyFrom 54 = .ok (.getfield 23, 3) := by decide +kernel
theorem dX4_studyFrom_57 : decode cX4_studyFrom 57 = .ok (.iload 4, 2) := by decide +kernel
theorem dX4_studyFrom_59 : decode cX4_studyFrom 59 = .ok (.iaload, 1) := by decide +kernel
theorem dX4_studyFrom_60 : decode cX4_studyFrom 60 = .ok (.invokestatic 60, 3) := by decide +kernel
theorem dX4_studyFrom_63 : decode cX4_studyFrom 63 = .ok (.iinc 3 (-1), 3) := by decide +kernel
theorem dX4_studyFrom_66 : decode cX4_studyFrom 66 = .ok (.goto (-64), 3) := by decide +kernel
theorem dX4_studyFrom_69 : decode cX4_studyFrom 69 = .ok (.return_, 1) := by decide +kernel
theorem dX4_addKind_0 : decode cX4_addKind 0 = .ok (.iload_n 2, 1) := by decide +kernel
theorem dX4_addKind_1 : decode cX4_addKind 1 = .ok (.iconst 1, 1) := by decide +kernel
theorem dX4_addKind_2 : decode cX4_addKind 2 = .ok (.if_icmp .ge 4, 3) := by decide +kernel
theorem dX4_addKind_5 : decode cX4_addKind 5 = .ok (.return_, 1) := by decide +kernel
theorem dX4_addKind_6 : decode cX4_addKind 6 = .ok (.iload_n 3, 1) := by decide +kernel
theorem dX4_addKind_7 : decode cX4_addKind 7 = .ok (.iload_n 1, 1) := by decide +kernel
theorem dX4_addKind_8 : decode cX4_addKind 8 = .ok (.iload_n 2, 1) := by decide +kernel
theorem dX4_addKind_9 : decode cX4_addKind 9 = .ok (.idiv, 1) := by decide +kernel
theorem dX4_addKind_10 : decode cX4_addKind 10 = .ok (.invokestatic 64, 3) := by decide +kernel
theorem dX4_addKind_13 : decode cX4_addKind 13 = .ok (.istore 4, 2) := by decide +kernel
theorem dX4_addKind_15 : decode cX4_addKind 15 = .ok (.iconst 1, 1) := by decide +kernel
theorem dX4_addKind_16 : decode cX4_addKind 16 = .ok (.istore 5, 2) := by decide +kernel
theorem dX4_addKind_18 : decode cX4_addKind 18 = .ok (.iload 4, 2) := by decide +kernel
theorem dX4_addKind_20 : decode cX4_addKind 20 = .ok (.ifCond .le 47, 3) := by decide +kernel
theorem dX4_addKind_23 : decode cX4_addKind 23 = .ok (.iload 5, 2) := by decide +kernel
theorem dX4_addKind_25 : decode cX4_addKind 25 = .ok (.sipush 500, 3) := by decide +kernel
theorem dX4_addKind_28 : decode cX4_addKind 28 = .ok (.if_icmp .gt 39, 3) := by decide +kernel
theorem dX4_addKind_31 : decode cX4_addKind 31 = .ok (.iload 5, 2) := by decide +kernel
theorem dX4_addKind_33 : decode cX4_addKind 33 = .ok (.iload 4, 2) := by decide +kernel
theorem dX4_addKind_35 : decode cX4_addKind 35 = .ok (.invokestatic 64, 3) := by decide +kernel
theorem dX4_addKind_38 : decode cX4_addKind 38 = .ok (.istore 6, 2) := by decide +kernel
theorem dX4_addKind_40 : decode cX4_addKind 40 = .ok (.aload_n 0, 1) := by decide +kernel
theorem dX4_addKind_41 : decode cX4_addKind 41 = .ok (.iload_n 1, 1) := by decide +kernel
theorem dX4_addKind_42 : decode cX4_addKind 42 = .ok (.iload_n 2, 1) := by decide +kernel
theorem dX4_addKind_43 : decode cX4_addKind 43 = .ok (.iload 6, 2) := by decide +kernel
theorem dX4_addKind_45 : decode cX4_addKind 45 = .ok (.imul, 1) := by decide +kernel
theorem dX4_addKind_46 : decode cX4_addKind 46 = .ok (.iload 6, 2) := by decide +kernel
theorem dX4_addKind_48 : decode cX4_addKind 48 = .ok (.invokestatic 70, 3) := by decide +kernel
theorem dX4_addKind_51 : decode cX4_addKind 51 = .ok (.iload 4, 2) := by decide +kernel
theorem dX4_addKind_53 : decode cX4_addKind 53 = .ok (.iload 6, 2) := by decide +kernel
theorem dX4_addKind_55 : decode cX4_addKind 55 = .ok (.isub, 1) := by decide +kernel
theorem dX4_addKind_56 : decode cX4_addKind 56 = .ok (.istore 4, 2) := by decide +kernel
theorem dX4_addKind_58 : decode cX4_addKind 58 = .ok (.iload 5, 2) := by decide +kernel
theorem dX4_addKind_60 : decode cX4_addKind 60 = .ok (.iconst 2, 1) := by decide +kernel
theorem dX4_addKind_61 : decode cX4_addKind 61 = .ok (.imul, 1) := by decide +kernel
theorem dX4_addKind_62 : decode cX4_addKind 62 = .ok (.istore 5, 2) := by decide +kernel
theorem dX4_addKind_64 : decode cX4_addKind 64 = .ok (.goto (-46), 3) := by decide +kernel
theorem dX4_addKind_67 : decode cX4_addKind 67 = .ok (.return_, 1) := by decide +kernel
theorem dX4_addBundle_0 : decode cX4_addBundle 0 = .ok (.iload_n 1, 1) := by decide +kernel
theorem dX4_addBundle_1 : decode cX4_addBundle 1 = .ok (.aload_n 0, 1) := by decide +kernel
theorem dX4_addBundle_2 : decode cX4_addBundle 2 = .ok (.arraylength, 1) := by decide +kernel
theorem dX4_addBundle_3 : decode cX4_addBundle 3 = .ok (.iconst 1, 1) := by decide +kernel
theorem dX4_addBundle_4 : decode cX4_addBundle 4 = .ok (.isub, 1) := by decide +kernel
theorem dX4_addBundle_5 : decode cX4_addBundle 5 = .ok (.invokestatic 64, 3) := by decide +kernel
theorem dX4_addBundle_8 : decode cX4_addBundle 8 = .ok (.istore 4, 2) := by decide +kernel
theorem dX4_addBundle_10 : decode cX4_addBundle 10 = .ok (.iload 4, 2) := by decide +kernel
theorem dX4_addBundle_12 : decode cX4_addBundle 12 = .ok (.iload_n 2, 1) := by decide +kernel
theorem dX4_addBundle_13 : decode cX4_addBundle 13 = .ok (.if_icmp .lt 34, 3) := by decide +kernel
theorem dX4_addBundle_16 : decode cX4_addBundle 16 = .ok (.aload_n 0, 1) := by decide +kernel
theorem dX4_addBundle_17 : decode cX4_addBundle 17 = .ok (.iload 4, 2) := by decide +kernel
theorem dX4_addBundle_19 : decode cX4_addBundle 19 = .ok (.iload_n 2, 1) := by decide +kernel
theorem dX4_addBundle_20 : decode cX4_addBundle 20 = .ok (.isub, 1) := by decide +kernel
theorem dX4_addBundle_21 : decode cX4_addBundle 21 = .ok (.iaload, 1) := by decide +kernel
theorem dX4_addBundle_22 : decode cX4_addBundle 22 = .ok (.iload_n 3, 1) := by decide +kernel
theorem dX4_addBundle_23 : decode cX4_addBundle 23 = .ok (.iadd, 1) := by decide +kernel
theorem dX4_addBundle_24 : decode cX4_addBundle 24 = .ok (.istore 5, 2) := by decide +kernel
theorem dX4_addBundle_26 : decode cX4_addBundle 26 = .ok (.iload 5, 2) := by decide +kernel
theorem dX4_addBundle_28 : decode cX4_addBundle 28 = .ok (.aload_n 0, 1) := by decide +kernel
theorem dX4_addBundle_29 : decode cX4_addBundle 29 = .ok (.iload 4, 2) := by decide +kernel
theorem dX4_addBundle_31 : decode cX4_addBundle 31 = .ok (.iaload, 1) := by decide +kernel
theorem dX4_addBundle_32 : decode cX4_addBundle 32 = .ok (.if_icmp .ge 9, 3) := by decide +kernel
theorem dX4_addBundle_35 : decode cX4_addBundle 35 = .ok (.aload_n 0, 1) := by decide +kernel
theorem dX4_addBundle_36 : decode cX4_addBundle 36 = .ok (.iload 4, 2) := by decide +kernel
theorem dX4_addBundle_38 : decode cX4_addBundle 38 = .ok (.iload 5, 2) := by decide +kernel
theorem dX4_addBundle_40 : decode cX4_addBundle 40 = .ok (.iastore, 1) := by decide +kernel
theorem dX4_addBundle_41 : decode cX4_addBundle 41 = .ok (.iinc 4 (-1), 3) := by decide +kernel
theorem dX4_addBundle_44 : decode cX4_addBundle 44 = .ok (.goto (-34), 3) := by decide +kernel
theorem dX4_addBundle_47 : decode cX4_addBundle 47 = .ok (.return_, 1) := by decide +kernel
theorem dX4_canMake_0 : decode cX4_canMake 0 = .ok (.iload_n 1, 1) := by decide +kernel
theorem dX4_canMake_1 : decode cX4_canMake 1 = .ok (.ifCond .lt 27, 3) := by decide +kernel
theorem dX4_canMake_4 : decode cX4_canMake 4 = .ok (.iload_n 1, 1) := by decide +kernel
theorem dX4_canMake_5 : decode cX4_canMake 5 = .ok (.sipush 500, 3) := by decide +kernel
theorem dX4_canMake_8 : decode cX4_canMake 8 = .ok (.if_icmp .gt 20, 3) := by decide +kernel
theorem dX4_canMake_11 : decode cX4_canMake 11 = .ok (.aload_n 0, 1) := by decide +kernel
theorem dX4_canMake_12 : decode cX4_canMake 12 = .ok (.getfield 11, 3) := by decide +kernel
theorem dX4_canMake_15 : decode cX4_canMake 15 = .ok (.iconst 0, 1) := by decide +kernel
theorem dX4_canMake_16 : decode cX4_canMake 16 = .ok (.aaload, 1) := by decide +kernel
theorem dX4_canMake_17 : decode cX4_canMake 17 = .ok (.iload_n 1, 1) := by decide +kernel
theorem dX4_canMake_18 : decode cX4_canMake 18 = .ok (.iaload, 1) := by decide +kernel
theorem dX4_canMake_19 : decode cX4_canMake 19 = .ok (.ldc 46, 2) := by decide +kernel
theorem dX4_canMake_21 : decode cX4_canMake 21 = .ok (.if_icmp .ge 7, 3) := by decide +kernel
theorem dX4_canMake_24 : decode cX4_canMake 24 = .ok (.iconst 1, 1) := by decide +kernel
theorem dX4_canMake_25 : decode cX4_canMake 25 = .ok (.goto 4, 3) := by decide +kernel
theorem dX4_canMake_28 : decode cX4_canMake 28 = .ok (.iconst 0, 1) := by decide +kernel
theorem dX4_canMake_29 : decode cX4_canMake 29 = .ok (.ireturn, 1) := by decide +kernel
theorem dX4_choose_0 : decode cX4_choose 0 = .ok (.aload_n 0, 1) := by decide +kernel
theorem dX4_choose_1 : decode cX4_choose 1 = .ok (.ldc 46, 2) := by decide +kernel
theorem dX4_choose_3 : decode cX4_choose 3 = .ok (.putfield 73, 3) := by decide +kernel
theorem dX4_choose_6 : decode cX4_choose 6 = .ok (.iload_n 3, 1) := by decide +kernel
theorem dX4_choose_7 : decode cX4_choose 7 = .ok (.ifCond .eq 39, 3) := by decide +kernel
theorem dX4_choose_10 : decode cX4_choose 10 = .ok (.iconst 0, 1) := by decide +kernel
theorem dX4_choose_11 : decode cX4_choose 11 = .ok (.istore 4, 2) := by decide +kernel
theorem dX4_choose_13 : decode cX4_choose 13 = .ok (.iload 4, 2) := by decide +kernel
theorem dX4_choose_15 : decode cX4_choose 15 = .ok (.aload_n 1, 1) := by decide +kernel
theorem dX4_choose_16 : decode cX4_choose 16 = .ok (.getfield 76, 3) := by decide +kernel
theorem dX4_choose_19 : decode cX4_choose 19 = .ok (.if_icmp .gt 24, 3) := by decide +kernel
theorem dX4_choose_22 : decode cX4_choose 22 = .ok (.aload_n 0, 1) := by decide +kernel
theorem dX4_choose_23 : decode cX4_choose 23 = .ok (.iload_n 2, 1) := by decide +kernel
theorem dX4_choose_24 : decode cX4_choose 24 = .ok (.aload_n 1, 1) := by decide +kernel
theorem dX4_choose_25 : decode cX4_choose 25 = .ok (.getfield 79, 3) := by decide +kernel
theorem dX4_choose_28 : decode cX4_choose 28 = .ok (.isub, 1) := by decide +kernel
theorem dX4_choose_29 : decode cX4_choose 29 = .ok (.iload 4, 2) := by decide +kernel
theorem dX4_choose_31 : decode cX4_choose 31 = .ok (.isub, 1) := by decide +kernel
theorem dX4_choose_32 : decode cX4_choose 32 = .ok (.iload 4, 2) := by decide +kernel
theorem dX4_choose_34 : decode cX4_choose 34 = .ok (.invokevirtual 82, 3) := by decide +kernel
theorem dX4_choose_37 : decode cX4_choose 37 = .ok (.iinc 4 1, 3) := by decide +kernel
theorem dX4_choose_40 : decode cX4_choose 40 = .ok (.goto (-27), 3) := by decide +kernel
theorem dX4_choose_43 : decode cX4_choose 43 = .ok (.goto 9, 3) := by decide +kernel
theorem dX4_choose_46 : decode cX4_choose 46 = .ok (.aload_n 0, 1) := by decide +kernel
theorem dX4_choose_47 : decode cX4_choose 47 = .ok (.iload_n 2, 1) := by decide +kernel
theorem dX4_choose_48 : decode cX4_choose 48 = .ok (.iconst (-1), 1) := by decide +kernel
theorem dX4_choose_49 : decode cX4_choose 49 = .ok (.invokevirtual 82, 3) := by decide +kernel
theorem dX4_choose_52 : decode cX4_choose 52 = .ok (.aload_n 0, 1) := by decide +kernel
theorem dX4_choose_53 : decode cX4_choose 53 = .ok (.getfield 73, 3) := by decide +kernel
theorem dX4_choose_56 : decode cX4_choose 56 = .ok (.ldc 46, 2) := by decide +kernel
theorem dX4_choose_58 : decode cX4_choose 58 = .ok (.if_icmp .ne 5, 3) := by decide +kernel
theorem dX4_choose_61 : decode cX4_choose 61 = .ok (.iconst 0, 1) := by decide +kernel
theorem dX4_choose_62 : decode cX4_choose 62 = .ok (.ireturn, 1) := by decide +kernel
theorem dX4_choose_63 : decode cX4_choose 63 = .ok (.aload_n 0, 1) := by decide +kernel
theorem dX4_choose_64 : decode cX4_choose 64 = .ok (.aload_n 1, 1) := by decide +kernel
theorem dX4_choose_65 : decode cX4_choose 65 = .ok (.invokevirtual 86, 3) := by decide +kernel
theorem dX4_choose_68 : decode cX4_choose 68 = .ok (.iconst 1, 1) := by decide +kernel
theorem dX4_choose_69 : decode cX4_choose 69 = .ok (.ireturn, 1) := by decide +kernel
theorem dX4_chooseIfFewer_0 : decode cX4_chooseIfFewer 0 = .ok (.aload_n 0, 1) := by decide +kernel
theorem dX4_chooseIfFewer_1 : decode cX4_chooseIfFewer 1 = .ok (.iload_n 1, 1) := by decide +kernel
theorem dX4_chooseIfFewer_2 : decode cX4_chooseIfFewer 2 = .ok (.invokevirtual 90, 3) := by decide +kernel
theorem dX4_chooseIfFewer_5 : decode cX4_chooseIfFewer 5 = .ok (.ifCond .eq 40, 3) := by decide +kernel
theorem dX4_chooseIfFewer_8 : decode cX4_chooseIfFewer 8 = .ok (.aload_n 0, 1) := by decide +kernel
theorem dX4_chooseIfFewer_9 : decode cX4_chooseIfFewer 9 = .ok (.getfield 11, 3) := by decide +kernel
theorem dX4_chooseIfFewer_12 : decode cX4_chooseIfFewer 12 = .ok (.iconst 0, 1) := by decide +kernel
theorem dX4_chooseIfFewer_13 : decode cX4_chooseIfFewer 13 = .ok (.aaload, 1) := by decide +kernel
theorem dX4_chooseIfFewer_14 : decode cX4_chooseIfFewer 14 = .ok (.iload_n 1, 1) := by decide +kernel
theorem dX4_chooseIfFewer_15 : decode cX4_chooseIfFewer 15 = .ok (.iaload, 1) := by decide +kernel
theorem dX4_chooseIfFewer_16 : decode cX4_chooseIfFewer 16 = .ok (.aload_n 0, 1) := by decide +kernel
theorem dX4_chooseIfFewer_17 : decode cX4_chooseIfFewer 17 = .ok (.getfield 73, 3) := by decide +kernel
theorem dX4_chooseIfFewer_20 : decode cX4_chooseIfFewer 20 = .ok (.if_icmp .ge 25, 3) := by decide +kernel
theorem dX4_chooseIfFewer_23 : decode cX4_chooseIfFewer 23 = .ok (.aload_n 0, 1) := by decide +kernel
theorem dX4_chooseIfFewer_24 : decode cX4_chooseIfFewer 24 = .ok (.aload_n 0, 1) := by decide +kernel
theorem dX4_chooseIfFewer_25 : decode cX4_chooseIfFewer 25 = .ok (.getfield 11, 3) := by decide +kernel
theorem dX4_chooseIfFewer_28 : decode cX4_chooseIfFewer 28 = .ok (.iconst 0, 1) := by decide +kernel
theorem dX4_chooseIfFewer_29 : decode cX4_chooseIfFewer 29 = .ok (.aaload, 1) := by decide +kernel
theorem dX4_chooseIfFewer_30 : decode cX4_chooseIfFewer 30 = .ok (.iload_n 1, 1) := by decide +kernel
theorem dX4_chooseIfFewer_31 : decode cX4_chooseIfFewer 31 = .ok (.iaload, 1) := by decide +kernel
theorem dX4_chooseIfFewer_32 : decode cX4_chooseIfFewer 32 = .ok (.putfield 73, 3) := by decide +kernel
theorem dX4_chooseIfFewer_35 : decode cX4_chooseIfFewer 35 = .ok (.aload_n 0, 1) := by decide +kernel
theorem dX4_chooseIfFewer_36 : decode cX4_chooseIfFewer 36 = .ok (.iload_n 1, 1) := by decide +kernel
theorem dX4_chooseIfFewer_37 : decode cX4_chooseIfFewer 37 = .ok (.putfield 94, 3) := by decide +kernel
theorem dX4_chooseIfFewer_40 : decode cX4_chooseIfFewer 40 = .ok (.aload_n 0, 1) := by decide +kernel
theorem dX4_chooseIfFewer_41 : decode cX4_chooseIfFewer 41 = .ok (.iload_n 2, 1) := by decide +kernel
theorem dX4_chooseIfFewer_42 : decode cX4_chooseIfFewer 42 = .ok (.putfield 97, 3) := by decide +kernel
theorem dX4_chooseIfFewer_45 : decode cX4_chooseIfFewer 45 = .ok (.return_, 1) := by decide +kernel
theorem dX4_takeLongestFirst_0 : decode cX4_takeLongestFirst 0 = .ok (.aload_n 0, 1) := by decide +kernel
theorem dX4_takeLongestFirst_1 : decode cX4_takeLongestFirst 1 = .ok (.getfield 94, 3) := by decide +kernel
theorem dX4_takeLongestFirst_4 : decode cX4_takeLongestFirst 4 = .ok (.istore_n 2, 1) := by decide +kernel
theorem dX4_takeLongestFirst_5 : decode cX4_takeLongestFirst 5 = .ok (.iconst 0, 1) := by decide +kernel
theorem dX4_takeLongestFirst_6 : decode cX4_takeLongestFirst 6 = .ok (.istore_n 3, 1) := by decide +kernel
theorem dX4_takeLongestFirst_7 : decode cX4_takeLongestFirst 7 = .ok (.iload_n 3, 1) := by decide +kernel
theorem dX4_takeLongestFirst_8 : decode cX4_takeLongestFirst 8 = .ok (.aload_n 1, 1) := by decide +kernel
theorem dX4_takeLongestFirst_9 : decode cX4_takeLongestFirst 9 = .ok (.getfield 40, 3) := by decide +kernel
theorem dX4_takeLongestFirst_12 : decode cX4_takeLongestFirst 12 = .ok (.if_icmp .ge 62, 3) := by decide +kernel
theorem dX4_takeLongestFirst_15 : decode cX4_takeLongestFirst 15 = .ok (.aload_n 1, 1) := by decide +kernel
theorem dX4_takeLongestFirst_16 : decode cX4_takeLongestFirst 16 = .ok (.getfield 51, 3) := by decide +kernel
theorem dX4_takeLongestFirst_19 : decode cX4_takeLongestFirst 19 = .ok (.iload_n 3, 1) := by decide +kernel
theorem dX4_takeLongestFirst_20 : decode cX4_takeLongestFirst 20 = .ok (.iaload, 1) := by decide +kernel
theorem dX4_takeLongestFirst_21 : decode cX4_takeLongestFirst 21 = .ok (.istore 4, 2) := by decide +kernel
theorem dX4_takeLongestFirst_23 : decode cX4_takeLongestFirst 23 = .ok (.aload_n 0, 1) := by decide +kernel
theorem dX4_takeLongestFirst_24 : decode cX4_takeLongestFirst 24 = .ok (.getfield 26, 3) := by decide +kernel
theorem dX4_takeLongestFirst_27 : decode cX4_takeLongestFirst 27 = .ok (.iload 4, 2) := by decide +kernel
theorem dX4_takeLongestFirst_29 : decode cX4_takeLongestFirst 29 = .ok (.aload_n 0, 1) := by decide +kernel
theorem dX4_takeLongestFirst_30 : decode cX4_takeLongestFirst 30 = .ok (.iload_n 3, 1) := by decide +kernel
theorem dX4_takeLongestFirst_31 : decode cX4_takeLongestFirst 31 = .ok (.iload_n 2, 1) := by decide +kernel
theorem dX4_takeLongestFirst_32 : decode cX4_takeLongestFirst 32 = .ok (.aload_n 1, 1) := by decide +kernel
theorem dX4_takeLongestFirst_33 : decode cX4_takeLongestFirst 33 = .ok (.getfield 57, 3) := by decide +kernel
theorem dX4_takeLongestFirst_36 : decode cX4_takeLongestFirst 36 = .ok (.iload 4, 2) := by decide +kernel
theorem dX4_takeLongestFirst_38 : decode cX4_takeLongestFirst 38 = .ok (.iaload, 1) := by decide +kernel
theorem dX4_takeLongestFirst_39 : decode cX4_takeLongestFirst 39 = .ok (.aload_n 0, 1) := by decide +kernel
theorem dX4_takeLongestFirst_40 : decode cX4_takeLongestFirst 40 = .ok (.getfield 23, 3) := by decide +kernel
theorem dX4_takeLongestFirst_43 : decode cX4_takeLongestFirst 43 = .ok (.iload 4, 2) := by decide +kernel
theorem dX4_takeLongestFirst_45 : decode cX4_takeLongestFirst 45 = .ok (.iaload, 1) := by decide +kernel
theorem dX4_takeLongestFirst_46 : decode cX4_takeLongestFirst 46 = .ok (.invokevirtual 100, 3) := by decide +kernel
theorem dX4_takeLongestFirst_49 : decode cX4_takeLongestFirst 49 = .ok (.iastore, 1) := by decide +kernel
theorem dX4_takeLongestFirst_50 : decode cX4_takeLongestFirst 50 = .ok (.iload_n 2, 1) := by decide +kernel
theorem dX4_takeLongestFirst_51 : decode cX4_takeLongestFirst 51 = .ok (.aload_n 0, 1) := by decide +kernel
theorem dX4_takeLongestFirst_52 : decode cX4_takeLongestFirst 52 = .ok (.getfield 26, 3) := by decide +kernel
theorem dX4_takeLongestFirst_55 : decode cX4_takeLongestFirst 55 = .ok (.iload 4, 2) := by decide +kernel
theorem dX4_takeLongestFirst_57 : decode cX4_takeLongestFirst 57 = .ok (.iaload, 1) := by decide +kernel
theorem dX4_takeLongestFirst_58 : decode cX4_takeLongestFirst 58 = .ok (.aload_n 1, 1) := by decide +kernel
theorem dX4_takeLongestFirst_59 : decode cX4_takeLongestFirst 59 = .ok (.getfield 57, 3) := by decide +kernel
theorem dX4_takeLongestFirst_62 : decode cX4_takeLongestFirst 62 = .ok (.iload 4, 2) := by decide +kernel
theorem dX4_takeLongestFirst_64 : decode cX4_takeLongestFirst 64 = .ok (.iaload, 1) := by decide +kernel
theorem dX4_takeLongestFirst_65 : decode cX4_takeLongestFirst 65 = .ok (.imul, 1) := by decide +kernel
theorem dX4_takeLongestFirst_66 : decode cX4_takeLongestFirst 66 = .ok (.isub, 1) := by decide +kernel
theorem dX4_takeLongestFirst_67 : decode cX4_takeLongestFirst 67 = .ok (.istore_n 2, 1) := by decide +kernel
theorem dX4_takeLongestFirst_68 : decode cX4_takeLongestFirst 68 = .ok (.iinc 3 1, 3) := by decide +kernel
theorem dX4_takeLongestFirst_71 : decode cX4_takeLongestFirst 71 = .ok (.goto (-64), 3) := by decide +kernel
theorem dX4_takeLongestFirst_74 : decode cX4_takeLongestFirst 74 = .ok (.return_, 1) := by decide +kernel
theorem dX4_mostAt_0 : decode cX4_mostAt 0 = .ok (.iload_n 3, 1) := by decide +kernel
theorem dX4_mostAt_1 : decode cX4_mostAt 1 = .ok (.iconst 1, 1) := by decide +kernel
theorem dX4_mostAt_2 : decode cX4_mostAt 2 = .ok (.if_icmp .lt 14, 3) := by decide +kernel
theorem dX4_mostAt_5 : decode cX4_mostAt 5 = .ok (.iload_n 2, 1) := by decide +kernel
theorem dX4_mostAt_6 : decode cX4_mostAt 6 = .ok (.ifCond .lt 10, 3) := by decide +kernel
theorem dX4_mostAt_9 : decode cX4_mostAt 9 = .ok (.iload_n 2, 1) := by decide +kernel
theorem dX4_mostAt_10 : decode cX4_mostAt 10 = .ok (.sipush 500, 3) := by decide +kernel
theorem dX4_mostAt_13 : decode cX4_mostAt 13 = .ok (.if_icmp .le 5, 3) := by decide +kernel
theorem dX4_mostAt_16 : decode cX4_mostAt 16 = .ok (.iconst 0, 1) := by decide +kernel
theorem dX4_mostAt_17 : decode cX4_mostAt 17 = .ok (.ireturn, 1) := by decide +kernel
theorem dX4_mostAt_18 : decode cX4_mostAt 18 = .ok (.iload 4, 2) := by decide +kernel
theorem dX4_mostAt_20 : decode cX4_mostAt 20 = .ok (.iload_n 2, 1) := by decide +kernel
theorem dX4_mostAt_21 : decode cX4_mostAt 21 = .ok (.iload_n 3, 1) := by decide +kernel
theorem dX4_mostAt_22 : decode cX4_mostAt 22 = .ok (.idiv, 1) := by decide +kernel
theorem dX4_mostAt_23 : decode cX4_mostAt 23 = .ok (.invokestatic 64, 3) := by decide +kernel
theorem dX4_mostAt_26 : decode cX4_mostAt 26 = .ok (.istore 5, 2) := by decide +kernel
theorem dX4_mostAt_28 : decode cX4_mostAt 28 = .ok (.iload 5, 2) := by decide +kernel
theorem dX4_mostAt_30 : decode cX4_mostAt 30 = .ok (.ifCond .le 41, 3) := by decide +kernel
theorem dX4_mostAt_33 : decode cX4_mostAt 33 = .ok (.aload_n 0, 1) := by decide +kernel
theorem dX4_mostAt_34 : decode cX4_mostAt 34 = .ok (.getfield 11, 3) := by decide +kernel
theorem dX4_mostAt_37 : decode cX4_mostAt 37 = .ok (.iload_n 1, 1) := by decide +kernel
theorem dX4_mostAt_38 : decode cX4_mostAt 38 = .ok (.iconst 1, 1) := by decide +kernel
theorem dX4_mostAt_39 : decode cX4_mostAt 39 = .ok (.iadd, 1) := by decide +kernel
theorem dX4_mostAt_40 : decode cX4_mostAt 40 = .ok (.aaload, 1) := by decide +kernel
theorem dX4_mostAt_41 : decode cX4_mostAt 41 = .ok (.iload_n 2, 1) := by decide +kernel
theorem dX4_mostAt_42 : decode cX4_mostAt 42 = .ok (.iload 5, 2) := by decide +kernel
theorem dX4_mostAt_44 : decode cX4_mostAt 44 = .ok (.iload_n 3, 1) := by decide +kernel
theorem dX4_mostAt_45 : decode cX4_mostAt 45 = .ok (.imul, 1) := by decide +kernel
theorem dX4_mostAt_46 : decode cX4_mostAt 46 = .ok (.isub, 1) := by decide +kernel
theorem dX4_mostAt_47 : decode cX4_mostAt 47 = .ok (.iaload, 1) := by decide +kernel
theorem dX4_mostAt_48 : decode cX4_mostAt 48 = .ok (.iload 5, 2) := by decide +kernel
theorem dX4_mostAt_50 : decode cX4_mostAt 50 = .ok (.iadd, 1) := by decide +kernel
theorem dX4_mostAt_51 : decode cX4_mostAt 51 = .ok (.aload_n 0, 1) := by decide +kernel
theorem dX4_mostAt_52 : decode cX4_mostAt 52 = .ok (.getfield 11, 3) := by decide +kernel
theorem dX4_mostAt_55 : decode cX4_mostAt 55 = .ok (.iload_n 1, 1) := by decide +kernel
theorem dX4_mostAt_56 : decode cX4_mostAt 56 = .ok (.aaload, 1) := by decide +kernel
theorem dX4_mostAt_57 : decode cX4_mostAt 57 = .ok (.iload_n 2, 1) := by decide +kernel
theorem dX4_mostAt_58 : decode cX4_mostAt 58 = .ok (.iaload, 1) := by decide +kernel
theorem dX4_mostAt_59 : decode cX4_mostAt 59 = .ok (.if_icmp .ne 6, 3) := by decide +kernel
theorem dX4_mostAt_62 : decode cX4_mostAt 62 = .ok (.iload 5, 2) := by decide +kernel
theorem dX4_mostAt_64 : decode cX4_mostAt 64 = .ok (.ireturn, 1) := by decide +kernel
theorem dX4_mostAt_65 : decode cX4_mostAt 65 = .ok (.iinc 5 (-1), 3) := by decide +kernel
theorem dX4_mostAt_68 : decode cX4_mostAt 68 = .ok (.goto (-40), 3) := by decide +kernel
theorem dX4_mostAt_71 : decode cX4_mostAt 71 = .ok (.iconst 0, 1) := by decide +kernel
theorem dX4_mostAt_72 : decode cX4_mostAt 72 = .ok (.ireturn, 1) := by decide +kernel
theorem dX4_woodTaken_0 : decode cX4_woodTaken 0 = .ok (.iconst 0, 1) := by decide +kernel
theorem dX4_woodTaken_1 : decode cX4_woodTaken 1 = .ok (.istore_n 2, 1) := by decide +kernel
theorem dX4_woodTaken_2 : decode cX4_woodTaken 2 = .ok (.iconst 0, 1) := by decide +kernel
theorem dX4_woodTaken_3 : decode cX4_woodTaken 3 = .ok (.istore_n 3, 1) := by decide +kernel
theorem dX4_woodTaken_4 : decode cX4_woodTaken 4 = .ok (.iload_n 3, 1) := by decide +kernel
theorem dX4_woodTaken_5 : decode cX4_woodTaken 5 = .ok (.aload_n 1, 1) := by decide +kernel
theorem dX4_woodTaken_6 : decode cX4_woodTaken 6 = .ok (.getfield 40, 3) := by decide +kernel
theorem dX4_woodTaken_9 : decode cX4_woodTaken 9 = .ok (.if_icmp .ge 27, 3) := by decide +kernel
theorem dX4_woodTaken_12 : decode cX4_woodTaken 12 = .ok (.aload_n 1, 1) := by decide +kernel
theorem dX4_woodTaken_13 : decode cX4_woodTaken 13 = .ok (.getfield 104, 3) := by decide +kernel
theorem dX4_woodTaken_16 : decode cX4_woodTaken 16 = .ok (.iload_n 3, 1) := by decide +kernel
theorem dX4_woodTaken_17 : decode cX4_woodTaken 17 = .ok (.baload, 1) := by decide +kernel
theorem dX4_woodTaken_18 : decode cX4_woodTaken 18 = .ok (.ifCond .ne 12, 3) := by decide +kernel
theorem dX4_woodTaken_21 : decode cX4_woodTaken 21 = .ok (.iload_n 2, 1) := by decide +kernel
theorem dX4_woodTaken_22 : decode cX4_woodTaken 22 = .ok (.aload_n 0, 1) := by decide +kernel
theorem dX4_woodTaken_23 : decode cX4_woodTaken 23 = .ok (.getfield 26, 3) := by decide +kernel
theorem dX4_woodTaken_26 : decode cX4_woodTaken 26 = .ok (.iload_n 3, 1) := by decide +kernel
theorem dX4_woodTaken_27 : decode cX4_woodTaken 27 = .ok (.iaload, 1) := by decide +kernel
theorem dX4_woodTaken_28 : decode cX4_woodTaken 28 = .ok (.iadd, 1) := by decide +kernel
theorem dX4_woodTaken_29 : decode cX4_woodTaken 29 = .ok (.istore_n 2, 1) := by decide +kernel
theorem dX4_woodTaken_30 : decode cX4_woodTaken 30 = .ok (.iinc 3 1, 3) := by decide +kernel
theorem dX4_woodTaken_33 : decode cX4_woodTaken 33 = .ok (.goto (-29), 3) := by decide +kernel
theorem dX4_woodTaken_36 : decode cX4_woodTaken 36 = .ok (.iload_n 2, 1) := by decide +kernel
theorem dX4_woodTaken_37 : decode cX4_woodTaken 37 = .ok (.ireturn, 1) := by decide +kernel
theorem dX4_findMissing_0 : decode cX4_findMissing 0 = .ok (.iconst 0, 1) := by decide +kernel
theorem dX4_findMissing_1 : decode cX4_findMissing 1 = .ok (.istore 4, 2) := by decide +kernel
theorem dX4_findMissing_3 : decode cX4_findMissing 3 = .ok (.iload 4, 2) := by decide +kernel
theorem dX4_findMissing_5 : decode cX4_findMissing 5 = .ok (.aload_n 1, 1) := by decide +kernel
theorem dX4_findMissing_6 : decode cX4_findMissing 6 = .ok (.getfield 40, 3) := by decide +kernel
theorem dX4_findMissing_9 : decode cX4_findMissing 9 = .ok (.if_icmp .ge 64, 3) := by decide +kernel
theorem dX4_findMissing_12 : decode cX4_findMissing 12 = .ok (.aload_n 1, 1) := by decide +kernel
theorem dX4_findMissing_13 : decode cX4_findMissing 13 = .ok (.getfield 51, 3) := by decide +kernel
theorem dX4_findMissing_16 : decode cX4_findMissing 16 = .ok (.iload 4, 2) := by decide +kernel
theorem dX4_findMissing_18 : decode cX4_findMissing 18 = .ok (.iaload, 1) := by decide +kernel
theorem dX4_findMissing_19 : decode cX4_findMissing 19 = .ok (.istore 5, 2) := by decide +kernel
theorem dX4_findMissing_21 : decode cX4_findMissing 21 = .ok (.aload_n 0, 1) := by decide +kernel
theorem dX4_findMissing_22 : decode cX4_findMissing 22 = .ok (.getfield 23, 3) := by decide +kernel
theorem dX4_findMissing_25 : decode cX4_findMissing 25 = .ok (.iload 5, 2) := by decide +kernel
theorem dX4_findMissing_27 : decode cX4_findMissing 27 = .ok (.dup2, 1) := by decide +kernel
theorem dX4_findMissing_28 : decode cX4_findMissing 28 = .ok (.iaload, 1) := by decide +kernel
theorem dX4_findMissing_29 : decode cX4_findMissing 29 = .ok (.iconst 1, 1) := by decide +kernel
theorem dX4_findMissing_30 : decode cX4_findMissing 30 = .ok (.iadd, 1) := by decide +kernel
theorem dX4_findMissing_31 : decode cX4_findMissing 31 = .ok (.iastore, 1) := by decide +kernel
theorem dX4_findMissing_32 : decode cX4_findMissing 32 = .ok (.aload_n 0, 1) := by decide +kernel
theorem dX4_findMissing_33 : decode cX4_findMissing 33 = .ok (.aload_n 1, 1) := by decide +kernel
theorem dX4_findMissing_34 : decode cX4_findMissing 34 = .ok (.iload 4, 2) := by decide +kernel
theorem dX4_findMissing_36 : decode cX4_findMissing 36 = .ok (.invokevirtual 47, 3) := by decide +kernel
theorem dX4_findMissing_39 : decode cX4_findMissing 39 = .ok (.aload_n 0, 1) := by decide +kernel
theorem dX4_findMissing_40 : decode cX4_findMissing 40 = .ok (.aload_n 1, 1) := by decide +kernel
theorem dX4_findMissing_41 : decode cX4_findMissing 41 = .ok (.iload_n 2, 1) := by decide +kernel
theorem dX4_findMissing_42 : decode cX4_findMissing 42 = .ok (.iload_n 3, 1) := by decide +kernel
theorem dX4_findMissing_43 : decode cX4_findMissing 43 = .ok (.invokevirtual 108, 3) := by decide +kernel
theorem dX4_findMissing_46 : decode cX4_findMissing 46 = .ok (.istore 6, 2) := by decide +kernel
theorem dX4_findMissing_48 : decode cX4_findMissing 48 = .ok (.aload_n 0, 1) := by decide +kernel
theorem dX4_findMissing_49 : decode cX4_findMissing 49 = .ok (.getfield 23, 3) := by decide +kernel
theorem dX4_findMissing_52 : decode cX4_findMissing 52 = .ok (.iload 5, 2) := by decide +kernel
theorem dX4_findMissing_54 : decode cX4_findMissing 54 = .ok (.dup2, 1) := by decide +kernel
theorem dX4_findMissing_55 : decode cX4_findMissing 55 = .ok (.iaload, 1) := by decide +kernel
theorem dX4_findMissing_56 : decode cX4_findMissing 56 = .ok (.iconst 1, 1) := by decide +kernel
theorem dX4_findMissing_57 : decode cX4_findMissing 57 = .ok (.isub, 1) := by decide +kernel
theorem dX4_findMissing_58 : decode cX4_findMissing 58 = .ok (.iastore, 1) := by decide +kernel
theorem dX4_findMissing_59 : decode cX4_findMissing 59 = .ok (.iload 6, 2) := by decide +kernel
theorem dX4_findMissing_61 : decode cX4_findMissing 61 = .ok (.ifCond .eq 6, 3) := by decide +kernel
theorem dX4_findMissing_64 : decode cX4_findMissing 64 = .ok (.iload 5, 2) := by decide +kernel
theorem dX4_findMissing_66 : decode cX4_findMissing 66 = .ok (.ireturn, 1) := by decide +kernel
theorem dX4_findMissing_67 : decode cX4_findMissing 67 = .ok (.iinc 4 1, 3) := by decide +kernel
theorem dX4_findMissing_70 : decode cX4_findMissing 70 = .ok (.goto (-67), 3) := by decide +kernel
theorem dX4_findMissing_73 : decode cX4_findMissing 73 = .ok (.iconst (-1), 1) := by decide +kernel
theorem dX4_findMissing_74 : decode cX4_findMissing 74 = .ok (.ireturn, 1) := by decide +kernel
theorem dX4_countWays_0 : decode cX4_countWays 0 = .ok (.aload_n 0, 1) := by decide +kernel
theorem dX4_countWays_1 : decode cX4_countWays 1 = .ok (.aload_n 1, 1) := by decide +kernel
theorem dX4_countWays_2 : decode cX4_countWays 2 = .ok (.invokevirtual 112, 3) := by decide +kernel
theorem dX4_countWays_5 : decode cX4_countWays 5 = .ok (.iload_n 3, 1) := by decide +kernel
theorem dX4_countWays_6 : decode cX4_countWays 6 = .ok (.ifCond .ne 9, 3) := by decide +kernel
theorem dX4_countWays_9 : decode cX4_countWays 9 = .ok (.aload_n 0, 1) := by decide +kernel
theorem dX4_countWays_10 : decode cX4_countWays 10 = .ok (.iload_n 2, 1) := by decide +kernel
theorem dX4_countWays_11 : decode cX4_countWays 11 = .ok (.invokevirtual 115, 3) := by decide +kernel
theorem dX4_countWays_14 : decode cX4_countWays 14 = .ok (.ireturn, 1) := by decide +kernel
theorem dX4_countWays_15 : decode cX4_countWays 15 = .ok (.iconst 0, 1) := by decide +kernel
theorem dX4_countWays_16 : decode cX4_countWays 16 = .ok (.istore 4, 2) := by decide +kernel
theorem dX4_countWays_18 : decode cX4_countWays 18 = .ok (.iconst 0, 1) := by decide +kernel
theorem dX4_countWays_19 : decode cX4_countWays 19 = .ok (.istore 5, 2) := by decide +kernel
theorem dX4_countWays_21 : decode cX4_countWays 21 = .ok (.iload 5, 2) := by decide +kernel
theorem dX4_countWays_23 : decode cX4_countWays 23 = .ok (.aload_n 1, 1) := by decide +kernel
theorem dX4_countWays_24 : decode cX4_countWays 24 = .ok (.getfield 76, 3) := by decide +kernel
theorem dX4_countWays_27 : decode cX4_countWays 27 = .ok (.if_icmp .gt 30, 3) := by decide +kernel
theorem dX4_countWays_30 : decode cX4_countWays 30 = .ok (.iload 4, 2) := by decide +kernel
theorem dX4_countWays_32 : decode cX4_countWays 32 = .ok (.aload_n 0, 1) := by decide +kernel
theorem dX4_countWays_33 : decode cX4_countWays 33 = .ok (.iload_n 2, 1) := by decide +kernel
theorem dX4_countWays_34 : decode cX4_countWays 34 = .ok (.aload_n 1, 1) := by decide +kernel
theorem dX4_countWays_35 : decode cX4_countWays 35 = .ok (.getfield 79, 3) := by decide +kernel
theorem dX4_countWays_38 : decode cX4_countWays 38 = .ok (.isub, 1) := by decide +kernel
theorem dX4_countWays_39 : decode cX4_countWays 39 = .ok (.iload 5, 2) := by decide +kernel
theorem dX4_countWays_41 : decode cX4_countWays 41 = .ok (.isub, 1) := by decide +kernel
theorem dX4_countWays_42 : decode cX4_countWays 42 = .ok (.invokevirtual 115, 3) := by decide +kernel
theorem dX4_countWays_45 : decode cX4_countWays 45 = .ok (.iadd, 1) := by decide +kernel
theorem dX4_countWays_46 : decode cX4_countWays 46 = .ok (.ldc 119, 2) := by decide +kernel
theorem dX4_countWays_48 : decode cX4_countWays 48 = .ok (.irem, 1) := by decide +kernel
theorem dX4_countWays_49 : decode cX4_countWays 49 = .ok (.istore 4, 2) := by decide +kernel
theorem dX4_countWays_51 : decode cX4_countWays 51 = .ok (.iinc 5 1, 3) := by decide +kernel
theorem dX4_countWays_54 : decode cX4_countWays 54 = .ok (.goto (-33), 3) := by decide +kernel
theorem dX4_countWays_57 : decode cX4_countWays 57 = .ok (.iload 4, 2) := by decide +kernel
theorem dX4_countWays_59 : decode cX4_countWays 59 = .ok (.ireturn, 1) := by decide +kernel
theorem dX4_waysOf_0 : decode cX4_waysOf 0 = .ok (.iload_n 1, 1) := by decide +kernel
theorem dX4_waysOf_1 : decode cX4_waysOf 1 = .ok (.ifCond .lt 19, 3) := by decide +kernel
theorem dX4_waysOf_4 : decode cX4_waysOf 4 = .ok (.iload_n 1, 1) := by decide +kernel
theorem dX4_waysOf_5 : decode cX4_waysOf 5 = .ok (.sipush 500, 3) := by decide +kernel
theorem dX4_waysOf_8 : decode cX4_waysOf 8 = .ok (.if_icmp .gt 12, 3) := by decide +kernel
theorem dX4_waysOf_11 : decode cX4_waysOf 11 = .ok (.aload_n 0, 1) := by decide +kernel
theorem dX4_waysOf_12 : decode cX4_waysOf 12 = .ok (.getfield 16, 3) := by decide +kernel
theorem dX4_waysOf_15 : decode cX4_waysOf 15 = .ok (.iload_n 1, 1) := by decide +kernel
theorem dX4_waysOf_16 : decode cX4_waysOf 16 = .ok (.iaload, 1) := by decide +kernel
theorem dX4_waysOf_17 : decode cX4_waysOf 17 = .ok (.goto 4, 3) := by decide +kernel
theorem dX4_waysOf_20 : decode cX4_waysOf 20 = .ok (.iconst 0, 1) := by decide +kernel
theorem dX4_waysOf_21 : decode cX4_waysOf 21 = .ok (.ireturn, 1) := by decide +kernel
theorem dX4_studyWays_0 : decode cX4_studyWays 0 = .ok (.iconst 0, 1) := by decide +kernel
theorem dX4_studyWays_1 : decode cX4_studyWays 1 = .ok (.istore_n 2, 1) := by decide +kernel
theorem dX4_studyWays_2 : decode cX4_studyWays 2 = .ok (.iload_n 2, 1) := by decide +kernel
theorem dX4_studyWays_3 : decode cX4_studyWays 3 = .ok (.sipush 500, 3) := by decide +kernel
theorem dX4_studyWays_6 : decode cX4_studyWays 6 = .ok (.if_icmp .gt 24, 3) := by decide +kernel
theorem dX4_studyWays_9 : decode cX4_studyWays 9 = .ok (.aload_n 0, 1) := by decide +kernel
theorem dX4_studyWays_10 : decode cX4_studyWays 10 = .ok (.getfield 16, 3) := by decide +kernel
theorem dX4_studyWays_13 : decode cX4_studyWays 13 = .ok (.iload_n 2, 1) := by decide +kernel
theorem dX4_studyWays_14 : decode cX4_studyWays 14 = .ok (.iload_n 2, 1) := by decide +kernel
theorem dX4_studyWays_15 : decode cX4_studyWays 15 = .ok (.ifCond .ne 7, 3) := by decide +kernel
theorem dX4_studyWays_18 : decode cX4_studyWays 18 = .ok (.iconst 1, 1) := by decide +kernel
theorem dX4_studyWays_19 : decode cX4_studyWays 19 = .ok (.goto 4, 3) := by decide +kernel
theorem dX4_studyWays_22 : decode cX4_studyWays 22 = .ok (.iconst 0, 1) := by decide +kernel
theorem dX4_studyWays_23 : decode cX4_studyWays 23 = .ok (.iastore, 1) := by decide +kernel
theorem dX4_studyWays_24 : decode cX4_studyWays 24 = .ok (.iinc 2 1, 3) := by decide +kernel
theorem dX4_studyWays_27 : decode cX4_studyWays 27 = .ok (.goto (-25), 3) := by decide +kernel
theorem dX4_studyWays_30 : decode cX4_studyWays 30 = .ok (.iconst 0, 1) := by decide +kernel
theorem dX4_studyWays_31 : decode cX4_studyWays 31 = .ok (.istore_n 2, 1) := by decide +kernel
theorem dX4_studyWays_32 : decode cX4_studyWays 32 = .ok (.iload_n 2, 1) := by decide +kernel
theorem dX4_studyWays_33 : decode cX4_studyWays 33 = .ok (.aload_n 1, 1) := by decide +kernel
theorem dX4_studyWays_34 : decode cX4_studyWays 34 = .ok (.getfield 40, 3) := by decide +kernel
theorem dX4_studyWays_37 : decode cX4_studyWays 37 = .ok (.if_icmp .ge 41, 3) := by decide +kernel
theorem dX4_studyWays_40 : decode cX4_studyWays 40 = .ok (.aload_n 0, 1) := by decide +kernel
theorem dX4_studyWays_41 : decode cX4_studyWays 41 = .ok (.getfield 16, 3) := by decide +kernel
theorem dX4_studyWays_44 : decode cX4_studyWays 44 = .ok (.iconst 0, 1) := by decide +kernel
theorem dX4_studyWays_45 : decode cX4_studyWays 45 = .ok (.aload_n 0, 1) := by decide +kernel
theorem dX4_studyWays_46 : decode cX4_studyWays 46 = .ok (.getfield 20, 3) := by decide +kernel
theorem dX4_studyWays_49 : decode cX4_studyWays 49 = .ok (.iconst 0, 1) := by decide +kernel
theorem dX4_studyWays_50 : decode cX4_studyWays 50 = .ok (.sipush 501, 3) := by decide +kernel
theorem dX4_studyWays_53 : decode cX4_studyWays 53 = .ok (.invokestatic 34, 3) := by decide +kernel
theorem dX4_studyWays_56 : decode cX4_studyWays 56 = .ok (.aload_n 0, 1) := by decide +kernel
theorem dX4_studyWays_57 : decode cX4_studyWays 57 = .ok (.aload_n 1, 1) := by decide +kernel
theorem dX4_studyWays_58 : decode cX4_studyWays 58 = .ok (.getfield 57, 3) := by decide +kernel
theorem dX4_studyWays_61 : decode cX4_studyWays 61 = .ok (.iload_n 2, 1) := by decide +kernel
theorem dX4_studyWays_62 : decode cX4_studyWays 62 = .ok (.iaload, 1) := by decide +kernel
theorem dX4_studyWays_63 : decode cX4_studyWays 63 = .ok (.aload_n 0, 1) := by decide +kernel
theorem dX4_studyWays_64 : decode cX4_studyWays 64 = .ok (.getfield 23, 3) := by decide +kernel
theorem dX4_studyWays_67 : decode cX4_studyWays 67 = .ok (.iload_n 2, 1) := by decide +kernel
theorem dX4_studyWays_68 : decode cX4_studyWays 68 = .ok (.iaload, 1) := by decide +kernel
theorem dX4_studyWays_69 : decode cX4_studyWays 69 = .ok (.invokevirtual 120, 3) := by decide +kernel
theorem dX4_studyWays_72 : decode cX4_studyWays 72 = .ok (.iinc 2 1, 3) := by decide +kernel
theorem dX4_studyWays_75 : decode cX4_studyWays 75 = .ok (.goto (-43), 3) := by decide +kernel
theorem dX4_studyWays_78 : decode cX4_studyWays 78 = .ok (.return_, 1) := by decide +kernel
theorem dX4_addWays_0 : decode cX4_addWays 0 = .ok (.iload_n 1, 1) := by decide +kernel
theorem dX4_addWays_1 : decode cX4_addWays 1 = .ok (.iload_n 2, 1) := by decide +kernel
theorem dX4_addWays_2 : decode cX4_addWays 2 = .ok (.iconst 1, 1) := by decide +kernel
theorem dX4_addWays_3 : decode cX4_addWays 3 = .ok (.iadd, 1) := by decide +kernel
theorem dX4_addWays_4 : decode cX4_addWays 4 = .ok (.imul, 1) := by decide +kernel
theorem dX4_addWays_5 : decode cX4_addWays 5 = .ok (.istore_n 3, 1) := by decide +kernel
theorem dX4_addWays_6 : decode cX4_addWays 6 = .ok (.iload_n 1, 1) := by decide +kernel
theorem dX4_addWays_7 : decode cX4_addWays 7 = .ok (.iconst 1, 1) := by decide +kernel
theorem dX4_addWays_8 : decode cX4_addWays 8 = .ok (.if_icmp .lt 8, 3) := by decide +kernel
theorem dX4_addWays_11 : decode cX4_addWays 11 = .ok (.iload_n 3, 1) := by decide +kernel
theorem dX4_addWays_12 : decode cX4_addWays 12 = .ok (.iconst 1, 1) := by decide +kernel
theorem dX4_addWays_13 : decode cX4_addWays 13 = .ok (.if_icmp .ge 4, 3) := by decide +kernel
theorem dX4_addWays_16 : decode cX4_addWays 16 = .ok (.return_, 1) := by decide +kernel
theorem dX4_addWays_17 : decode cX4_addWays 17 = .ok (.iload_n 1, 1) := by decide +kernel
theorem dX4_addWays_18 : decode cX4_addWays 18 = .ok (.istore 4, 2) := by decide +kernel
theorem dX4_addWays_20 : decode cX4_addWays 20 = .ok (.iload 4, 2) := by decide +kernel
theorem dX4_addWays_22 : decode cX4_addWays 22 = .ok (.sipush 500, 3) := by decide +kernel
theorem dX4_addWays_25 : decode cX4_addWays 25 = .ok (.if_icmp .gt 63, 3) := by decide +kernel
theorem dX4_addWays_28 : decode cX4_addWays 28 = .ok (.aload_n 0, 1) := by decide +kernel
theorem dX4_addWays_29 : decode cX4_addWays 29 = .ok (.getfield 16, 3) := by decide +kernel
theorem dX4_addWays_32 : decode cX4_addWays 32 = .ok (.iload 4, 2) := by decide +kernel
theorem dX4_addWays_34 : decode cX4_addWays 34 = .ok (.iload_n 1, 1) := by decide +kernel
theorem dX4_addWays_35 : decode cX4_addWays 35 = .ok (.isub, 1) := by decide +kernel
theorem dX4_addWays_36 : decode cX4_addWays 36 = .ok (.iaload, 1) := by decide +kernel
theorem dX4_addWays_37 : decode cX4_addWays 37 = .ok (.aload_n 0, 1) := by decide +kernel
theorem dX4_addWays_38 : decode cX4_addWays 38 = .ok (.getfield 20, 3) := by decide +kernel
theorem dX4_addWays_41 : decode cX4_addWays 41 = .ok (.iload 4, 2) := by decide +kernel
theorem dX4_addWays_43 : decode cX4_addWays 43 = .ok (.iaload, 1) := by decide +kernel
theorem dX4_addWays_44 : decode cX4_addWays 44 = .ok (.iadd, 1) := by decide +kernel
theorem dX4_addWays_45 : decode cX4_addWays 45 = .ok (.istore 5, 2) := by decide +kernel
theorem dX4_addWays_47 : decode cX4_addWays 47 = .ok (.iload 4, 2) := by decide +kernel
theorem dX4_addWays_49 : decode cX4_addWays 49 = .ok (.iload_n 3, 1) := by decide +kernel
theorem dX4_addWays_50 : decode cX4_addWays 50 = .ok (.if_icmp .lt 20, 3) := by decide +kernel
theorem dX4_addWays_53 : decode cX4_addWays 53 = .ok (.iload 5, 2) := by decide +kernel
theorem dX4_addWays_55 : decode cX4_addWays 55 = .ok (.ldc 119, 2) := by decide +kernel
theorem dX4_addWays_57 : decode cX4_addWays 57 = .ok (.aload_n 0, 1) := by decide +kernel
theorem dX4_addWays_58 : decode cX4_addWays 58 = .ok (.getfield 20, 3) := by decide +kernel
theorem dX4_addWays_61 : decode cX4_addWays 61 = .ok (.iload 4, 2) := by decide +kernel
theorem dX4_addWays_63 : decode cX4_addWays 63 = .ok (.iload_n 3, 1) := by decide +kernel
theorem dX4_addWays_64 : decode cX4_addWays 64 = .ok (.isub, 1) := by decide +kernel
theorem dX4_addWays_65 : decode cX4_addWays 65 = .ok (.iaload, 1) := by decide +kernel
theorem dX4_addWays_66 : decode cX4_addWays 66 = .ok (.isub, 1) := by decide +kernel
theorem dX4_addWays_67 : decode cX4_addWays 67 = .ok (.iadd, 1) := by decide +kernel
theorem dX4_addWays_68 : decode cX4_addWays 68 = .ok (.istore 5, 2) := by decide +kernel
theorem dX4_addWays_70 : decode cX4_addWays 70 = .ok (.aload_n 0, 1) := by decide +kernel
theorem dX4_addWays_71 : decode cX4_addWays 71 = .ok (.getfield 16, 3) := by decide +kernel
theorem dX4_addWays_74 : decode cX4_addWays 74 = .ok (.iload 4, 2) := by decide +kernel
theorem dX4_addWays_76 : decode cX4_addWays 76 = .ok (.iload 5, 2) := by decide +kernel
theorem dX4_addWays_78 : decode cX4_addWays 78 = .ok (.ldc 119, 2) := by decide +kernel
theorem dX4_addWays_80 : decode cX4_addWays 80 = .ok (.irem, 1) := by decide +kernel
theorem dX4_addWays_81 : decode cX4_addWays 81 = .ok (.iastore, 1) := by decide +kernel
theorem dX4_addWays_82 : decode cX4_addWays 82 = .ok (.iinc 4 1, 3) := by decide +kernel
theorem dX4_addWays_85 : decode cX4_addWays 85 = .ok (.goto (-65), 3) := by decide +kernel
theorem dX4_addWays_88 : decode cX4_addWays 88 = .ok (.return_, 1) := by decide +kernel
theorem dX5_init_0 : decode cX5_init 0 = .ok (.aload_n 0, 1) := by decide +kernel
theorem dX5_init_1 : decode cX5_init 1 = .ok (.invokespecial 3, 3) := by decide +kernel
theorem dX5_init_4 : decode cX5_init 4 = .ok (.aload_n 0, 1) := by decide +kernel
theorem dX5_init_5 : decode cX5_init 5 = .ok (.bipush 8, 2) := by decide +kernel
theorem dX5_init_7 : decode cX5_init 7 = .ok (.anewarray 9, 3) := by decide +kernel
theorem dX5_init_10 : decode cX5_init 10 = .ok (.putfield 11, 3) := by decide +kernel
theorem dX5_init_13 : decode cX5_init 13 = .ok (.aload_n 0, 1) := by decide +kernel
theorem dX5_init_14 : decode cX5_init 14 = .ok (.bipush 10, 2) := by decide +kernel
theorem dX5_init_16 : decode cX5_init 16 = .ok (.newarray .int, 2) := by decide +kernel
theorem dX5_init_18 : decode cX5_init 18 = .ok (.putfield 17, 3) := by decide +kernel
theorem dX5_init_21 : decode cX5_init 21 = .ok (.iconst 0, 1) := by decide +kernel
theorem dX5_init_22 : decode cX5_init 22 = .ok (.istore_n 1, 1) := by decide +kernel
theorem dX5_init_23 : decode cX5_init 23 = .ok (.iload_n 1, 1) := by decide +kernel
theorem dX5_init_24 : decode cX5_init 24 = .ok (.bipush 8, 2) := by decide +kernel
theorem dX5_init_26 : decode cX5_init 26 = .ok (.if_icmp .ge 22, 3) := by decide +kernel
theorem dX5_init_29 : decode cX5_init 29 = .ok (.aload_n 0, 1) := by decide +kernel
theorem dX5_init_30 : decode cX5_init 30 = .ok (.getfield 11, 3) := by decide +kernel
theorem dX5_init_33 : decode cX5_init 33 = .ok (.iload_n 1, 1) := by decide +kernel
theorem dX5_init_34 : decode cX5_init 34 = .ok (.new 9, 3) := by decide +kernel
theorem dX5_init_37 : decode cX5_init 37 = .ok (.dup, 1) := by decide +kernel
theorem dX5_init_38 : decode cX5_init 38 = .ok (.invokespecial 21, 3) := by decide +kernel
theorem dX5_init_41 : decode cX5_init 41 = .ok (.aastore, 1) := by decide +kernel
theorem dX5_init_42 : decode cX5_init 42 = .ok (.iinc 1 1, 3) := by decide +kernel
theorem dX5_init_45 : decode cX5_init 45 = .ok (.goto (-22), 3) := by decide +kernel
theorem dX5_init_48 : decode cX5_init 48 = .ok (.return_, 1) := by decide +kernel
theorem dX5_clear_0 : decode cX5_clear 0 = .ok (.iconst 0, 1) := by decide +kernel
theorem dX5_clear_1 : decode cX5_clear 1 = .ok (.istore_n 1, 1) := by decide +kernel
theorem dX5_clear_2 : decode cX5_clear 2 = .ok (.iload_n 1, 1) := by decide +kernel
theorem dX5_clear_3 : decode cX5_clear 3 = .ok (.bipush 8, 2) := by decide +kernel
theorem dX5_clear_5 : decode cX5_clear 5 = .ok (.if_icmp .ge 18, 3) := by decide +kernel
theorem dX5_clear_8 : decode cX5_clear 8 = .ok (.aload_n 0, 1) := by decide +kernel
theorem dX5_clear_9 : decode cX5_clear 9 = .ok (.getfield 11, 3) := by decide +kernel
theorem dX5_clear_12 : decode cX5_clear 12 = .ok (.iload_n 1, 1) := by decide +kernel
theorem dX5_clear_13 : decode cX5_clear 13 = .ok (.aaload, 1) := by decide +kernel
theorem dX5_clear_14 : decode cX5_clear 14 = .ok (.invokevirtual 22, 3) := by decide +kernel
theorem dX5_clear_17 : decode cX5_clear 17 = .ok (.iinc 1 1, 3) := by decide +kernel
theorem dX5_clear_20 : decode cX5_clear 20 = .ok (.goto (-18), 3) := by decide +kernel
theorem dX5_clear_23 : decode cX5_clear 23 = .ok (.iconst 0, 1) := by decide +kernel
theorem dX5_clear_24 : decode cX5_clear 24 = .ok (.istore_n 1, 1) := by decide +kernel
theorem dX5_clear_25 : decode cX5_clear 25 = .ok (.iload_n 1, 1) := by decide +kernel
theorem dX5_clear_26 : decode cX5_clear 26 = .ok (.bipush 10, 2) := by decide +kernel
theorem dX5_clear_28 : decode cX5_clear 28 = .ok (.if_icmp .ge 16, 3) := by decide +kernel
theorem dX5_clear_31 : decode cX5_clear 31 = .ok (.aload_n 0, 1) := by decide +kernel
theorem dX5_clear_32 : decode cX5_clear 32 = .ok (.getfield 17, 3) := by decide +kernel
theorem dX5_clear_35 : decode cX5_clear 35 = .ok (.iload_n 1, 1) := by decide +kernel
theorem dX5_clear_36 : decode cX5_clear 36 = .ok (.iconst 0, 1) := by decide +kernel
theorem dX5_clear_37 : decode cX5_clear 37 = .ok (.iastore, 1) := by decide +kernel
theorem dX5_clear_38 : decode cX5_clear 38 = .ok (.iinc 1 1, 3) := by decide +kernel
theorem dX5_clear_41 : decode cX5_clear 41 = .ok (.goto (-16), 3) := by decide +kernel
theorem dX5_clear_44 : decode cX5_clear 44 = .ok (.aload_n 0, 1) := by decide +kernel
theorem dX5_clear_45 : decode cX5_clear 45 = .ok (.iconst 0, 1) := by decide +kernel
theorem dX5_clear_46 : decode cX5_clear 46 = .ok (.putfield 25, 3) := by decide +kernel
theorem dX5_clear_49 : decode cX5_clear 49 = .ok (.aload_n 0, 1) := by decide +kernel
theorem dX5_clear_50 : decode cX5_clear 50 = .ok (.iconst 0, 1) := by decide +kernel
theorem dX5_clear_51 : decode cX5_clear 51 = .ok (.putfield 29, 3) := by decide +kernel
theorem dX5_clear_54 : decode cX5_clear 54 = .ok (.aload_n 0, 1) := by decide +kernel
theorem dX5_clear_55 : decode cX5_clear 55 = .ok (.iconst 0, 1) := by decide +kernel
theorem dX5_clear_56 : decode cX5_clear 56 = .ok (.putfield 32, 3) := by decide +kernel
theorem dX5_clear_59 : decode cX5_clear 59 = .ok (.aload_n 0, 1) := by decide +kernel
theorem dX5_clear_60 : decode cX5_clear 60 = .ok (.iconst 0, 1) := by decide +kernel
theorem dX5_clear_61 : decode cX5_clear 61 = .ok (.putfield 35, 3) := by decide +kernel
theorem dX5_clear_64 : decode cX5_clear 64 = .ok (.aload_n 0, 1) := by decide +kernel
theorem dX5_clear_65 : decode cX5_clear 65 = .ok (.iconst 0, 1) := by decide +kernel
theorem dX5_clear_66 : decode cX5_clear 66 = .ok (.putfield 38, 3) := by decide +kernel
theorem dX5_clear_69 : decode cX5_clear 69 = .ok (.aload_n 0, 1) := by decide +kernel
theorem dX5_clear_70 : decode cX5_clear 70 = .ok (.iconst 0, 1) := by decide +kernel
theorem dX5_clear_71 : decode cX5_clear 71 = .ok (.putfield 41, 3) := by decide +kernel
theorem dX5_clear_74 : decode cX5_clear 74 = .ok (.return_, 1) := by decide +kernel
theorem dX5_copyFrom_0 : decode cX5_copyFrom 0 = .ok (.iconst 0, 1) := by decide +kernel
theorem dX5_copyFrom_1 : decode cX5_copyFrom 1 = .ok (.istore_n 2, 1) := by decide +kernel
theorem dX5_copyFrom_2 : decode cX5_copyFrom 2 = .ok (.iload_n 2, 1) := by decide +kernel
theorem dX5_copyFrom_3 : decode cX5_copyFrom 3 = .ok (.bipush 8, 2) := by decide +kernel
theorem dX5_copyFrom_5 : decode cX5_copyFrom 5 = .ok (.if_icmp .ge 24, 3) := by decide +kernel
theorem dX5_copyFrom_8 : decode cX5_copyFrom 8 = .ok (.aload_n 0, 1) := by decide +kernel
theorem dX5_copyFrom_9 : decode cX5_copyFrom 9 = .ok (.getfield 11, 3) := by decide +kernel
theorem dX5_copyFrom_12 : decode cX5_copyFrom 12 = .ok (.iload_n 2, 1) := by decide +kernel
theorem dX5_copyFrom_13 : decode cX5_copyFrom 13 = .ok (.aaload, 1) := by decide +kernel
theorem dX5_copyFrom_14 : decode cX5_copyFrom 14 = .ok (.aload_n 1, 1) := by decide +kernel
theorem dX5_copyFrom_15 : decode cX5_copyFrom 15 = .ok (.getfield 11, 3) := by decide +kernel
theorem dX5_copyFrom_18 : decode cX5_copyFrom 18 = .ok (.iload_n 2, 1) := by decide +kernel
theorem dX5_copyFrom_19 : decode cX5_copyFrom 19 = .ok (.aaload, 1) := by decide +kernel
theorem dX5_copyFrom_20 : decode cX5_copyFrom 20 = .ok (.invokevirtual 44, 3) := by decide +kernel
theorem dX5_copyFrom_23 : decode cX5_copyFrom 23 = .ok (.iinc 2 1, 3) := by decide +kernel
theorem dX5_copyFrom_26 : decode cX5_copyFrom 26 = .ok (.goto (-24), 3) := by decide +kernel
theorem dX5_copyFrom_29 : decode cX5_copyFrom 29 = .ok (.aload_n 1, 1) := by decide +kernel
theorem dX5_copyFrom_30 : decode cX5_copyFrom 30 = .ok (.getfield 17, 3) := by decide +kernel
theorem dX5_copyFrom_33 : decode cX5_copyFrom 33 = .ok (.iconst 0, 1) := by decide +kernel
theorem dX5_copyFrom_34 : decode cX5_copyFrom 34 = .ok (.aload_n 0, 1) := by decide +kernel
theorem dX5_copyFrom_35 : decode cX5_copyFrom 35 = .ok (.getfield 17, 3) := by decide +kernel
theorem dX5_copyFrom_38 : decode cX5_copyFrom 38 = .ok (.iconst 0, 1) := by decide +kernel
theorem dX5_copyFrom_39 : decode cX5_copyFrom 39 = .ok (.bipush 10, 2) := by decide +kernel
theorem dX5_copyFrom_41 : decode cX5_copyFrom 41 = .ok (.invokestatic 48, 3) := by decide +kernel
theorem dX5_copyFrom_44 : decode cX5_copyFrom 44 = .ok (.aload_n 0, 1) := by decide +kernel
theorem dX5_copyFrom_45 : decode cX5_copyFrom 45 = .ok (.aload_n 1, 1) := by decide +kernel
theorem dX5_copyFrom_46 : decode cX5_copyFrom 46 = .ok (.getfield 25, 3) := by decide +kernel
theorem dX5_copyFrom_49 : decode cX5_copyFrom 49 = .ok (.putfield 25, 3) := by decide +kernel
theorem dX5_copyFrom_52 : decode cX5_copyFrom 52 = .ok (.aload_n 0, 1) := by decide +kernel
theorem dX5_copyFrom_53 : decode cX5_copyFrom 53 = .ok (.aload_n 1, 1) := by decide +kernel
theorem dX5_copyFrom_54 : decode cX5_copyFrom 54 = .ok (.getfield 29, 3) := by decide +kernel
theorem dX5_copyFrom_57 : decode cX5_copyFrom 57 = .ok (.putfield 29, 3) := by decide +kernel
theorem dX5_copyFrom_60 : decode cX5_copyFrom 60 = .ok (.aload_n 0, 1) := by decide +kernel
theorem dX5_copyFrom_61 : decode cX5_copyFrom 61 = .ok (.aload_n 1, 1) := by decide +kernel
theorem dX5_copyFrom_62 : decode cX5_copyFrom 62 = .ok (.getfield 32, 3) := by decide +kernel
theorem dX5_copyFrom_65 : decode cX5_copyFrom 65 = .ok (.putfield 32, 3) := by decide +kernel
theorem dX5_copyFrom_68 : decode cX5_copyFrom 68 = .ok (.aload_n 0, 1) := by decide +kernel
theorem dX5_copyFrom_69 : decode cX5_copyFrom 69 = .ok (.aload_n 1, 1) := by decide +kernel
theorem dX5_copyFrom_70 : decode cX5_copyFrom 70 = .ok (.getfield 35, 3) := by decide +kernel
theorem dX5_copyFrom_73 : decode cX5_copyFrom 73 = .ok (.putfield 35, 3) := by decide +kernel
theorem dX5_copyFrom_76 : decode cX5_copyFrom 76 = .ok (.aload_n 0, 1) := by decide +kernel
theorem dX5_copyFrom_77 : decode cX5_copyFrom 77 = .ok (.aload_n 1, 1) := by decide +kernel
theorem dX5_copyFrom_78 : decode cX5_copyFrom 78 = .ok (.getfield 38, 3) := by decide +kernel
theorem dX5_copyFrom_81 : decode cX5_copyFrom 81 = .ok (.putfield 38, 3) := by decide +kernel
theorem dX5_copyFrom_84 : decode cX5_copyFrom 84 = .ok (.aload_n 0, 1) := by decide +kernel
theorem dX5_copyFrom_85 : decode cX5_copyFrom 85 = .ok (.aload_n 1, 1) := by decide +kernel
theorem dX5_copyFrom_86 : decode cX5_copyFrom 86 = .ok (.getfield 41, 3) := by decide +kernel
theorem dX5_copyFrom_89 : decode cX5_copyFrom 89 = .ok (.putfield 41, 3) := by decide +kernel
theorem dX5_copyFrom_92 : decode cX5_copyFrom 92 = .ok (.return_, 1) := by decide +kernel
theorem dX5_blocksInRows_0 : decode cX5_blocksInRows 0 = .ok (.iconst 0, 1) := by decide +kernel
theorem dX5_blocksInRows_1 : decode cX5_blocksInRows 1 = .ok (.istore_n 1, 1) := by decide +kernel
theorem dX5_blocksInRows_2 : decode cX5_blocksInRows 2 = .ok (.iconst 0, 1) := by decide +kernel
theorem dX5_blocksInRows_3 : decode cX5_blocksInRows 3 = .ok (.istore_n 2, 1) := by decide +kernel
theorem dX5_blocksInRows_4 : decode cX5_blocksInRows 4 = .ok (.iload_n 2, 1) := by decide +kernel
theorem dX5_blocksInRows_5 : decode cX5_blocksInRows 5 = .ok (.bipush 8, 2) := by decide +kernel
theorem dX5_blocksInRows_7 : decode cX5_blocksInRows 7 = .ok (.if_icmp .ge 21, 3) := by decide +kernel
theorem dX5_blocksInRows_10 : decode cX5_blocksInRows 10 = .ok (.iload_n 1, 1) := by decide +kernel
theorem dX5_blocksInRows_11 : decode cX5_blocksInRows 11 = .ok (.aload_n 0, 1) := by decide +kernel
theorem dX5_blocksInRows_12 : decode cX5_blocksInRows 12 = .ok (.getfield 11, 3) := by decide +kernel
theorem dX5_blocksInRows_15 : decode cX5_blocksInRows 15 = .ok (.iload_n 2, 1) := by decide +kernel
theorem dX5_blocksInRows_16 : decode cX5_blocksInRows 16 = .ok (.aaload, 1) := by decide +kernel
theorem dX5_blocksInRows_17 : decode cX5_blocksInRows 17 = .ok (.getfield 54, 3) := by decide +kernel
theorem dX5_blocksInRows_20 : decode cX5_blocksInRows 20 = .ok (.iadd, 1) := by decide +kernel
theorem dX5_blocksInRows_21 : decode cX5_blocksInRows 21 = .ok (.istore_n 1, 1) := by decide +kernel
theorem dX5_blocksInRows_22 : decode cX5_blocksInRows 22 = .ok (.iinc 2 1, 3) := by decide +kernel
theorem dX5_blocksInRows_25 : decode cX5_blocksInRows 25 = .ok (.goto (-21), 3) := by decide +kernel
theorem dX5_blocksInRows_28 : decode cX5_blocksInRows 28 = .ok (.iload_n 1, 1) := by decide +kernel
theorem dX5_blocksInRows_29 : decode cX5_blocksInRows 29 = .ok (.ireturn, 1) := by decide +kernel
theorem dX5_piecesInRows_0 : decode cX5_piecesInRows 0 = .ok (.iconst 0, 1) := by decide +kernel
theorem dX5_piecesInRows_1 : decode cX5_piecesInRows 1 = .ok (.istore_n 1, 1) := by decide +kernel
theorem dX5_piecesInRows_2 : decode cX5_piecesInRows 2 = .ok (.iconst 0, 1) := by decide +kernel
theorem dX5_piecesInRows_3 : decode cX5_piecesInRows 3 = .ok (.istore_n 2, 1) := by decide +kernel
theorem dX5_piecesInRows_4 : decode cX5_piecesInRows 4 = .ok (.iload_n 2, 1) := by decide +kernel
theorem dX5_piecesInRows_5 : decode cX5_piecesInRows 5 = .ok (.bipush 8, 2) := by decide +kernel
theorem dX5_piecesInRows_7 : decode cX5_piecesInRows 7 = .ok (.if_icmp .ge 21, 3) := by decide +kernel
theorem dX5_piecesInRows_10 : decode cX5_piecesInRows 10 = .ok (.iload_n 1, 1) := by decide +kernel
theorem dX5_piecesInRows_11 : decode cX5_piecesInRows 11 = .ok (.aload_n 0, 1) := by decide +kernel
theorem dX5_piecesInRows_12 : decode cX5_piecesInRows 12 = .ok (.getfield 11, 3) := by decide +kernel
theorem dX5_piecesInRows_15 : decode cX5_piecesInRows 15 = .ok (.iload_n 2, 1) := by decide +kernel
theorem dX5_piecesInRows_16 : decode cX5_piecesInRows 16 = .ok (.aaload, 1) := by decide +kernel
theorem dX5_piecesInRows_17 : decode cX5_piecesInRows 17 = .ok (.getfield 57, 3) := by decide +kernel
theorem dX5_piecesInRows_20 : decode cX5_piecesInRows 20 = .ok (.iadd, 1) := by decide +kernel
theorem dX5_piecesInRows_21 : decode cX5_piecesInRows 21 = .ok (.istore_n 1, 1) := by decide +kernel
theorem dX5_piecesInRows_22 : decode cX5_piecesInRows 22 = .ok (.iinc 2 1, 3) := by decide +kernel
theorem dX5_piecesInRows_25 : decode cX5_piecesInRows 25 = .ok (.goto (-21), 3) := by decide +kernel
theorem dX5_piecesInRows_28 : decode cX5_piecesInRows 28 = .ok (.iload_n 1, 1) := by decide +kernel
theorem dX5_piecesInRows_29 : decode cX5_piecesInRows 29 = .ok (.ireturn, 1) := by decide +kernel
theorem dX5_inRows_0 : decode cX5_inRows 0 = .ok (.iconst 0, 1) := by decide +kernel
theorem dX5_inRows_1 : decode cX5_inRows 1 = .ok (.istore_n 2, 1) := by decide +kernel
theorem dX5_inRows_2 : decode cX5_inRows 2 = .ok (.iconst 0, 1) := by decide +kernel
theorem dX5_inRows_3 : decode cX5_inRows 3 = .ok (.istore_n 3, 1) := by decide +kernel
theorem dX5_inRows_4 : decode cX5_inRows 4 = .ok (.iload_n 3, 1) := by decide +kernel
theorem dX5_inRows_5 : decode cX5_inRows 5 = .ok (.bipush 8, 2) := by decide +kernel
theorem dX5_inRows_7 : decode cX5_inRows 7 = .ok (.if_icmp .ge 33, 3) := by decide +kernel
theorem dX5_inRows_10 : decode cX5_inRows 10 = .ok (.iload_n 1, 1) := by decide +kernel
theorem dX5_inRows_11 : decode cX5_inRows 11 = .ok (.ifCond .lt 29, 3) := by decide +kernel
theorem dX5_inRows_14 : decode cX5_inRows 14 = .ok (.iload_n 1, 1) := by decide +kernel
theorem dX5_inRows_15 : decode cX5_inRows 15 = .ok (.bipush 10, 2) := by decide +kernel
theorem dX5_inRows_17 : decode cX5_inRows 17 = .ok (.if_icmp .ge 23, 3) := by decide +kernel
theorem dX5_inRows_20 : decode cX5_inRows 20 = .ok (.iload_n 2, 1) := by decide +kernel
theorem dX5_inRows_21 : decode cX5_inRows 21 = .ok (.aload_n 0, 1) := by decide +kernel
theorem dX5_inRows_22 : decode cX5_inRows 22 = .ok (.getfield 11, 3) := by decide +kernel
theorem dX5_inRows_25 : decode cX5_inRows 25 = .ok (.iload_n 3, 1) := by decide +kernel
theorem dX5_inRows_26 : decode cX5_inRows 26 = .ok (.aaload, 1) := by decide +kernel
theorem dX5_inRows_27 : decode cX5_inRows 27 = .ok (.getfield 60, 3) := by decide +kernel
theorem dX5_inRows_30 : decode cX5_inRows 30 = .ok (.iload_n 1, 1) := by decide +kernel
theorem dX5_inRows_31 : decode cX5_inRows 31 = .ok (.iaload, 1) := by decide +kernel
theorem dX5_inRows_32 : decode cX5_inRows 32 = .ok (.iadd, 1) := by decide +kernel
theorem dX5_inRows_33 : decode cX5_inRows 33 = .ok (.istore_n 2, 1) := by decide +kernel
theorem dX5_inRows_34 : decode cX5_inRows 34 = .ok (.iinc 3 1, 3) := by decide +kernel
theorem dX5_inRows_37 : decode cX5_inRows 37 = .ok (.goto (-33), 3) := by decide +kernel
theorem dX5_inRows_40 : decode cX5_inRows 40 = .ok (.iload_n 2, 1) := by decide +kernel
theorem dX5_inRows_41 : decode cX5_inRows 41 = .ok (.ireturn, 1) := by decide +kernel
theorem dX5_piecesLeft_0 : decode cX5_piecesLeft 0 = .ok (.iconst 0, 1) := by decide +kernel
theorem dX5_piecesLeft_1 : decode cX5_piecesLeft 1 = .ok (.istore_n 1, 1) := by decide +kernel
theorem dX5_piecesLeft_2 : decode cX5_piecesLeft 2 = .ok (.iconst 0, 1) := by decide +kernel
theorem dX5_piecesLeft_3 : decode cX5_piecesLeft 3 = .ok (.istore_n 2, 1) := by decide +kernel
theorem dX5_piecesLeft_4 : decode cX5_piecesLeft 4 = .ok (.iload_n 2, 1) := by decide +kernel
theorem dX5_piecesLeft_5 : decode cX5_piecesLeft 5 = .ok (.bipush 10, 2) := by decide +kernel
theorem dX5_piecesLeft_7 : decode cX5_piecesLeft 7 = .ok (.if_icmp .ge 18, 3) := by decide +kernel
theorem dX5_piecesLeft_10 : decode cX5_piecesLeft 10 = .ok (.iload_n 1, 1) := by decide +kernel
theorem dX5_piecesLeft_11 : decode cX5_piecesLeft 11 = .ok (.aload_n 0, 1) := by decide +kernel
theorem dX5_piecesLeft_12 : decode cX5_piecesLeft 12 = .ok (.getfield 17, 3) := by decide +kernel
theorem dX5_piecesLeft_15 : decode cX5_piecesLeft 15 = .ok (.iload_n 2, 1) := by decide +kernel
theorem dX5_piecesLeft_16 : decode cX5_piecesLeft 16 = .ok (.iaload, 1) := by decide +kernel
theorem dX5_piecesLeft_17 : decode cX5_piecesLeft 17 = .ok (.iadd, 1) := by decide +kernel
theorem dX5_piecesLeft_18 : decode cX5_piecesLeft 18 = .ok (.istore_n 1, 1) := by decide +kernel
theorem dX5_piecesLeft_19 : decode cX5_piecesLeft 19 = .ok (.iinc 2 1, 3) := by decide +kernel
theorem dX5_piecesLeft_22 : decode cX5_piecesLeft 22 = .ok (.goto (-18), 3) := by decide +kernel
theorem dX5_piecesLeft_25 : decode cX5_piecesLeft 25 = .ok (.iload_n 1, 1) := by decide +kernel
theorem dX5_piecesLeft_26 : decode cX5_piecesLeft 26 = .ok (.ireturn, 1) := by decide +kernel
theorem dX5_tightRows_0 : decode cX5_tightRows 0 = .ok (.iconst 0, 1) := by decide +kernel
theorem dX5_tightRows_1 : decode cX5_tightRows 1 = .ok (.istore_n 2, 1) := by decide +kernel
theorem dX5_tightRows_2 : decode cX5_tightRows 2 = .ok (.iconst 0, 1) := by decide +kernel
theorem dX5_tightRows_3 : decode cX5_tightRows 3 = .ok (.istore_n 3, 1) := by decide +kernel
theorem dX5_tightRows_4 : decode cX5_tightRows 4 = .ok (.iload_n 3, 1) := by decide +kernel
theorem dX5_tightRows_5 : decode cX5_tightRows 5 = .ok (.bipush 8, 2) := by decide +kernel
theorem dX5_tightRows_7 : decode cX5_tightRows 7 = .ok (.if_icmp .ge 25, 3) := by decide +kernel
theorem dX5_tightRows_10 : decode cX5_tightRows 10 = .ok (.aload_n 0, 1) := by decide +kernel
theorem dX5_tightRows_11 : decode cX5_tightRows 11 = .ok (.getfield 11, 3) := by decide +kernel
theorem dX5_tightRows_14 : decode cX5_tightRows 14 = .ok (.iload_n 3, 1) := by decide +kernel
theorem dX5_tightRows_15 : decode cX5_tightRows 15 = .ok (.aaload, 1) := by decide +kernel
theorem dX5_tightRows_16 : decode cX5_tightRows 16 = .ok (.aload_n 1, 1) := by decide +kernel
theorem dX5_tightRows_17 : decode cX5_tightRows 17 = .ok (.invokevirtual 63, 3) := by decide +kernel
theorem dX5_tightRows_20 : decode cX5_tightRows 20 = .ok (.ifCond .eq 6, 3) := by decide +kernel
theorem dX5_tightRows_23 : decode cX5_tightRows 23 = .ok (.iinc 2 1, 3) := by decide +kernel
theorem dX5_tightRows_26 : decode cX5_tightRows 26 = .ok (.iinc 3 1, 3) := by decide +kernel
theorem dX5_tightRows_29 : decode cX5_tightRows 29 = .ok (.goto (-25), 3) := by decide +kernel
theorem dX5_tightRows_32 : decode cX5_tightRows 32 = .ok (.iload_n 2, 1) := by decide +kernel
theorem dX5_tightRows_33 : decode cX5_tightRows 33 = .ok (.ireturn, 1) := by decide +kernel
theorem dX5_canHaveQuoin_0 : decode cX5_canHaveQuoin 0 = .ok (.aload_n 1, 1) := by decide +kernel
theorem dX5_canHaveQuoin_1 : decode cX5_canHaveQuoin 1 = .ok (.invokevirtual 67, 3) := by decide +kernel
theorem dX5_canHaveQuoin_4 : decode cX5_canHaveQuoin 4 = .ok (.ifCond .ne 10, 3) := by decide +kernel
theorem dX5_canHaveQuoin_7 : decode cX5_canHaveQuoin 7 = .ok (.aload_n 0, 1) := by decide +kernel
theorem dX5_canHaveQuoin_8 : decode cX5_canHaveQuoin 8 = .ok (.getfield 25, 3) := by decide +kernel
theorem dX5_canHaveQuoin_11 : decode cX5_canHaveQuoin 11 = .ok (.ifCond .le 7, 3) := by decide +kernel
theorem dX5_canHaveQuoin_14 : decode cX5_canHaveQuoin 14 = .ok (.iconst 1, 1) := by decide +kernel
theorem dX5_canHaveQuoin_15 : decode cX5_canHaveQuoin 15 = .ok (.goto 4, 3) := by decide +kernel
theorem dX5_canHaveQuoin_18 : decode cX5_canHaveQuoin 18 = .ok (.iconst 0, 1) := by decide +kernel
theorem dX5_canHaveQuoin_19 : decode cX5_canHaveQuoin 19 = .ok (.ireturn, 1) := by decide +kernel
theorem dX5_setQuoin_0 : decode cX5_setQuoin 0 = .ok (.aload_n 1, 1) := by decide +kernel
theorem dX5_setQuoin_1 : decode cX5_setQuoin 1 = .ok (.invokevirtual 67, 3) := by decide +kernel
theorem dX5_setQuoin_4 : decode cX5_setQuoin 4 = .ok (.ifCond .ne 13, 3) := by decide +kernel
theorem dX5_setQuoin_7 : decode cX5_setQuoin 7 = .ok (.aload_n 0, 1) := by decide +kernel
theorem dX5_setQuoin_8 : decode cX5_setQuoin 8 = .ok (.dup, 1) := by decide +kernel
theorem dX5_setQuoin_9 : decode cX5_setQuoin 9 = .ok (.getfield 25, 3) := by decide +kernel
theorem dX5_setQuoin_12 : decode cX5_setQuoin 12 = .ok (.iconst 1, 1) := by decide +kernel
theorem dX5_setQuoin_13 : decode cX5_setQuoin 13 = .ok (.isub, 1) := by decide +kernel
theorem dX5_setQuoin_14 : decode cX5_setQuoin 14 = .ok (.putfield 25, 3) := by decide +kernel
theorem dX5_setQuoin_17 : decode cX5_setQuoin 17 = .ok (.aload_n 1, 1) := by decide +kernel
theorem dX5_setQuoin_18 : decode cX5_setQuoin 18 = .ok (.iload_n 2, 1) := by decide +kernel
theorem dX5_setQuoin_19 : decode cX5_setQuoin 19 = .ok (.putfield 71, 3) := by decide +kernel
theorem dX5_setQuoin_22 : decode cX5_setQuoin 22 = .ok (.aload_n 1, 1) := by decide +kernel
theorem dX5_setQuoin_23 : decode cX5_setQuoin 23 = .ok (.iconst 0, 1) := by decide +kernel
theorem dX5_setQuoin_24 : decode cX5_setQuoin 24 = .ok (.putfield 74, 3) := by decide +kernel
theorem dX5_setQuoin_27 : decode cX5_setQuoin 27 = .ok (.return_, 1) := by decide +kernel
theorem dX5_removeQuoin_0 : decode cX5_removeQuoin 0 = .ok (.aload_n 1, 1) := by decide +kernel
theorem dX5_removeQuoin_1 : decode cX5_removeQuoin 1 = .ok (.invokevirtual 67, 3) := by decide +kernel
theorem dX5_removeQuoin_4 : decode cX5_removeQuoin 4 = .ok (.ifCond .eq 13, 3) := by decide +kernel
theorem dX5_removeQuoin_7 : decode cX5_removeQuoin 7 = .ok (.aload_n 0, 1) := by decide +kernel
theorem dX5_removeQuoin_8 : decode cX5_removeQuoin 8 = .ok (.dup, 1) := by decide +kernel
theorem dX5_removeQuoin_9 : decode cX5_removeQuoin 9 = .ok (.getfield 25, 3) := by decide +kernel
theorem dX5_removeQuoin_12 : decode cX5_removeQuoin 12 = .ok (.iconst 1, 1) := by decide +kernel
theorem dX5_removeQuoin_13 : decode cX5_removeQuoin 13 = .ok (.iadd, 1) := by decide +kernel
theorem dX5_removeQuoin_14 : decode cX5_removeQuoin 14 = .ok (.putfield 25, 3) := by decide +kernel
theorem dX5_removeQuoin_17 : decode cX5_removeQuoin 17 = .ok (.aload_n 1, 1) := by decide +kernel
theorem dX5_removeQuoin_18 : decode cX5_removeQuoin 18 = .ok (.iconst (-1), 1) := by decide +kernel
theorem dX5_removeQuoin_19 : decode cX5_removeQuoin 19 = .ok (.putfield 71, 3) := by decide +kernel
theorem dX5_removeQuoin_22 : decode cX5_removeQuoin 22 = .ok (.aload_n 1, 1) := by decide +kernel
theorem dX5_removeQuoin_23 : decode cX5_removeQuoin 23 = .ok (.iconst 0, 1) := by decide +kernel
theorem dX5_removeQuoin_24 : decode cX5_removeQuoin 24 = .ok (.putfield 74, 3) := by decide +kernel
theorem dX5_removeQuoin_27 : decode cX5_removeQuoin 27 = .ok (.return_, 1) := by decide +kernel
theorem dX5_movePieceIn_0 : decode cX5_movePieceIn 0 = .ok (.iload_n 3, 1) := by decide +kernel
theorem dX5_movePieceIn_1 : decode cX5_movePieceIn 1 = .ok (.ifCond .lt 25, 3) := by decide +kernel
theorem dX5_movePieceIn_4 : decode cX5_movePieceIn 4 = .ok (.iload_n 3, 1) := by decide +kernel
theorem dX5_movePieceIn_5 : decode cX5_movePieceIn 5 = .ok (.bipush 10, 2) := by decide +kernel
theorem dX5_movePieceIn_7 : decode cX5_movePieceIn 7 = .ok (.if_icmp .ge 19, 3) := by decide +kernel
theorem dX5_movePieceIn_10 : decode cX5_movePieceIn 10 = .ok (.aload_n 0, 1) := by decide +kernel
theorem dX5_movePieceIn_11 : decode cX5_movePieceIn 11 = .ok (.getfield 17, 3) := by decide +kernel
theorem dX5_movePieceIn_14 : decode cX5_movePieceIn 14 = .ok (.iload_n 3, 1) := by decide +kernel
theorem dX5_movePieceIn_15 : decode cX5_movePieceIn 15 = .ok (.dup2, 1) := by decide +kernel
theorem dX5_movePieceIn_16 : decode cX5_movePieceIn 16 = .ok (.iaload, 1) := by decide +kernel
theorem dX5_movePieceIn_17 : decode cX5_movePieceIn 17 = .ok (.iconst 1, 1) := by decide +kernel
theorem dX5_movePieceIn_18 : decode cX5_movePieceIn 18 = .ok (.isub, 1) := by decide +kernel
theorem dX5_movePieceIn_19 : decode cX5_movePieceIn 19 = .ok (.iastore, 1) := by decide +kernel
theorem dX5_movePieceIn_20 : decode cX5_movePieceIn 20 = .ok (.aload_n 2, 1) := by decide +kernel
theorem dX5_movePieceIn_21 : decode cX5_movePieceIn 21 = .ok (.aload_n 1, 1) := by decide +kernel
theorem dX5_movePieceIn_22 : decode cX5_movePieceIn 22 = .ok (.iload_n 3, 1) := by decide +kernel
theorem dX5_movePieceIn_23 : decode cX5_movePieceIn 23 = .ok (.invokevirtual 77, 3) := by decide +kernel
theorem dX5_movePieceIn_26 : decode cX5_movePieceIn 26 = .ok (.return_, 1) := by decide +kernel
theorem dX5_movePieceOut_0 : decode cX5_movePieceOut 0 = .ok (.aload_n 2, 1) := by decide +kernel
theorem dX5_movePieceOut_1 : decode cX5_movePieceOut 1 = .ok (.aload_n 1, 1) := by decide +kernel
theorem dX5_movePieceOut_2 : decode cX5_movePieceOut 2 = .ok (.iload_n 3, 1) := by decide +kernel
theorem dX5_movePieceOut_3 : decode cX5_movePieceOut 3 = .ok (.invokevirtual 81, 3) := by decide +kernel
theorem dX5_movePieceOut_6 : decode cX5_movePieceOut 6 = .ok (.istore 4, 2) := by decide +kernel
theorem dX5_movePieceOut_8 : decode cX5_movePieceOut 8 = .ok (.iload 4, 2) := by decide +kernel
theorem dX5_movePieceOut_10 : decode cX5_movePieceOut 10 = .ok (.ifCond .lt 21, 3) := by decide +kernel
theorem dX5_movePieceOut_13 : decode cX5_movePieceOut 13 = .ok (.iload 4, 2) := by decide +kernel
theorem dX5_movePieceOut_15 : decode cX5_movePieceOut 15 = .ok (.bipush 10, 2) := by decide +kernel
theorem dX5_movePieceOut_17 : decode cX5_movePieceOut 17 = .ok (.if_icmp .ge 14, 3) := by decide +kernel
theorem dX5_movePieceOut_20 : decode cX5_movePieceOut 20 = .ok (.aload_n 0, 1) := by decide +kernel
theorem dX5_movePieceOut_21 : decode cX5_movePieceOut 21 = .ok (.getfield 17, 3) := by decide +kernel
theorem dX5_movePieceOut_24 : decode cX5_movePieceOut 24 = .ok (.iload 4, 2) := by decide +kernel
theorem dX5_movePieceOut_26 : decode cX5_movePieceOut 26 = .ok (.dup2, 1) := by decide +kernel
theorem dX5_movePieceOut_27 : decode cX5_movePieceOut 27 = .ok (.iaload, 1) := by decide +kernel
theorem dX5_movePieceOut_28 : decode cX5_movePieceOut 28 = .ok (.iconst 1, 1) := by decide +kernel
theorem dX5_movePieceOut_29 : decode cX5_movePieceOut 29 = .ok (.iadd, 1) := by decide +kernel
theorem dX5_movePieceOut_30 : decode cX5_movePieceOut 30 = .ok (.iastore, 1) := by decide +kernel
theorem dX5_movePieceOut_31 : decode cX5_movePieceOut 31 = .ok (.iload 4, 2) := by decide +kernel
theorem dX5_movePieceOut_33 : decode cX5_movePieceOut 33 = .ok (.ireturn, 1) := by decide +kernel
theorem dX5_fill_0 : decode cX5_fill 0 = .ok (.iload_n 2, 1) := by decide +kernel
theorem dX5_fill_1 : decode cX5_fill 1 = .ok (.ifCond .lt 9, 3) := by decide +kernel
theorem dX5_fill_4 : decode cX5_fill 4 = .ok (.iload_n 2, 1) := by decide +kernel
theorem dX5_fill_5 : decode cX5_fill 5 = .ok (.bipush 8, 2) := by decide +kernel
theorem dX5_fill_7 : decode cX5_fill 7 = .ok (.if_icmp .lt 4, 3) := by decide +kernel
theorem dX5_fill_10 : decode cX5_fill 10 = .ok (.return_, 1) := by decide +kernel
theorem dX5_fill_11 : decode cX5_fill 11 = .ok (.aload_n 0, 1) := by decide +kernel
theorem dX5_fill_12 : decode cX5_fill 12 = .ok (.getfield 11, 3) := by decide +kernel
theorem dX5_fill_15 : decode cX5_fill 15 = .ok (.iload_n 2, 1) := by decide +kernel
theorem dX5_fill_16 : decode cX5_fill 16 = .ok (.aaload, 1) := by decide +kernel
theorem dX5_fill_17 : decode cX5_fill 17 = .ok (.astore 4, 2) := by decide +kernel
theorem dX5_fill_19 : decode cX5_fill 19 = .ok (.iconst 0, 1) := by decide +kernel
theorem dX5_fill_20 : decode cX5_fill 20 = .ok (.istore 5, 2) := by decide +kernel
theorem dX5_fill_22 : decode cX5_fill 22 = .ok (.iload 5, 2) := by decide +kernel
theorem dX5_fill_24 : decode cX5_fill 24 = .ok (.aload_n 1, 1) := by decide +kernel
theorem dX5_fill_25 : decode cX5_fill 25 = .ok (.getfield 85, 3) := by decide +kernel
theorem dX5_fill_28 : decode cX5_fill 28 = .ok (.if_icmp .ge 48, 3) := by decide +kernel
theorem dX5_fill_31 : decode cX5_fill 31 = .ok (.aload_n 1, 1) := by decide +kernel
theorem dX5_fill_32 : decode cX5_fill 32 = .ok (.getfield 90, 3) := by decide +kernel
theorem dX5_fill_35 : decode cX5_fill 35 = .ok (.iload 5, 2) := by decide +kernel
theorem dX5_fill_37 : decode cX5_fill 37 = .ok (.iaload, 1) := by decide +kernel
theorem dX5_fill_38 : decode cX5_fill 38 = .ok (.istore 6, 2) := by decide +kernel
theorem dX5_fill_40 : decode cX5_fill 40 = .ok (.iconst 0, 1) := by decide +kernel
theorem dX5_fill_41 : decode cX5_fill 41 = .ok (.istore 7, 2) := by decide +kernel
theorem dX5_fill_43 : decode cX5_fill 43 = .ok (.iload 7, 2) := by decide +kernel
theorem dX5_fill_45 : decode cX5_fill 45 = .ok (.aload_n 3, 1) := by decide +kernel
theorem dX5_fill_46 : decode cX5_fill 46 = .ok (.getfield 93, 3) := by decide +kernel
theorem dX5_fill_49 : decode cX5_fill 49 = .ok (.iload 6, 2) := by decide +kernel
theorem dX5_fill_51 : decode cX5_fill 51 = .ok (.iaload, 1) := by decide +kernel
theorem dX5_fill_52 : decode cX5_fill 52 = .ok (.if_icmp .ge 18, 3) := by decide +kernel
theorem dX5_fill_55 : decode cX5_fill 55 = .ok (.aload_n 0, 1) := by decide +kernel
theorem dX5_fill_56 : decode cX5_fill 56 = .ok (.aload_n 1, 1) := by decide +kernel
theorem dX5_fill_57 : decode cX5_fill 57 = .ok (.aload 4, 2) := by decide +kernel
theorem dX5_fill_59 : decode cX5_fill 59 = .ok (.iload 6, 2) := by decide +kernel
theorem dX5_fill_61 : decode cX5_fill 61 = .ok (.invokevirtual 98, 3) := by decide +kernel
theorem dX5_fill_64 : decode cX5_fill 64 = .ok (.iinc 7 1, 3) := by decide +kernel
theorem dX5_fill_67 : decode cX5_fill 67 = .ok (.goto (-24), 3) := by decide +kernel
theorem dX5_fill_70 : decode cX5_fill 70 = .ok (.iinc 5 1, 3) := by decide +kernel
theorem dX5_fill_73 : decode cX5_fill 73 = .ok (.goto (-51), 3) := by decide +kernel
theorem dX5_fill_76 : decode cX5_fill 76 = .ok (.aload_n 3, 1) := by decide +kernel
theorem dX5_fill_77 : decode cX5_fill 77 = .ok (.getfield 102, 3) := by decide +kernel
theorem dX5_fill_80 : decode cX5_fill 80 = .ok (.iconst (-1), 1) := by decide +kernel
theorem dX5_fill_81 : decode cX5_fill 81 = .ok (.if_icmp .eq 13, 3) := by decide +kernel
theorem dX5_fill_84 : decode cX5_fill 84 = .ok (.aload_n 0, 1) := by decide +kernel
theorem dX5_fill_85 : decode cX5_fill 85 = .ok (.aload 4, 2) := by decide +kernel
theorem dX5_fill_87 : decode cX5_fill 87 = .ok (.aload_n 3, 1) := by decide +kernel
theorem dX5_fill_88 : decode cX5_fill 88 = .ok (.getfield 102, 3) := by decide +kernel
theorem dX5_fill_91 : decode cX5_fill 91 = .ok (.invokevirtual 103, 3) := by decide +kernel
theorem dX5_fill_94 : decode cX5_fill 94 = .ok (.aload 4, 2) := by decide +kernel
theorem dX5_fill_96 : decode cX5_fill 96 = .ok (.iconst 0, 1) := by decide +kernel
theorem dX5_fill_97 : decode cX5_fill 97 = .ok (.putfield 107, 3) := by decide +kernel
theorem dX5_fill_100 : decode cX5_fill 100 = .ok (.return_, 1) := by decide +kernel
theorem dX5_empty_0 : decode cX5_empty 0 = .ok (.iload_n 1, 1) := by decide +kernel
theorem dX5_empty_1 : decode cX5_empty 1 = .ok (.ifCond .lt 9, 3) := by decide +kernel
theorem dX5_empty_4 : decode cX5_empty 4 = .ok (.iload_n 1, 1) := by decide +kernel
theorem dX5_empty_5 : decode cX5_empty 5 = .ok (.bipush 8, 2) := by decide +kernel
theorem dX5_empty_7 : decode cX5_empty 7 = .ok (.if_icmp .lt 4, 3) := by decide +kernel
theorem dX5_empty_10 : decode cX5_empty 10 = .ok (.return_, 1) := by decide +kernel
theorem dX5_empty_11 : decode cX5_empty 11 = .ok (.aload_n 0, 1) := by decide +kernel
theorem dX5_empty_12 : decode cX5_empty 12 = .ok (.getfield 11, 3) := by decide +kernel
theorem dX5_empty_15 : decode cX5_empty 15 = .ok (.iload_n 1, 1) := by decide +kernel
theorem dX5_empty_16 : decode cX5_empty 16 = .ok (.aaload, 1) := by decide +kernel
theorem dX5_empty_17 : decode cX5_empty 17 = .ok (.astore_n 2, 1) := by decide +kernel
theorem dX5_empty_18 : decode cX5_empty 18 = .ok (.iconst 0, 1) := by decide +kernel
theorem dX5_empty_19 : decode cX5_empty 19 = .ok (.istore_n 3, 1) := by decide +kernel
theorem dX5_empty_20 : decode cX5_empty 20 = .ok (.iload_n 3, 1) := by decide +kernel
theorem dX5_empty_21 : decode cX5_empty 21 = .ok (.bipush 10, 2) := by decide +kernel
theorem dX5_empty_23 : decode cX5_empty 23 = .ok (.if_icmp .ge 24, 3) := by decide +kernel
theorem dX5_empty_26 : decode cX5_empty 26 = .ok (.aload_n 0, 1) := by decide +kernel
theorem dX5_empty_27 : decode cX5_empty 27 = .ok (.getfield 17, 3) := by decide +kernel
theorem dX5_empty_30 : decode cX5_empty 30 = .ok (.iload_n 3, 1) := by decide +kernel
theorem dX5_empty_31 : decode cX5_empty 31 = .ok (.dup2, 1) := by decide +kernel
theorem dX5_empty_32 : decode cX5_empty 32 = .ok (.iaload, 1) := by decide +kernel
theorem dX5_empty_33 : decode cX5_empty 33 = .ok (.aload_n 2, 1) := by decide +kernel
theorem dX5_empty_34 : decode cX5_empty 34 = .ok (.getfield 60, 3) := by decide +kernel
theorem dX5_empty_37 : decode cX5_empty 37 = .ok (.iload_n 3, 1) := by decide +kernel
theorem dX5_empty_38 : decode cX5_empty 38 = .ok (.iaload, 1) := by decide +kernel
theorem dX5_empty_39 : decode cX5_empty 39 = .ok (.iadd, 1) := by decide +kernel
theorem dX5_empty_40 : decode cX5_empty 40 = .ok (.iastore, 1) := by decide +kernel
theorem dX5_empty_41 : decode cX5_empty 41 = .ok (.iinc 3 1, 3) := by decide +kernel
theorem dX5_empty_44 : decode cX5_empty 44 = .ok (.goto (-24), 3) := by decide +kernel
theorem dX5_empty_47 : decode cX5_empty 47 = .ok (.aload_n 2, 1) := by decide +kernel
theorem dX5_empty_48 : decode cX5_empty 48 = .ok (.invokevirtual 110, 3) := by decide +kernel
theorem dX5_empty_51 : decode cX5_empty 51 = .ok (.aload_n 0, 1) := by decide +kernel
theorem dX5_empty_52 : decode cX5_empty 52 = .ok (.aload_n 2, 1) := by decide +kernel
theorem dX5_empty_53 : decode cX5_empty 53 = .ok (.invokevirtual 113, 3) := by decide +kernel
theorem dX5_empty_56 : decode cX5_empty 56 = .ok (.aload_n 2, 1) := by decide +kernel
theorem dX5_empty_57 : decode cX5_empty 57 = .ok (.iconst 0, 1) := by decide +kernel
theorem dX5_empty_58 : decode cX5_empty 58 = .ok (.putfield 107, 3) := by decide +kernel
theorem dX5_empty_61 : decode cX5_empty 61 = .ok (.return_, 1) := by decide +kernel
theorem dX5_impressOften_0 : decode cX5_impressOften 0 = .ok (.aload_n 0, 1) := by decide +kernel
theorem dX5_impressOften_1 : decode cX5_impressOften 1 = .ok (.getfield 32, 3) := by decide +kernel
theorem dX5_impressOften_4 : decode cX5_impressOften 4 = .ok (.istore_n 3, 1) := by decide +kernel
theorem dX5_impressOften_5 : decode cX5_impressOften 5 = .ok (.iconst 0, 1) := by decide +kernel
theorem dX5_impressOften_6 : decode cX5_impressOften 6 = .ok (.istore 4, 2) := by decide +kernel
theorem dX5_impressOften_8 : decode cX5_impressOften 8 = .ok (.iload 4, 2) := by decide +kernel
theorem dX5_impressOften_10 : decode cX5_impressOften 10 = .ok (.iload_n 2, 1) := by decide +kernel
theorem dX5_impressOften_11 : decode cX5_impressOften 11 = .ok (.if_icmp .ge 14, 3) := by decide +kernel
theorem dX5_impressOften_14 : decode cX5_impressOften 14 = .ok (.aload_n 0, 1) := by decide +kernel
theorem dX5_impressOften_15 : decode cX5_impressOften 15 = .ok (.aload_n 1, 1) := by decide +kernel
theorem dX5_impressOften_16 : decode cX5_impressOften 16 = .ok (.invokevirtual 116, 3) := by decide +kernel
theorem dX5_impressOften_19 : decode cX5_impressOften 19 = .ok (.iinc 4 1, 3) := by decide +kernel
theorem dX5_impressOften_22 : decode cX5_impressOften 22 = .ok (.goto (-14), 3) := by decide +kernel
theorem dX5_impressOften_25 : decode cX5_impressOften 25 = .ok (.aload_n 0, 1) := by decide +kernel
theorem dX5_impressOften_26 : decode cX5_impressOften 26 = .ok (.getfield 32, 3) := by decide +kernel
theorem dX5_impressOften_29 : decode cX5_impressOften 29 = .ok (.iload_n 3, 1) := by decide +kernel
theorem dX5_impressOften_30 : decode cX5_impressOften 30 = .ok (.isub, 1) := by decide +kernel
theorem dX5_impressOften_31 : decode cX5_impressOften 31 = .ok (.ireturn, 1) := by decide +kernel
theorem dX5_impress_0 : decode cX5_impress 0 = .ok (.iconst 0, 1) := by decide +kernel
theorem dX5_impress_1 : decode cX5_impress 1 = .ok (.istore_n 2, 1) := by decide +kernel
theorem dX5_impress_2 : decode cX5_impress 2 = .ok (.iload_n 2, 1) := by decide +kernel
theorem dX5_impress_3 : decode cX5_impress 3 = .ok (.bipush 8, 2) := by decide +kernel
theorem dX5_impress_5 : decode cX5_impress 5 = .ok (.if_icmp .ge 33, 3) := by decide +kernel
theorem dX5_impress_8 : decode cX5_impress 8 = .ok (.aload_n 0, 1) := by decide +kernel
theorem dX5_impress_9 : decode cX5_impress 9 = .ok (.getfield 11, 3) := by decide +kernel
theorem dX5_impress_12 : decode cX5_impress 12 = .ok (.iload_n 2, 1) := by decide +kernel
theorem dX5_impress_13 : decode cX5_impress 13 = .ok (.aaload, 1) := by decide +kernel
theorem dX5_impress_14 : decode cX5_impress 14 = .ok (.dup, 1) := by decide +kernel
theorem dX5_impress_15 : decode cX5_impress 15 = .ok (.getfield 107, 3) := by decide +kernel
theorem dX5_impress_18 : decode cX5_impress 18 = .ok (.aload_n 0, 1) := by decide +kernel
theorem dX5_impress_19 : decode cX5_impress 19 = .ok (.getfield 11, 3) := by decide +kernel
theorem dX5_impress_22 : decode cX5_impress 22 = .ok (.iload_n 2, 1) := by decide +kernel
theorem dX5_impress_23 : decode cX5_impress 23 = .ok (.aaload, 1) := by decide +kernel
theorem dX5_impress_24 : decode cX5_impress 24 = .ok (.aload_n 1, 1) := by decide +kernel
theorem dX5_impress_25 : decode cX5_impress 25 = .ok (.invokevirtual 120, 3) := by decide +kernel
theorem dX5_impress_28 : decode cX5_impress 28 = .ok (.iadd, 1) := by decide +kernel
theorem dX5_impress_29 : decode cX5_impress 29 = .ok (.putfield 107, 3) := by decide +kernel
theorem dX5_impress_32 : decode cX5_impress 32 = .ok (.iinc 2 1, 3) := by decide +kernel
theorem dX5_impress_35 : decode cX5_impress 35 = .ok (.goto (-33), 3) := by decide +kernel
theorem dX5_impress_38 : decode cX5_impress 38 = .ok (.aload_n 0, 1) := by decide +kernel
theorem dX5_impress_39 : decode cX5_impress 39 = .ok (.aload_n 1, 1) := by decide +kernel
theorem dX5_impress_40 : decode cX5_impress 40 = .ok (.invokevirtual 124, 3) := by decide +kernel
theorem dX5_impress_43 : decode cX5_impress 43 = .ok (.istore_n 2, 1) := by decide +kernel
theorem dX5_impress_44 : decode cX5_impress 44 = .ok (.aload_n 0, 1) := by decide +kernel
theorem dX5_impress_45 : decode cX5_impress 45 = .ok (.dup, 1) := by decide +kernel
theorem dX5_impress_46 : decode cX5_impress 46 = .ok (.getfield 29, 3) := by decide +kernel
theorem dX5_impress_49 : decode cX5_impress 49 = .ok (.iconst 1, 1) := by decide +kernel
theorem dX5_impress_50 : decode cX5_impress 50 = .ok (.iadd, 1) := by decide +kernel
theorem dX5_impress_51 : decode cX5_impress 51 = .ok (.putfield 29, 3) := by decide +kernel
theorem dX5_impress_54 : decode cX5_impress 54 = .ok (.iload_n 2, 1) := by decide +kernel
theorem dX5_impress_55 : decode cX5_impress 55 = .ok (.ifCond .ne 21, 3) := by decide +kernel
theorem dX5_impress_58 : decode cX5_impress 58 = .ok (.aload_n 0, 1) := by decide +kernel
theorem dX5_impress_59 : decode cX5_impress 59 = .ok (.aload_n 1, 1) := by decide +kernel
theorem dX5_impress_60 : decode cX5_impress 60 = .ok (.invokevirtual 127, 3) := by decide +kernel
theorem dX5_impress_63 : decode cX5_impress 63 = .ok (.ifCond .eq 13, 3) := by decide +kernel
theorem dX5_impress_66 : decode cX5_impress 66 = .ok (.aload_n 0, 1) := by decide +kernel
theorem dX5_impress_67 : decode cX5_impress 67 = .ok (.dup, 1) := by decide +kernel
theorem dX5_impress_68 : decode cX5_impress 68 = .ok (.getfield 32, 3) := by decide +kernel
theorem dX5_impress_71 : decode cX5_impress 71 = .ok (.iconst 1, 1) := by decide +kernel
theorem dX5_impress_72 : decode cX5_impress 72 = .ok (.iadd, 1) := by decide +kernel
theorem dX5_impress_73 : decode cX5_impress 73 = .ok (.putfield 32, 3) := by decide +kernel
theorem dX5_impress_76 : decode cX5_impress 76 = .ok (.return_, 1) := by decide +kernel
theorem dX5_passDay_0 : decode cX5_passDay 0 = .ok (.iconst 0, 1) := by decide +kernel
theorem dX5_passDay_1 : decode cX5_passDay 1 = .ok (.istore_n 2, 1) := by decide +kernel
theorem dX5_passDay_2 : decode cX5_passDay 2 = .ok (.iload_n 2, 1) := by decide +kernel
theorem dX5_passDay_3 : decode cX5_passDay 3 = .ok (.bipush 8, 2) := by decide +kernel
theorem dX5_passDay_5 : decode cX5_passDay 5 = .ok (.if_icmp .ge 33, 3) := by decide +kernel
theorem dX5_passDay_8 : decode cX5_passDay 8 = .ok (.aload_n 0, 1) := by decide +kernel
theorem dX5_passDay_9 : decode cX5_passDay 9 = .ok (.getfield 11, 3) := by decide +kernel
theorem dX5_passDay_12 : decode cX5_passDay 12 = .ok (.iload_n 2, 1) := by decide +kernel
theorem dX5_passDay_13 : decode cX5_passDay 13 = .ok (.aaload, 1) := by decide +kernel
theorem dX5_passDay_14 : decode cX5_passDay 14 = .ok (.dup, 1) := by decide +kernel
theorem dX5_passDay_15 : decode cX5_passDay 15 = .ok (.getfield 107, 3) := by decide +kernel
theorem dX5_passDay_18 : decode cX5_passDay 18 = .ok (.aload_n 0, 1) := by decide +kernel
theorem dX5_passDay_19 : decode cX5_passDay 19 = .ok (.getfield 11, 3) := by decide +kernel
theorem dX5_passDay_22 : decode cX5_passDay 22 = .ok (.iload_n 2, 1) := by decide +kernel
theorem dX5_passDay_23 : decode cX5_passDay 23 = .ok (.aaload, 1) := by decide +kernel
theorem dX5_passDay_24 : decode cX5_passDay 24 = .ok (.aload_n 1, 1) := by decide +kernel
theorem dX5_passDay_25 : decode cX5_passDay 25 = .ok (.invokevirtual 130, 3) := by decide +kernel
theorem dX5_passDay_28 : decode cX5_passDay 28 = .ok (.iadd, 1) := by decide +kernel
theorem dX5_passDay_29 : decode cX5_passDay 29 = .ok (.putfield 107, 3) := by decide +kernel
theorem dX5_passDay_32 : decode cX5_passDay 32 = .ok (.iinc 2 1, 3) := by decide +kernel
theorem dX5_passDay_35 : decode cX5_passDay 35 = .ok (.goto (-33), 3) := by decide +kernel
theorem dX5_passDay_38 : decode cX5_passDay 38 = .ok (.aload_n 0, 1) := by decide +kernel
theorem dX5_passDay_39 : decode cX5_passDay 39 = .ok (.dup, 1) := by decide +kernel
theorem dX5_passDay_40 : decode cX5_passDay 40 = .ok (.getfield 35, 3) := by decide +kernel
theorem dX5_passDay_43 : decode cX5_passDay 43 = .ok (.iconst 1, 1) := by decide +kernel
theorem dX5_passDay_44 : decode cX5_passDay 44 = .ok (.iadd, 1) := by decide +kernel
theorem dX5_passDay_45 : decode cX5_passDay 45 = .ok (.putfield 35, 3) := by decide +kernel
theorem dX5_passDay_48 : decode cX5_passDay 48 = .ok (.aload_n 0, 1) := by decide +kernel
theorem dX5_passDay_49 : decode cX5_passDay 49 = .ok (.aload_n 1, 1) := by decide +kernel
theorem dX5_passDay_50 : decode cX5_passDay 50 = .ok (.invokevirtual 124, 3) := by decide +kernel
theorem dX5_passDay_53 : decode cX5_passDay 53 = .ok (.ireturn, 1) := by decide +kernel
theorem dX5_dropLooseRows_0 : decode cX5_dropLooseRows 0 = .ok (.iconst 0, 1) := by decide +kernel
theorem dX5_dropLooseRows_1 : decode cX5_dropLooseRows 1 = .ok (.istore_n 2, 1) := by decide +kernel
theorem dX5_dropLooseRows_2 : decode cX5_dropLooseRows 2 = .ok (.iconst 0, 1) := by decide +kernel
theorem dX5_dropLooseRows_3 : decode cX5_dropLooseRows 3 = .ok (.istore_n 3, 1) := by decide +kernel
theorem dX5_dropLooseRows_4 : decode cX5_dropLooseRows 4 = .ok (.iload_n 3, 1) := by decide +kernel
theorem dX5_dropLooseRows_5 : decode cX5_dropLooseRows 5 = .ok (.bipush 8, 2) := by decide +kernel
theorem dX5_dropLooseRows_7 : decode cX5_dropLooseRows 7 = .ok (.if_icmp .ge 73, 3) := by decide +kernel
theorem dX5_dropLooseRows_10 : decode cX5_dropLooseRows 10 = .ok (.aload_n 0, 1) := by decide +kernel
theorem dX5_dropLooseRows_11 : decode cX5_dropLooseRows 11 = .ok (.getfield 11, 3) := by decide +kernel
theorem dX5_dropLooseRows_14 : decode cX5_dropLooseRows 14 = .ok (.iload_n 3, 1) := by decide +kernel
theorem dX5_dropLooseRows_15 : decode cX5_dropLooseRows 15 = .ok (.aaload, 1) := by decide +kernel
theorem dX5_dropLooseRows_16 : decode cX5_dropLooseRows 16 = .ok (.getfield 54, 3) := by decide +kernel
theorem dX5_dropLooseRows_19 : decode cX5_dropLooseRows 19 = .ok (.ifCond .le 55, 3) := by decide +kernel
theorem dX5_dropLooseRows_22 : decode cX5_dropLooseRows 22 = .ok (.aload_n 0, 1) := by decide +kernel
theorem dX5_dropLooseRows_23 : decode cX5_dropLooseRows 23 = .ok (.getfield 11, 3) := by decide +kernel
theorem dX5_dropLooseRows_26 : decode cX5_dropLooseRows 26 = .ok (.iload_n 3, 1) := by decide +kernel
theorem dX5_dropLooseRows_27 : decode cX5_dropLooseRows 27 = .ok (.aaload, 1) := by decide +kernel
theorem dX5_dropLooseRows_28 : decode cX5_dropLooseRows 28 = .ok (.aload_n 1, 1) := by decide +kernel
theorem dX5_dropLooseRows_29 : decode cX5_dropLooseRows 29 = .ok (.invokevirtual 133, 3) := by decide +kernel
theorem dX5_dropLooseRows_32 : decode cX5_dropLooseRows 32 = .ok (.aload_n 1, 1) := by decide +kernel
theorem dX5_dropLooseRows_33 : decode cX5_dropLooseRows 33 = .ok (.getfield 136, 3) := by decide +kernel
theorem dX5_dropLooseRows_36 : decode cX5_dropLooseRows 36 = .ok (.if_icmp .le 38, 3) := by decide +kernel
theorem dX5_dropLooseRows_39 : decode cX5_dropLooseRows 39 = .ok (.aload_n 0, 1) := by decide +kernel
theorem dX5_dropLooseRows_40 : decode cX5_dropLooseRows 40 = .ok (.dup, 1) := by decide +kernel
theorem dX5_dropLooseRows_41 : decode cX5_dropLooseRows 41 = .ok (.getfield 38, 3) := by decide +kernel
theorem dX5_dropLooseRows_44 : decode cX5_dropLooseRows 44 = .ok (.aload_n 0, 1) := by decide +kernel
theorem dX5_dropLooseRows_45 : decode cX5_dropLooseRows 45 = .ok (.getfield 11, 3) := by decide +kernel
theorem dX5_dropLooseRows_48 : decode cX5_dropLooseRows 48 = .ok (.iload_n 3, 1) := by decide +kernel
theorem dX5_dropLooseRows_49 : decode cX5_dropLooseRows 49 = .ok (.aaload, 1) := by decide +kernel
theorem dX5_dropLooseRows_50 : decode cX5_dropLooseRows 50 = .ok (.getfield 54, 3) := by decide +kernel
theorem dX5_dropLooseRows_53 : decode cX5_dropLooseRows 53 = .ok (.iadd, 1) := by decide +kernel
theorem dX5_dropLooseRows_54 : decode cX5_dropLooseRows 54 = .ok (.putfield 38, 3) := by decide +kernel
theorem dX5_dropLooseRows_57 : decode cX5_dropLooseRows 57 = .ok (.aload_n 0, 1) := by decide +kernel
theorem dX5_dropLooseRows_58 : decode cX5_dropLooseRows 58 = .ok (.getfield 11, 3) := by decide +kernel
theorem dX5_dropLooseRows_61 : decode cX5_dropLooseRows 61 = .ok (.iload_n 3, 1) := by decide +kernel
theorem dX5_dropLooseRows_62 : decode cX5_dropLooseRows 62 = .ok (.aaload, 1) := by decide +kernel
theorem dX5_dropLooseRows_63 : decode cX5_dropLooseRows 63 = .ok (.invokevirtual 139, 3) := by decide +kernel
theorem dX5_dropLooseRows_66 : decode cX5_dropLooseRows 66 = .ok (.aload_n 0, 1) := by decide +kernel
theorem dX5_dropLooseRows_67 : decode cX5_dropLooseRows 67 = .ok (.iload_n 3, 1) := by decide +kernel
theorem dX5_dropLooseRows_68 : decode cX5_dropLooseRows 68 = .ok (.invokevirtual 142, 3) := by decide +kernel
theorem dX5_dropLooseRows_71 : decode cX5_dropLooseRows 71 = .ok (.iinc 2 1, 3) := by decide +kernel
theorem dX5_dropLooseRows_74 : decode cX5_dropLooseRows 74 = .ok (.iinc 3 1, 3) := by decide +kernel
theorem dX5_dropLooseRows_77 : decode cX5_dropLooseRows 77 = .ok (.goto (-73), 3) := by decide +kernel
theorem dX5_dropLooseRows_80 : decode cX5_dropLooseRows 80 = .ok (.aload_n 0, 1) := by decide +kernel
theorem dX5_dropLooseRows_81 : decode cX5_dropLooseRows 81 = .ok (.dup, 1) := by decide +kernel
theorem dX5_dropLooseRows_82 : decode cX5_dropLooseRows 82 = .ok (.getfield 41, 3) := by decide +kernel
theorem dX5_dropLooseRows_85 : decode cX5_dropLooseRows 85 = .ok (.iload_n 2, 1) := by decide +kernel
theorem dX5_dropLooseRows_86 : decode cX5_dropLooseRows 86 = .ok (.iadd, 1) := by decide +kernel
theorem dX5_dropLooseRows_87 : decode cX5_dropLooseRows 87 = .ok (.putfield 41, 3) := by decide +kernel
theorem dX5_dropLooseRows_90 : decode cX5_dropLooseRows 90 = .ok (.iload_n 2, 1) := by decide +kernel
theorem dX5_dropLooseRows_91 : decode cX5_dropLooseRows 91 = .ok (.ireturn, 1) := by decide +kernel
theorem dX5_isFirm_0 : decode cX5_isFirm 0 = .ok (.iconst 0, 1) := by decide +kernel
theorem dX5_isFirm_1 : decode cX5_isFirm 1 = .ok (.istore_n 2, 1) := by decide +kernel
theorem dX5_isFirm_2 : decode cX5_isFirm 2 = .ok (.iload_n 2, 1) := by decide +kernel
theorem dX5_isFirm_3 : decode cX5_isFirm 3 = .ok (.bipush 8, 2) := by decide +kernel
theorem dX5_isFirm_5 : decode cX5_isFirm 5 = .ok (.if_icmp .ge 36, 3) := by decide +kernel
theorem dX5_isFirm_8 : decode cX5_isFirm 8 = .ok (.aload_n 0, 1) := by decide +kernel
theorem dX5_isFirm_9 : decode cX5_isFirm 9 = .ok (.getfield 11, 3) := by decide +kernel
theorem dX5_isFirm_12 : decode cX5_isFirm 12 = .ok (.iload_n 2, 1) := by decide +kernel
theorem dX5_isFirm_13 : decode cX5_isFirm 13 = .ok (.aaload, 1) := by decide +kernel
theorem dX5_isFirm_14 : decode cX5_isFirm 14 = .ok (.getfield 54, 3) := by decide +kernel
theorem dX5_isFirm_17 : decode cX5_isFirm 17 = .ok (.ifCond .le 18, 3) := by decide +kernel
theorem dX5_isFirm_20 : decode cX5_isFirm 20 = .ok (.aload_n 0, 1) := by decide +kernel
theorem dX5_isFirm_21 : decode cX5_isFirm 21 = .ok (.getfield 11, 3) := by decide +kernel
theorem dX5_isFirm_24 : decode cX5_isFirm 24 = .ok (.iload_n 2, 1) := by decide +kernel
theorem dX5_isFirm_25 : decode cX5_isFirm 25 = .ok (.aaload, 1) := by decide +kernel
theorem dX5_isFirm_26 : decode cX5_isFirm 26 = .ok (.aload_n 1, 1) := by decide +kernel
theorem dX5_isFirm_27 : decode cX5_isFirm 27 = .ok (.invokevirtual 146, 3) := by decide +kernel
theorem dX5_isFirm_30 : decode cX5_isFirm 30 = .ok (.ifCond .ne 5, 3) := by decide +kernel
theorem dX5_isFirm_33 : decode cX5_isFirm 33 = .ok (.iconst 0, 1) := by decide +kernel
theorem dX5_isFirm_34 : decode cX5_isFirm 34 = .ok (.ireturn, 1) := by decide +kernel
theorem dX5_isFirm_35 : decode cX5_isFirm 35 = .ok (.iinc 2 1, 3) := by decide +kernel
theorem dX5_isFirm_38 : decode cX5_isFirm 38 = .ok (.goto (-36), 3) := by decide +kernel
theorem dX5_isFirm_41 : decode cX5_isFirm 41 = .ok (.iconst 1, 1) := by decide +kernel
theorem dX5_isFirm_42 : decode cX5_isFirm 42 = .ok (.ireturn, 1) := by decide +kernel
theorem dX6_init_0 : decode cX6_init 0 = .ok (.aload_n 0, 1) := by decide +kernel
theorem dX6_init_1 : decode cX6_init 1 = .ok (.invokespecial 1, 3) := by decide +kernel
theorem dX6_init_4 : decode cX6_init 4 = .ok (.aload_n 0, 1) := by decide +kernel
theorem dX6_init_5 : decode cX6_init 5 = .ok (.new 7, 3) := by decide +kernel
theorem dX6_init_8 : decode cX6_init 8 = .ok (.dup, 1) := by decide +kernel
theorem dX6_init_9 : decode cX6_init 9 = .ok (.invokespecial 9, 3) := by decide +kernel
theorem dX6_init_12 : decode cX6_init 12 = .ok (.putfield 10, 3) := by decide +kernel
theorem dX6_init_15 : decode cX6_init 15 = .ok (.aload_n 0, 1) := by decide +kernel
theorem dX6_init_16 : decode cX6_init 16 = .ok (.new 16, 3) := by decide +kernel
theorem dX6_init_19 : decode cX6_init 19 = .ok (.dup, 1) := by decide +kernel
theorem dX6_init_20 : decode cX6_init 20 = .ok (.invokespecial 18, 3) := by decide +kernel
theorem dX6_init_23 : decode cX6_init 23 = .ok (.putfield 19, 3) := by decide +kernel
theorem dX6_init_26 : decode cX6_init 26 = .ok (.aload_n 0, 1) := by decide +kernel
theorem dX6_init_27 : decode cX6_init 27 = .ok (.new 23, 3) := by decide +kernel
theorem dX6_init_30 : decode cX6_init 30 = .ok (.dup, 1) := by decide +kernel
theorem dX6_init_31 : decode cX6_init 31 = .ok (.invokespecial 25, 3) := by decide +kernel
theorem dX6_init_34 : decode cX6_init 34 = .ok (.putfield 26, 3) := by decide +kernel
theorem dX6_init_37 : decode cX6_init 37 = .ok (.aload_n 0, 1) := by decide +kernel
theorem dX6_init_38 : decode cX6_init 38 = .ok (.new 30, 3) := by decide +kernel
theorem dX6_init_41 : decode cX6_init 41 = .ok (.dup, 1) := by decide +kernel
theorem dX6_init_42 : decode cX6_init 42 = .ok (.invokespecial 32, 3) := by decide +kernel
theorem dX6_init_45 : decode cX6_init 45 = .ok (.putfield 33, 3) := by decide +kernel
theorem dX6_init_48 : decode cX6_init 48 = .ok (.aload_n 0, 1) := by decide +kernel
theorem dX6_init_49 : decode cX6_init 49 = .ok (.new 30, 3) := by decide +kernel
theorem dX6_init_52 : decode cX6_init 52 = .ok (.dup, 1) := by decide +kernel
theorem dX6_init_53 : decode cX6_init 53 = .ok (.invokespecial 32, 3) := by decide +kernel
theorem dX6_init_56 : decode cX6_init 56 = .ok (.putfield 37, 3) := by decide +kernel
theorem dX6_init_59 : decode cX6_init 59 = .ok (.aload_n 0, 1) := by decide +kernel
theorem dX6_init_60 : decode cX6_init 60 = .ok (.iconst 2, 1) := by decide +kernel
theorem dX6_init_61 : decode cX6_init 61 = .ok (.anewarray 30, 3) := by decide +kernel
theorem dX6_init_64 : decode cX6_init 64 = .ok (.putfield 40, 3) := by decide +kernel
theorem dX6_init_67 : decode cX6_init 67 = .ok (.aload_n 0, 1) := by decide +kernel
theorem dX6_init_68 : decode cX6_init 68 = .ok (.iconst 2, 1) := by decide +kernel
theorem dX6_init_69 : decode cX6_init 69 = .ok (.newarray .boolean, 2) := by decide +kernel
theorem dX6_init_71 : decode cX6_init 71 = .ok (.putfield 44, 3) := by decide +kernel
theorem dX6_init_74 : decode cX6_init 74 = .ok (.aload_n 0, 1) := by decide +kernel
theorem dX6_init_75 : decode cX6_init 75 = .ok (.new 48, 3) := by decide +kernel
theorem dX6_init_78 : decode cX6_init 78 = .ok (.dup, 1) := by decide +kernel
theorem dX6_init_79 : decode cX6_init 79 = .ok (.invokespecial 50, 3) := by decide +kernel
theorem dX6_init_82 : decode cX6_init 82 = .ok (.putfield 51, 3) := by decide +kernel
theorem dX6_init_85 : decode cX6_init 85 = .ok (.aload_n 0, 1) := by decide +kernel
theorem dX6_init_86 : decode cX6_init 86 = .ok (.new 55, 3) := by decide +kernel
theorem dX6_init_89 : decode cX6_init 89 = .ok (.dup, 1) := by decide +kernel
theorem dX6_init_90 : decode cX6_init 90 = .ok (.invokespecial 57, 3) := by decide +kernel
theorem dX6_init_93 : decode cX6_init 93 = .ok (.putfield 58, 3) := by decide +kernel
theorem dX6_init_96 : decode cX6_init 96 = .ok (.aload_n 0, 1) := by decide +kernel
theorem dX6_init_97 : decode cX6_init 97 = .ok (.new 55, 3) := by decide +kernel
theorem dX6_init_100 : decode cX6_init 100 = .ok (.dup, 1) := by decide +kernel
theorem dX6_init_101 : decode cX6_init 101 = .ok (.invokespecial 57, 3) := by decide +kernel
theorem dX6_init_104 : decode cX6_init 104 = .ok (.putfield 62, 3) := by decide +kernel
theorem dX6_init_107 : decode cX6_init 107 = .ok (.iconst 0, 1) := by decide +kernel
theorem dX6_init_108 : decode cX6_init 108 = .ok (.istore_n 1, 1) := by decide +kernel
theorem dX6_init_109 : decode cX6_init 109 = .ok (.iload_n 1, 1) := by decide +kernel
theorem dX6_init_110 : decode cX6_init 110 = .ok (.iconst 2, 1) := by decide +kernel
theorem dX6_init_111 : decode cX6_init 111 = .ok (.if_icmp .ge 22, 3) := by decide +kernel
theorem dX6_init_114 : decode cX6_init 114 = .ok (.aload_n 0, 1) := by decide +kernel
theorem dX6_init_115 : decode cX6_init 115 = .ok (.getfield 40, 3) := by decide +kernel
theorem dX6_init_118 : decode cX6_init 118 = .ok (.iload_n 1, 1) := by decide +kernel
theorem dX6_init_119 : decode cX6_init 119 = .ok (.new 30, 3) := by decide +kernel
theorem dX6_init_122 : decode cX6_init 122 = .ok (.dup, 1) := by decide +kernel
theorem dX6_init_123 : decode cX6_init 123 = .ok (.invokespecial 32, 3) := by decide +kernel
theorem dX6_init_126 : decode cX6_init 126 = .ok (.aastore, 1) := by decide +kernel
theorem dX6_init_127 : decode cX6_init 127 = .ok (.iinc 1 1, 3) := by decide +kernel
theorem dX6_init_130 : decode cX6_init 130 = .ok (.goto (-21), 3) := by decide +kernel
theorem dX6_init_133 : decode cX6_init 133 = .ok (.return_, 1) := by decide +kernel
theorem dX6_append_0 : decode cX6_append 0 = .ok (.aload_n 0, 1) := by decide +kernel
theorem dX6_append_1 : decode cX6_append 1 = .ok (.getfield 10, 3) := by decide +kernel
theorem dX6_append_4 : decode cX6_append 4 = .ok (.iload_n 1, 1) := by decide +kernel
theorem dX6_append_5 : decode cX6_append 5 = .ok (.iload_n 2, 1) := by decide +kernel
theorem dX6_append_6 : decode cX6_append 6 = .ok (.iload_n 3, 1) := by decide +kernel
theorem dX6_append_7 : decode cX6_append 7 = .ok (.iload 4, 2) := by decide +kernel
theorem dX6_append_9 : decode cX6_append 9 = .ok (.iload 5, 2) := by decide +kernel
theorem dX6_append_11 : decode cX6_append 11 = .ok (.invokevirtual 65, 3) := by decide +kernel
theorem dX6_append_14 : decode cX6_append 14 = .ok (.ifCond .eq 13, 3) := by decide +kernel
theorem dX6_append_17 : decode cX6_append 17 = .ok (.aload_n 0, 1) := by decide +kernel
theorem dX6_append_18 : decode cX6_append 18 = .ok (.getfield 10, 3) := by decide +kernel
theorem dX6_append_21 : decode cX6_append 21 = .ok (.getfield 69, 3) := by decide +kernel
theorem dX6_append_24 : decode cX6_append 24 = .ok (.goto 4, 3) := by decide +kernel
theorem dX6_append_27 : decode cX6_append 27 = .ok (.iconst (-1), 1) := by decide +kernel
theorem dX6_append_28 : decode cX6_append 28 = .ok (.ireturn, 1) := by decide +kernel
theorem dX6_load_0 : decode cX6_load 0 = .ok (.iload_n 1, 1) := by decide +kernel
theorem dX6_load_1 : decode cX6_load 1 = .ok (.ifCond .lt 14, 3) := by decide +kernel
theorem dX6_load_4 : decode cX6_load 4 = .ok (.iload_n 1, 1) := by decide +kernel
theorem dX6_load_5 : decode cX6_load 5 = .ok (.aload_n 0, 1) := by decide +kernel
theorem dX6_load_6 : decode cX6_load 6 = .ok (.getfield 10, 3) := by decide +kernel
theorem dX6_load_9 : decode cX6_load 9 = .ok (.getfield 69, 3) := by decide +kernel
theorem dX6_load_12 : decode cX6_load 12 = .ok (.if_icmp .le 13, 3) := by decide +kernel
theorem dX6_load_15 : decode cX6_load 15 = .ok (.new 73, 3) := by decide +kernel
theorem dX6_load_18 : decode cX6_load 18 = .ok (.dup, 1) := by decide +kernel
theorem dX6_load_19 : decode cX6_load 19 = .ok (.ldc 75, 2) := by decide +kernel
theorem dX6_load_21 : decode cX6_load 21 = .ok (.invokespecial 77, 3) := by decide +kernel
theorem dX6_load_24 : decode cX6_load 24 = .ok (.athrow, 1) := by decide +kernel
theorem dX6_load_25 : decode cX6_load 25 = .ok (.aload_n 0, 1) := by decide +kernel
theorem dX6_load_26 : decode cX6_load 26 = .ok (.getfield 10, 3) := by decide +kernel
theorem dX6_load_29 : decode cX6_load 29 = .ok (.iload_n 1, 1) := by decide +kernel
theorem dX6_load_30 : decode cX6_load 30 = .ok (.aload_n 0, 1) := by decide +kernel
theorem dX6_load_31 : decode cX6_load 31 = .ok (.getfield 62, 3) := by decide +kernel
theorem dX6_load_34 : decode cX6_load 34 = .ok (.aload_n 0, 1) := by decide +kernel
theorem dX6_load_35 : decode cX6_load 35 = .ok (.getfield 37, 3) := by decide +kernel
theorem dX6_load_38 : decode cX6_load 38 = .ok (.invokevirtual 80, 3) := by decide +kernel
theorem dX6_load_41 : decode cX6_load 41 = .ok (.ifCond .ne 13, 3) := by decide +kernel
theorem dX6_load_44 : decode cX6_load 44 = .ok (.new 84, 3) := by decide +kernel
theorem dX6_load_47 : decode cX6_load 47 = .ok (.dup, 1) := by decide +kernel
theorem dX6_load_48 : decode cX6_load 48 = .ok (.ldc 86, 2) := by decide +kernel
theorem dX6_load_50 : decode cX6_load 50 = .ok (.invokespecial 88, 3) := by decide +kernel
theorem dX6_load_53 : decode cX6_load 53 = .ok (.athrow, 1) := by decide +kernel
theorem dX6_load_54 : decode cX6_load 54 = .ok (.aload_n 0, 1) := by decide +kernel
theorem dX6_load_55 : decode cX6_load 55 = .ok (.invokevirtual 89, 3) := by decide +kernel
theorem dX6_load_58 : decode cX6_load 58 = .ok (.aload_n 0, 1) := by decide +kernel
theorem dX6_load_59 : decode cX6_load 59 = .ok (.getfield 58, 3) := by decide +kernel
theorem dX6_load_62 : decode cX6_load 62 = .ok (.getfield 92, 3) := by decide +kernel
theorem dX6_load_65 : decode cX6_load 65 = .ok (.ireturn, 1) := by decide +kernel
theorem dX6_takeOverText_0 : decode cX6_takeOverText 0 = .ok (.aload_n 0, 1) := by decide +kernel
theorem dX6_takeOverText_1 : decode cX6_takeOverText 1 = .ok (.getfield 58, 3) := by decide +kernel
theorem dX6_takeOverText_4 : decode cX6_takeOverText 4 = .ok (.astore_n 1, 1) := by decide +kernel
theorem dX6_takeOverText_5 : decode cX6_takeOverText 5 = .ok (.aload_n 0, 1) := by decide +kernel
theorem dX6_takeOverText_6 : decode cX6_takeOverText 6 = .ok (.aload_n 0, 1) := by decide +kernel
theorem dX6_takeOverText_7 : decode cX6_takeOverText 7 = .ok (.getfield 62, 3) := by decide +kernel
theorem dX6_takeOverText_10 : decode cX6_takeOverText 10 = .ok (.putfield 58, 3) := by decide +kernel
theorem dX6_takeOverText_13 : decode cX6_takeOverText 13 = .ok (.aload_n 0, 1) := by decide +kernel
theorem dX6_takeOverText_14 : decode cX6_takeOverText 14 = .ok (.aload_n 1, 1) := by decide +kernel
theorem dX6_takeOverText_15 : decode cX6_takeOverText 15 = .ok (.putfield 62, 3) := by decide +kernel
theorem dX6_takeOverText_18 : decode cX6_takeOverText 18 = .ok (.aload_n 0, 1) := by decide +kernel
theorem dX6_takeOverText_19 : decode cX6_takeOverText 19 = .ok (.getfield 33, 3) := by decide +kernel
theorem dX6_takeOverText_22 : decode cX6_takeOverText 22 = .ok (.aload_n 0, 1) := by decide +kernel
theorem dX6_takeOverText_23 : decode cX6_takeOverText 23 = .ok (.getfield 37, 3) := by decide +kernel
theorem dX6_takeOverText_26 : decode cX6_takeOverText 26 = .ok (.invokevirtual 95, 3) := by decide +kernel
theorem dX6_takeOverText_29 : decode cX6_takeOverText 29 = .ok (.aload_n 0, 1) := by decide +kernel
theorem dX6_takeOverText_30 : decode cX6_takeOverText 30 = .ok (.getfield 26, 3) := by decide +kernel
theorem dX6_takeOverText_33 : decode cX6_takeOverText 33 = .ok (.invokevirtual 99, 3) := by decide +kernel
theorem dX6_takeOverText_36 : decode cX6_takeOverText 36 = .ok (.iconst 0, 1) := by decide +kernel
theorem dX6_takeOverText_37 : decode cX6_takeOverText 37 = .ok (.istore_n 2, 1) := by decide +kernel
theorem dX6_takeOverText_38 : decode cX6_takeOverText 38 = .ok (.iload_n 2, 1) := by decide +kernel
theorem dX6_takeOverText_39 : decode cX6_takeOverText 39 = .ok (.iconst 2, 1) := by decide +kernel
theorem dX6_takeOverText_40 : decode cX6_takeOverText 40 = .ok (.if_icmp .ge 16, 3) := by decide +kernel
theorem dX6_takeOverText_43 : decode cX6_takeOverText 43 = .ok (.aload_n 0, 1) := by decide +kernel
theorem dX6_takeOverText_44 : decode cX6_takeOverText 44 = .ok (.getfield 44, 3) := by decide +kernel
theorem dX6_takeOverText_47 : decode cX6_takeOverText 47 = .ok (.iload_n 2, 1) := by decide +kernel
theorem dX6_takeOverText_48 : decode cX6_takeOverText 48 = .ok (.iconst 0, 1) := by decide +kernel
theorem dX6_takeOverText_49 : decode cX6_takeOverText 49 = .ok (.bastore, 1) := by decide +kernel
theorem dX6_takeOverText_50 : decode cX6_takeOverText 50 = .ok (.iinc 2 1, 3) := by decide +kernel
theorem dX6_takeOverText_53 : decode cX6_takeOverText 53 = .ok (.goto (-15), 3) := by decide +kernel
theorem dX6_takeOverText_56 : decode cX6_takeOverText 56 = .ok (.aload_n 0, 1) := by decide +kernel
theorem dX6_takeOverText_57 : decode cX6_takeOverText 57 = .ok (.iconst 1, 1) := by decide +kernel
theorem dX6_takeOverText_58 : decode cX6_takeOverText 58 = .ok (.putfield 102, 3) := by decide +kernel
theorem dX6_takeOverText_61 : decode cX6_takeOverText 61 = .ok (.return_, 1) := by decide +kernel
theorem dX6_parseError_0 : decode cX6_parseError 0 = .ok (.aload_n 0, 1) := by decide +kernel
theorem dX6_parseError_1 : decode cX6_parseError 1 = .ok (.getfield 10, 3) := by decide +kernel
theorem dX6_parseError_4 : decode cX6_parseError 4 = .ok (.getfield 106, 3) := by decide +kernel
theorem dX6_parseError_7 : decode cX6_parseError 7 = .ok (.ireturn, 1) := by decide +kernel
theorem dX6_errorPosition_0 : decode cX6_errorPosition 0 = .ok (.aload_n 0, 1) := by decide +kernel
theorem dX6_errorPosition_1 : decode cX6_errorPosition 1 = .ok (.getfield 10, 3) := by decide +kernel
theorem dX6_errorPosition_4 : decode cX6_errorPosition 4 = .ok (.getfield 109, 3) := by decide +kernel
theorem dX6_errorPosition_7 : decode cX6_errorPosition 7 = .ok (.ireturn, 1) := by decide +kernel
theorem dX6_buffered_0 : decode cX6_buffered 0 = .ok (.aload_n 0, 1) := by decide +kernel
theorem dX6_buffered_1 : decode cX6_buffered 1 = .ok (.getfield 10, 3) := by decide +kernel
theorem dX6_buffered_4 : decode cX6_buffered 4 = .ok (.getfield 69, 3) := by decide +kernel
theorem dX6_buffered_7 : decode cX6_buffered 7 = .ok (.ireturn, 1) := by decide +kernel
theorem dX6_count_0 : decode cX6_count 0 = .ok (.aload_n 0, 1) := by decide +kernel
theorem dX6_count_1 : decode cX6_count 1 = .ok (.invokevirtual 112, 3) := by decide +kernel
theorem dX6_count_4 : decode cX6_count 4 = .ok (.iload_n 1, 1) := by decide +kernel
theorem dX6_count_5 : decode cX6_count 5 = .ok (.tableswitch 163 0 11 #[63, 71, 79, 87, 95, 103, 115, 123, 131, 139, 147, 155], 63) := by decide +kernel
theorem dX6_count_68 : decode cX6_count 68 = .ok (.aload_n 0, 1) := by decide +kernel
theorem dX6_count_69 : decode cX6_count 69 = .ok (.getfield 58, 3) := by decide +kernel
theorem dX6_count_72 : decode cX6_count 72 = .ok (.getfield 115, 3) := by decide +kernel
theorem dX6_count_75 : decode cX6_count 75 = .ok (.ireturn, 1) := by decide +kernel
theorem dX6_count_76 : decode cX6_count 76 = .ok (.aload_n 0, 1) := by decide +kernel
theorem dX6_count_77 : decode cX6_count 77 = .ok (.getfield 58, 3) := by decide +kernel
theorem dX6_count_80 : decode cX6_count 80 = .ok (.getfield 92, 3) := by decide +kernel
theorem dX6_count_83 : decode cX6_count 83 = .ok (.ireturn, 1) := by decide +kernel
theorem dX6_count_84 : decode cX6_count 84 = .ok (.aload_n 0, 1) := by decide +kernel
theorem dX6_count_85 : decode cX6_count 85 = .ok (.getfield 33, 3) := by decide +kernel
theorem dX6_count_88 : decode cX6_count 88 = .ok (.getfield 118, 3) := by decide +kernel
theorem dX6_count_91 : decode cX6_count 91 = .ok (.ireturn, 1) := by decide +kernel
theorem dX6_count_92 : decode cX6_count 92 = .ok (.aload_n 0, 1) := by decide +kernel
theorem dX6_count_93 : decode cX6_count 93 = .ok (.getfield 33, 3) := by decide +kernel
theorem dX6_count_96 : decode cX6_count 96 = .ok (.invokevirtual 121, 3) := by decide +kernel
theorem dX6_count_99 : decode cX6_count 99 = .ok (.ireturn, 1) := by decide +kernel
theorem dX6_count_100 : decode cX6_count 100 = .ok (.aload_n 0, 1) := by decide +kernel
theorem dX6_count_101 : decode cX6_count 101 = .ok (.getfield 33, 3) := by decide +kernel
theorem dX6_count_104 : decode cX6_count 104 = .ok (.invokevirtual 125, 3) := by decide +kernel
theorem dX6_count_107 : decode cX6_count 107 = .ok (.ireturn, 1) := by decide +kernel
theorem dX6_count_108 : decode cX6_count 108 = .ok (.aload_n 0, 1) := by decide +kernel
theorem dX6_count_109 : decode cX6_count 109 = .ok (.getfield 33, 3) := by decide +kernel
theorem dX6_count_112 : decode cX6_count 112 = .ok (.aload_n 0, 1) := by decide +kernel
theorem dX6_count_113 : decode cX6_count 113 = .ok (.getfield 58, 3) := by decide +kernel
theorem dX6_count_116 : decode cX6_count 116 = .ok (.invokevirtual 128, 3) := by decide +kernel
theorem dX6_count_119 : decode cX6_count 119 = .ok (.ireturn, 1) := by decide +kernel
theorem dX6_count_120 : decode cX6_count 120 = .ok (.aload_n 0, 1) := by decide +kernel
theorem dX6_count_121 : decode cX6_count 121 = .ok (.getfield 33, 3) := by decide +kernel
theorem dX6_count_124 : decode cX6_count 124 = .ok (.getfield 132, 3) := by decide +kernel
theorem dX6_count_127 : decode cX6_count 127 = .ok (.ireturn, 1) := by decide +kernel
theorem dX6_count_128 : decode cX6_count 128 = .ok (.aload_n 0, 1) := by decide +kernel
theorem dX6_count_129 : decode cX6_count 129 = .ok (.getfield 33, 3) := by decide +kernel
theorem dX6_count_132 : decode cX6_count 132 = .ok (.getfield 135, 3) := by decide +kernel
theorem dX6_count_135 : decode cX6_count 135 = .ok (.ireturn, 1) := by decide +kernel
theorem dX6_count_136 : decode cX6_count 136 = .ok (.aload_n 0, 1) := by decide +kernel
theorem dX6_count_137 : decode cX6_count 137 = .ok (.getfield 33, 3) := by decide +kernel
theorem dX6_count_140 : decode cX6_count 140 = .ok (.getfield 138, 3) := by decide +kernel
theorem dX6_count_143 : decode cX6_count 143 = .ok (.ireturn, 1) := by decide +kernel
theorem dX6_count_144 : decode cX6_count 144 = .ok (.aload_n 0, 1) := by decide +kernel
theorem dX6_count_145 : decode cX6_count 145 = .ok (.getfield 33, 3) := by decide +kernel
theorem dX6_count_148 : decode cX6_count 148 = .ok (.getfield 141, 3) := by decide +kernel
theorem dX6_count_151 : decode cX6_count 151 = .ok (.ireturn, 1) := by decide +kernel
theorem dX6_count_152 : decode cX6_count 152 = .ok (.aload_n 0, 1) := by decide +kernel
theorem dX6_count_153 : decode cX6_count 153 = .ok (.getfield 33, 3) := by decide +kernel
theorem dX6_count_156 : decode cX6_count 156 = .ok (.getfield 144, 3) := by decide +kernel
theorem dX6_count_159 : decode cX6_count 159 = .ok (.ireturn, 1) := by decide +kernel
theorem dX6_count_160 : decode cX6_count 160 = .ok (.aload_n 0, 1) := by decide +kernel
theorem dX6_count_161 : decode cX6_count 161 = .ok (.getfield 33, 3) := by decide +kernel
theorem dX6_count_164 : decode cX6_count 164 = .ok (.invokevirtual 147, 3) := by decide +kernel
theorem dX6_count_167 : decode cX6_count 167 = .ok (.ireturn, 1) := by decide +kernel
theorem dX6_count_168 : decode cX6_count 168 = .ok (.new 84, 3) := by decide +kernel
theorem dX6_count_171 : decode cX6_count 171 = .ok (.dup, 1) := by decide +kernel
theorem dX6_count_172 : decode cX6_count 172 = .ok (.ldc 150, 2) := by decide +kernel
theorem dX6_count_174 : decode cX6_count 174 = .ok (.invokespecial 88, 3) := by decide +kernel
theorem dX6_count_177 : decode cX6_count 177 = .ok (.athrow, 1) := by decide +kernel
theorem dX6_setting_0 : decode cX6_setting 0 = .ok (.aload_n 0, 1) := by decide +kernel
theorem dX6_setting_1 : decode cX6_setting 1 = .ok (.invokevirtual 112, 3) := by decide +kernel
theorem dX6_setting_4 : decode cX6_setting 4 = .ok (.iload_n 1, 1) := by decide +kernel
theorem dX6_setting_5 : decode cX6_setting 5 = .ok (.tableswitch 87 0 5 #[39, 47, 55, 63, 71, 79], 39) := by decide +kernel
theorem dX6_setting_44 : decode cX6_setting 44 = .ok (.aload_n 0, 1) := by decide +kernel
theorem dX6_setting_45 : decode cX6_setting 45 = .ok (.getfield 58, 3) := by decide +kernel
theorem dX6_setting_48 : decode cX6_setting 48 = .ok (.getfield 152, 3) := by decide +kernel
theorem dX6_setting_51 : decode cX6_setting 51 = .ok (.ireturn, 1) := by decide +kernel
theorem dX6_setting_52 : decode cX6_setting 52 = .ok (.aload_n 0, 1) := by decide +kernel
theorem dX6_setting_53 : decode cX6_setting 53 = .ok (.getfield 58, 3) := by decide +kernel
theorem dX6_setting_56 : decode cX6_setting 56 = .ok (.getfield 155, 3) := by decide +kernel
theorem dX6_setting_59 : decode cX6_setting 59 = .ok (.ireturn, 1) := by decide +kernel
theorem dX6_setting_60 : decode cX6_setting 60 = .ok (.aload_n 0, 1) := by decide +kernel
theorem dX6_setting_61 : decode cX6_setting 61 = .ok (.getfield 58, 3) := by decide +kernel
theorem dX6_setting_64 : decode cX6_setting 64 = .ok (.getfield 158, 3) := by decide +kernel
theorem dX6_setting_67 : decode cX6_setting 67 = .ok (.ireturn, 1) := by decide +kernel
theorem dX6_setting_68 : decode cX6_setting 68 = .ok (.aload_n 0, 1) := by decide +kernel
theorem dX6_setting_69 : decode cX6_setting 69 = .ok (.getfield 58, 3) := by decide +kernel
theorem dX6_setting_72 : decode cX6_setting 72 = .ok (.getfield 161, 3) := by decide +kernel
theorem dX6_setting_75 : decode cX6_setting 75 = .ok (.ireturn, 1) := by decide +kernel
theorem dX6_setting_76 : decode cX6_setting 76 = .ok (.aload_n 0, 1) := by decide +kernel
theorem dX6_setting_77 : decode cX6_setting 77 = .ok (.getfield 58, 3) := by decide +kernel
theorem dX6_setting_80 : decode cX6_setting 80 = .ok (.getfield 164, 3) := by decide +kernel
theorem dX6_setting_83 : decode cX6_setting 83 = .ok (.ireturn, 1) := by decide +kernel
theorem dX6_setting_84 : decode cX6_setting 84 = .ok (.aload_n 0, 1) := by decide +kernel
theorem dX6_setting_85 : decode cX6_setting 85 = .ok (.getfield 58, 3) := by decide +kernel
theorem dX6_setting_88 : decode cX6_setting 88 = .ok (.getfield 167, 3) := by decide +kernel
theorem dX6_setting_91 : decode cX6_setting 91 = .ok (.ireturn, 1) := by decide +kernel
theorem dX6_setting_92 : decode cX6_setting 92 = .ok (.new 84, 3) := by decide +kernel
theorem dX6_setting_95 : decode cX6_setting 95 = .ok (.dup, 1) := by decide +kernel
theorem dX6_setting_96 : decode cX6_setting 96 = .ok (.ldc 170, 2) := by decide +kernel
theorem dX6_setting_98 : decode cX6_setting 98 = .ok (.invokespecial 88, 3) := by decide +kernel
theorem dX6_setting_101 : decode cX6_setting 101 = .ok (.athrow, 1) := by decide +kernel
theorem dX6_row_0 : decode cX6_row 0 = .ok (.aload_n 0, 1) := by decide +kernel
theorem dX6_row_1 : decode cX6_row 1 = .ok (.iload_n 1, 1) := by decide +kernel
theorem dX6_row_2 : decode cX6_row 2 = .ok (.invokevirtual 172, 3) := by decide +kernel
theorem dX6_row_5 : decode cX6_row 5 = .ok (.astore_n 3, 1) := by decide +kernel
theorem dX6_row_6 : decode cX6_row 6 = .ok (.iload_n 2, 1) := by decide +kernel
theorem dX6_row_7 : decode cX6_row 7 = .ok (.tableswitch 125 0 8 #[49, 54, 59, 76, 85, 90, 95, 104, 109], 49) := by decide +kernel
theorem dX6_row_56 : decode cX6_row 56 = .ok (.aload_n 3, 1) := by decide +kernel
theorem dX6_row_57 : decode cX6_row 57 = .ok (.getfield 176, 3) := by decide +kernel
theorem dX6_row_60 : decode cX6_row 60 = .ok (.ireturn, 1) := by decide +kernel
theorem dX6_row_61 : decode cX6_row 61 = .ok (.aload_n 3, 1) := by decide +kernel
theorem dX6_row_62 : decode cX6_row 62 = .ok (.getfield 181, 3) := by decide +kernel
theorem dX6_row_65 : decode cX6_row 65 = .ok (.ireturn, 1) := by decide +kernel
theorem dX6_row_66 : decode cX6_row 66 = .ok (.aload_n 0, 1) := by decide +kernel
theorem dX6_row_67 : decode cX6_row 67 = .ok (.getfield 58, 3) := by decide +kernel
theorem dX6_row_70 : decode cX6_row 70 = .ok (.getfield 152, 3) := by decide +kernel
theorem dX6_row_73 : decode cX6_row 73 = .ok (.aload_n 3, 1) := by decide +kernel
theorem dX6_row_74 : decode cX6_row 74 = .ok (.aload_n 0, 1) := by decide +kernel
theorem dX6_row_75 : decode cX6_row 75 = .ok (.getfield 58, 3) := by decide +kernel
theorem dX6_row_78 : decode cX6_row 78 = .ok (.invokevirtual 184, 3) := by decide +kernel
theorem dX6_row_81 : decode cX6_row 81 = .ok (.isub, 1) := by decide +kernel
theorem dX6_row_82 : decode cX6_row 82 = .ok (.ireturn, 1) := by decide +kernel
theorem dX6_row_83 : decode cX6_row 83 = .ok (.aload_n 3, 1) := by decide +kernel
theorem dX6_row_84 : decode cX6_row 84 = .ok (.aload_n 0, 1) := by decide +kernel
theorem dX6_row_85 : decode cX6_row 85 = .ok (.getfield 58, 3) := by decide +kernel
theorem dX6_row_88 : decode cX6_row 88 = .ok (.invokevirtual 184, 3) := by decide +kernel
theorem dX6_row_91 : decode cX6_row 91 = .ok (.ireturn, 1) := by decide +kernel
theorem dX6_row_92 : decode cX6_row 92 = .ok (.aload_n 3, 1) := by decide +kernel
theorem dX6_row_93 : decode cX6_row 93 = .ok (.getfield 187, 3) := by decide +kernel
theorem dX6_row_96 : decode cX6_row 96 = .ok (.ireturn, 1) := by decide +kernel
theorem dX6_row_97 : decode cX6_row 97 = .ok (.aload_n 3, 1) := by decide +kernel
theorem dX6_row_98 : decode cX6_row 98 = .ok (.getfield 190, 3) := by decide +kernel
theorem dX6_row_101 : decode cX6_row 101 = .ok (.ireturn, 1) := by decide +kernel
theorem dX6_row_102 : decode cX6_row 102 = .ok (.aload_n 3, 1) := by decide +kernel
theorem dX6_row_103 : decode cX6_row 103 = .ok (.aload_n 0, 1) := by decide +kernel
theorem dX6_row_104 : decode cX6_row 104 = .ok (.getfield 58, 3) := by decide +kernel
theorem dX6_row_107 : decode cX6_row 107 = .ok (.invokevirtual 193, 3) := by decide +kernel
theorem dX6_row_110 : decode cX6_row 110 = .ok (.ireturn, 1) := by decide +kernel
theorem dX6_row_111 : decode cX6_row 111 = .ok (.aload_n 3, 1) := by decide +kernel
theorem dX6_row_112 : decode cX6_row 112 = .ok (.getfield 196, 3) := by decide +kernel
theorem dX6_row_115 : decode cX6_row 115 = .ok (.ireturn, 1) := by decide +kernel
theorem dX6_row_116 : decode cX6_row 116 = .ok (.aload_n 3, 1) := by decide +kernel
theorem dX6_row_117 : decode cX6_row 117 = .ok (.invokevirtual 199, 3) := by decide +kernel
theorem dX6_row_120 : decode cX6_row 120 = .ok (.ifCond .eq 10, 3) := by decide +kernel
theorem dX6_row_123 : decode cX6_row 123 = .ok (.aload_n 3, 1) := by decide +kernel
theorem dX6_row_124 : decode cX6_row 124 = .ok (.getfield 203, 3) := by decide +kernel
theorem dX6_row_127 : decode cX6_row 127 = .ok (.goto 4, 3) := by decide +kernel
theorem dX6_row_130 : decode cX6_row 130 = .ok (.iconst (-1), 1) := by decide +kernel
theorem dX6_row_131 : decode cX6_row 131 = .ok (.ireturn, 1) := by decide +kernel
theorem dX6_row_132 : decode cX6_row 132 = .ok (.new 84, 3) := by decide +kernel
theorem dX6_row_135 : decode cX6_row 135 = .ok (.dup, 1) := by decide +kernel
theorem dX6_row_136 : decode cX6_row 136 = .ok (.ldc 206, 2) := by decide +kernel
theorem dX6_row_138 : decode cX6_row 138 = .ok (.invokespecial 88, 3) := by decide +kernel
theorem dX6_row_141 : decode cX6_row 141 = .ok (.athrow, 1) := by decide +kernel
theorem dX6_block_0 : decode cX6_block 0 = .ok (.aload_n 0, 1) := by decide +kernel
theorem dX6_block_1 : decode cX6_block 1 = .ok (.iload_n 1, 1) := by decide +kernel
theorem dX6_block_2 : decode cX6_block 2 = .ok (.invokevirtual 172, 3) := by decide +kernel
theorem dX6_block_5 : decode cX6_block 5 = .ok (.astore_n 3, 1) := by decide +kernel
theorem dX6_block_6 : decode cX6_block 6 = .ok (.iload_n 2, 1) := by decide +kernel
theorem dX6_block_7 : decode cX6_block 7 = .ok (.aload_n 3, 1) := by decide +kernel
theorem dX6_block_8 : decode cX6_block 8 = .ok (.getfield 176, 3) := by decide +kernel
theorem dX6_block_11 : decode cX6_block 11 = .ok (.invokestatic 208, 3) := by decide +kernel
theorem dX6_block_14 : decode cX6_block 14 = .ok (.aload_n 3, 1) := by decide +kernel
theorem dX6_block_15 : decode cX6_block 15 = .ok (.iload_n 2, 1) := by decide +kernel
theorem dX6_block_16 : decode cX6_block 16 = .ok (.invokevirtual 212, 3) := by decide +kernel
theorem dX6_block_19 : decode cX6_block 19 = .ok (.ireturn, 1) := by decide +kernel
theorem dX6_piece_0 : decode cX6_piece 0 = .ok (.aload_n 0, 1) := by decide +kernel
theorem dX6_piece_1 : decode cX6_piece 1 = .ok (.iload_n 1, 1) := by decide +kernel
theorem dX6_piece_2 : decode cX6_piece 2 = .ok (.invokevirtual 172, 3) := by decide +kernel
theorem dX6_piece_5 : decode cX6_piece 5 = .ok (.astore_n 3, 1) := by decide +kernel
theorem dX6_piece_6 : decode cX6_piece 6 = .ok (.iload_n 2, 1) := by decide +kernel
theorem dX6_piece_7 : decode cX6_piece 7 = .ok (.aload_n 3, 1) := by decide +kernel
theorem dX6_piece_8 : decode cX6_piece 8 = .ok (.getfield 181, 3) := by decide +kernel
theorem dX6_piece_11 : decode cX6_piece 11 = .ok (.invokestatic 208, 3) := by decide +kernel
theorem dX6_piece_14 : decode cX6_piece 14 = .ok (.aload_n 3, 1) := by decide +kernel
theorem dX6_piece_15 : decode cX6_piece 15 = .ok (.iload_n 2, 1) := by decide +kernel
theorem dX6_piece_16 : decode cX6_piece 16 = .ok (.invokevirtual 216, 3) := by decide +kernel
theorem dX6_piece_19 : decode cX6_piece 19 = .ok (.ireturn, 1) := by decide +kernel
theorem dX6_kind_0 : decode cX6_kind 0 = .ok (.aload_n 0, 1) := by decide +kernel
theorem dX6_kind_1 : decode cX6_kind 1 = .ok (.invokevirtual 112, 3) := by decide +kernel
theorem dX6_kind_4 : decode cX6_kind 4 = .ok (.aload_n 0, 1) := by decide +kernel
theorem dX6_kind_5 : decode cX6_kind 5 = .ok (.iload_n 1, 1) := by decide +kernel
theorem dX6_kind_6 : decode cX6_kind 6 = .ok (.invokevirtual 219, 3) := by decide +kernel
theorem dX6_kind_9 : decode cX6_kind 9 = .ok (.iload_n 2, 1) := by decide +kernel
theorem dX6_kind_10 : decode cX6_kind 10 = .ok (.tableswitch 77 0 3 #[30, 48, 58, 68], 30) := by decide +kernel
theorem dX6_kind_40 : decode cX6_kind 40 = .ok (.aload_n 0, 1) := by decide +kernel
theorem dX6_kind_41 : decode cX6_kind 41 = .ok (.getfield 58, 3) := by decide +kernel
theorem dX6_kind_44 : decode cX6_kind 44 = .ok (.getfield 223, 3) := by decide +kernel
theorem dX6_kind_47 : decode cX6_kind 47 = .ok (.iload_n 1, 1) := by decide +kernel
theorem dX6_kind_48 : decode cX6_kind 48 = .ok (.baload, 1) := by decide +kernel
theorem dX6_kind_49 : decode cX6_kind 49 = .ok (.ifCond .eq 7, 3) := by decide +kernel
theorem dX6_kind_52 : decode cX6_kind 52 = .ok (.iconst 1, 1) := by decide +kernel
theorem dX6_kind_53 : decode cX6_kind 53 = .ok (.goto 4, 3) := by decide +kernel
theorem dX6_kind_56 : decode cX6_kind 56 = .ok (.iconst 0, 1) := by decide +kernel
theorem dX6_kind_57 : decode cX6_kind 57 = .ok (.ireturn, 1) := by decide +kernel
theorem dX6_kind_58 : decode cX6_kind 58 = .ok (.aload_n 0, 1) := by decide +kernel
theorem dX6_kind_59 : decode cX6_kind 59 = .ok (.getfield 58, 3) := by decide +kernel
theorem dX6_kind_62 : decode cX6_kind 62 = .ok (.getfield 226, 3) := by decide +kernel
theorem dX6_kind_65 : decode cX6_kind 65 = .ok (.iload_n 1, 1) := by decide +kernel
theorem dX6_kind_66 : decode cX6_kind 66 = .ok (.iaload, 1) := by decide +kernel
theorem dX6_kind_67 : decode cX6_kind 67 = .ok (.ireturn, 1) := by decide +kernel
theorem dX6_kind_68 : decode cX6_kind 68 = .ok (.aload_n 0, 1) := by decide +kernel
theorem dX6_kind_69 : decode cX6_kind 69 = .ok (.getfield 33, 3) := by decide +kernel
theorem dX6_kind_72 : decode cX6_kind 72 = .ok (.getfield 230, 3) := by decide +kernel
theorem dX6_kind_75 : decode cX6_kind 75 = .ok (.iload_n 1, 1) := by decide +kernel
theorem dX6_kind_76 : decode cX6_kind 76 = .ok (.iaload, 1) := by decide +kernel
theorem dX6_kind_77 : decode cX6_kind 77 = .ok (.ireturn, 1) := by decide +kernel
theorem dX6_kind_78 : decode cX6_kind 78 = .ok (.aload_n 0, 1) := by decide +kernel
theorem dX6_kind_79 : decode cX6_kind 79 = .ok (.getfield 33, 3) := by decide +kernel
theorem dX6_kind_82 : decode cX6_kind 82 = .ok (.iload_n 1, 1) := by decide +kernel
theorem dX6_kind_83 : decode cX6_kind 83 = .ok (.invokevirtual 233, 3) := by decide +kernel
theorem dX6_kind_86 : decode cX6_kind 86 = .ok (.ireturn, 1) := by decide +kernel
theorem dX6_kind_87 : decode cX6_kind 87 = .ok (.new 84, 3) := by decide +kernel
theorem dX6_kind_90 : decode cX6_kind 90 = .ok (.dup, 1) := by decide +kernel
theorem dX6_kind_91 : decode cX6_kind 91 = .ok (.ldc 236, 2) := by decide +kernel
theorem dX6_kind_93 : decode cX6_kind 93 = .ok (.invokespecial 88, 3) := by decide +kernel
theorem dX6_kind_96 : decode cX6_kind 96 = .ok (.athrow, 1) := by decide +kernel
theorem dX6_kindOf_0 : decode cX6_kindOf 0 = .ok (.aload_n 0, 1) := by decide +kernel
theorem dX6_kindOf_1 : decode cX6_kindOf 1 = .ok (.invokevirtual 112, 3) := by decide +kernel
theorem dX6_kindOf_4 : decode cX6_kindOf 4 = .ok (.aload_n 0, 1) := by decide +kernel
theorem dX6_kindOf_5 : decode cX6_kindOf 5 = .ok (.getfield 58, 3) := by decide +kernel
theorem dX6_kindOf_8 : decode cX6_kindOf 8 = .ok (.iload_n 1, 1) := by decide +kernel
theorem dX6_kindOf_9 : decode cX6_kindOf 9 = .ok (.iload_n 2, 1) := by decide +kernel
theorem dX6_kindOf_10 : decode cX6_kindOf 10 = .ok (.invokevirtual 238, 3) := by decide +kernel
theorem dX6_kindOf_13 : decode cX6_kindOf 13 = .ok (.ireturn, 1) := by decide +kernel
theorem dX6_isTight_0 : decode cX6_isTight 0 = .ok (.aload_n 0, 1) := by decide +kernel
theorem dX6_isTight_1 : decode cX6_isTight 1 = .ok (.iload_n 1, 1) := by decide +kernel
theorem dX6_isTight_2 : decode cX6_isTight 2 = .ok (.invokevirtual 172, 3) := by decide +kernel
theorem dX6_isTight_5 : decode cX6_isTight 5 = .ok (.aload_n 0, 1) := by decide +kernel
theorem dX6_isTight_6 : decode cX6_isTight 6 = .ok (.getfield 58, 3) := by decide +kernel
theorem dX6_isTight_9 : decode cX6_isTight 9 = .ok (.invokevirtual 242, 3) := by decide +kernel
theorem dX6_isTight_12 : decode cX6_isTight 12 = .ok (.ireturn, 1) := by decide +kernel
theorem dX6_widestGap_0 : decode cX6_widestGap 0 = .ok (.aload_n 0, 1) := by decide +kernel
theorem dX6_widestGap_1 : decode cX6_widestGap 1 = .ok (.invokevirtual 112, 3) := by decide +kernel
theorem dX6_widestGap_4 : decode cX6_widestGap 4 = .ok (.iconst 0, 1) := by decide +kernel
theorem dX6_widestGap_5 : decode cX6_widestGap 5 = .ok (.istore_n 1, 1) := by decide +kernel
theorem dX6_widestGap_6 : decode cX6_widestGap 6 = .ok (.iconst 1, 1) := by decide +kernel
theorem dX6_widestGap_7 : decode cX6_widestGap 7 = .ok (.istore_n 2, 1) := by decide +kernel
theorem dX6_widestGap_8 : decode cX6_widestGap 8 = .ok (.iload_n 2, 1) := by decide +kernel
theorem dX6_widestGap_9 : decode cX6_widestGap 9 = .ok (.aload_n 0, 1) := by decide +kernel
theorem dX6_widestGap_10 : decode cX6_widestGap 10 = .ok (.getfield 58, 3) := by decide +kernel
theorem dX6_widestGap_13 : decode cX6_widestGap 13 = .ok (.getfield 115, 3) := by decide +kernel
theorem dX6_widestGap_16 : decode cX6_widestGap 16 = .ok (.if_icmp .ge 46, 3) := by decide +kernel
theorem dX6_widestGap_19 : decode cX6_widestGap 19 = .ok (.aload_n 0, 1) := by decide +kernel
theorem dX6_widestGap_20 : decode cX6_widestGap 20 = .ok (.getfield 33, 3) := by decide +kernel
theorem dX6_widestGap_23 : decode cX6_widestGap 23 = .ok (.getfield 246, 3) := by decide +kernel
theorem dX6_widestGap_26 : decode cX6_widestGap 26 = .ok (.iload_n 2, 1) := by decide +kernel
theorem dX6_widestGap_27 : decode cX6_widestGap 27 = .ok (.aaload, 1) := by decide +kernel
theorem dX6_widestGap_28 : decode cX6_widestGap 28 = .ok (.aload_n 0, 1) := by decide +kernel
theorem dX6_widestGap_29 : decode cX6_widestGap 29 = .ok (.getfield 58, 3) := by decide +kernel
theorem dX6_widestGap_32 : decode cX6_widestGap 32 = .ok (.invokevirtual 184, 3) := by decide +kernel
theorem dX6_widestGap_35 : decode cX6_widestGap 35 = .ok (.aload_n 0, 1) := by decide +kernel
theorem dX6_widestGap_36 : decode cX6_widestGap 36 = .ok (.getfield 33, 3) := by decide +kernel
theorem dX6_widestGap_39 : decode cX6_widestGap 39 = .ok (.getfield 246, 3) := by decide +kernel
theorem dX6_widestGap_42 : decode cX6_widestGap 42 = .ok (.iload_n 1, 1) := by decide +kernel
theorem dX6_widestGap_43 : decode cX6_widestGap 43 = .ok (.aaload, 1) := by decide +kernel
theorem dX6_widestGap_44 : decode cX6_widestGap 44 = .ok (.aload_n 0, 1) := by decide +kernel
theorem dX6_widestGap_45 : decode cX6_widestGap 45 = .ok (.getfield 58, 3) := by decide +kernel
theorem dX6_widestGap_48 : decode cX6_widestGap 48 = .ok (.invokevirtual 184, 3) := by decide +kernel
theorem dX6_widestGap_51 : decode cX6_widestGap 51 = .ok (.if_icmp .le 5, 3) := by decide +kernel
theorem dX6_widestGap_54 : decode cX6_widestGap 54 = .ok (.iload_n 2, 1) := by decide +kernel
theorem dX6_widestGap_55 : decode cX6_widestGap 55 = .ok (.istore_n 1, 1) := by decide +kernel
theorem dX6_widestGap_56 : decode cX6_widestGap 56 = .ok (.iinc 2 1, 3) := by decide +kernel
theorem dX6_widestGap_59 : decode cX6_widestGap 59 = .ok (.goto (-51), 3) := by decide +kernel
theorem dX6_widestGap_62 : decode cX6_widestGap 62 = .ok (.iload_n 1, 1) := by decide +kernel
theorem dX6_widestGap_63 : decode cX6_widestGap 63 = .ok (.ireturn, 1) := by decide +kernel
theorem dX6_loosest_0 : decode cX6_loosest 0 = .ok (.aload_n 0, 1) := by decide +kernel
theorem dX6_loosest_1 : decode cX6_loosest 1 = .ok (.invokevirtual 112, 3) := by decide +kernel
theorem dX6_loosest_4 : decode cX6_loosest 4 = .ok (.iconst (-1), 1) := by decide +kernel
theorem dX6_loosest_5 : decode cX6_loosest 5 = .ok (.istore_n 1, 1) := by decide +kernel
theorem dX6_loosest_6 : decode cX6_loosest 6 = .ok (.iconst (-1), 1) := by decide +kernel
theorem dX6_loosest_7 : decode cX6_loosest 7 = .ok (.istore_n 2, 1) := by decide +kernel
theorem dX6_loosest_8 : decode cX6_loosest 8 = .ok (.iconst 0, 1) := by decide +kernel
theorem dX6_loosest_9 : decode cX6_loosest 9 = .ok (.istore_n 3, 1) := by decide +kernel
theorem dX6_loosest_10 : decode cX6_loosest 10 = .ok (.iload_n 3, 1) := by decide +kernel
theorem dX6_loosest_11 : decode cX6_loosest 11 = .ok (.aload_n 0, 1) := by decide +kernel
theorem dX6_loosest_12 : decode cX6_loosest 12 = .ok (.getfield 58, 3) := by decide +kernel
theorem dX6_loosest_15 : decode cX6_loosest 15 = .ok (.getfield 115, 3) := by decide +kernel
theorem dX6_loosest_18 : decode cX6_loosest 18 = .ok (.if_icmp .ge 53, 3) := by decide +kernel
theorem dX6_loosest_21 : decode cX6_loosest 21 = .ok (.aload_n 0, 1) := by decide +kernel
theorem dX6_loosest_22 : decode cX6_loosest 22 = .ok (.getfield 33, 3) := by decide +kernel
theorem dX6_loosest_25 : decode cX6_loosest 25 = .ok (.getfield 246, 3) := by decide +kernel
theorem dX6_loosest_28 : decode cX6_loosest 28 = .ok (.iload_n 3, 1) := by decide +kernel
theorem dX6_loosest_29 : decode cX6_loosest 29 = .ok (.aaload, 1) := by decide +kernel
theorem dX6_loosest_30 : decode cX6_loosest 30 = .ok (.astore 4, 2) := by decide +kernel
theorem dX6_loosest_32 : decode cX6_loosest 32 = .ok (.aload 4, 2) := by decide +kernel
theorem dX6_loosest_34 : decode cX6_loosest 34 = .ok (.getfield 176, 3) := by decide +kernel
theorem dX6_loosest_37 : decode cX6_loosest 37 = .ok (.ifCond .le 28, 3) := by decide +kernel
theorem dX6_loosest_40 : decode cX6_loosest 40 = .ok (.aload 4, 2) := by decide +kernel
theorem dX6_loosest_42 : decode cX6_loosest 42 = .ok (.aload_n 0, 1) := by decide +kernel
theorem dX6_loosest_43 : decode cX6_loosest 43 = .ok (.getfield 58, 3) := by decide +kernel
theorem dX6_loosest_46 : decode cX6_loosest 46 = .ok (.invokevirtual 249, 3) := by decide +kernel
theorem dX6_loosest_49 : decode cX6_loosest 49 = .ok (.iload_n 2, 1) := by decide +kernel
theorem dX6_loosest_50 : decode cX6_loosest 50 = .ok (.if_icmp .le 15, 3) := by decide +kernel
theorem dX6_loosest_53 : decode cX6_loosest 53 = .ok (.iload_n 3, 1) := by decide +kernel
theorem dX6_loosest_54 : decode cX6_loosest 54 = .ok (.istore_n 1, 1) := by decide +kernel
theorem dX6_loosest_55 : decode cX6_loosest 55 = .ok (.aload 4, 2) := by decide +kernel
theorem dX6_loosest_57 : decode cX6_loosest 57 = .ok (.aload_n 0, 1) := by decide +kernel
theorem dX6_loosest_58 : decode cX6_loosest 58 = .ok (.getfield 58, 3) := by decide +kernel
theorem dX6_loosest_61 : decode cX6_loosest 61 = .ok (.invokevirtual 249, 3) := by decide +kernel
theorem dX6_loosest_64 : decode cX6_loosest 64 = .ok (.istore_n 2, 1) := by decide +kernel
theorem dX6_loosest_65 : decode cX6_loosest 65 = .ok (.iinc 3 1, 3) := by decide +kernel
theorem dX6_loosest_68 : decode cX6_loosest 68 = .ok (.goto (-58), 3) := by decide +kernel
theorem dX6_loosest_71 : decode cX6_loosest 71 = .ok (.iload_n 1, 1) := by decide +kernel
theorem dX6_loosest_72 : decode cX6_loosest 72 = .ok (.ireturn, 1) := by decide +kernel
theorem dX6_longestLeft_0 : decode cX6_longestLeft 0 = .ok (.aload_n 0, 1) := by decide +kernel
theorem dX6_longestLeft_1 : decode cX6_longestLeft 1 = .ok (.invokevirtual 112, 3) := by decide +kernel
theorem dX6_longestLeft_4 : decode cX6_longestLeft 4 = .ok (.iconst 0, 1) := by decide +kernel
theorem dX6_longestLeft_5 : decode cX6_longestLeft 5 = .ok (.istore_n 1, 1) := by decide +kernel
theorem dX6_longestLeft_6 : decode cX6_longestLeft 6 = .ok (.iload_n 1, 1) := by decide +kernel
theorem dX6_longestLeft_7 : decode cX6_longestLeft 7 = .ok (.aload_n 0, 1) := by decide +kernel
theorem dX6_longestLeft_8 : decode cX6_longestLeft 8 = .ok (.getfield 58, 3) := by decide +kernel
theorem dX6_longestLeft_11 : decode cX6_longestLeft 11 = .ok (.getfield 92, 3) := by decide +kernel
theorem dX6_longestLeft_14 : decode cX6_longestLeft 14 = .ok (.if_icmp .ge 33, 3) := by decide +kernel
theorem dX6_longestLeft_17 : decode cX6_longestLeft 17 = .ok (.aload_n 0, 1) := by decide +kernel
theorem dX6_longestLeft_18 : decode cX6_longestLeft 18 = .ok (.getfield 58, 3) := by decide +kernel
theorem dX6_longestLeft_21 : decode cX6_longestLeft 21 = .ok (.getfield 252, 3) := by decide +kernel
theorem dX6_longestLeft_24 : decode cX6_longestLeft 24 = .ok (.iload_n 1, 1) := by decide +kernel
theorem dX6_longestLeft_25 : decode cX6_longestLeft 25 = .ok (.iaload, 1) := by decide +kernel
theorem dX6_longestLeft_26 : decode cX6_longestLeft 26 = .ok (.istore_n 2, 1) := by decide +kernel
theorem dX6_longestLeft_27 : decode cX6_longestLeft 27 = .ok (.aload_n 0, 1) := by decide +kernel
theorem dX6_longestLeft_28 : decode cX6_longestLeft 28 = .ok (.getfield 33, 3) := by decide +kernel
theorem dX6_longestLeft_31 : decode cX6_longestLeft 31 = .ok (.getfield 230, 3) := by decide +kernel
theorem dX6_longestLeft_34 : decode cX6_longestLeft 34 = .ok (.iload_n 2, 1) := by decide +kernel
theorem dX6_longestLeft_35 : decode cX6_longestLeft 35 = .ok (.iaload, 1) := by decide +kernel
theorem dX6_longestLeft_36 : decode cX6_longestLeft 36 = .ok (.ifCond .le 5, 3) := by decide +kernel
theorem dX6_longestLeft_39 : decode cX6_longestLeft 39 = .ok (.iload_n 2, 1) := by decide +kernel
theorem dX6_longestLeft_40 : decode cX6_longestLeft 40 = .ok (.ireturn, 1) := by decide +kernel
theorem dX6_longestLeft_41 : decode cX6_longestLeft 41 = .ok (.iinc 1 1, 3) := by decide +kernel
theorem dX6_longestLeft_44 : decode cX6_longestLeft 44 = .ok (.goto (-38), 3) := by decide +kernel
theorem dX6_longestLeft_47 : decode cX6_longestLeft 47 = .ok (.iconst (-1), 1) := by decide +kernel
theorem dX6_longestLeft_48 : decode cX6_longestLeft 48 = .ok (.ireturn, 1) := by decide +kernel
theorem dX6_lengthLeft_0 : decode cX6_lengthLeft 0 = .ok (.aload_n 0, 1) := by decide +kernel
theorem dX6_lengthLeft_1 : decode cX6_lengthLeft 1 = .ok (.invokevirtual 112, 3) := by decide +kernel
theorem dX6_lengthLeft_4 : decode cX6_lengthLeft 4 = .ok (.iconst 0, 1) := by decide +kernel
theorem dX6_lengthLeft_5 : decode cX6_lengthLeft 5 = .ok (.istore_n 1, 1) := by decide +kernel
theorem dX6_lengthLeft_6 : decode cX6_lengthLeft 6 = .ok (.iconst 0, 1) := by decide +kernel
theorem dX6_lengthLeft_7 : decode cX6_lengthLeft 7 = .ok (.istore_n 2, 1) := by decide +kernel
theorem dX6_lengthLeft_8 : decode cX6_lengthLeft 8 = .ok (.iload_n 2, 1) := by decide +kernel
theorem dX6_lengthLeft_9 : decode cX6_lengthLeft 9 = .ok (.aload_n 0, 1) := by decide +kernel
theorem dX6_lengthLeft_10 : decode cX6_lengthLeft 10 = .ok (.getfield 58, 3) := by decide +kernel
theorem dX6_lengthLeft_13 : decode cX6_lengthLeft 13 = .ok (.getfield 92, 3) := by decide +kernel
theorem dX6_lengthLeft_16 : decode cX6_lengthLeft 16 = .ok (.if_icmp .ge 31, 3) := by decide +kernel
theorem dX6_lengthLeft_19 : decode cX6_lengthLeft 19 = .ok (.iload_n 1, 1) := by decide +kernel
theorem dX6_lengthLeft_20 : decode cX6_lengthLeft 20 = .ok (.aload_n 0, 1) := by decide +kernel
theorem dX6_lengthLeft_21 : decode cX6_lengthLeft 21 = .ok (.getfield 33, 3) := by decide +kernel
theorem dX6_lengthLeft_24 : decode cX6_lengthLeft 24 = .ok (.getfield 230, 3) := by decide +kernel
theorem dX6_lengthLeft_27 : decode cX6_lengthLeft 27 = .ok (.iload_n 2, 1) := by decide +kernel
theorem dX6_lengthLeft_28 : decode cX6_lengthLeft 28 = .ok (.iaload, 1) := by decide +kernel
theorem dX6_lengthLeft_29 : decode cX6_lengthLeft 29 = .ok (.aload_n 0, 1) := by decide +kernel
theorem dX6_lengthLeft_30 : decode cX6_lengthLeft 30 = .ok (.getfield 58, 3) := by decide +kernel
theorem dX6_lengthLeft_33 : decode cX6_lengthLeft 33 = .ok (.getfield 226, 3) := by decide +kernel
theorem dX6_lengthLeft_36 : decode cX6_lengthLeft 36 = .ok (.iload_n 2, 1) := by decide +kernel
theorem dX6_lengthLeft_37 : decode cX6_lengthLeft 37 = .ok (.iaload, 1) := by decide +kernel
theorem dX6_lengthLeft_38 : decode cX6_lengthLeft 38 = .ok (.imul, 1) := by decide +kernel
theorem dX6_lengthLeft_39 : decode cX6_lengthLeft 39 = .ok (.iadd, 1) := by decide +kernel
theorem dX6_lengthLeft_40 : decode cX6_lengthLeft 40 = .ok (.istore_n 1, 1) := by decide +kernel
theorem dX6_lengthLeft_41 : decode cX6_lengthLeft 41 = .ok (.iinc 2 1, 3) := by decide +kernel
theorem dX6_lengthLeft_44 : decode cX6_lengthLeft 44 = .ok (.goto (-36), 3) := by decide +kernel
theorem dX6_lengthLeft_47 : decode cX6_lengthLeft 47 = .ok (.iload_n 1, 1) := by decide +kernel
theorem dX6_lengthLeft_48 : decode cX6_lengthLeft 48 = .ok (.ireturn, 1) := by decide +kernel
theorem dX6_meanGap_0 : decode cX6_meanGap 0 = .ok (.aload_n 0, 1) := by decide +kernel
theorem dX6_meanGap_1 : decode cX6_meanGap 1 = .ok (.invokevirtual 112, 3) := by decide +kernel
theorem dX6_meanGap_4 : decode cX6_meanGap 4 = .ok (.iconst 0, 1) := by decide +kernel
theorem dX6_meanGap_5 : decode cX6_meanGap 5 = .ok (.istore_n 1, 1) := by decide +kernel
theorem dX6_meanGap_6 : decode cX6_meanGap 6 = .ok (.iconst 0, 1) := by decide +kernel
theorem dX6_meanGap_7 : decode cX6_meanGap 7 = .ok (.istore_n 2, 1) := by decide +kernel
theorem dX6_meanGap_8 : decode cX6_meanGap 8 = .ok (.iload_n 2, 1) := by decide +kernel
theorem dX6_meanGap_9 : decode cX6_meanGap 9 = .ok (.aload_n 0, 1) := by decide +kernel
theorem dX6_meanGap_10 : decode cX6_meanGap 10 = .ok (.getfield 58, 3) := by decide +kernel
theorem dX6_meanGap_13 : decode cX6_meanGap 13 = .ok (.getfield 115, 3) := by decide +kernel
theorem dX6_meanGap_16 : decode cX6_meanGap 16 = .ok (.if_icmp .ge 28, 3) := by decide +kernel
theorem dX6_meanGap_19 : decode cX6_meanGap 19 = .ok (.iload_n 1, 1) := by decide +kernel
theorem dX6_meanGap_20 : decode cX6_meanGap 20 = .ok (.aload_n 0, 1) := by decide +kernel
theorem dX6_meanGap_21 : decode cX6_meanGap 21 = .ok (.getfield 33, 3) := by decide +kernel
theorem dX6_meanGap_24 : decode cX6_meanGap 24 = .ok (.getfield 246, 3) := by decide +kernel
theorem dX6_meanGap_27 : decode cX6_meanGap 27 = .ok (.iload_n 2, 1) := by decide +kernel
theorem dX6_meanGap_28 : decode cX6_meanGap 28 = .ok (.aaload, 1) := by decide +kernel
theorem dX6_meanGap_29 : decode cX6_meanGap 29 = .ok (.aload_n 0, 1) := by decide +kernel
theorem dX6_meanGap_30 : decode cX6_meanGap 30 = .ok (.getfield 58, 3) := by decide +kernel
theorem dX6_meanGap_33 : decode cX6_meanGap 33 = .ok (.invokevirtual 184, 3) := by decide +kernel
theorem dX6_meanGap_36 : decode cX6_meanGap 36 = .ok (.iadd, 1) := by decide +kernel
theorem dX6_meanGap_37 : decode cX6_meanGap 37 = .ok (.istore_n 1, 1) := by decide +kernel
theorem dX6_meanGap_38 : decode cX6_meanGap 38 = .ok (.iinc 2 1, 3) := by decide +kernel
theorem dX6_meanGap_41 : decode cX6_meanGap 41 = .ok (.goto (-33), 3) := by decide +kernel
theorem dX6_meanGap_44 : decode cX6_meanGap 44 = .ok (.aload_n 0, 1) := by decide +kernel
theorem dX6_meanGap_45 : decode cX6_meanGap 45 = .ok (.getfield 58, 3) := by decide +kernel
theorem dX6_meanGap_48 : decode cX6_meanGap 48 = .ok (.getfield 115, 3) := by decide +kernel
theorem dX6_meanGap_51 : decode cX6_meanGap 51 = .ok (.ifCond .ne 7, 3) := by decide +kernel
theorem dX6_meanGap_54 : decode cX6_meanGap 54 = .ok (.dconst 0, 1) := by decide +kernel
theorem dX6_meanGap_55 : decode cX6_meanGap 55 = .ok (.goto 14, 3) := by decide +kernel
theorem dX6_meanGap_58 : decode cX6_meanGap 58 = .ok (.iload_n 1, 1) := by decide +kernel
theorem dX6_meanGap_59 : decode cX6_meanGap 59 = .ok (.i2d, 1) := by decide +kernel
theorem dX6_meanGap_60 : decode cX6_meanGap 60 = .ok (.aload_n 0, 1) := by decide +kernel
theorem dX6_meanGap_61 : decode cX6_meanGap 61 = .ok (.getfield 58, 3) := by decide +kernel
theorem dX6_meanGap_64 : decode cX6_meanGap 64 = .ok (.getfield 115, 3) := by decide +kernel
theorem dX6_meanGap_67 : decode cX6_meanGap 67 = .ok (.i2d, 1) := by decide +kernel
theorem dX6_meanGap_68 : decode cX6_meanGap 68 = .ok (.ddiv, 1) := by decide +kernel
theorem dX6_meanGap_69 : decode cX6_meanGap 69 = .ok (.dreturn, 1) := by decide +kernel
theorem dX6_woodShare_0 : decode cX6_woodShare 0 = .ok (.aload_n 0, 1) := by decide +kernel
theorem dX6_woodShare_1 : decode cX6_woodShare 1 = .ok (.invokevirtual 112, 3) := by decide +kernel
theorem dX6_woodShare_4 : decode cX6_woodShare 4 = .ok (.iconst 0, 1) := by decide +kernel
theorem dX6_woodShare_5 : decode cX6_woodShare 5 = .ok (.istore_n 1, 1) := by decide +kernel
theorem dX6_woodShare_6 : decode cX6_woodShare 6 = .ok (.iconst 0, 1) := by decide +kernel
theorem dX6_woodShare_7 : decode cX6_woodShare 7 = .ok (.istore_n 2, 1) := by decide +kernel
theorem dX6_woodShare_8 : decode cX6_woodShare 8 = .ok (.iload_n 2, 1) := by decide +kernel
theorem dX6_woodShare_9 : decode cX6_woodShare 9 = .ok (.aload_n 0, 1) := by decide +kernel
theorem dX6_woodShare_10 : decode cX6_woodShare 10 = .ok (.getfield 58, 3) := by decide +kernel
theorem dX6_woodShare_13 : decode cX6_woodShare 13 = .ok (.getfield 115, 3) := by decide +kernel
theorem dX6_woodShare_16 : decode cX6_woodShare 16 = .ok (.if_icmp .ge 28, 3) := by decide +kernel
theorem dX6_woodShare_19 : decode cX6_woodShare 19 = .ok (.iload_n 1, 1) := by decide +kernel
theorem dX6_woodShare_20 : decode cX6_woodShare 20 = .ok (.aload_n 0, 1) := by decide +kernel
theorem dX6_woodShare_21 : decode cX6_woodShare 21 = .ok (.getfield 33, 3) := by decide +kernel
theorem dX6_woodShare_24 : decode cX6_woodShare 24 = .ok (.getfield 246, 3) := by decide +kernel
theorem dX6_woodShare_27 : decode cX6_woodShare 27 = .ok (.iload_n 2, 1) := by decide +kernel
theorem dX6_woodShare_28 : decode cX6_woodShare 28 = .ok (.aaload, 1) := by decide +kernel
theorem dX6_woodShare_29 : decode cX6_woodShare 29 = .ok (.aload_n 0, 1) := by decide +kernel
theorem dX6_woodShare_30 : decode cX6_woodShare 30 = .ok (.getfield 58, 3) := by decide +kernel
theorem dX6_woodShare_33 : decode cX6_woodShare 33 = .ok (.invokevirtual 193, 3) := by decide +kernel
theorem dX6_woodShare_36 : decode cX6_woodShare 36 = .ok (.iadd, 1) := by decide +kernel
theorem dX6_woodShare_37 : decode cX6_woodShare 37 = .ok (.istore_n 1, 1) := by decide +kernel
theorem dX6_woodShare_38 : decode cX6_woodShare 38 = .ok (.iinc 2 1, 3) := by decide +kernel
theorem dX6_woodShare_41 : decode cX6_woodShare 41 = .ok (.goto (-33), 3) := by decide +kernel
theorem dX6_woodShare_44 : decode cX6_woodShare 44 = .ok (.iload_n 1, 1) := by decide +kernel
theorem dX6_woodShare_45 : decode cX6_woodShare 45 = .ok (.aload_n 0, 1) := by decide +kernel
theorem dX6_woodShare_46 : decode cX6_woodShare 46 = .ok (.getfield 33, 3) := by decide +kernel
theorem dX6_woodShare_49 : decode cX6_woodShare 49 = .ok (.invokevirtual 125, 3) := by decide +kernel
theorem dX6_woodShare_52 : decode cX6_woodShare 52 = .ok (.invokestatic 255, 3) := by decide +kernel
theorem dX6_woodShare_55 : decode cX6_woodShare 55 = .ok (.freturn, 1) := by decide +kernel
theorem dX6_goodShare_0 : decode cX6_goodShare 0 = .ok (.aload_n 0, 1) := by decide +kernel
theorem dX6_goodShare_1 : decode cX6_goodShare 1 = .ok (.invokevirtual 112, 3) := by decide +kernel
theorem dX6_goodShare_4 : decode cX6_goodShare 4 = .ok (.aload_n 0, 1) := by decide +kernel
theorem dX6_goodShare_5 : decode cX6_goodShare 5 = .ok (.getfield 33, 3) := by decide +kernel
theorem dX6_goodShare_8 : decode cX6_goodShare 8 = .ok (.getfield 135, 3) := by decide +kernel
theorem dX6_goodShare_11 : decode cX6_goodShare 11 = .ok (.aload_n 0, 1) := by decide +kernel
theorem dX6_goodShare_12 : decode cX6_goodShare 12 = .ok (.getfield 33, 3) := by decide +kernel
theorem dX6_goodShare_15 : decode cX6_goodShare 15 = .ok (.getfield 132, 3) := by decide +kernel
theorem dX6_goodShare_18 : decode cX6_goodShare 18 = .ok (.invokestatic 255, 3) := by decide +kernel
theorem dX6_goodShare_21 : decode cX6_goodShare 21 = .ok (.freturn, 1) := by decide +kernel
theorem dX6_share_0 : decode cX6_share 0 = .ok (.iload_n 1, 1) := by decide +kernel
theorem dX6_share_1 : decode cX6_share 1 = .ok (.ifCond .ne 7, 3) := by decide +kernel
theorem dX6_share_4 : decode cX6_share 4 = .ok (.fconst 0, 1) := by decide +kernel
theorem dX6_share_5 : decode cX6_share 5 = .ok (.goto 8, 3) := by decide +kernel
theorem dX6_share_8 : decode cX6_share 8 = .ok (.iload_n 0, 1) := by decide +kernel
theorem dX6_share_9 : decode cX6_share 9 = .ok (.i2f, 1) := by decide +kernel
theorem dX6_share_10 : decode cX6_share 10 = .ok (.iload_n 1, 1) := by decide +kernel
theorem dX6_share_11 : decode cX6_share 11 = .ok (.i2f, 1) := by decide +kernel
theorem dX6_share_12 : decode cX6_share 12 = .ok (.fdiv, 1) := by decide +kernel
theorem dX6_share_13 : decode cX6_share 13 = .ok (.freturn, 1) := by decide +kernel
theorem dX6_choice_0 : decode cX6_choice 0 = .ok (.aload_n 0, 1) := by decide +kernel
theorem dX6_choice_1 : decode cX6_choice 1 = .ok (.iload_n 1, 1) := by decide +kernel
theorem dX6_choice_2 : decode cX6_choice 2 = .ok (.invokevirtual 172, 3) := by decide +kernel
theorem dX6_choice_5 : decode cX6_choice 5 = .ok (.astore_n 3, 1) := by decide +kernel
theorem dX6_choice_6 : decode cX6_choice 6 = .ok (.iload_n 2, 1) := by decide +kernel
theorem dX6_choice_7 : decode cX6_choice 7 = .ok (.ifCond .lt 8, 3) := by decide +kernel
theorem dX6_choice_10 : decode cX6_choice 10 = .ok (.iload_n 2, 1) := by decide +kernel
theorem dX6_choice_11 : decode cX6_choice 11 = .ok (.iconst 3, 1) := by decide +kernel
theorem dX6_choice_12 : decode cX6_choice 12 = .ok (.if_icmp .le 14, 3) := by decide +kernel
theorem dX6_choice_15 : decode cX6_choice 15 = .ok (.new 84, 3) := by decide +kernel
theorem dX6_choice_18 : decode cX6_choice 18 = .ok (.dup, 1) := by decide +kernel
theorem dX6_choice_19 : decode cX6_choice 19 = .ok (.ldc_w 259, 3) := by decide +kernel
theorem dX6_choice_22 : decode cX6_choice 22 = .ok (.invokespecial 88, 3) := by decide +kernel
theorem dX6_choice_25 : decode cX6_choice 25 = .ok (.athrow, 1) := by decide +kernel
theorem dX6_choice_26 : decode cX6_choice 26 = .ok (.aload_n 0, 1) := by decide +kernel
theorem dX6_choice_27 : decode cX6_choice 27 = .ok (.aload_n 0, 1) := by decide +kernel
theorem dX6_choice_28 : decode cX6_choice 28 = .ok (.getfield 33, 3) := by decide +kernel
theorem dX6_choice_31 : decode cX6_choice 31 = .ok (.aload_n 3, 1) := by decide +kernel
theorem dX6_choice_32 : decode cX6_choice 32 = .ok (.invokevirtual 261, 3) := by decide +kernel
theorem dX6_choice_35 : decode cX6_choice 35 = .ok (.ifCond .ne 5, 3) := by decide +kernel
theorem dX6_choice_38 : decode cX6_choice 38 = .ok (.iconst (-1), 1) := by decide +kernel
theorem dX6_choice_39 : decode cX6_choice 39 = .ok (.ireturn, 1) := by decide +kernel
theorem dX6_choice_40 : decode cX6_choice 40 = .ok (.iload_n 2, 1) := by decide +kernel
theorem dX6_choice_41 : decode cX6_choice 41 = .ok (.tableswitch 51 0 2 #[27, 35, 43], 27) := by decide +kernel
theorem dX6_choice_68 : decode cX6_choice 68 = .ok (.aload_n 0, 1) := by decide +kernel
theorem dX6_choice_69 : decode cX6_choice 69 = .ok (.getfield 19, 3) := by decide +kernel
theorem dX6_choice_72 : decode cX6_choice 72 = .ok (.getfield 265, 3) := by decide +kernel
theorem dX6_choice_75 : decode cX6_choice 75 = .ok (.ireturn, 1) := by decide +kernel
theorem dX6_choice_76 : decode cX6_choice 76 = .ok (.aload_n 0, 1) := by decide +kernel
theorem dX6_choice_77 : decode cX6_choice 77 = .ok (.getfield 19, 3) := by decide +kernel
theorem dX6_choice_80 : decode cX6_choice 80 = .ok (.getfield 268, 3) := by decide +kernel
theorem dX6_choice_83 : decode cX6_choice 83 = .ok (.ireturn, 1) := by decide +kernel
theorem dX6_choice_84 : decode cX6_choice 84 = .ok (.aload_n 0, 1) := by decide +kernel
theorem dX6_choice_85 : decode cX6_choice 85 = .ok (.getfield 19, 3) := by decide +kernel
theorem dX6_choice_88 : decode cX6_choice 88 = .ok (.getfield 269, 3) := by decide +kernel
theorem dX6_choice_91 : decode cX6_choice 91 = .ok (.ireturn, 1) := by decide +kernel
theorem dX6_choice_92 : decode cX6_choice 92 = .ok (.aload_n 0, 1) := by decide +kernel
theorem dX6_choice_93 : decode cX6_choice 93 = .ok (.getfield 19, 3) := by decide +kernel
theorem dX6_choice_96 : decode cX6_choice 96 = .ok (.aload_n 0, 1) := by decide +kernel
theorem dX6_choice_97 : decode cX6_choice 97 = .ok (.getfield 58, 3) := by decide +kernel
theorem dX6_choice_100 : decode cX6_choice 100 = .ok (.invokevirtual 272, 3) := by decide +kernel
theorem dX6_choice_103 : decode cX6_choice 103 = .ok (.ireturn, 1) := by decide +kernel
theorem dX6_chosen_0 : decode cX6_chosen 0 = .ok (.aload_n 0, 1) := by decide +kernel
theorem dX6_chosen_1 : decode cX6_chosen 1 = .ok (.iload_n 1, 1) := by decide +kernel
theorem dX6_chosen_2 : decode cX6_chosen 2 = .ok (.invokevirtual 172, 3) := by decide +kernel
theorem dX6_chosen_5 : decode cX6_chosen 5 = .ok (.astore_n 3, 1) := by decide +kernel
theorem dX6_chosen_6 : decode cX6_chosen 6 = .ok (.aload_n 0, 1) := by decide +kernel
theorem dX6_chosen_7 : decode cX6_chosen 7 = .ok (.iload_n 2, 1) := by decide +kernel
theorem dX6_chosen_8 : decode cX6_chosen 8 = .ok (.invokevirtual 219, 3) := by decide +kernel
theorem dX6_chosen_11 : decode cX6_chosen 11 = .ok (.aload_n 0, 1) := by decide +kernel
theorem dX6_chosen_12 : decode cX6_chosen 12 = .ok (.aload_n 0, 1) := by decide +kernel
theorem dX6_chosen_13 : decode cX6_chosen 13 = .ok (.getfield 33, 3) := by decide +kernel
theorem dX6_chosen_16 : decode cX6_chosen 16 = .ok (.aload_n 3, 1) := by decide +kernel
theorem dX6_chosen_17 : decode cX6_chosen 17 = .ok (.invokevirtual 261, 3) := by decide +kernel
theorem dX6_chosen_20 : decode cX6_chosen 20 = .ok (.ifCond .eq 15, 3) := by decide +kernel
theorem dX6_chosen_23 : decode cX6_chosen 23 = .ok (.aload_n 0, 1) := by decide +kernel
theorem dX6_chosen_24 : decode cX6_chosen 24 = .ok (.getfield 19, 3) := by decide +kernel
theorem dX6_chosen_27 : decode cX6_chosen 27 = .ok (.getfield 275, 3) := by decide +kernel
theorem dX6_chosen_30 : decode cX6_chosen 30 = .ok (.iload_n 2, 1) := by decide +kernel
theorem dX6_chosen_31 : decode cX6_chosen 31 = .ok (.iaload, 1) := by decide +kernel
theorem dX6_chosen_32 : decode cX6_chosen 32 = .ok (.goto 4, 3) := by decide +kernel
theorem dX6_chosen_35 : decode cX6_chosen 35 = .ok (.iconst (-1), 1) := by decide +kernel
theorem dX6_chosen_36 : decode cX6_chosen 36 = .ok (.ireturn, 1) := by decide +kernel
theorem dX6_ways_0 : decode cX6_ways 0 = .ok (.aload_n 0, 1) := by decide +kernel
theorem dX6_ways_1 : decode cX6_ways 1 = .ok (.iload_n 1, 1) := by decide +kernel
theorem dX6_ways_2 : decode cX6_ways 2 = .ok (.invokevirtual 172, 3) := by decide +kernel
theorem dX6_ways_5 : decode cX6_ways 5 = .ok (.astore_n 2, 1) := by decide +kernel
theorem dX6_ways_6 : decode cX6_ways 6 = .ok (.aload_n 0, 1) := by decide +kernel
theorem dX6_ways_7 : decode cX6_ways 7 = .ok (.getfield 19, 3) := by decide +kernel
theorem dX6_ways_10 : decode cX6_ways 10 = .ok (.aload_n 0, 1) := by decide +kernel
theorem dX6_ways_11 : decode cX6_ways 11 = .ok (.getfield 33, 3) := by decide +kernel
theorem dX6_ways_14 : decode cX6_ways 14 = .ok (.invokevirtual 278, 3) := by decide +kernel
theorem dX6_ways_17 : decode cX6_ways 17 = .ok (.aload_n 0, 1) := by decide +kernel
theorem dX6_ways_18 : decode cX6_ways 18 = .ok (.getfield 19, 3) := by decide +kernel
theorem dX6_ways_21 : decode cX6_ways 21 = .ok (.aload_n 0, 1) := by decide +kernel
theorem dX6_ways_22 : decode cX6_ways 22 = .ok (.getfield 58, 3) := by decide +kernel
theorem dX6_ways_25 : decode cX6_ways 25 = .ok (.aload_n 2, 1) := by decide +kernel
theorem dX6_ways_26 : decode cX6_ways 26 = .ok (.aload_n 0, 1) := by decide +kernel
theorem dX6_ways_27 : decode cX6_ways 27 = .ok (.getfield 58, 3) := by decide +kernel
theorem dX6_ways_30 : decode cX6_ways 30 = .ok (.invokevirtual 281, 3) := by decide +kernel
theorem dX6_ways_33 : decode cX6_ways 33 = .ok (.aload_n 0, 1) := by decide +kernel
theorem dX6_ways_34 : decode cX6_ways 34 = .ok (.getfield 33, 3) := by decide +kernel
theorem dX6_ways_37 : decode cX6_ways 37 = .ok (.aload_n 2, 1) := by decide +kernel
theorem dX6_ways_38 : decode cX6_ways 38 = .ok (.invokevirtual 284, 3) := by decide +kernel
theorem dX6_ways_41 : decode cX6_ways 41 = .ok (.invokevirtual 288, 3) := by decide +kernel
theorem dX6_ways_44 : decode cX6_ways 44 = .ok (.ireturn, 1) := by decide +kernel
theorem dX6_nearest_0 : decode cX6_nearest 0 = .ok (.aload_n 0, 1) := by decide +kernel
theorem dX6_nearest_1 : decode cX6_nearest 1 = .ok (.iload_n 1, 1) := by decide +kernel
theorem dX6_nearest_2 : decode cX6_nearest 2 = .ok (.invokevirtual 172, 3) := by decide +kernel
theorem dX6_nearest_5 : decode cX6_nearest 5 = .ok (.astore_n 2, 1) := by decide +kernel
theorem dX6_nearest_6 : decode cX6_nearest 6 = .ok (.aload_n 2, 1) := by decide +kernel
theorem dX6_nearest_7 : decode cX6_nearest 7 = .ok (.aload_n 0, 1) := by decide +kernel
theorem dX6_nearest_8 : decode cX6_nearest 8 = .ok (.getfield 58, 3) := by decide +kernel
theorem dX6_nearest_11 : decode cX6_nearest 11 = .ok (.invokevirtual 281, 3) := by decide +kernel
theorem dX6_nearest_14 : decode cX6_nearest 14 = .ok (.aload_n 2, 1) := by decide +kernel
theorem dX6_nearest_15 : decode cX6_nearest 15 = .ok (.invokevirtual 199, 3) := by decide +kernel
theorem dX6_nearest_18 : decode cX6_nearest 18 = .ok (.ifCond .eq 13, 3) := by decide +kernel
theorem dX6_nearest_21 : decode cX6_nearest 21 = .ok (.aload_n 0, 1) := by decide +kernel
theorem dX6_nearest_22 : decode cX6_nearest 22 = .ok (.getfield 58, 3) := by decide +kernel
theorem dX6_nearest_25 : decode cX6_nearest 25 = .ok (.getfield 155, 3) := by decide +kernel
theorem dX6_nearest_28 : decode cX6_nearest 28 = .ok (.goto 4, 3) := by decide +kernel
theorem dX6_nearest_31 : decode cX6_nearest 31 = .ok (.iconst 0, 1) := by decide +kernel
theorem dX6_nearest_32 : decode cX6_nearest 32 = .ok (.isub, 1) := by decide +kernel
theorem dX6_nearest_33 : decode cX6_nearest 33 = .ok (.istore_n 3, 1) := by decide +kernel
theorem dX6_nearest_34 : decode cX6_nearest 34 = .ok (.aload_n 2, 1) := by decide +kernel
theorem dX6_nearest_35 : decode cX6_nearest 35 = .ok (.invokevirtual 199, 3) := by decide +kernel
theorem dX6_nearest_38 : decode cX6_nearest 38 = .ok (.ifCond .eq 13, 3) := by decide +kernel
theorem dX6_nearest_41 : decode cX6_nearest 41 = .ok (.aload_n 0, 1) := by decide +kernel
theorem dX6_nearest_42 : decode cX6_nearest 42 = .ok (.getfield 58, 3) := by decide +kernel
theorem dX6_nearest_45 : decode cX6_nearest 45 = .ok (.getfield 158, 3) := by decide +kernel
theorem dX6_nearest_48 : decode cX6_nearest 48 = .ok (.goto 4, 3) := by decide +kernel
theorem dX6_nearest_51 : decode cX6_nearest 51 = .ok (.iconst 0, 1) := by decide +kernel
theorem dX6_nearest_52 : decode cX6_nearest 52 = .ok (.istore 4, 2) := by decide +kernel
theorem dX6_nearest_54 : decode cX6_nearest 54 = .ok (.aload_n 0, 1) := by decide +kernel
theorem dX6_nearest_55 : decode cX6_nearest 55 = .ok (.getfield 19, 3) := by decide +kernel
theorem dX6_nearest_58 : decode cX6_nearest 58 = .ok (.aload_n 0, 1) := by decide +kernel
theorem dX6_nearest_59 : decode cX6_nearest 59 = .ok (.getfield 33, 3) := by decide +kernel
theorem dX6_nearest_62 : decode cX6_nearest 62 = .ok (.invokevirtual 278, 3) := by decide +kernel
theorem dX6_nearest_65 : decode cX6_nearest 65 = .ok (.aload_n 0, 1) := by decide +kernel
theorem dX6_nearest_66 : decode cX6_nearest 66 = .ok (.getfield 19, 3) := by decide +kernel
theorem dX6_nearest_69 : decode cX6_nearest 69 = .ok (.aload_n 0, 1) := by decide +kernel
theorem dX6_nearest_70 : decode cX6_nearest 70 = .ok (.getfield 58, 3) := by decide +kernel
theorem dX6_nearest_73 : decode cX6_nearest 73 = .ok (.invokevirtual 292, 3) := by decide +kernel
theorem dX6_nearest_76 : decode cX6_nearest 76 = .ok (.iload_n 3, 1) := by decide +kernel
theorem dX6_nearest_77 : decode cX6_nearest 77 = .ok (.istore 5, 2) := by decide +kernel
theorem dX6_nearest_79 : decode cX6_nearest 79 = .ok (.iload 5, 2) := by decide +kernel
theorem dX6_nearest_81 : decode cX6_nearest 81 = .ok (.ifCond .le 33, 3) := by decide +kernel
theorem dX6_nearest_84 : decode cX6_nearest 84 = .ok (.aload_n 0, 1) := by decide +kernel
theorem dX6_nearest_85 : decode cX6_nearest 85 = .ok (.getfield 19, 3) := by decide +kernel
theorem dX6_nearest_88 : decode cX6_nearest 88 = .ok (.iload 5, 2) := by decide +kernel
theorem dX6_nearest_90 : decode cX6_nearest 90 = .ok (.invokevirtual 296, 3) := by decide +kernel
theorem dX6_nearest_93 : decode cX6_nearest 93 = .ok (.ifCond .eq 15, 3) := by decide +kernel
theorem dX6_nearest_96 : decode cX6_nearest 96 = .ok (.iconst 0, 1) := by decide +kernel
theorem dX6_nearest_97 : decode cX6_nearest 97 = .ok (.iload_n 3, 1) := by decide +kernel
theorem dX6_nearest_98 : decode cX6_nearest 98 = .ok (.iload 5, 2) := by decide +kernel
theorem dX6_nearest_100 : decode cX6_nearest 100 = .ok (.isub, 1) := by decide +kernel
theorem dX6_nearest_101 : decode cX6_nearest 101 = .ok (.iload 4, 2) := by decide +kernel
theorem dX6_nearest_103 : decode cX6_nearest 103 = .ok (.isub, 1) := by decide +kernel
theorem dX6_nearest_104 : decode cX6_nearest 104 = .ok (.invokestatic 300, 3) := by decide +kernel
theorem dX6_nearest_107 : decode cX6_nearest 107 = .ok (.ireturn, 1) := by decide +kernel
theorem dX6_nearest_108 : decode cX6_nearest 108 = .ok (.iinc 5 (-1), 3) := by decide +kernel
theorem dX6_nearest_111 : decode cX6_nearest 111 = .ok (.goto (-32), 3) := by decide +kernel
theorem dX6_nearest_114 : decode cX6_nearest 114 = .ok (.iconst 0, 1) := by decide +kernel
theorem dX6_nearest_115 : decode cX6_nearest 115 = .ok (.iload_n 3, 1) := by decide +kernel
theorem dX6_nearest_116 : decode cX6_nearest 116 = .ok (.iload 4, 2) := by decide +kernel
theorem dX6_nearest_118 : decode cX6_nearest 118 = .ok (.isub, 1) := by decide +kernel
theorem dX6_nearest_119 : decode cX6_nearest 119 = .ok (.invokestatic 300, 3) := by decide +kernel
theorem dX6_nearest_122 : decode cX6_nearest 122 = .ok (.ireturn, 1) := by decide +kernel
theorem dX6_fewestAt_0 : decode cX6_fewestAt 0 = .ok (.aload_n 0, 1) := by decide +kernel
theorem dX6_fewestAt_1 : decode cX6_fewestAt 1 = .ok (.iload_n 1, 1) := by decide +kernel
theorem dX6_fewestAt_2 : decode cX6_fewestAt 2 = .ok (.invokevirtual 172, 3) := by decide +kernel
theorem dX6_fewestAt_5 : decode cX6_fewestAt 5 = .ok (.astore_n 3, 1) := by decide +kernel
theorem dX6_fewestAt_6 : decode cX6_fewestAt 6 = .ok (.iload_n 2, 1) := by decide +kernel
theorem dX6_fewestAt_7 : decode cX6_fewestAt 7 = .ok (.invokestatic 306, 3) := by decide +kernel
theorem dX6_fewestAt_10 : decode cX6_fewestAt 10 = .ok (.aload_n 0, 1) := by decide +kernel
theorem dX6_fewestAt_11 : decode cX6_fewestAt 11 = .ok (.getfield 19, 3) := by decide +kernel
theorem dX6_fewestAt_14 : decode cX6_fewestAt 14 = .ok (.aload_n 0, 1) := by decide +kernel
theorem dX6_fewestAt_15 : decode cX6_fewestAt 15 = .ok (.getfield 33, 3) := by decide +kernel
theorem dX6_fewestAt_18 : decode cX6_fewestAt 18 = .ok (.invokevirtual 278, 3) := by decide +kernel
theorem dX6_fewestAt_21 : decode cX6_fewestAt 21 = .ok (.aload_n 0, 1) := by decide +kernel
theorem dX6_fewestAt_22 : decode cX6_fewestAt 22 = .ok (.getfield 19, 3) := by decide +kernel
theorem dX6_fewestAt_25 : decode cX6_fewestAt 25 = .ok (.aload_n 0, 1) := by decide +kernel
theorem dX6_fewestAt_26 : decode cX6_fewestAt 26 = .ok (.getfield 58, 3) := by decide +kernel
theorem dX6_fewestAt_29 : decode cX6_fewestAt 29 = .ok (.invokevirtual 292, 3) := by decide +kernel
theorem dX6_fewestAt_32 : decode cX6_fewestAt 32 = .ok (.aload_n 0, 1) := by decide +kernel
theorem dX6_fewestAt_33 : decode cX6_fewestAt 33 = .ok (.aload_n 3, 1) := by decide +kernel
theorem dX6_fewestAt_34 : decode cX6_fewestAt 34 = .ok (.iload_n 2, 1) := by decide +kernel
theorem dX6_fewestAt_35 : decode cX6_fewestAt 35 = .ok (.invokevirtual 309, 3) := by decide +kernel
theorem dX6_fewestAt_38 : decode cX6_fewestAt 38 = .ok (.ireturn, 1) := by decide +kernel
theorem dX6_rowFor_0 : decode cX6_rowFor 0 = .ok (.aload_n 0, 1) := by decide +kernel
theorem dX6_rowFor_1 : decode cX6_rowFor 1 = .ok (.invokevirtual 112, 3) := by decide +kernel
theorem dX6_rowFor_4 : decode cX6_rowFor 4 = .ok (.iload_n 1, 1) := by decide +kernel
theorem dX6_rowFor_5 : decode cX6_rowFor 5 = .ok (.invokestatic 306, 3) := by decide +kernel
theorem dX6_rowFor_8 : decode cX6_rowFor 8 = .ok (.aload_n 0, 1) := by decide +kernel
theorem dX6_rowFor_9 : decode cX6_rowFor 9 = .ok (.getfield 19, 3) := by decide +kernel
theorem dX6_rowFor_12 : decode cX6_rowFor 12 = .ok (.aload_n 0, 1) := by decide +kernel
theorem dX6_rowFor_13 : decode cX6_rowFor 13 = .ok (.getfield 33, 3) := by decide +kernel
theorem dX6_rowFor_16 : decode cX6_rowFor 16 = .ok (.invokevirtual 278, 3) := by decide +kernel
theorem dX6_rowFor_19 : decode cX6_rowFor 19 = .ok (.aload_n 0, 1) := by decide +kernel
theorem dX6_rowFor_20 : decode cX6_rowFor 20 = .ok (.getfield 19, 3) := by decide +kernel
theorem dX6_rowFor_23 : decode cX6_rowFor 23 = .ok (.aload_n 0, 1) := by decide +kernel
theorem dX6_rowFor_24 : decode cX6_rowFor 24 = .ok (.getfield 58, 3) := by decide +kernel
theorem dX6_rowFor_27 : decode cX6_rowFor 27 = .ok (.invokevirtual 292, 3) := by decide +kernel
theorem dX6_rowFor_30 : decode cX6_rowFor 30 = .ok (.iconst (-1), 1) := by decide +kernel
theorem dX6_rowFor_31 : decode cX6_rowFor 31 = .ok (.istore_n 2, 1) := by decide +kernel
theorem dX6_rowFor_32 : decode cX6_rowFor 32 = .ok (.ldc_w 313, 3) := by decide +kernel
theorem dX6_rowFor_35 : decode cX6_rowFor 35 = .ok (.istore_n 3, 1) := by decide +kernel
theorem dX6_rowFor_36 : decode cX6_rowFor 36 = .ok (.iconst 0, 1) := by decide +kernel
theorem dX6_rowFor_37 : decode cX6_rowFor 37 = .ok (.istore 4, 2) := by decide +kernel
theorem dX6_rowFor_39 : decode cX6_rowFor 39 = .ok (.iload 4, 2) := by decide +kernel
theorem dX6_rowFor_41 : decode cX6_rowFor 41 = .ok (.aload_n 0, 1) := by decide +kernel
theorem dX6_rowFor_42 : decode cX6_rowFor 42 = .ok (.getfield 58, 3) := by decide +kernel
theorem dX6_rowFor_45 : decode cX6_rowFor 45 = .ok (.getfield 115, 3) := by decide +kernel
theorem dX6_rowFor_48 : decode cX6_rowFor 48 = .ok (.if_icmp .ge 44, 3) := by decide +kernel
theorem dX6_rowFor_51 : decode cX6_rowFor 51 = .ok (.aload_n 0, 1) := by decide +kernel
theorem dX6_rowFor_52 : decode cX6_rowFor 52 = .ok (.aload_n 0, 1) := by decide +kernel
theorem dX6_rowFor_53 : decode cX6_rowFor 53 = .ok (.getfield 33, 3) := by decide +kernel
theorem dX6_rowFor_56 : decode cX6_rowFor 56 = .ok (.getfield 246, 3) := by decide +kernel
theorem dX6_rowFor_59 : decode cX6_rowFor 59 = .ok (.iload 4, 2) := by decide +kernel
theorem dX6_rowFor_61 : decode cX6_rowFor 61 = .ok (.aaload, 1) := by decide +kernel
theorem dX6_rowFor_62 : decode cX6_rowFor 62 = .ok (.iload_n 1, 1) := by decide +kernel
theorem dX6_rowFor_63 : decode cX6_rowFor 63 = .ok (.invokevirtual 309, 3) := by decide +kernel
theorem dX6_rowFor_66 : decode cX6_rowFor 66 = .ok (.istore 5, 2) := by decide +kernel
theorem dX6_rowFor_68 : decode cX6_rowFor 68 = .ok (.iload 5, 2) := by decide +kernel
theorem dX6_rowFor_70 : decode cX6_rowFor 70 = .ok (.iconst (-1), 1) := by decide +kernel
theorem dX6_rowFor_71 : decode cX6_rowFor 71 = .ok (.if_icmp .eq 15, 3) := by decide +kernel
theorem dX6_rowFor_74 : decode cX6_rowFor 74 = .ok (.iload 5, 2) := by decide +kernel
theorem dX6_rowFor_76 : decode cX6_rowFor 76 = .ok (.iload_n 3, 1) := by decide +kernel
theorem dX6_rowFor_77 : decode cX6_rowFor 77 = .ok (.if_icmp .ge 9, 3) := by decide +kernel
theorem dX6_rowFor_80 : decode cX6_rowFor 80 = .ok (.iload 4, 2) := by decide +kernel
theorem dX6_rowFor_82 : decode cX6_rowFor 82 = .ok (.istore_n 2, 1) := by decide +kernel
theorem dX6_rowFor_83 : decode cX6_rowFor 83 = .ok (.iload 5, 2) := by decide +kernel
theorem dX6_rowFor_85 : decode cX6_rowFor 85 = .ok (.istore_n 3, 1) := by decide +kernel
theorem dX6_rowFor_86 : decode cX6_rowFor 86 = .ok (.iinc 4 1, 3) := by decide +kernel
theorem dX6_rowFor_89 : decode cX6_rowFor 89 = .ok (.goto (-50), 3) := by decide +kernel
theorem dX6_rowFor_92 : decode cX6_rowFor 92 = .ok (.iload_n 2, 1) := by decide +kernel
theorem dX6_rowFor_93 : decode cX6_rowFor 93 = .ok (.ireturn, 1) := by decide +kernel
theorem dX6_fewestWith_0 : decode cX6_fewestWith 0 = .ok (.aload_n 1, 1) := by decide +kernel
theorem dX6_fewestWith_1 : decode cX6_fewestWith 1 = .ok (.aload_n 0, 1) := by decide +kernel
theorem dX6_fewestWith_2 : decode cX6_fewestWith 2 = .ok (.getfield 58, 3) := by decide +kernel
