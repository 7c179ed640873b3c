theorem dX6_quoin_11 : decode cX6_quoin 11 = .ok (.if_icmp .ne 14, 3) := by decide +kernel
theorem dX6_quoin_14 : decode cX6_quoin 14 = .ok (.new 84, 3) := by decide +kernel
theorem dX6_quoin_17 : decode cX6_quoin 17 = .ok (.dup, 1) := by decide +kernel
theorem dX6_quoin_18 : decode cX6_quoin 18 = .ok (.ldc_w 397, 3) := by decide +kernel
theorem dX6_quoin_21 : decode cX6_quoin 21 = .ok (.invokespecial 88, 3) := by decide +kernel
theorem dX6_quoin_24 : decode cX6_quoin 24 = .ok (.athrow, 1) := by decide +kernel
theorem dX6_quoin_25 : decode cX6_quoin 25 = .ok (.iload_n 2, 1) := by decide +kernel
theorem dX6_quoin_26 : decode cX6_quoin 26 = .ok (.ifCond .eq 42, 3) := by decide +kernel
theorem dX6_quoin_29 : decode cX6_quoin 29 = .ok (.aload_n 0, 1) := by decide +kernel
theorem dX6_quoin_30 : decode cX6_quoin 30 = .ok (.getfield 33, 3) := by decide +kernel
theorem dX6_quoin_33 : decode cX6_quoin 33 = .ok (.getfield 118, 3) := by decide +kernel
theorem dX6_quoin_36 : decode cX6_quoin 36 = .ok (.ifCond .eq 21, 3) := by decide +kernel
theorem dX6_quoin_39 : decode cX6_quoin 39 = .ok (.aload_n 0, 1) := by decide +kernel
theorem dX6_quoin_40 : decode cX6_quoin 40 = .ok (.getfield 58, 3) := by decide +kernel
theorem dX6_quoin_43 : decode cX6_quoin 43 = .ok (.getfield 155, 3) := by decide +kernel
theorem dX6_quoin_46 : decode cX6_quoin 46 = .ok (.aload_n 3, 1) := by decide +kernel
theorem dX6_quoin_47 : decode cX6_quoin 47 = .ok (.aload_n 0, 1) := by decide +kernel
theorem dX6_quoin_48 : decode cX6_quoin 48 = .ok (.getfield 58, 3) := by decide +kernel
theorem dX6_quoin_51 : decode cX6_quoin 51 = .ok (.invokevirtual 184, 3) := by decide +kernel
theorem dX6_quoin_54 : decode cX6_quoin 54 = .ok (.if_icmp .le 14, 3) := by decide +kernel
theorem dX6_quoin_57 : decode cX6_quoin 57 = .ok (.new 84, 3) := by decide +kernel
theorem dX6_quoin_60 : decode cX6_quoin 60 = .ok (.dup, 1) := by decide +kernel
theorem dX6_quoin_61 : decode cX6_quoin 61 = .ok (.ldc_w 399, 3) := by decide +kernel
theorem dX6_quoin_64 : decode cX6_quoin 64 = .ok (.invokespecial 88, 3) := by decide +kernel
theorem dX6_quoin_67 : decode cX6_quoin 67 = .ok (.athrow, 1) := by decide +kernel
theorem dX6_quoin_68 : decode cX6_quoin 68 = .ok (.aload_n 0, 1) := by decide +kernel
theorem dX6_quoin_69 : decode cX6_quoin 69 = .ok (.getfield 26, 3) := by decide +kernel
theorem dX6_quoin_72 : decode cX6_quoin 72 = .ok (.aload_n 0, 1) := by decide +kernel
theorem dX6_quoin_73 : decode cX6_quoin 73 = .ok (.getfield 33, 3) := by decide +kernel
theorem dX6_quoin_76 : decode cX6_quoin 76 = .ok (.invokevirtual 378, 3) := by decide +kernel
theorem dX6_quoin_79 : decode cX6_quoin 79 = .ok (.iload_n 2, 1) := by decide +kernel
theorem dX6_quoin_80 : decode cX6_quoin 80 = .ok (.ifCond .eq 15, 3) := by decide +kernel
theorem dX6_quoin_83 : decode cX6_quoin 83 = .ok (.aload_n 0, 1) := by decide +kernel
theorem dX6_quoin_84 : decode cX6_quoin 84 = .ok (.getfield 33, 3) := by decide +kernel
theorem dX6_quoin_87 : decode cX6_quoin 87 = .ok (.aload_n 3, 1) := by decide +kernel
theorem dX6_quoin_88 : decode cX6_quoin 88 = .ok (.iconst 0, 1) := by decide +kernel
theorem dX6_quoin_89 : decode cX6_quoin 89 = .ok (.invokevirtual 401, 3) := by decide +kernel
theorem dX6_quoin_92 : decode cX6_quoin 92 = .ok (.goto 11, 3) := by decide +kernel
theorem dX6_quoin_95 : decode cX6_quoin 95 = .ok (.aload_n 0, 1) := by decide +kernel
theorem dX6_quoin_96 : decode cX6_quoin 96 = .ok (.getfield 33, 3) := by decide +kernel
theorem dX6_quoin_99 : decode cX6_quoin 99 = .ok (.aload_n 3, 1) := by decide +kernel
theorem dX6_quoin_100 : decode cX6_quoin 100 = .ok (.invokevirtual 405, 3) := by decide +kernel
theorem dX6_quoin_103 : decode cX6_quoin 103 = .ok (.aload_n 3, 1) := by decide +kernel
theorem dX6_quoin_104 : decode cX6_quoin 104 = .ok (.aload_n 0, 1) := by decide +kernel
theorem dX6_quoin_105 : decode cX6_quoin 105 = .ok (.getfield 58, 3) := by decide +kernel
theorem dX6_quoin_108 : decode cX6_quoin 108 = .ok (.invokevirtual 184, 3) := by decide +kernel
theorem dX6_quoin_111 : decode cX6_quoin 111 = .ok (.ireturn, 1) := by decide +kernel
theorem dX6_open_0 : decode cX6_open 0 = .ok (.aload_n 0, 1) := by decide +kernel
theorem dX6_open_1 : decode cX6_open 1 = .ok (.iload_n 1, 1) := by decide +kernel
theorem dX6_open_2 : decode cX6_open 2 = .ok (.invokevirtual 172, 3) := by decide +kernel
theorem dX6_open_5 : decode cX6_open 5 = .ok (.astore_n 3, 1) := by decide +kernel
theorem dX6_open_6 : decode cX6_open 6 = .ok (.aload_n 3, 1) := by decide +kernel
theorem dX6_open_7 : decode cX6_open 7 = .ok (.invokevirtual 199, 3) := by decide +kernel
theorem dX6_open_10 : decode cX6_open 10 = .ok (.ifCond .eq 18, 3) := by decide +kernel
theorem dX6_open_13 : decode cX6_open 13 = .ok (.iload_n 2, 1) := by decide +kernel
theorem dX6_open_14 : decode cX6_open 14 = .ok (.ifCond .lt 14, 3) := by decide +kernel
theorem dX6_open_17 : decode cX6_open 17 = .ok (.iload_n 2, 1) := by decide +kernel
theorem dX6_open_18 : decode cX6_open 18 = .ok (.aload_n 0, 1) := by decide +kernel
theorem dX6_open_19 : decode cX6_open 19 = .ok (.getfield 58, 3) := by decide +kernel
theorem dX6_open_22 : decode cX6_open 22 = .ok (.getfield 158, 3) := by decide +kernel
theorem dX6_open_25 : decode cX6_open 25 = .ok (.if_icmp .le 14, 3) := by decide +kernel
theorem dX6_open_28 : decode cX6_open 28 = .ok (.new 84, 3) := by decide +kernel
theorem dX6_open_31 : decode cX6_open 31 = .ok (.dup, 1) := by decide +kernel
theorem dX6_open_32 : decode cX6_open 32 = .ok (.ldc_w 409, 3) := by decide +kernel
theorem dX6_open_35 : decode cX6_open 35 = .ok (.invokespecial 88, 3) := by decide +kernel
theorem dX6_open_38 : decode cX6_open 38 = .ok (.athrow, 1) := by decide +kernel
theorem dX6_open_39 : decode cX6_open 39 = .ok (.aload_n 0, 1) := by decide +kernel
theorem dX6_open_40 : decode cX6_open 40 = .ok (.getfield 58, 3) := by decide +kernel
theorem dX6_open_43 : decode cX6_open 43 = .ok (.getfield 155, 3) := by decide +kernel
theorem dX6_open_46 : decode cX6_open 46 = .ok (.iload_n 2, 1) := by decide +kernel
theorem dX6_open_47 : decode cX6_open 47 = .ok (.iadd, 1) := by decide +kernel
theorem dX6_open_48 : decode cX6_open 48 = .ok (.aload_n 3, 1) := by decide +kernel
theorem dX6_open_49 : decode cX6_open 49 = .ok (.aload_n 0, 1) := by decide +kernel
theorem dX6_open_50 : decode cX6_open 50 = .ok (.getfield 58, 3) := by decide +kernel
theorem dX6_open_53 : decode cX6_open 53 = .ok (.invokevirtual 281, 3) := by decide +kernel
theorem dX6_open_56 : decode cX6_open 56 = .ok (.if_icmp .le 14, 3) := by decide +kernel
theorem dX6_open_59 : decode cX6_open 59 = .ok (.new 84, 3) := by decide +kernel
theorem dX6_open_62 : decode cX6_open 62 = .ok (.dup, 1) := by decide +kernel
theorem dX6_open_63 : decode cX6_open 63 = .ok (.ldc_w 411, 3) := by decide +kernel
theorem dX6_open_66 : decode cX6_open 66 = .ok (.invokespecial 88, 3) := by decide +kernel
theorem dX6_open_69 : decode cX6_open 69 = .ok (.athrow, 1) := by decide +kernel
theorem dX6_open_70 : decode cX6_open 70 = .ok (.aload_n 0, 1) := by decide +kernel
theorem dX6_open_71 : decode cX6_open 71 = .ok (.getfield 26, 3) := by decide +kernel
theorem dX6_open_74 : decode cX6_open 74 = .ok (.aload_n 0, 1) := by decide +kernel
theorem dX6_open_75 : decode cX6_open 75 = .ok (.getfield 33, 3) := by decide +kernel
theorem dX6_open_78 : decode cX6_open 78 = .ok (.invokevirtual 378, 3) := by decide +kernel
theorem dX6_open_81 : decode cX6_open 81 = .ok (.aload_n 0, 1) := by decide +kernel
theorem dX6_open_82 : decode cX6_open 82 = .ok (.getfield 33, 3) := by decide +kernel
theorem dX6_open_85 : decode cX6_open 85 = .ok (.aload_n 3, 1) := by decide +kernel
theorem dX6_open_86 : decode cX6_open 86 = .ok (.iload_n 2, 1) := by decide +kernel
theorem dX6_open_87 : decode cX6_open 87 = .ok (.invokevirtual 401, 3) := by decide +kernel
theorem dX6_open_90 : decode cX6_open 90 = .ok (.aload_n 3, 1) := by decide +kernel
theorem dX6_open_91 : decode cX6_open 91 = .ok (.aload_n 0, 1) := by decide +kernel
theorem dX6_open_92 : decode cX6_open 92 = .ok (.getfield 58, 3) := by decide +kernel
theorem dX6_open_95 : decode cX6_open 95 = .ok (.invokevirtual 184, 3) := by decide +kernel
theorem dX6_open_98 : decode cX6_open 98 = .ok (.ireturn, 1) := by decide +kernel
theorem dX6_lock_0 : decode cX6_lock 0 = .ok (.aload_n 0, 1) := by decide +kernel
theorem dX6_lock_1 : decode cX6_lock 1 = .ok (.iload_n 1, 1) := by decide +kernel
theorem dX6_lock_2 : decode cX6_lock 2 = .ok (.invokevirtual 172, 3) := by decide +kernel
theorem dX6_lock_5 : decode cX6_lock 5 = .ok (.astore_n 2, 1) := by decide +kernel
theorem dX6_lock_6 : decode cX6_lock 6 = .ok (.aload_n 0, 1) := by decide +kernel
theorem dX6_lock_7 : decode cX6_lock 7 = .ok (.aload_n 0, 1) := by decide +kernel
theorem dX6_lock_8 : decode cX6_lock 8 = .ok (.getfield 33, 3) := by decide +kernel
theorem dX6_lock_11 : decode cX6_lock 11 = .ok (.aload_n 2, 1) := by decide +kernel
theorem dX6_lock_12 : decode cX6_lock 12 = .ok (.invokevirtual 261, 3) := by decide +kernel
theorem dX6_lock_15 : decode cX6_lock 15 = .ok (.ifCond .ne 14, 3) := by decide +kernel
theorem dX6_lock_18 : decode cX6_lock 18 = .ok (.new 84, 3) := by decide +kernel
theorem dX6_lock_21 : decode cX6_lock 21 = .ok (.dup, 1) := by decide +kernel
theorem dX6_lock_22 : decode cX6_lock 22 = .ok (.ldc_w 413, 3) := by decide +kernel
theorem dX6_lock_25 : decode cX6_lock 25 = .ok (.invokespecial 88, 3) := by decide +kernel
theorem dX6_lock_28 : decode cX6_lock 28 = .ok (.athrow, 1) := by decide +kernel
theorem dX6_lock_29 : decode cX6_lock 29 = .ok (.aload_n 0, 1) := by decide +kernel
theorem dX6_lock_30 : decode cX6_lock 30 = .ok (.getfield 26, 3) := by decide +kernel
theorem dX6_lock_33 : decode cX6_lock 33 = .ok (.aload_n 0, 1) := by decide +kernel
theorem dX6_lock_34 : decode cX6_lock 34 = .ok (.getfield 33, 3) := by decide +kernel
theorem dX6_lock_37 : decode cX6_lock 37 = .ok (.invokevirtual 378, 3) := by decide +kernel
theorem dX6_lock_40 : decode cX6_lock 40 = .ok (.aload_n 0, 1) := by decide +kernel
theorem dX6_lock_41 : decode cX6_lock 41 = .ok (.getfield 33, 3) := by decide +kernel
theorem dX6_lock_44 : decode cX6_lock 44 = .ok (.aload_n 0, 1) := by decide +kernel
theorem dX6_lock_45 : decode cX6_lock 45 = .ok (.getfield 58, 3) := by decide +kernel
theorem dX6_lock_48 : decode cX6_lock 48 = .ok (.iload_n 1, 1) := by decide +kernel
theorem dX6_lock_49 : decode cX6_lock 49 = .ok (.aload_n 0, 1) := by decide +kernel
theorem dX6_lock_50 : decode cX6_lock 50 = .ok (.getfield 19, 3) := by decide +kernel
theorem dX6_lock_53 : decode cX6_lock 53 = .ok (.invokevirtual 346, 3) := by decide +kernel
theorem dX6_lock_56 : decode cX6_lock 56 = .ok (.aload_n 0, 1) := by decide +kernel
theorem dX6_lock_57 : decode cX6_lock 57 = .ok (.getfield 19, 3) := by decide +kernel
theorem dX6_lock_60 : decode cX6_lock 60 = .ok (.getfield 265, 3) := by decide +kernel
theorem dX6_lock_63 : decode cX6_lock 63 = .ok (.ireturn, 1) := by decide +kernel
theorem dX6_unlock_0 : decode cX6_unlock 0 = .ok (.aload_n 0, 1) := by decide +kernel
theorem dX6_unlock_1 : decode cX6_unlock 1 = .ok (.iload_n 1, 1) := by decide +kernel
theorem dX6_unlock_2 : decode cX6_unlock 2 = .ok (.invokevirtual 172, 3) := by decide +kernel
theorem dX6_unlock_5 : decode cX6_unlock 5 = .ok (.astore_n 2, 1) := by decide +kernel
theorem dX6_unlock_6 : decode cX6_unlock 6 = .ok (.aload_n 2, 1) := by decide +kernel
theorem dX6_unlock_7 : decode cX6_unlock 7 = .ok (.getfield 181, 3) := by decide +kernel
theorem dX6_unlock_10 : decode cX6_unlock 10 = .ok (.istore_n 3, 1) := by decide +kernel
theorem dX6_unlock_11 : decode cX6_unlock 11 = .ok (.aload_n 0, 1) := by decide +kernel
theorem dX6_unlock_12 : decode cX6_unlock 12 = .ok (.getfield 26, 3) := by decide +kernel
theorem dX6_unlock_15 : decode cX6_unlock 15 = .ok (.aload_n 0, 1) := by decide +kernel
theorem dX6_unlock_16 : decode cX6_unlock 16 = .ok (.getfield 33, 3) := by decide +kernel
theorem dX6_unlock_19 : decode cX6_unlock 19 = .ok (.invokevirtual 378, 3) := by decide +kernel
theorem dX6_unlock_22 : decode cX6_unlock 22 = .ok (.aload_n 0, 1) := by decide +kernel
theorem dX6_unlock_23 : decode cX6_unlock 23 = .ok (.getfield 33, 3) := by decide +kernel
theorem dX6_unlock_26 : decode cX6_unlock 26 = .ok (.iload_n 1, 1) := by decide +kernel
theorem dX6_unlock_27 : decode cX6_unlock 27 = .ok (.invokevirtual 329, 3) := by decide +kernel
theorem dX6_unlock_30 : decode cX6_unlock 30 = .ok (.iload_n 3, 1) := by decide +kernel
theorem dX6_unlock_31 : decode cX6_unlock 31 = .ok (.ireturn, 1) := by decide +kernel
theorem dX6_relock_0 : decode cX6_relock 0 = .ok (.aload_n 0, 1) := by decide +kernel
theorem dX6_relock_1 : decode cX6_relock 1 = .ok (.iload_n 1, 1) := by decide +kernel
theorem dX6_relock_2 : decode cX6_relock 2 = .ok (.invokevirtual 172, 3) := by decide +kernel
theorem dX6_relock_5 : decode cX6_relock 5 = .ok (.pop, 1) := by decide +kernel
theorem dX6_relock_6 : decode cX6_relock 6 = .ok (.aload_n 0, 1) := by decide +kernel
theorem dX6_relock_7 : decode cX6_relock 7 = .ok (.getfield 37, 3) := by decide +kernel
theorem dX6_relock_10 : decode cX6_relock 10 = .ok (.aload_n 0, 1) := by decide +kernel
theorem dX6_relock_11 : decode cX6_relock 11 = .ok (.getfield 33, 3) := by decide +kernel
theorem dX6_relock_14 : decode cX6_relock 14 = .ok (.invokevirtual 95, 3) := by decide +kernel
theorem dX6_relock_17 : decode cX6_relock 17 = .ok (.aload_n 0, 1) := by decide +kernel
theorem dX6_relock_18 : decode cX6_relock 18 = .ok (.getfield 37, 3) := by decide +kernel
theorem dX6_relock_21 : decode cX6_relock 21 = .ok (.iload_n 1, 1) := by decide +kernel
theorem dX6_relock_22 : decode cX6_relock 22 = .ok (.invokevirtual 329, 3) := by decide +kernel
theorem dX6_relock_25 : decode cX6_relock 25 = .ok (.aload_n 0, 1) := by decide +kernel
theorem dX6_relock_26 : decode cX6_relock 26 = .ok (.aload_n 0, 1) := by decide +kernel
theorem dX6_relock_27 : decode cX6_relock 27 = .ok (.getfield 37, 3) := by decide +kernel
theorem dX6_relock_30 : decode cX6_relock 30 = .ok (.aload_n 0, 1) := by decide +kernel
theorem dX6_relock_31 : decode cX6_relock 31 = .ok (.getfield 37, 3) := by decide +kernel
theorem dX6_relock_34 : decode cX6_relock 34 = .ok (.getfield 246, 3) := by decide +kernel
theorem dX6_relock_37 : decode cX6_relock 37 = .ok (.iload_n 1, 1) := by decide +kernel
theorem dX6_relock_38 : decode cX6_relock 38 = .ok (.aaload, 1) := by decide +kernel
theorem dX6_relock_39 : decode cX6_relock 39 = .ok (.invokevirtual 261, 3) := by decide +kernel
theorem dX6_relock_42 : decode cX6_relock 42 = .ok (.ifCond .ne 14, 3) := by decide +kernel
theorem dX6_relock_45 : decode cX6_relock 45 = .ok (.new 84, 3) := by decide +kernel
theorem dX6_relock_48 : decode cX6_relock 48 = .ok (.dup, 1) := by decide +kernel
theorem dX6_relock_49 : decode cX6_relock 49 = .ok (.ldc_w 413, 3) := by decide +kernel
theorem dX6_relock_52 : decode cX6_relock 52 = .ok (.invokespecial 88, 3) := by decide +kernel
theorem dX6_relock_55 : decode cX6_relock 55 = .ok (.athrow, 1) := by decide +kernel
theorem dX6_relock_56 : decode cX6_relock 56 = .ok (.aload_n 0, 1) := by decide +kernel
theorem dX6_relock_57 : decode cX6_relock 57 = .ok (.getfield 26, 3) := by decide +kernel
theorem dX6_relock_60 : decode cX6_relock 60 = .ok (.aload_n 0, 1) := by decide +kernel
theorem dX6_relock_61 : decode cX6_relock 61 = .ok (.getfield 33, 3) := by decide +kernel
theorem dX6_relock_64 : decode cX6_relock 64 = .ok (.invokevirtual 378, 3) := by decide +kernel
theorem dX6_relock_67 : decode cX6_relock 67 = .ok (.aload_n 0, 1) := by decide +kernel
theorem dX6_relock_68 : decode cX6_relock 68 = .ok (.getfield 33, 3) := by decide +kernel
theorem dX6_relock_71 : decode cX6_relock 71 = .ok (.iload_n 1, 1) := by decide +kernel
theorem dX6_relock_72 : decode cX6_relock 72 = .ok (.invokevirtual 329, 3) := by decide +kernel
theorem dX6_relock_75 : decode cX6_relock 75 = .ok (.aload_n 0, 1) := by decide +kernel
theorem dX6_relock_76 : decode cX6_relock 76 = .ok (.getfield 33, 3) := by decide +kernel
theorem dX6_relock_79 : decode cX6_relock 79 = .ok (.aload_n 0, 1) := by decide +kernel
theorem dX6_relock_80 : decode cX6_relock 80 = .ok (.getfield 58, 3) := by decide +kernel
theorem dX6_relock_83 : decode cX6_relock 83 = .ok (.iload_n 1, 1) := by decide +kernel
theorem dX6_relock_84 : decode cX6_relock 84 = .ok (.aload_n 0, 1) := by decide +kernel
theorem dX6_relock_85 : decode cX6_relock 85 = .ok (.getfield 19, 3) := by decide +kernel
theorem dX6_relock_88 : decode cX6_relock 88 = .ok (.invokevirtual 346, 3) := by decide +kernel
theorem dX6_relock_91 : decode cX6_relock 91 = .ok (.aload_n 0, 1) := by decide +kernel
theorem dX6_relock_92 : decode cX6_relock 92 = .ok (.getfield 19, 3) := by decide +kernel
theorem dX6_relock_95 : decode cX6_relock 95 = .ok (.getfield 265, 3) := by decide +kernel
theorem dX6_relock_98 : decode cX6_relock 98 = .ok (.ireturn, 1) := by decide +kernel
theorem dX6_tighten_0 : decode cX6_tighten 0 = .ok (.aload_n 0, 1) := by decide +kernel
theorem dX6_tighten_1 : decode cX6_tighten 1 = .ok (.iload_n 1, 1) := by decide +kernel
theorem dX6_tighten_2 : decode cX6_tighten 2 = .ok (.invokevirtual 172, 3) := by decide +kernel
theorem dX6_tighten_5 : decode cX6_tighten 5 = .ok (.astore_n 2, 1) := by decide +kernel
theorem dX6_tighten_6 : decode cX6_tighten 6 = .ok (.aload_n 2, 1) := by decide +kernel
theorem dX6_tighten_7 : decode cX6_tighten 7 = .ok (.invokevirtual 199, 3) := by decide +kernel
theorem dX6_tighten_10 : decode cX6_tighten 10 = .ok (.ifCond .ne 14, 3) := by decide +kernel
theorem dX6_tighten_13 : decode cX6_tighten 13 = .ok (.new 84, 3) := by decide +kernel
theorem dX6_tighten_16 : decode cX6_tighten 16 = .ok (.dup, 1) := by decide +kernel
theorem dX6_tighten_17 : decode cX6_tighten 17 = .ok (.ldc_w 415, 3) := by decide +kernel
theorem dX6_tighten_20 : decode cX6_tighten 20 = .ok (.invokespecial 88, 3) := by decide +kernel
theorem dX6_tighten_23 : decode cX6_tighten 23 = .ok (.athrow, 1) := by decide +kernel
theorem dX6_tighten_24 : decode cX6_tighten 24 = .ok (.aload_n 0, 1) := by decide +kernel
theorem dX6_tighten_25 : decode cX6_tighten 25 = .ok (.getfield 26, 3) := by decide +kernel
theorem dX6_tighten_28 : decode cX6_tighten 28 = .ok (.aload_n 0, 1) := by decide +kernel
theorem dX6_tighten_29 : decode cX6_tighten 29 = .ok (.getfield 33, 3) := by decide +kernel
theorem dX6_tighten_32 : decode cX6_tighten 32 = .ok (.invokevirtual 378, 3) := by decide +kernel
theorem dX6_tighten_35 : decode cX6_tighten 35 = .ok (.aload_n 2, 1) := by decide +kernel
theorem dX6_tighten_36 : decode cX6_tighten 36 = .ok (.getfield 187, 3) := by decide +kernel
theorem dX6_tighten_39 : decode cX6_tighten 39 = .ok (.aload_n 0, 1) := by decide +kernel
theorem dX6_tighten_40 : decode cX6_tighten 40 = .ok (.getfield 58, 3) := by decide +kernel
theorem dX6_tighten_43 : decode cX6_tighten 43 = .ok (.getfield 158, 3) := by decide +kernel
theorem dX6_tighten_46 : decode cX6_tighten 46 = .ok (.if_icmp .ge 48, 3) := by decide +kernel
theorem dX6_tighten_49 : decode cX6_tighten 49 = .ok (.aload_n 2, 1) := by decide +kernel
theorem dX6_tighten_50 : decode cX6_tighten 50 = .ok (.getfield 190, 3) := by decide +kernel
theorem dX6_tighten_53 : decode cX6_tighten 53 = .ok (.ifCond .le 41, 3) := by decide +kernel
theorem dX6_tighten_56 : decode cX6_tighten 56 = .ok (.aload_n 2, 1) := by decide +kernel
theorem dX6_tighten_57 : decode cX6_tighten 57 = .ok (.dup, 1) := by decide +kernel
theorem dX6_tighten_58 : decode cX6_tighten 58 = .ok (.getfield 187, 3) := by decide +kernel
theorem dX6_tighten_61 : decode cX6_tighten 61 = .ok (.iconst 1, 1) := by decide +kernel
theorem dX6_tighten_62 : decode cX6_tighten 62 = .ok (.iadd, 1) := by decide +kernel
theorem dX6_tighten_63 : decode cX6_tighten 63 = .ok (.putfield 187, 3) := by decide +kernel
theorem dX6_tighten_66 : decode cX6_tighten 66 = .ok (.aload_n 2, 1) := by decide +kernel
theorem dX6_tighten_67 : decode cX6_tighten 67 = .ok (.dup, 1) := by decide +kernel
theorem dX6_tighten_68 : decode cX6_tighten 68 = .ok (.getfield 203, 3) := by decide +kernel
theorem dX6_tighten_71 : decode cX6_tighten 71 = .ok (.iconst 1, 1) := by decide +kernel
theorem dX6_tighten_72 : decode cX6_tighten 72 = .ok (.iadd, 1) := by decide +kernel
theorem dX6_tighten_73 : decode cX6_tighten 73 = .ok (.putfield 203, 3) := by decide +kernel
theorem dX6_tighten_76 : decode cX6_tighten 76 = .ok (.aload_n 2, 1) := by decide +kernel
theorem dX6_tighten_77 : decode cX6_tighten 77 = .ok (.iconst 0, 1) := by decide +kernel
theorem dX6_tighten_78 : decode cX6_tighten 78 = .ok (.aload_n 2, 1) := by decide +kernel
theorem dX6_tighten_79 : decode cX6_tighten 79 = .ok (.getfield 190, 3) := by decide +kernel
theorem dX6_tighten_82 : decode cX6_tighten 82 = .ok (.bipush 10, 2) := by decide +kernel
theorem dX6_tighten_84 : decode cX6_tighten 84 = .ok (.isub, 1) := by decide +kernel
theorem dX6_tighten_85 : decode cX6_tighten 85 = .ok (.invokestatic 300, 3) := by decide +kernel
theorem dX6_tighten_88 : decode cX6_tighten 88 = .ok (.putfield 190, 3) := by decide +kernel
theorem dX6_tighten_91 : decode cX6_tighten 91 = .ok (.goto (-56), 3) := by decide +kernel
theorem dX6_tighten_94 : decode cX6_tighten 94 = .ok (.aload_n 2, 1) := by decide +kernel
theorem dX6_tighten_95 : decode cX6_tighten 95 = .ok (.getfield 190, 3) := by decide +kernel
theorem dX6_tighten_98 : decode cX6_tighten 98 = .ok (.ireturn, 1) := by decide +kernel
theorem dX6_print_0 : decode cX6_print 0 = .ok (.aload_n 0, 1) := by decide +kernel
theorem dX6_print_1 : decode cX6_print 1 = .ok (.invokevirtual 112, 3) := by decide +kernel
theorem dX6_print_4 : decode cX6_print 4 = .ok (.iload_n 1, 1) := by decide +kernel
theorem dX6_print_5 : decode cX6_print 5 = .ok (.invokestatic 417, 3) := by decide +kernel
theorem dX6_print_8 : decode cX6_print 8 = .ok (.aload_n 0, 1) := by decide +kernel
theorem dX6_print_9 : decode cX6_print 9 = .ok (.getfield 26, 3) := by decide +kernel
theorem dX6_print_12 : decode cX6_print 12 = .ok (.aload_n 0, 1) := by decide +kernel
theorem dX6_print_13 : decode cX6_print 13 = .ok (.getfield 33, 3) := by decide +kernel
theorem dX6_print_16 : decode cX6_print 16 = .ok (.invokevirtual 378, 3) := by decide +kernel
theorem dX6_print_19 : decode cX6_print 19 = .ok (.aload_n 0, 1) := by decide +kernel
theorem dX6_print_20 : decode cX6_print 20 = .ok (.getfield 33, 3) := by decide +kernel
theorem dX6_print_23 : decode cX6_print 23 = .ok (.aload_n 0, 1) := by decide +kernel
theorem dX6_print_24 : decode cX6_print 24 = .ok (.getfield 58, 3) := by decide +kernel
theorem dX6_print_27 : decode cX6_print 27 = .ok (.iload_n 1, 1) := by decide +kernel
theorem dX6_print_28 : decode cX6_print 28 = .ok (.invokevirtual 342, 3) := by decide +kernel
theorem dX6_print_31 : decode cX6_print 31 = .ok (.ireturn, 1) := by decide +kernel
theorem dX6_rest_0 : decode cX6_rest 0 = .ok (.aload_n 0, 1) := by decide +kernel
theorem dX6_rest_1 : decode cX6_rest 1 = .ok (.invokevirtual 112, 3) := by decide +kernel
theorem dX6_rest_4 : decode cX6_rest 4 = .ok (.iload_n 1, 1) := by decide +kernel
theorem dX6_rest_5 : decode cX6_rest 5 = .ok (.invokestatic 417, 3) := by decide +kernel
theorem dX6_rest_8 : decode cX6_rest 8 = .ok (.aload_n 0, 1) := by decide +kernel
theorem dX6_rest_9 : decode cX6_rest 9 = .ok (.getfield 26, 3) := by decide +kernel
theorem dX6_rest_12 : decode cX6_rest 12 = .ok (.aload_n 0, 1) := by decide +kernel
theorem dX6_rest_13 : decode cX6_rest 13 = .ok (.getfield 33, 3) := by decide +kernel
theorem dX6_rest_16 : decode cX6_rest 16 = .ok (.invokevirtual 378, 3) := by decide +kernel
theorem dX6_rest_19 : decode cX6_rest 19 = .ok (.iconst 0, 1) := by decide +kernel
theorem dX6_rest_20 : decode cX6_rest 20 = .ok (.istore_n 2, 1) := by decide +kernel
theorem dX6_rest_21 : decode cX6_rest 21 = .ok (.iconst 0, 1) := by decide +kernel
theorem dX6_rest_22 : decode cX6_rest 22 = .ok (.istore_n 3, 1) := by decide +kernel
theorem dX6_rest_23 : decode cX6_rest 23 = .ok (.iload_n 3, 1) := by decide +kernel
theorem dX6_rest_24 : decode cX6_rest 24 = .ok (.iload_n 1, 1) := by decide +kernel
theorem dX6_rest_25 : decode cX6_rest 25 = .ok (.if_icmp .ge 23, 3) := by decide +kernel
theorem dX6_rest_28 : decode cX6_rest 28 = .ok (.iload_n 2, 1) := by decide +kernel
theorem dX6_rest_29 : decode cX6_rest 29 = .ok (.aload_n 0, 1) := by decide +kernel
theorem dX6_rest_30 : decode cX6_rest 30 = .ok (.getfield 33, 3) := by decide +kernel
theorem dX6_rest_33 : decode cX6_rest 33 = .ok (.aload_n 0, 1) := by decide +kernel
theorem dX6_rest_34 : decode cX6_rest 34 = .ok (.getfield 58, 3) := by decide +kernel
theorem dX6_rest_37 : decode cX6_rest 37 = .ok (.invokevirtual 420, 3) := by decide +kernel
theorem dX6_rest_40 : decode cX6_rest 40 = .ok (.iadd, 1) := by decide +kernel
theorem dX6_rest_41 : decode cX6_rest 41 = .ok (.istore_n 2, 1) := by decide +kernel
theorem dX6_rest_42 : decode cX6_rest 42 = .ok (.iinc 3 1, 3) := by decide +kernel
theorem dX6_rest_45 : decode cX6_rest 45 = .ok (.goto (-22), 3) := by decide +kernel
theorem dX6_rest_48 : decode cX6_rest 48 = .ok (.iload_n 2, 1) := by decide +kernel
theorem dX6_rest_49 : decode cX6_rest 49 = .ok (.ireturn, 1) := by decide +kernel
theorem dX6_buy_0 : decode cX6_buy 0 = .ok (.aload_n 0, 1) := by decide +kernel
theorem dX6_buy_1 : decode cX6_buy 1 = .ok (.invokevirtual 112, 3) := by decide +kernel
theorem dX6_buy_4 : decode cX6_buy 4 = .ok (.aload_n 0, 1) := by decide +kernel
theorem dX6_buy_5 : decode cX6_buy 5 = .ok (.iload_n 1, 1) := by decide +kernel
theorem dX6_buy_6 : decode cX6_buy 6 = .ok (.invokevirtual 219, 3) := by decide +kernel
theorem dX6_buy_9 : decode cX6_buy 9 = .ok (.iload_n 2, 1) := by decide +kernel
theorem dX6_buy_10 : decode cX6_buy 10 = .ok (.iconst 1, 1) := by decide +kernel
theorem dX6_buy_11 : decode cX6_buy 11 = .ok (.if_icmp .lt 25, 3) := by decide +kernel
theorem dX6_buy_14 : decode cX6_buy 14 = .ok (.iload_n 2, 1) := by decide +kernel
theorem dX6_buy_15 : decode cX6_buy 15 = .ok (.bipush 99, 2) := by decide +kernel
theorem dX6_buy_17 : decode cX6_buy 17 = .ok (.if_icmp .gt 19, 3) := by decide +kernel
theorem dX6_buy_20 : decode cX6_buy 20 = .ok (.aload_n 0, 1) := by decide +kernel
theorem dX6_buy_21 : decode cX6_buy 21 = .ok (.getfield 33, 3) := by decide +kernel
theorem dX6_buy_24 : decode cX6_buy 24 = .ok (.getfield 230, 3) := by decide +kernel
theorem dX6_buy_27 : decode cX6_buy 27 = .ok (.iload_n 1, 1) := by decide +kernel
theorem dX6_buy_28 : decode cX6_buy 28 = .ok (.iaload, 1) := by decide +kernel
theorem dX6_buy_29 : decode cX6_buy 29 = .ok (.bipush 99, 2) := by decide +kernel
theorem dX6_buy_31 : decode cX6_buy 31 = .ok (.iload_n 2, 1) := by decide +kernel
theorem dX6_buy_32 : decode cX6_buy 32 = .ok (.isub, 1) := by decide +kernel
theorem dX6_buy_33 : decode cX6_buy 33 = .ok (.if_icmp .le 14, 3) := by decide +kernel
theorem dX6_buy_36 : decode cX6_buy 36 = .ok (.new 84, 3) := by decide +kernel
theorem dX6_buy_39 : decode cX6_buy 39 = .ok (.dup, 1) := by decide +kernel
theorem dX6_buy_40 : decode cX6_buy 40 = .ok (.ldc_w 423, 3) := by decide +kernel
theorem dX6_buy_43 : decode cX6_buy 43 = .ok (.invokespecial 88, 3) := by decide +kernel
theorem dX6_buy_46 : decode cX6_buy 46 = .ok (.athrow, 1) := by decide +kernel
theorem dX6_buy_47 : decode cX6_buy 47 = .ok (.aload_n 0, 1) := by decide +kernel
theorem dX6_buy_48 : decode cX6_buy 48 = .ok (.getfield 26, 3) := by decide +kernel
theorem dX6_buy_51 : decode cX6_buy 51 = .ok (.aload_n 0, 1) := by decide +kernel
theorem dX6_buy_52 : decode cX6_buy 52 = .ok (.getfield 33, 3) := by decide +kernel
theorem dX6_buy_55 : decode cX6_buy 55 = .ok (.invokevirtual 378, 3) := by decide +kernel
theorem dX6_buy_58 : decode cX6_buy 58 = .ok (.aload_n 0, 1) := by decide +kernel
theorem dX6_buy_59 : decode cX6_buy 59 = .ok (.getfield 33, 3) := by decide +kernel
theorem dX6_buy_62 : decode cX6_buy 62 = .ok (.getfield 230, 3) := by decide +kernel
theorem dX6_buy_65 : decode cX6_buy 65 = .ok (.iload_n 1, 1) := by decide +kernel
theorem dX6_buy_66 : decode cX6_buy 66 = .ok (.dup2, 1) := by decide +kernel
theorem dX6_buy_67 : decode cX6_buy 67 = .ok (.iaload, 1) := by decide +kernel
theorem dX6_buy_68 : decode cX6_buy 68 = .ok (.iload_n 2, 1) := by decide +kernel
theorem dX6_buy_69 : decode cX6_buy 69 = .ok (.iadd, 1) := by decide +kernel
theorem dX6_buy_70 : decode cX6_buy 70 = .ok (.iastore, 1) := by decide +kernel
theorem dX6_buy_71 : decode cX6_buy 71 = .ok (.aload_n 0, 1) := by decide +kernel
theorem dX6_buy_72 : decode cX6_buy 72 = .ok (.getfield 33, 3) := by decide +kernel
theorem dX6_buy_75 : decode cX6_buy 75 = .ok (.getfield 230, 3) := by decide +kernel
theorem dX6_buy_78 : decode cX6_buy 78 = .ok (.iload_n 1, 1) := by decide +kernel
theorem dX6_buy_79 : decode cX6_buy 79 = .ok (.iaload, 1) := by decide +kernel
theorem dX6_buy_80 : decode cX6_buy 80 = .ok (.ireturn, 1) := by decide +kernel
theorem dX6_undo_0 : decode cX6_undo 0 = .ok (.aload_n 0, 1) := by decide +kernel
theorem dX6_undo_1 : decode cX6_undo 1 = .ok (.getfield 26, 3) := by decide +kernel
theorem dX6_undo_4 : decode cX6_undo 4 = .ok (.getfield 425, 3) := by decide +kernel
theorem dX6_undo_7 : decode cX6_undo 7 = .ok (.ifCond .ne 14, 3) := by decide +kernel
theorem dX6_undo_10 : decode cX6_undo 10 = .ok (.new 428, 3) := by decide +kernel
theorem dX6_undo_13 : decode cX6_undo 13 = .ok (.dup, 1) := by decide +kernel
theorem dX6_undo_14 : decode cX6_undo 14 = .ok (.ldc_w 430, 3) := by decide +kernel
theorem dX6_undo_17 : decode cX6_undo 17 = .ok (.invokespecial 432, 3) := by decide +kernel
theorem dX6_undo_20 : decode cX6_undo 20 = .ok (.athrow, 1) := by decide +kernel
theorem dX6_undo_21 : decode cX6_undo 21 = .ok (.aload_n 0, 1) := by decide +kernel
theorem dX6_undo_22 : decode cX6_undo 22 = .ok (.getfield 26, 3) := by decide +kernel
theorem dX6_undo_25 : decode cX6_undo 25 = .ok (.aload_n 0, 1) := by decide +kernel
theorem dX6_undo_26 : decode cX6_undo 26 = .ok (.getfield 33, 3) := by decide +kernel
theorem dX6_undo_29 : decode cX6_undo 29 = .ok (.invokevirtual 433, 3) := by decide +kernel
theorem dX6_undo_32 : decode cX6_undo 32 = .ok (.aload_n 0, 1) := by decide +kernel
theorem dX6_undo_33 : decode cX6_undo 33 = .ok (.getfield 26, 3) := by decide +kernel
theorem dX6_undo_36 : decode cX6_undo 36 = .ok (.getfield 425, 3) := by decide +kernel
theorem dX6_undo_39 : decode cX6_undo 39 = .ok (.ireturn, 1) := by decide +kernel
theorem dX6_undoable_0 : decode cX6_undoable 0 = .ok (.aload_n 0, 1) := by decide +kernel
theorem dX6_undoable_1 : decode cX6_undoable 1 = .ok (.getfield 26, 3) := by decide +kernel
theorem dX6_undoable_4 : decode cX6_undoable 4 = .ok (.getfield 425, 3) := by decide +kernel
theorem dX6_undoable_7 : decode cX6_undoable 7 = .ok (.ireturn, 1) := by decide +kernel
theorem dX6_save_0 : decode cX6_save 0 = .ok (.aload_n 0, 1) := by decide +kernel
theorem dX6_save_1 : decode cX6_save 1 = .ok (.invokevirtual 112, 3) := by decide +kernel
theorem dX6_save_4 : decode cX6_save 4 = .ok (.iload_n 1, 1) := by decide +kernel
theorem dX6_save_5 : decode cX6_save 5 = .ok (.iconst 2, 1) := by decide +kernel
theorem dX6_save_6 : decode cX6_save 6 = .ok (.invokestatic 208, 3) := by decide +kernel
theorem dX6_save_9 : decode cX6_save 9 = .ok (.aload_n 0, 1) := by decide +kernel
theorem dX6_save_10 : decode cX6_save 10 = .ok (.getfield 40, 3) := by decide +kernel
theorem dX6_save_13 : decode cX6_save 13 = .ok (.iload_n 1, 1) := by decide +kernel
theorem dX6_save_14 : decode cX6_save 14 = .ok (.aaload, 1) := by decide +kernel
theorem dX6_save_15 : decode cX6_save 15 = .ok (.aload_n 0, 1) := by decide +kernel
theorem dX6_save_16 : decode cX6_save 16 = .ok (.getfield 33, 3) := by decide +kernel
theorem dX6_save_19 : decode cX6_save 19 = .ok (.invokevirtual 95, 3) := by decide +kernel
theorem dX6_save_22 : decode cX6_save 22 = .ok (.aload_n 0, 1) := by decide +kernel
theorem dX6_save_23 : decode cX6_save 23 = .ok (.getfield 44, 3) := by decide +kernel
theorem dX6_save_26 : decode cX6_save 26 = .ok (.iload_n 1, 1) := by decide +kernel
theorem dX6_save_27 : decode cX6_save 27 = .ok (.iconst 1, 1) := by decide +kernel
theorem dX6_save_28 : decode cX6_save 28 = .ok (.bastore, 1) := by decide +kernel
theorem dX6_save_29 : decode cX6_save 29 = .ok (.aload_n 0, 1) := by decide +kernel
theorem dX6_save_30 : decode cX6_save 30 = .ok (.getfield 33, 3) := by decide +kernel
theorem dX6_save_33 : decode cX6_save 33 = .ok (.getfield 132, 3) := by decide +kernel
theorem dX6_save_36 : decode cX6_save 36 = .ok (.ireturn, 1) := by decide +kernel
theorem dX6_restore_0 : decode cX6_restore 0 = .ok (.iload_n 1, 1) := by decide +kernel
theorem dX6_restore_1 : decode cX6_restore 1 = .ok (.iconst 2, 1) := by decide +kernel
theorem dX6_restore_2 : decode cX6_restore 2 = .ok (.invokestatic 208, 3) := by decide +kernel
theorem dX6_restore_5 : decode cX6_restore 5 = .ok (.aload_n 0, 1) := by decide +kernel
theorem dX6_restore_6 : decode cX6_restore 6 = .ok (.getfield 44, 3) := by decide +kernel
theorem dX6_restore_9 : decode cX6_restore 9 = .ok (.iload_n 1, 1) := by decide +kernel
theorem dX6_restore_10 : decode cX6_restore 10 = .ok (.baload, 1) := by decide +kernel
theorem dX6_restore_11 : decode cX6_restore 11 = .ok (.ifCond .ne 14, 3) := by decide +kernel
theorem dX6_restore_14 : decode cX6_restore 14 = .ok (.new 428, 3) := by decide +kernel
theorem dX6_restore_17 : decode cX6_restore 17 = .ok (.dup, 1) := by decide +kernel
theorem dX6_restore_18 : decode cX6_restore 18 = .ok (.ldc_w 436, 3) := by decide +kernel
theorem dX6_restore_21 : decode cX6_restore 21 = .ok (.invokespecial 432, 3) := by decide +kernel
theorem dX6_restore_24 : decode cX6_restore 24 = .ok (.athrow, 1) := by decide +kernel
theorem dX6_restore_25 : decode cX6_restore 25 = .ok (.aload_n 0, 1) := by decide +kernel
theorem dX6_restore_26 : decode cX6_restore 26 = .ok (.getfield 33, 3) := by decide +kernel
theorem dX6_restore_29 : decode cX6_restore 29 = .ok (.aload_n 0, 1) := by decide +kernel
theorem dX6_restore_30 : decode cX6_restore 30 = .ok (.getfield 40, 3) := by decide +kernel
theorem dX6_restore_33 : decode cX6_restore 33 = .ok (.iload_n 1, 1) := by decide +kernel
theorem dX6_restore_34 : decode cX6_restore 34 = .ok (.aaload, 1) := by decide +kernel
theorem dX6_restore_35 : decode cX6_restore 35 = .ok (.invokevirtual 95, 3) := by decide +kernel
theorem dX6_restore_38 : decode cX6_restore 38 = .ok (.aload_n 0, 1) := by decide +kernel
theorem dX6_restore_39 : decode cX6_restore 39 = .ok (.getfield 26, 3) := by decide +kernel
theorem dX6_restore_42 : decode cX6_restore 42 = .ok (.invokevirtual 99, 3) := by decide +kernel
theorem dX6_restore_45 : decode cX6_restore 45 = .ok (.aload_n 0, 1) := by decide +kernel
theorem dX6_restore_46 : decode cX6_restore 46 = .ok (.getfield 33, 3) := by decide +kernel
theorem dX6_restore_49 : decode cX6_restore 49 = .ok (.getfield 132, 3) := by decide +kernel
theorem dX6_restore_52 : decode cX6_restore 52 = .ok (.ireturn, 1) := by decide +kernel
theorem dX6_needChase_0 : decode cX6_needChase 0 = .ok (.aload_n 0, 1) := by decide +kernel
theorem dX6_needChase_1 : decode cX6_needChase 1 = .ok (.getfield 102, 3) := by decide +kernel
theorem dX6_needChase_4 : decode cX6_needChase 4 = .ok (.ifCond .ne 14, 3) := by decide +kernel
theorem dX6_needChase_7 : decode cX6_needChase 7 = .ok (.new 428, 3) := by decide +kernel
theorem dX6_needChase_10 : decode cX6_needChase 10 = .ok (.dup, 1) := by decide +kernel
theorem dX6_needChase_11 : decode cX6_needChase 11 = .ok (.ldc_w 438, 3) := by decide +kernel
theorem dX6_needChase_14 : decode cX6_needChase 14 = .ok (.invokespecial 432, 3) := by decide +kernel
theorem dX6_needChase_17 : decode cX6_needChase 17 = .ok (.athrow, 1) := by decide +kernel
theorem dX6_needChase_18 : decode cX6_needChase 18 = .ok (.return_, 1) := by decide +kernel
theorem dX6_needRow_0 : decode cX6_needRow 0 = .ok (.aload_n 0, 1) := by decide +kernel
theorem dX6_needRow_1 : decode cX6_needRow 1 = .ok (.invokevirtual 112, 3) := by decide +kernel
theorem dX6_needRow_4 : decode cX6_needRow 4 = .ok (.iload_n 1, 1) := by decide +kernel
theorem dX6_needRow_5 : decode cX6_needRow 5 = .ok (.ifCond .lt 20, 3) := by decide +kernel
theorem dX6_needRow_8 : decode cX6_needRow 8 = .ok (.iload_n 1, 1) := by decide +kernel
theorem dX6_needRow_9 : decode cX6_needRow 9 = .ok (.aload_n 0, 1) := by decide +kernel
theorem dX6_needRow_10 : decode cX6_needRow 10 = .ok (.getfield 58, 3) := by decide +kernel
theorem dX6_needRow_13 : decode cX6_needRow 13 = .ok (.getfield 115, 3) := by decide +kernel
theorem dX6_needRow_16 : decode cX6_needRow 16 = .ok (.if_icmp .ge 9, 3) := by decide +kernel
theorem dX6_needRow_19 : decode cX6_needRow 19 = .ok (.iload_n 1, 1) := by decide +kernel
theorem dX6_needRow_20 : decode cX6_needRow 20 = .ok (.bipush 8, 2) := by decide +kernel
theorem dX6_needRow_22 : decode cX6_needRow 22 = .ok (.if_icmp .lt 14, 3) := by decide +kernel
theorem dX6_needRow_25 : decode cX6_needRow 25 = .ok (.new 73, 3) := by decide +kernel
theorem dX6_needRow_28 : decode cX6_needRow 28 = .ok (.dup, 1) := by decide +kernel
theorem dX6_needRow_29 : decode cX6_needRow 29 = .ok (.ldc_w 440, 3) := by decide +kernel
theorem dX6_needRow_32 : decode cX6_needRow 32 = .ok (.invokespecial 77, 3) := by decide +kernel
theorem dX6_needRow_35 : decode cX6_needRow 35 = .ok (.athrow, 1) := by decide +kernel
theorem dX6_needRow_36 : decode cX6_needRow 36 = .ok (.aload_n 0, 1) := by decide +kernel
theorem dX6_needRow_37 : decode cX6_needRow 37 = .ok (.getfield 33, 3) := by decide +kernel
theorem dX6_needRow_40 : decode cX6_needRow 40 = .ok (.getfield 246, 3) := by decide +kernel
theorem dX6_needRow_43 : decode cX6_needRow 43 = .ok (.iload_n 1, 1) := by decide +kernel
theorem dX6_needRow_44 : decode cX6_needRow 44 = .ok (.aaload, 1) := by decide +kernel
theorem dX6_needRow_45 : decode cX6_needRow 45 = .ok (.areturn, 1) := by decide +kernel
theorem dX6_needKind_0 : decode cX6_needKind 0 = .ok (.iload_n 1, 1) := by decide +kernel
theorem dX6_needKind_1 : decode cX6_needKind 1 = .ok (.ifCond .lt 20, 3) := by decide +kernel
theorem dX6_needKind_4 : decode cX6_needKind 4 = .ok (.iload_n 1, 1) := by decide +kernel
theorem dX6_needKind_5 : decode cX6_needKind 5 = .ok (.aload_n 0, 1) := by decide +kernel
theorem dX6_needKind_6 : decode cX6_needKind 6 = .ok (.getfield 58, 3) := by decide +kernel
theorem dX6_needKind_9 : decode cX6_needKind 9 = .ok (.getfield 92, 3) := by decide +kernel
theorem dX6_needKind_12 : decode cX6_needKind 12 = .ok (.if_icmp .ge 9, 3) := by decide +kernel
theorem dX6_needKind_15 : decode cX6_needKind 15 = .ok (.iload_n 1, 1) := by decide +kernel
theorem dX6_needKind_16 : decode cX6_needKind 16 = .ok (.bipush 10, 2) := by decide +kernel
theorem dX6_needKind_18 : decode cX6_needKind 18 = .ok (.if_icmp .lt 14, 3) := by decide +kernel
theorem dX6_needKind_21 : decode cX6_needKind 21 = .ok (.new 73, 3) := by decide +kernel
theorem dX6_needKind_24 : decode cX6_needKind 24 = .ok (.dup, 1) := by decide +kernel
theorem dX6_needKind_25 : decode cX6_needKind 25 = .ok (.ldc_w 442, 3) := by decide +kernel
theorem dX6_needKind_28 : decode cX6_needKind 28 = .ok (.invokespecial 77, 3) := by decide +kernel
theorem dX6_needKind_31 : decode cX6_needKind 31 = .ok (.athrow, 1) := by decide +kernel
theorem dX6_needKind_32 : decode cX6_needKind 32 = .ok (.return_, 1) := by decide +kernel
theorem dX6_needIndex_0 : decode cX6_needIndex 0 = .ok (.iload_n 0, 1) := by decide +kernel
theorem dX6_needIndex_1 : decode cX6_needIndex 1 = .ok (.ifCond .lt 8, 3) := by decide +kernel
theorem dX6_needIndex_4 : decode cX6_needIndex 4 = .ok (.iload_n 0, 1) := by decide +kernel
theorem dX6_needIndex_5 : decode cX6_needIndex 5 = .ok (.iload_n 1, 1) := by decide +kernel
theorem dX6_needIndex_6 : decode cX6_needIndex 6 = .ok (.if_icmp .lt 14, 3) := by decide +kernel
theorem dX6_needIndex_9 : decode cX6_needIndex 9 = .ok (.new 73, 3) := by decide +kernel
theorem dX6_needIndex_12 : decode cX6_needIndex 12 = .ok (.dup, 1) := by decide +kernel
theorem dX6_needIndex_13 : decode cX6_needIndex 13 = .ok (.ldc_w 444, 3) := by decide +kernel
theorem dX6_needIndex_16 : decode cX6_needIndex 16 = .ok (.invokespecial 77, 3) := by decide +kernel
theorem dX6_needIndex_19 : decode cX6_needIndex 19 = .ok (.athrow, 1) := by decide +kernel
theorem dX6_needIndex_20 : decode cX6_needIndex 20 = .ok (.return_, 1) := by decide +kernel
theorem dX6_needBlockLength_0 : decode cX6_needBlockLength 0 = .ok (.iload_n 0, 1) := by decide +kernel
theorem dX6_needBlockLength_1 : decode cX6_needBlockLength 1 = .ok (.iconst 1, 1) := by decide +kernel
theorem dX6_needBlockLength_2 : decode cX6_needBlockLength 2 = .ok (.if_icmp .lt 10, 3) := by decide +kernel
theorem dX6_needBlockLength_5 : decode cX6_needBlockLength 5 = .ok (.iload_n 0, 1) := by decide +kernel
theorem dX6_needBlockLength_6 : decode cX6_needBlockLength 6 = .ok (.sipush 200, 3) := by decide +kernel
theorem dX6_needBlockLength_9 : decode cX6_needBlockLength 9 = .ok (.if_icmp .le 14, 3) := by decide +kernel
theorem dX6_needBlockLength_12 : decode cX6_needBlockLength 12 = .ok (.new 84, 3) := by decide +kernel
theorem dX6_needBlockLength_15 : decode cX6_needBlockLength 15 = .ok (.dup, 1) := by decide +kernel
theorem dX6_needBlockLength_16 : decode cX6_needBlockLength 16 = .ok (.ldc_w 446, 3) := by decide +kernel
theorem dX6_needBlockLength_19 : decode cX6_needBlockLength 19 = .ok (.invokespecial 88, 3) := by decide +kernel
theorem dX6_needBlockLength_22 : decode cX6_needBlockLength 22 = .ok (.athrow, 1) := by decide +kernel
theorem dX6_needBlockLength_23 : decode cX6_needBlockLength 23 = .ok (.return_, 1) := by decide +kernel
theorem dX6_needTurns_0 : decode cX6_needTurns 0 = .ok (.iload_n 0, 1) := by decide +kernel
theorem dX6_needTurns_1 : decode cX6_needTurns 1 = .ok (.iconst 1, 1) := by decide +kernel
theorem dX6_needTurns_2 : decode cX6_needTurns 2 = .ok (.if_icmp .lt 9, 3) := by decide +kernel
theorem dX6_needTurns_5 : decode cX6_needTurns 5 = .ok (.iload_n 0, 1) := by decide +kernel
theorem dX6_needTurns_6 : decode cX6_needTurns 6 = .ok (.bipush 100, 2) := by decide +kernel
theorem dX6_needTurns_8 : decode cX6_needTurns 8 = .ok (.if_icmp .le 14, 3) := by decide +kernel
theorem dX6_needTurns_11 : decode cX6_needTurns 11 = .ok (.new 84, 3) := by decide +kernel
theorem dX6_needTurns_14 : decode cX6_needTurns 14 = .ok (.dup, 1) := by decide +kernel
theorem dX6_needTurns_15 : decode cX6_needTurns 15 = .ok (.ldc_w 448, 3) := by decide +kernel
theorem dX6_needTurns_18 : decode cX6_needTurns 18 = .ok (.invokespecial 88, 3) := by decide +kernel
theorem dX6_needTurns_21 : decode cX6_needTurns 21 = .ok (.athrow, 1) := by decide +kernel
theorem dX6_needTurns_22 : decode cX6_needTurns 22 = .ok (.return_, 1) := by decide +kernel
theorem dX17_init_0 : decode cX17_init 0 = .ok (.aload_n 0, 1) := by decide +kernel
theorem dX17_init_1 : decode cX17_init 1 = .ok (.invokespecial 1, 3) := by decide +kernel
theorem dX17_init_4 : decode cX17_init 4 = .ok (.aload_n 0, 1) := by decide +kernel
theorem dX17_init_5 : decode cX17_init 5 = .ok (.aload_n 1, 1) := by decide +kernel
theorem dX17_init_6 : decode cX17_init 6 = .ok (.putfield 7, 3) := by decide +kernel
theorem dX17_init_9 : decode cX17_init 9 = .ok (.return_, 1) := by decide +kernel
theorem dX17_next_0 : decode cX17_next 0 = .ok (.aload_n 0, 1) := by decide +kernel
theorem dX17_next_1 : decode cX17_next 1 = .ok (.getfield 13, 3) := by decide +kernel
theorem dX17_next_4 : decode cX17_next 4 = .ok (.aload_n 0, 1) := by decide +kernel
theorem dX17_next_5 : decode cX17_next 5 = .ok (.getfield 7, 3) := by decide +kernel
theorem dX17_next_8 : decode cX17_next 8 = .ok (.arraylength, 1) := by decide +kernel
theorem dX17_next_9 : decode cX17_next 9 = .ok (.if_icmp .ge 18, 3) := by decide +kernel
theorem dX17_next_12 : decode cX17_next 12 = .ok (.aload_n 0, 1) := by decide +kernel
theorem dX17_next_13 : decode cX17_next 13 = .ok (.getfield 7, 3) := by decide +kernel
theorem dX17_next_16 : decode cX17_next 16 = .ok (.aload_n 0, 1) := by decide +kernel
theorem dX17_next_17 : decode cX17_next 17 = .ok (.getfield 13, 3) := by decide +kernel
theorem dX17_next_20 : decode cX17_next 20 = .ok (.iaload, 1) := by decide +kernel
theorem dX17_next_21 : decode cX17_next 21 = .ok (.ldc 17, 2) := by decide +kernel
theorem dX17_next_23 : decode cX17_next 23 = .ok (.iand, 1) := by decide +kernel
theorem dX17_next_24 : decode cX17_next 24 = .ok (.goto 4, 3) := by decide +kernel
theorem dX17_next_27 : decode cX17_next 27 = .ok (.iconst 0, 1) := by decide +kernel
theorem dX17_next_28 : decode cX17_next 28 = .ok (.istore_n 3, 1) := by decide +kernel
theorem dX17_next_29 : decode cX17_next 29 = .ok (.aload_n 0, 1) := by decide +kernel
theorem dX17_next_30 : decode cX17_next 30 = .ok (.dup, 1) := by decide +kernel
theorem dX17_next_31 : decode cX17_next 31 = .ok (.getfield 13, 3) := by decide +kernel
theorem dX17_next_34 : decode cX17_next 34 = .ok (.iconst 1, 1) := by decide +kernel
theorem dX17_next_35 : decode cX17_next 35 = .ok (.iadd, 1) := by decide +kernel
theorem dX17_next_36 : decode cX17_next 36 = .ok (.putfield 13, 3) := by decide +kernel
theorem dX17_next_39 : decode cX17_next 39 = .ok (.iload_n 1, 1) := by decide +kernel
theorem dX17_next_40 : decode cX17_next 40 = .ok (.iload_n 3, 1) := by decide +kernel
theorem dX17_next_41 : decode cX17_next 41 = .ok (.iload_n 2, 1) := by decide +kernel
theorem dX17_next_42 : decode cX17_next 42 = .ok (.iload_n 1, 1) := by decide +kernel
theorem dX17_next_43 : decode cX17_next 43 = .ok (.isub, 1) := by decide +kernel
theorem dX17_next_44 : decode cX17_next 44 = .ok (.iconst 1, 1) := by decide +kernel
theorem dX17_next_45 : decode cX17_next 45 = .ok (.iadd, 1) := by decide +kernel
theorem dX17_next_46 : decode cX17_next 46 = .ok (.irem, 1) := by decide +kernel
theorem dX17_next_47 : decode cX17_next 47 = .ok (.iadd, 1) := by decide +kernel
theorem dX17_next_48 : decode cX17_next 48 = .ok (.ireturn, 1) := by decide +kernel
theorem dX18_init_0 : decode cX18_init 0 = .ok (.aload_n 0, 1) := by decide +kernel
theorem dX18_init_1 : decode cX18_init 1 = .ok (.invokespecial 1, 3) := by decide +kernel
theorem dX18_init_4 : decode cX18_init 4 = .ok (.aload_n 0, 1) := by decide +kernel
theorem dX18_init_5 : decode cX18_init 5 = .ok (.iconst 4, 1) := by decide +kernel
theorem dX18_init_6 : decode cX18_init 6 = .ok (.newarray .int, 2) := by decide +kernel
theorem dX18_init_8 : decode cX18_init 8 = .ok (.putfield 7, 3) := by decide +kernel
theorem dX18_init_11 : decode cX18_init 11 = .ok (.aload_n 0, 1) := by decide +kernel
theorem dX18_init_12 : decode cX18_init 12 = .ok (.ldc 13, 2) := by decide +kernel
theorem dX18_init_14 : decode cX18_init 14 = .ok (.putfield 14, 3) := by decide +kernel
theorem dX18_init_17 : decode cX18_init 17 = .ok (.aload_n 0, 1) := by decide +kernel
theorem dX18_init_18 : decode cX18_init 18 = .ok (.iconst (-1), 1) := by decide +kernel
theorem dX18_init_19 : decode cX18_init 19 = .ok (.putfield 18, 3) := by decide +kernel
theorem dX18_init_22 : decode cX18_init 22 = .ok (.return_, 1) := by decide +kernel
theorem dX19_init_0 : decode cX19_init 0 = .ok (.aload_n 0, 1) := by decide +kernel
theorem dX19_init_1 : decode cX19_init 1 = .ok (.invokespecial 1, 3) := by decide +kernel
theorem dX19_init_4 : decode cX19_init 4 = .ok (.aload_n 0, 1) := by decide +kernel
theorem dX19_init_5 : decode cX19_init 5 = .ok (.new 7, 3) := by decide +kernel
theorem dX19_init_8 : decode cX19_init 8 = .ok (.dup, 1) := by decide +kernel
theorem dX19_init_9 : decode cX19_init 9 = .ok (.ldc 9, 2) := by decide +kernel
theorem dX19_init_11 : decode cX19_init 11 = .ok (.invokespecial 11, 3) := by decide +kernel
theorem dX19_init_14 : decode cX19_init 14 = .ok (.putfield 14, 3) := by decide +kernel
theorem dX19_init_17 : decode cX19_init 17 = .ok (.aload_n 0, 1) := by decide +kernel
theorem dX19_init_18 : decode cX19_init 18 = .ok (.bipush 8, 2) := by decide +kernel
theorem dX19_init_20 : decode cX19_init 20 = .ok (.newarray .int, 2) := by decide +kernel
theorem dX19_init_22 : decode cX19_init 22 = .ok (.putfield 20, 3) := by decide +kernel
theorem dX19_init_25 : decode cX19_init 25 = .ok (.aload_n 0, 1) := by decide +kernel
theorem dX19_init_26 : decode cX19_init 26 = .ok (.iconst 4, 1) := by decide +kernel
theorem dX19_init_27 : decode cX19_init 27 = .ok (.newarray .int, 2) := by decide +kernel
theorem dX19_init_29 : decode cX19_init 29 = .ok (.putfield 24, 3) := by decide +kernel
theorem dX19_init_32 : decode cX19_init 32 = .ok (.aload_n 0, 1) := by decide +kernel
theorem dX19_init_33 : decode cX19_init 33 = .ok (.iconst 4, 1) := by decide +kernel
theorem dX19_init_34 : decode cX19_init 34 = .ok (.newarray .int, 2) := by decide +kernel
theorem dX19_init_36 : decode cX19_init 36 = .ok (.putfield 27, 3) := by decide +kernel
theorem dX19_init_39 : decode cX19_init 39 = .ok (.aload_n 0, 1) := by decide +kernel
theorem dX19_init_40 : decode cX19_init 40 = .ok (.iconst 4, 1) := by decide +kernel
theorem dX19_init_41 : decode cX19_init 41 = .ok (.newarray .int, 2) := by decide +kernel
theorem dX19_init_43 : decode cX19_init 43 = .ok (.putfield 30, 3) := by decide +kernel
theorem dX19_init_46 : decode cX19_init 46 = .ok (.aload_n 0, 1) := by decide +kernel
theorem dX19_init_47 : decode cX19_init 47 = .ok (.bipush 6, 2) := by decide +kernel
theorem dX19_init_49 : decode cX19_init 49 = .ok (.newarray .int, 2) := by decide +kernel
theorem dX19_init_51 : decode cX19_init 51 = .ok (.putfield 33, 3) := by decide +kernel
theorem dX19_init_54 : decode cX19_init 54 = .ok (.aload_n 0, 1) := by decide +kernel
theorem dX19_init_55 : decode cX19_init 55 = .ok (.iconst 4, 1) := by decide +kernel
theorem dX19_init_56 : decode cX19_init 56 = .ok (.newarray .boolean, 2) := by decide +kernel
theorem dX19_init_58 : decode cX19_init 58 = .ok (.putfield 36, 3) := by decide +kernel
theorem dX19_init_61 : decode cX19_init 61 = .ok (.aload_n 0, 1) := by decide +kernel
theorem dX19_init_62 : decode cX19_init 62 = .ok (.bipush 8, 2) := by decide +kernel
theorem dX19_init_64 : decode cX19_init 64 = .ok (.bipush 6, 2) := by decide +kernel
theorem dX19_init_66 : decode cX19_init 66 = .ok (.multianewarray 40 2, 4) := by decide +kernel
theorem dX19_init_70 : decode cX19_init 70 = .ok (.putfield 42, 3) := by decide +kernel
theorem dX19_init_73 : decode cX19_init 73 = .ok (.aload_n 0, 1) := by decide +kernel
theorem dX19_init_74 : decode cX19_init 74 = .ok (.bipush 8, 2) := by decide +kernel
theorem dX19_init_76 : decode cX19_init 76 = .ok (.sipush 600, 3) := by decide +kernel
theorem dX19_init_79 : decode cX19_init 79 = .ok (.multianewarray 40 2, 4) := by decide +kernel
theorem dX19_init_83 : decode cX19_init 83 = .ok (.putfield 45, 3) := by decide +kernel
theorem dX19_init_86 : decode cX19_init 86 = .ok (.aload_n 0, 1) := by decide +kernel
theorem dX19_init_87 : decode cX19_init 87 = .ok (.bipush 8, 2) := by decide +kernel
theorem dX19_init_89 : decode cX19_init 89 = .ok (.newarray .int, 2) := by decide +kernel
theorem dX19_init_91 : decode cX19_init 91 = .ok (.putfield 48, 3) := by decide +kernel
theorem dX19_init_94 : decode cX19_init 94 = .ok (.aload_n 0, 1) := by decide +kernel
theorem dX19_init_95 : decode cX19_init 95 = .ok (.bipush 8, 2) := by decide +kernel
theorem dX19_init_97 : decode cX19_init 97 = .ok (.newarray .int, 2) := by decide +kernel
theorem dX19_init_99 : decode cX19_init 99 = .ok (.putfield 51, 3) := by decide +kernel
theorem dX19_init_102 : decode cX19_init 102 = .ok (.aload_n 0, 1) := by decide +kernel
theorem dX19_init_103 : decode cX19_init 103 = .ok (.bipush 8, 2) := by decide +kernel
theorem dX19_init_105 : decode cX19_init 105 = .ok (.newarray .int, 2) := by decide +kernel
theorem dX19_init_107 : decode cX19_init 107 = .ok (.putfield 54, 3) := by decide +kernel
theorem dX19_init_110 : decode cX19_init 110 = .ok (.aload_n 0, 1) := by decide +kernel
theorem dX19_init_111 : decode cX19_init 111 = .ok (.bipush 8, 2) := by decide +kernel
theorem dX19_init_113 : decode cX19_init 113 = .ok (.newarray .int, 2) := by decide +kernel
theorem dX19_init_115 : decode cX19_init 115 = .ok (.putfield 57, 3) := by decide +kernel
theorem dX19_init_118 : decode cX19_init 118 = .ok (.aload_n 0, 1) := by decide +kernel
theorem dX19_init_119 : decode cX19_init 119 = .ok (.bipush 8, 2) := by decide +kernel
theorem dX19_init_121 : decode cX19_init 121 = .ok (.newarray .int, 2) := by decide +kernel
theorem dX19_init_123 : decode cX19_init 123 = .ok (.putfield 60, 3) := by decide +kernel
theorem dX19_init_126 : decode cX19_init 126 = .ok (.aload_n 0, 1) := by decide +kernel
theorem dX19_init_127 : decode cX19_init 127 = .ok (.getfield 20, 3) := by decide +kernel
theorem dX19_init_130 : decode cX19_init 130 = .ok (.iconst 0, 1) := by decide +kernel
theorem dX19_init_131 : decode cX19_init 131 = .ok (.aload_n 1, 1) := by decide +kernel
theorem dX19_init_132 : decode cX19_init 132 = .ok (.bipush 10, 2) := by decide +kernel
theorem dX19_init_134 : decode cX19_init 134 = .ok (.aload_n 1, 1) := by decide +kernel
theorem dX19_init_135 : decode cX19_init 135 = .ok (.iconst 0, 1) := by decide +kernel
theorem dX19_init_136 : decode cX19_init 136 = .ok (.iconst 2, 1) := by decide +kernel
theorem dX19_init_137 : decode cX19_init 137 = .ok (.invokevirtual 63, 3) := by decide +kernel
theorem dX19_init_140 : decode cX19_init 140 = .ok (.ifCond .ne 8, 3) := by decide +kernel
theorem dX19_init_143 : decode cX19_init 143 = .ok (.bipush 120, 2) := by decide +kernel
theorem dX19_init_145 : decode cX19_init 145 = .ok (.goto 5, 3) := by decide +kernel
theorem dX19_init_148 : decode cX19_init 148 = .ok (.bipush 40, 2) := by decide +kernel
theorem dX19_init_150 : decode cX19_init 150 = .ok (.invokevirtual 63, 3) := by decide +kernel
theorem dX19_init_153 : decode cX19_init 153 = .ok (.iastore, 1) := by decide +kernel
theorem dX19_init_154 : decode cX19_init 154 = .ok (.aload_n 0, 1) := by decide +kernel
theorem dX19_init_155 : decode cX19_init 155 = .ok (.getfield 20, 3) := by decide +kernel
theorem dX19_init_158 : decode cX19_init 158 = .ok (.iconst 1, 1) := by decide +kernel
theorem dX19_init_159 : decode cX19_init 159 = .ok (.aload_n 1, 1) := by decide +kernel
theorem dX19_init_160 : decode cX19_init 160 = .ok (.iconst 1, 1) := by decide +kernel
theorem dX19_init_161 : decode cX19_init 161 = .ok (.aload_n 1, 1) := by decide +kernel
theorem dX19_init_162 : decode cX19_init 162 = .ok (.iconst 0, 1) := by decide +kernel
theorem dX19_init_163 : decode cX19_init 163 = .ok (.iconst 2, 1) := by decide +kernel
theorem dX19_init_164 : decode cX19_init 164 = .ok (.invokevirtual 63, 3) := by decide +kernel
theorem dX19_init_167 : decode cX19_init 167 = .ok (.ifCond .ne 8, 3) := by decide +kernel
theorem dX19_init_170 : decode cX19_init 170 = .ok (.bipush 8, 2) := by decide +kernel
theorem dX19_init_172 : decode cX19_init 172 = .ok (.goto 4, 3) := by decide +kernel
theorem dX19_init_175 : decode cX19_init 175 = .ok (.iconst 3, 1) := by decide +kernel
theorem dX19_init_176 : decode cX19_init 176 = .ok (.invokevirtual 63, 3) := by decide +kernel
theorem dX19_init_179 : decode cX19_init 179 = .ok (.iastore, 1) := by decide +kernel
theorem dX19_init_180 : decode cX19_init 180 = .ok (.aload_n 0, 1) := by decide +kernel
theorem dX19_init_181 : decode cX19_init 181 = .ok (.getfield 20, 3) := by decide +kernel
theorem dX19_init_184 : decode cX19_init 184 = .ok (.iconst 2, 1) := by decide +kernel
theorem dX19_init_185 : decode cX19_init 185 = .ok (.aload_n 1, 1) := by decide +kernel
theorem dX19_init_186 : decode cX19_init 186 = .ok (.iconst 1, 1) := by decide +kernel
theorem dX19_init_187 : decode cX19_init 187 = .ok (.aload_n 1, 1) := by decide +kernel
theorem dX19_init_188 : decode cX19_init 188 = .ok (.iconst 0, 1) := by decide +kernel
theorem dX19_init_189 : decode cX19_init 189 = .ok (.iconst 2, 1) := by decide +kernel
theorem dX19_init_190 : decode cX19_init 190 = .ok (.invokevirtual 63, 3) := by decide +kernel
theorem dX19_init_193 : decode cX19_init 193 = .ok (.ifCond .ne 8, 3) := by decide +kernel
theorem dX19_init_196 : decode cX19_init 196 = .ok (.bipush 50, 2) := by decide +kernel
theorem dX19_init_198 : decode cX19_init 198 = .ok (.goto 5, 3) := by decide +kernel
theorem dX19_init_201 : decode cX19_init 201 = .ok (.bipush 6, 2) := by decide +kernel
theorem dX19_init_203 : decode cX19_init 203 = .ok (.invokevirtual 63, 3) := by decide +kernel
theorem dX19_init_206 : decode cX19_init 206 = .ok (.iastore, 1) := by decide +kernel
theorem dX19_init_207 : decode cX19_init 207 = .ok (.aload_n 0, 1) := by decide +kernel
theorem dX19_init_208 : decode cX19_init 208 = .ok (.getfield 20, 3) := by decide +kernel
theorem dX19_init_211 : decode cX19_init 211 = .ok (.iconst 3, 1) := by decide +kernel
theorem dX19_init_212 : decode cX19_init 212 = .ok (.aload_n 1, 1) := by decide +kernel
theorem dX19_init_213 : decode cX19_init 213 = .ok (.iconst 0, 1) := by decide +kernel
theorem dX19_init_214 : decode cX19_init 214 = .ok (.aload_n 1, 1) := by decide +kernel
theorem dX19_init_215 : decode cX19_init 215 = .ok (.iconst 0, 1) := by decide +kernel
theorem dX19_init_216 : decode cX19_init 216 = .ok (.iconst 2, 1) := by decide +kernel
theorem dX19_init_217 : decode cX19_init 217 = .ok (.invokevirtual 63, 3) := by decide +kernel
theorem dX19_init_220 : decode cX19_init 220 = .ok (.ifCond .ne 8, 3) := by decide +kernel
theorem dX19_init_223 : decode cX19_init 223 = .ok (.bipush 20, 2) := by decide +kernel
theorem dX19_init_225 : decode cX19_init 225 = .ok (.goto 4, 3) := by decide +kernel
theorem dX19_init_228 : decode cX19_init 228 = .ok (.iconst 4, 1) := by decide +kernel
theorem dX19_init_229 : decode cX19_init 229 = .ok (.invokevirtual 63, 3) := by decide +kernel
theorem dX19_init_232 : decode cX19_init 232 = .ok (.iastore, 1) := by decide +kernel
theorem dX19_init_233 : decode cX19_init 233 = .ok (.aload_n 0, 1) := by decide +kernel
theorem dX19_init_234 : decode cX19_init 234 = .ok (.aload_n 1, 1) := by decide +kernel
theorem dX19_init_235 : decode cX19_init 235 = .ok (.iconst 0, 1) := by decide +kernel
theorem dX19_init_236 : decode cX19_init 236 = .ok (.aload_n 1, 1) := by decide +kernel
theorem dX19_init_237 : decode cX19_init 237 = .ok (.iconst 0, 1) := by decide +kernel
theorem dX19_init_238 : decode cX19_init 238 = .ok (.iconst 2, 1) := by decide +kernel
theorem dX19_init_239 : decode cX19_init 239 = .ok (.invokevirtual 63, 3) := by decide +kernel
theorem dX19_init_242 : decode cX19_init 242 = .ok (.ifCond .ne 8, 3) := by decide +kernel
theorem dX19_init_245 : decode cX19_init 245 = .ok (.bipush 20, 2) := by decide +kernel
theorem dX19_init_247 : decode cX19_init 247 = .ok (.goto 4, 3) := by decide +kernel
theorem dX19_init_250 : decode cX19_init 250 = .ok (.iconst 3, 1) := by decide +kernel
theorem dX19_init_251 : decode cX19_init 251 = .ok (.invokevirtual 63, 3) := by decide +kernel
theorem dX19_init_254 : decode cX19_init 254 = .ok (.putfield 69, 3) := by decide +kernel
theorem dX19_init_257 : decode cX19_init 257 = .ok (.aload_n 0, 1) := by decide +kernel
theorem dX19_init_258 : decode cX19_init 258 = .ok (.getfield 20, 3) := by decide +kernel
theorem dX19_init_261 : decode cX19_init 261 = .ok (.iconst 4, 1) := by decide +kernel
theorem dX19_init_262 : decode cX19_init 262 = .ok (.aload_n 1, 1) := by decide +kernel
theorem dX19_init_263 : decode cX19_init 263 = .ok (.iconst 0, 1) := by decide +kernel
theorem dX19_init_264 : decode cX19_init 264 = .ok (.bipush 9, 2) := by decide +kernel
theorem dX19_init_266 : decode cX19_init 266 = .ok (.invokevirtual 63, 3) := by decide +kernel
theorem dX19_init_269 : decode cX19_init 269 = .ok (.iastore, 1) := by decide +kernel
theorem dX19_init_270 : decode cX19_init 270 = .ok (.aload_n 0, 1) := by decide +kernel
theorem dX19_init_271 : decode cX19_init 271 = .ok (.getfield 20, 3) := by decide +kernel
theorem dX19_init_274 : decode cX19_init 274 = .ok (.iconst 5, 1) := by decide +kernel
theorem dX19_init_275 : decode cX19_init 275 = .ok (.aload_n 1, 1) := by decide +kernel
theorem dX19_init_276 : decode cX19_init 276 = .ok (.iconst 0, 1) := by decide +kernel
theorem dX19_init_277 : decode cX19_init 277 = .ok (.bipush 9, 2) := by decide +kernel
theorem dX19_init_279 : decode cX19_init 279 = .ok (.invokevirtual 63, 3) := by decide +kernel
theorem dX19_init_282 : decode cX19_init 282 = .ok (.iastore, 1) := by decide +kernel
theorem dX19_init_283 : decode cX19_init 283 = .ok (.aload_n 0, 1) := by decide +kernel
theorem dX19_init_284 : decode cX19_init 284 = .ok (.getfield 20, 3) := by decide +kernel
theorem dX19_init_287 : decode cX19_init 287 = .ok (.bipush 6, 2) := by decide +kernel
theorem dX19_init_289 : decode cX19_init 289 = .ok (.aload_n 1, 1) := by decide +kernel
theorem dX19_init_290 : decode cX19_init 290 = .ok (.iconst 1, 1) := by decide +kernel
theorem dX19_init_291 : decode cX19_init 291 = .ok (.aload_n 1, 1) := by decide +kernel
theorem dX19_init_292 : decode cX19_init 292 = .ok (.iconst 0, 1) := by decide +kernel
theorem dX19_init_293 : decode cX19_init 293 = .ok (.iconst 1, 1) := by decide +kernel
theorem dX19_init_294 : decode cX19_init 294 = .ok (.invokevirtual 63, 3) := by decide +kernel
theorem dX19_init_297 : decode cX19_init 297 = .ok (.ifCond .ne 9, 3) := by decide +kernel
theorem dX19_init_300 : decode cX19_init 300 = .ok (.sipush 999, 3) := by decide +kernel
theorem dX19_init_303 : decode cX19_init 303 = .ok (.goto 5, 3) := by decide +kernel
theorem dX19_init_306 : decode cX19_init 306 = .ok (.bipush 120, 2) := by decide +kernel
theorem dX19_init_308 : decode cX19_init 308 = .ok (.invokevirtual 63, 3) := by decide +kernel
theorem dX19_init_311 : decode cX19_init 311 = .ok (.iastore, 1) := by decide +kernel
theorem dX19_init_312 : decode cX19_init 312 = .ok (.iconst 0, 1) := by decide +kernel
theorem dX19_init_313 : decode cX19_init 313 = .ok (.istore_n 2, 1) := by decide +kernel
theorem dX19_init_314 : decode cX19_init 314 = .ok (.iload_n 2, 1) := by decide +kernel
theorem dX19_init_315 : decode cX19_init 315 = .ok (.iconst 4, 1) := by decide +kernel
theorem dX19_init_316 : decode cX19_init 316 = .ok (.if_icmp .ge 28, 3) := by decide +kernel
theorem dX19_init_319 : decode cX19_init 319 = .ok (.aload_n 0, 1) := by decide +kernel
theorem dX19_init_320 : decode cX19_init 320 = .ok (.getfield 14, 3) := by decide +kernel
theorem dX19_init_323 : decode cX19_init 323 = .ok (.aload_n 0, 1) := by decide +kernel
theorem dX19_init_324 : decode cX19_init 324 = .ok (.getfield 20, 3) := by decide +kernel
theorem dX19_init_327 : decode cX19_init 327 = .ok (.iload_n 2, 1) := by decide +kernel
theorem dX19_init_328 : decode cX19_init 328 = .ok (.iaload, 1) := by decide +kernel
theorem dX19_init_329 : decode cX19_init 329 = .ok (.invokevirtual 73, 3) := by decide +kernel
theorem dX19_init_332 : decode cX19_init 332 = .ok (.bipush 32, 2) := by decide +kernel
theorem dX19_init_334 : decode cX19_init 334 = .ok (.invokevirtual 77, 3) := by decide +kernel
theorem dX19_init_337 : decode cX19_init 337 = .ok (.pop, 1) := by decide +kernel
theorem dX19_init_338 : decode cX19_init 338 = .ok (.iinc 2 1, 3) := by decide +kernel
theorem dX19_init_341 : decode cX19_init 341 = .ok (.goto (-27), 3) := by decide +kernel
theorem dX19_init_344 : decode cX19_init 344 = .ok (.aload_n 0, 1) := by decide +kernel
theorem dX19_init_345 : decode cX19_init 345 = .ok (.getfield 14, 3) := by decide +kernel
theorem dX19_init_348 : decode cX19_init 348 = .ok (.aload_n 0, 1) := by decide +kernel
theorem dX19_init_349 : decode cX19_init 349 = .ok (.getfield 69, 3) := by decide +kernel
theorem dX19_init_352 : decode cX19_init 352 = .ok (.invokevirtual 73, 3) := by decide +kernel
theorem dX19_init_355 : decode cX19_init 355 = .ok (.ldc 80, 2) := by decide +kernel
theorem dX19_init_357 : decode cX19_init 357 = .ok (.invokevirtual 82, 3) := by decide +kernel
theorem dX19_init_360 : decode cX19_init 360 = .ok (.aload_n 0, 1) := by decide +kernel
theorem dX19_init_361 : decode cX19_init 361 = .ok (.getfield 20, 3) := by decide +kernel
theorem dX19_init_364 : decode cX19_init 364 = .ok (.iconst 4, 1) := by decide +kernel
theorem dX19_init_365 : decode cX19_init 365 = .ok (.iaload, 1) := by decide +kernel
theorem dX19_init_366 : decode cX19_init 366 = .ok (.invokevirtual 73, 3) := by decide +kernel
theorem dX19_init_369 : decode cX19_init 369 = .ok (.bipush 32, 2) := by decide +kernel
theorem dX19_init_371 : decode cX19_init 371 = .ok (.invokevirtual 77, 3) := by decide +kernel
theorem dX19_init_374 : decode cX19_init 374 = .ok (.aload_n 0, 1) := by decide +kernel
theorem dX19_init_375 : decode cX19_init 375 = .ok (.getfield 20, 3) := by decide +kernel
theorem dX19_init_378 : decode cX19_init 378 = .ok (.iconst 5, 1) := by decide +kernel
theorem dX19_init_379 : decode cX19_init 379 = .ok (.iaload, 1) := by decide +kernel
theorem dX19_init_380 : decode cX19_init 380 = .ok (.invokevirtual 73, 3) := by decide +kernel
theorem dX19_init_383 : decode cX19_init 383 = .ok (.bipush 32, 2) := by decide +kernel
theorem dX19_init_385 : decode cX19_init 385 = .ok (.invokevirtual 77, 3) := by decide +kernel
theorem dX19_init_388 : decode cX19_init 388 = .ok (.aload_n 0, 1) := by decide +kernel
theorem dX19_init_389 : decode cX19_init 389 = .ok (.getfield 20, 3) := by decide +kernel
theorem dX19_init_392 : decode cX19_init 392 = .ok (.bipush 6, 2) := by decide +kernel
theorem dX19_init_394 : decode cX19_init 394 = .ok (.iaload, 1) := by decide +kernel
theorem dX19_init_395 : decode cX19_init 395 = .ok (.invokevirtual 73, 3) := by decide +kernel
theorem dX19_init_398 : decode cX19_init 398 = .ok (.pop, 1) := by decide +kernel
theorem dX19_init_399 : decode cX19_init 399 = .ok (.aload_n 1, 1) := by decide +kernel
theorem dX19_init_400 : decode cX19_init 400 = .ok (.iconst 0, 1) := by decide +kernel
theorem dX19_init_401 : decode cX19_init 401 = .ok (.iconst 4, 1) := by decide +kernel
theorem dX19_init_402 : decode cX19_init 402 = .ok (.invokevirtual 63, 3) := by decide +kernel
theorem dX19_init_405 : decode cX19_init 405 = .ok (.istore_n 2, 1) := by decide +kernel
theorem dX19_init_406 : decode cX19_init 406 = .ok (.iload_n 2, 1) := by decide +kernel
theorem dX19_init_407 : decode cX19_init 407 = .ok (.ifCond .le 161, 3) := by decide +kernel
theorem dX19_init_410 : decode cX19_init 410 = .ok (.aload_n 1, 1) := by decide +kernel
theorem dX19_init_411 : decode cX19_init 411 = .ok (.iconst 1, 1) := by decide +kernel
theorem dX19_init_412 : decode cX19_init 412 = .ok (.aload_n 1, 1) := by decide +kernel
theorem dX19_init_413 : decode cX19_init 413 = .ok (.iconst 0, 1) := by decide +kernel
theorem dX19_init_414 : decode cX19_init 414 = .ok (.iconst 2, 1) := by decide +kernel
theorem dX19_init_415 : decode cX19_init 415 = .ok (.invokevirtual 63, 3) := by decide +kernel
theorem dX19_init_418 : decode cX19_init 418 = .ok (.ifCond .ne 8, 3) := by decide +kernel
theorem dX19_init_421 : decode cX19_init 421 = .ok (.bipush 99, 2) := by decide +kernel
theorem dX19_init_423 : decode cX19_init 423 = .ok (.goto 5, 3) := by decide +kernel
theorem dX19_init_426 : decode cX19_init 426 = .ok (.bipush 9, 2) := by decide +kernel
theorem dX19_init_428 : decode cX19_init 428 = .ok (.invokevirtual 63, 3) := by decide +kernel
theorem dX19_init_431 : decode cX19_init 431 = .ok (.istore_n 3, 1) := by decide +kernel
theorem dX19_init_432 : decode cX19_init 432 = .ok (.aload_n 1, 1) := by decide +kernel
theorem dX19_init_433 : decode cX19_init 433 = .ok (.iconst 0, 1) := by decide +kernel
theorem dX19_init_434 : decode cX19_init 434 = .ok (.iconst 1, 1) := by decide +kernel
theorem dX19_init_435 : decode cX19_init 435 = .ok (.invokevirtual 63, 3) := by decide +kernel
theorem dX19_init_438 : decode cX19_init 438 = .ok (.ifCond .ne 7, 3) := by decide +kernel
theorem dX19_init_441 : decode cX19_init 441 = .ok (.iconst 1, 1) := by decide +kernel
theorem dX19_init_442 : decode cX19_init 442 = .ok (.goto 4, 3) := by decide +kernel
theorem dX19_init_445 : decode cX19_init 445 = .ok (.iconst 0, 1) := by decide +kernel
theorem dX19_init_446 : decode cX19_init 446 = .ok (.istore 4, 2) := by decide +kernel
theorem dX19_init_448 : decode cX19_init 448 = .ok (.aload_n 0, 1) := by decide +kernel
theorem dX19_init_449 : decode cX19_init 449 = .ok (.iload 4, 2) := by decide +kernel
theorem dX19_init_451 : decode cX19_init 451 = .ok (.iload_n 3, 1) := by decide +kernel
theorem dX19_init_452 : decode cX19_init 452 = .ok (.invokevirtual 85, 3) := by decide +kernel
theorem dX19_init_455 : decode cX19_init 455 = .ok (.ifCond .lt 6, 3) := by decide +kernel
theorem dX19_init_458 : decode cX19_init 458 = .ok (.goto 104, 3) := by decide +kernel
theorem dX19_init_461 : decode cX19_init 461 = .ok (.aload_n 0, 1) := by decide +kernel
theorem dX19_init_462 : decode cX19_init 462 = .ok (.getfield 24, 3) := by decide +kernel
theorem dX19_init_465 : decode cX19_init 465 = .ok (.aload_n 0, 1) := by decide +kernel
theorem dX19_init_466 : decode cX19_init 466 = .ok (.getfield 89, 3) := by decide +kernel
theorem dX19_init_469 : decode cX19_init 469 = .ok (.iload_n 3, 1) := by decide +kernel
theorem dX19_init_470 : decode cX19_init 470 = .ok (.iastore, 1) := by decide +kernel
theorem dX19_init_471 : decode cX19_init 471 = .ok (.aload_n 0, 1) := by decide +kernel
theorem dX19_init_472 : decode cX19_init 472 = .ok (.getfield 36, 3) := by decide +kernel
theorem dX19_init_475 : decode cX19_init 475 = .ok (.aload_n 0, 1) := by decide +kernel
theorem dX19_init_476 : decode cX19_init 476 = .ok (.getfield 89, 3) := by decide +kernel
theorem dX19_init_479 : decode cX19_init 479 = .ok (.iload 4, 2) := by decide +kernel
theorem dX19_init_481 : decode cX19_init 481 = .ok (.bastore, 1) := by decide +kernel
theorem dX19_init_482 : decode cX19_init 482 = .ok (.aload_n 0, 1) := by decide +kernel
theorem dX19_init_483 : decode cX19_init 483 = .ok (.getfield 27, 3) := by decide +kernel
theorem dX19_init_486 : decode cX19_init 486 = .ok (.aload_n 0, 1) := by decide +kernel
theorem dX19_init_487 : decode cX19_init 487 = .ok (.getfield 89, 3) := by decide +kernel
theorem dX19_init_490 : decode cX19_init 490 = .ok (.aload_n 1, 1) := by decide +kernel
theorem dX19_init_491 : decode cX19_init 491 = .ok (.iconst 0, 1) := by decide +kernel
theorem dX19_init_492 : decode cX19_init 492 = .ok (.aload_n 1, 1) := by decide +kernel
theorem dX19_init_493 : decode cX19_init 493 = .ok (.iconst 0, 1) := by decide +kernel
theorem dX19_init_494 : decode cX19_init 494 = .ok (.iconst 2, 1) := by decide +kernel
theorem dX19_init_495 : decode cX19_init 495 = .ok (.invokevirtual 63, 3) := by decide +kernel
theorem dX19_init_498 : decode cX19_init 498 = .ok (.ifCond .ne 8, 3) := by decide +kernel
theorem dX19_init_501 : decode cX19_init 501 = .ok (.bipush 9, 2) := by decide +kernel
theorem dX19_init_503 : decode cX19_init 503 = .ok (.goto 4, 3) := by decide +kernel
theorem dX19_init_506 : decode cX19_init 506 = .ok (.iconst 4, 1) := by decide +kernel
theorem dX19_init_507 : decode cX19_init 507 = .ok (.invokevirtual 63, 3) := by decide +kernel
theorem dX19_init_510 : decode cX19_init 510 = .ok (.iastore, 1) := by decide +kernel
theorem dX19_init_511 : decode cX19_init 511 = .ok (.aload_n 0, 1) := by decide +kernel
theorem dX19_init_512 : decode cX19_init 512 = .ok (.getfield 14, 3) := by decide +kernel
theorem dX19_init_515 : decode cX19_init 515 = .ok (.iload 4, 2) := by decide +kernel
theorem dX19_init_517 : decode cX19_init 517 = .ok (.ifCond .eq 8, 3) := by decide +kernel
theorem dX19_init_520 : decode cX19_init 520 = .ok (.ldc 92, 2) := by decide +kernel
theorem dX19_init_522 : decode cX19_init 522 = .ok (.goto 5, 3) := by decide +kernel
theorem dX19_init_525 : decode cX19_init 525 = .ok (.ldc 94, 2) := by decide +kernel
theorem dX19_init_527 : decode cX19_init 527 = .ok (.invokevirtual 82, 3) := by decide +kernel
theorem dX19_init_530 : decode cX19_init 530 = .ok (.iload_n 3, 1) := by decide +kernel
theorem dX19_init_531 : decode cX19_init 531 = .ok (.invokevirtual 73, 3) := by decide +kernel
theorem dX19_init_534 : decode cX19_init 534 = .ok (.bipush 32, 2) := by decide +kernel
theorem dX19_init_536 : decode cX19_init 536 = .ok (.invokevirtual 77, 3) := by decide +kernel
theorem dX19_init_539 : decode cX19_init 539 = .ok (.aload_n 0, 1) := by decide +kernel
theorem dX19_init_540 : decode cX19_init 540 = .ok (.getfield 27, 3) := by decide +kernel
theorem dX19_init_543 : decode cX19_init 543 = .ok (.aload_n 0, 1) := by decide +kernel
theorem dX19_init_544 : decode cX19_init 544 = .ok (.getfield 89, 3) := by decide +kernel
theorem dX19_init_547 : decode cX19_init 547 = .ok (.iaload, 1) := by decide +kernel
theorem dX19_init_548 : decode cX19_init 548 = .ok (.invokevirtual 73, 3) := by decide +kernel
theorem dX19_init_551 : decode cX19_init 551 = .ok (.pop, 1) := by decide +kernel
theorem dX19_init_552 : decode cX19_init 552 = .ok (.aload_n 0, 1) := by decide +kernel
theorem dX19_init_553 : decode cX19_init 553 = .ok (.dup, 1) := by decide +kernel
theorem dX19_init_554 : decode cX19_init 554 = .ok (.getfield 89, 3) := by decide +kernel
theorem dX19_init_557 : decode cX19_init 557 = .ok (.iconst 1, 1) := by decide +kernel
theorem dX19_init_558 : decode cX19_init 558 = .ok (.iadd, 1) := by decide +kernel
theorem dX19_init_559 : decode cX19_init 559 = .ok (.putfield 89, 3) := by decide +kernel
theorem dX19_init_562 : decode cX19_init 562 = .ok (.iinc 2 (-1), 3) := by decide +kernel
theorem dX19_init_565 : decode cX19_init 565 = .ok (.goto (-159), 3) := by decide +kernel
theorem dX19_init_568 : decode cX19_init 568 = .ok (.iconst 0, 1) := by decide +kernel
theorem dX19_init_569 : decode cX19_init 569 = .ok (.istore_n 2, 1) := by decide +kernel
theorem dX19_init_570 : decode cX19_init 570 = .ok (.iload_n 2, 1) := by decide +kernel
theorem dX19_init_571 : decode cX19_init 571 = .ok (.bipush 8, 2) := by decide +kernel
theorem dX19_init_573 : decode cX19_init 573 = .ok (.if_icmp .ge 16, 3) := by decide +kernel
theorem dX19_init_576 : decode cX19_init 576 = .ok (.aload_n 0, 1) := by decide +kernel
theorem dX19_init_577 : decode cX19_init 577 = .ok (.getfield 54, 3) := by decide +kernel
theorem dX19_init_580 : decode cX19_init 580 = .ok (.iload_n 2, 1) := by decide +kernel
theorem dX19_init_581 : decode cX19_init 581 = .ok (.iconst (-1), 1) := by decide +kernel
theorem dX19_init_582 : decode cX19_init 582 = .ok (.iastore, 1) := by decide +kernel
theorem dX19_init_583 : decode cX19_init 583 = .ok (.iinc 2 1, 3) := by decide +kernel
theorem dX19_init_586 : decode cX19_init 586 = .ok (.goto (-16), 3) := by decide +kernel
theorem dX19_init_589 : decode cX19_init 589 = .ok (.iconst 0, 1) := by decide +kernel
theorem dX19_init_590 : decode cX19_init 590 = .ok (.istore_n 2, 1) := by decide +kernel
theorem dX19_init_591 : decode cX19_init 591 = .ok (.iload_n 2, 1) := by decide +kernel
theorem dX19_init_592 : decode cX19_init 592 = .ok (.aload_n 0, 1) := by decide +kernel
theorem dX19_init_593 : decode cX19_init 593 = .ok (.getfield 20, 3) := by decide +kernel
theorem dX19_init_596 : decode cX19_init 596 = .ok (.iconst 1, 1) := by decide +kernel
theorem dX19_init_597 : decode cX19_init 597 = .ok (.iaload, 1) := by decide +kernel
theorem dX19_init_598 : decode cX19_init 598 = .ok (.if_icmp .ge 114, 3) := by decide +kernel
theorem dX19_init_601 : decode cX19_init 601 = .ok (.aload_n 1, 1) := by decide +kernel
theorem dX19_init_602 : decode cX19_init 602 = .ok (.iconst 0, 1) := by decide +kernel
theorem dX19_init_603 : decode cX19_init 603 = .ok (.iconst 2, 1) := by decide +kernel
theorem dX19_init_604 : decode cX19_init 604 = .ok (.invokevirtual 63, 3) := by decide +kernel
theorem dX19_init_607 : decode cX19_init 607 = .ok (.ifCond .ne 6, 3) := by decide +kernel
theorem dX19_init_610 : decode cX19_init 610 = .ok (.goto 96, 3) := by decide +kernel
theorem dX19_init_613 : decode cX19_init 613 = .ok (.aload_n 0, 1) := by decide +kernel
theorem dX19_init_614 : decode cX19_init 614 = .ok (.getfield 14, 3) := by decide +kernel
theorem dX19_init_617 : decode cX19_init 617 = .ok (.ldc 96, 2) := by decide +kernel
theorem dX19_init_619 : decode cX19_init 619 = .ok (.invokevirtual 82, 3) := by decide +kernel
theorem dX19_init_622 : decode cX19_init 622 = .ok (.iload_n 2, 1) := by decide +kernel
theorem dX19_init_623 : decode cX19_init 623 = .ok (.invokevirtual 73, 3) := by decide +kernel
theorem dX19_init_626 : decode cX19_init 626 = .ok (.pop, 1) := by decide +kernel
theorem dX19_init_627 : decode cX19_init 627 = .ok (.aload_n 1, 1) := by decide +kernel
theorem dX19_init_628 : decode cX19_init 628 = .ok (.iconst 0, 1) := by decide +kernel
theorem dX19_init_629 : decode cX19_init 629 = .ok (.iconst 3, 1) := by decide +kernel
theorem dX19_init_630 : decode cX19_init 630 = .ok (.invokevirtual 63, 3) := by decide +kernel
theorem dX19_init_633 : decode cX19_init 633 = .ok (.istore_n 3, 1) := by decide +kernel
theorem dX19_init_634 : decode cX19_init 634 = .ok (.iload_n 3, 1) := by decide +kernel
theorem dX19_init_635 : decode cX19_init 635 = .ok (.ifCond .le 71, 3) := by decide +kernel
theorem dX19_init_638 : decode cX19_init 638 = .ok (.aload_n 1, 1) := by decide +kernel
theorem dX19_init_639 : decode cX19_init 639 = .ok (.iconst 1, 1) := by decide +kernel
theorem dX19_init_640 : decode cX19_init 640 = .ok (.bipush 20, 2) := by decide +kernel
theorem dX19_init_642 : decode cX19_init 642 = .ok (.invokevirtual 63, 3) := by decide +kernel
theorem dX19_init_645 : decode cX19_init 645 = .ok (.istore 4, 2) := by decide +kernel
theorem dX19_init_647 : decode cX19_init 647 = .ok (.iload 4, 2) := by decide +kernel
theorem dX19_init_649 : decode cX19_init 649 = .ok (.aload_n 0, 1) := by decide +kernel
theorem dX19_init_650 : decode cX19_init 650 = .ok (.iload_n 2, 1) := by decide +kernel
theorem dX19_init_651 : decode cX19_init 651 = .ok (.invokevirtual 98, 3) := by decide +kernel
theorem dX19_init_654 : decode cX19_init 654 = .ok (.if_icmp .le 6, 3) := by decide +kernel
theorem dX19_init_657 : decode cX19_init 657 = .ok (.goto 43, 3) := by decide +kernel
theorem dX19_init_660 : decode cX19_init 660 = .ok (.aload_n 0, 1) := by decide +kernel
theorem dX19_init_661 : decode cX19_init 661 = .ok (.getfield 14, 3) := by decide +kernel
theorem dX19_init_664 : decode cX19_init 664 = .ok (.bipush 32, 2) := by decide +kernel
theorem dX19_init_666 : decode cX19_init 666 = .ok (.invokevirtual 77, 3) := by decide +kernel
theorem dX19_init_669 : decode cX19_init 669 = .ok (.iload 4, 2) := by decide +kernel
theorem dX19_init_671 : decode cX19_init 671 = .ok (.invokevirtual 73, 3) := by decide +kernel
theorem dX19_init_674 : decode cX19_init 674 = .ok (.pop, 1) := by decide +kernel
theorem dX19_init_675 : decode cX19_init 675 = .ok (.aload_n 0, 1) := by decide +kernel
theorem dX19_init_676 : decode cX19_init 676 = .ok (.getfield 42, 3) := by decide +kernel
theorem dX19_init_679 : decode cX19_init 679 = .ok (.iload_n 2, 1) := by decide +kernel
theorem dX19_init_680 : decode cX19_init 680 = .ok (.aaload, 1) := by decide +kernel
theorem dX19_init_681 : decode cX19_init 681 = .ok (.aload_n 0, 1) := by decide +kernel
theorem dX19_init_682 : decode cX19_init 682 = .ok (.getfield 48, 3) := by decide +kernel
theorem dX19_init_685 : decode cX19_init 685 = .ok (.iload_n 2, 1) := by decide +kernel
theorem dX19_init_686 : decode cX19_init 686 = .ok (.iaload, 1) := by decide +kernel
theorem dX19_init_687 : decode cX19_init 687 = .ok (.iload 4, 2) := by decide +kernel
theorem dX19_init_689 : decode cX19_init 689 = .ok (.iastore, 1) := by decide +kernel
theorem dX19_init_690 : decode cX19_init 690 = .ok (.aload_n 0, 1) := by decide +kernel
theorem dX19_init_691 : decode cX19_init 691 = .ok (.getfield 48, 3) := by decide +kernel
theorem dX19_init_694 : decode cX19_init 694 = .ok (.iload_n 2, 1) := by decide +kernel
theorem dX19_init_695 : decode cX19_init 695 = .ok (.dup2, 1) := by decide +kernel
theorem dX19_init_696 : decode cX19_init 696 = .ok (.iaload, 1) := by decide +kernel
theorem dX19_init_697 : decode cX19_init 697 = .ok (.iconst 1, 1) := by decide +kernel
theorem dX19_init_698 : decode cX19_init 698 = .ok (.iadd, 1) := by decide +kernel
theorem dX19_init_699 : decode cX19_init 699 = .ok (.iastore, 1) := by decide +kernel
theorem dX19_init_700 : decode cX19_init 700 = .ok (.iinc 3 (-1), 3) := by decide +kernel
theorem dX19_init_703 : decode cX19_init 703 = .ok (.goto (-69), 3) := by decide +kernel
theorem dX19_init_706 : decode cX19_init 706 = .ok (.iinc 2 1, 3) := by decide +kernel
theorem dX19_init_709 : decode cX19_init 709 = .ok (.goto (-118), 3) := by decide +kernel
theorem dX19_init_712 : decode cX19_init 712 = .ok (.aload_n 0, 1) := by decide +kernel
theorem dX19_init_713 : decode cX19_init 713 = .ok (.invokevirtual 102, 3) := by decide +kernel
theorem dX19_init_716 : decode cX19_init 716 = .ok (.return_, 1) := by decide +kernel
theorem dX19_init__0 : decode cX19_init_ 0 = .ok (.aload_n 0, 1) := by decide +kernel
theorem dX19_init__1 : decode cX19_init_ 1 = .ok (.invokespecial 1, 3) := by decide +kernel
theorem dX19_init__4 : decode cX19_init_ 4 = .ok (.aload_n 0, 1) := by decide +kernel
theorem dX19_init__5 : decode cX19_init_ 5 = .ok (.new 7, 3) := by decide +kernel
theorem dX19_init__8 : decode cX19_init_ 8 = .ok (.dup, 1) := by decide +kernel
theorem dX19_init__9 : decode cX19_init_ 9 = .ok (.ldc 9, 2) := by decide +kernel
theorem dX19_init__11 : decode cX19_init_ 11 = .ok (.invokespecial 11, 3) := by decide +kernel
theorem dX19_init__14 : decode cX19_init_ 14 = .ok (.putfield 14, 3) := by decide +kernel
theorem dX19_init__17 : decode cX19_init_ 17 = .ok (.aload_n 0, 1) := by decide +kernel
theorem dX19_init__18 : decode cX19_init_ 18 = .ok (.bipush 8, 2) := by decide +kernel
theorem dX19_init__20 : decode cX19_init_ 20 = .ok (.newarray .int, 2) := by decide +kernel
theorem dX19_init__22 : decode cX19_init_ 22 = .ok (.putfield 20, 3) := by decide +kernel
theorem dX19_init__25 : decode cX19_init_ 25 = .ok (.aload_n 0, 1) := by decide +kernel
theorem dX19_init__26 : decode cX19_init_ 26 = .ok (.iconst 4, 1) := by decide +kernel
theorem dX19_init__27 : decode cX19_init_ 27 = .ok (.newarray .int, 2) := by decide +kernel
theorem dX19_init__29 : decode cX19_init_ 29 = .ok (.putfield 24, 3) := by decide +kernel
theorem dX19_init__32 : decode cX19_init_ 32 = .ok (.aload_n 0, 1) := by decide +kernel
theorem dX19_init__33 : decode cX19_init_ 33 = .ok (.iconst 4, 1) := by decide +kernel
theorem dX19_init__34 : decode cX19_init_ 34 = .ok (.newarray .int, 2) := by decide +kernel
theorem dX19_init__36 : decode cX19_init_ 36 = .ok (.putfield 27, 3) := by decide +kernel
theorem dX19_init__39 : decode cX19_init_ 39 = .ok (.aload_n 0, 1) := by decide +kernel
theorem dX19_init__40 : decode cX19_init_ 40 = .ok (.iconst 4, 1) := by decide +kernel
theorem dX19_init__41 : decode cX19_init_ 41 = .ok (.newarray .int, 2) := by decide +kernel
theorem dX19_init__43 : decode cX19_init_ 43 = .ok (.putfield 30, 3) := by decide +kernel
theorem dX19_init__46 : decode cX19_init_ 46 = .ok (.aload_n 0, 1) := by decide +kernel
theorem dX19_init__47 : decode cX19_init_ 47 = .ok (.bipush 6, 2) := by decide +kernel
theorem dX19_init__49 : decode cX19_init_ 49 = .ok (.newarray .int, 2) := by decide +kernel
theorem dX19_init__51 : decode cX19_init_ 51 = .ok (.putfield 33, 3) := by decide +kernel
theorem dX19_init__54 : decode cX19_init_ 54 = .ok (.aload_n 0, 1) := by decide +kernel
theorem dX19_init__55 : decode cX19_init_ 55 = .ok (.iconst 4, 1) := by decide +kernel
theorem dX19_init__56 : decode cX19_init_ 56 = .ok (.newarray .boolean, 2) := by decide +kernel
theorem dX19_init__58 : decode cX19_init_ 58 = .ok (.putfield 36, 3) := by decide +kernel
theorem dX19_init__61 : decode cX19_init_ 61 = .ok (.aload_n 0, 1) := by decide +kernel
theorem dX19_init__62 : decode cX19_init_ 62 = .ok (.bipush 8, 2) := by decide +kernel
theorem dX19_init__64 : decode cX19_init_ 64 = .ok (.bipush 6, 2) := by decide +kernel
theorem dX19_init__66 : decode cX19_init_ 66 = .ok (.multianewarray 40 2, 4) := by decide +kernel
theorem dX19_init__70 : decode cX19_init_ 70 = .ok (.putfield 42, 3) := by decide +kernel
theorem dX19_init__73 : decode cX19_init_ 73 = .ok (.aload_n 0, 1) := by decide +kernel
theorem dX19_init__74 : decode cX19_init_ 74 = .ok (.bipush 8, 2) := by decide +kernel
theorem dX19_init__76 : decode cX19_init_ 76 = .ok (.sipush 600, 3) := by decide +kernel
theorem dX19_init__79 : decode cX19_init_ 79 = .ok (.multianewarray 40 2, 4) := by decide +kernel
theorem dX19_init__83 : decode cX19_init_ 83 = .ok (.putfield 45, 3) := by decide +kernel
theorem dX19_init__86 : decode cX19_init_ 86 = .ok (.aload_n 0, 1) := by decide +kernel
theorem dX19_init__87 : decode cX19_init_ 87 = .ok (.bipush 8, 2) := by decide +kernel
theorem dX19_init__89 : decode cX19_init_ 89 = .ok (.newarray .int, 2) := by decide +kernel
theorem dX19_init__91 : decode cX19_init_ 91 = .ok (.putfield 48, 3) := by decide +kernel
theorem dX19_init__94 : decode cX19_init_ 94 = .ok (.aload_n 0, 1) := by decide +kernel
theorem dX19_init__95 : decode cX19_init_ 95 = .ok (.bipush 8, 2) := by decide +kernel
theorem dX19_init__97 : decode cX19_init_ 97 = .ok (.newarray .int, 2) := by decide +kernel
theorem dX19_init__99 : decode cX19_init_ 99 = .ok (.putfield 51, 3) := by decide +kernel
theorem dX19_init__102 : decode cX19_init_ 102 = .ok (.aload_n 0, 1) := by decide +kernel
theorem dX19_init__103 : decode cX19_init_ 103 = .ok (.bipush 8, 2) := by decide +kernel
theorem dX19_init__105 : decode cX19_init_ 105 = .ok (.newarray .int, 2) := by decide +kernel
theorem dX19_init__107 : decode cX19_init_ 107 = .ok (.putfield 54, 3) := by decide +kernel
theorem dX19_init__110 : decode cX19_init_ 110 = .ok (.aload_n 0, 1) := by decide +kernel
theorem dX19_init__111 : decode cX19_init_ 111 = .ok (.bipush 8, 2) := by decide +kernel
theorem dX19_init__113 : decode cX19_init_ 113 = .ok (.newarray .int, 2) := by decide +kernel
theorem dX19_init__115 : decode cX19_init_ 115 = .ok (.putfield 57, 3) := by decide +kernel
theorem dX19_init__118 : decode cX19_init_ 118 = .ok (.aload_n 0, 1) := by decide +kernel
theorem dX19_init__119 : decode cX19_init_ 119 = .ok (.bipush 8, 2) := by decide +kernel
theorem dX19_init__121 : decode cX19_init_ 121 = .ok (.newarray .int, 2) := by decide +kernel
theorem dX19_init__123 : decode cX19_init_ 123 = .ok (.putfield 60, 3) := by decide +kernel
theorem dX19_init__126 : decode cX19_init_ 126 = .ok (.aload_n 1, 1) := by decide +kernel
theorem dX19_init__127 : decode cX19_init_ 127 = .ok (.getfield 20, 3) := by decide +kernel
theorem dX19_init__130 : decode cX19_init_ 130 = .ok (.iconst 0, 1) := by decide +kernel
theorem dX19_init__131 : decode cX19_init_ 131 = .ok (.aload_n 0, 1) := by decide +kernel
theorem dX19_init__132 : decode cX19_init_ 132 = .ok (.getfield 20, 3) := by decide +kernel
theorem dX19_init__135 : decode cX19_init_ 135 = .ok (.iconst 0, 1) := by decide +kernel
theorem dX19_init__136 : decode cX19_init_ 136 = .ok (.bipush 8, 2) := by decide +kernel
theorem dX19_init__138 : decode cX19_init_ 138 = .ok (.invokestatic 105, 3) := by decide +kernel
theorem dX19_init__141 : decode cX19_init_ 141 = .ok (.aload_n 1, 1) := by decide +kernel
theorem dX19_init__142 : decode cX19_init_ 142 = .ok (.getfield 24, 3) := by decide +kernel
theorem dX19_init__145 : decode cX19_init_ 145 = .ok (.iconst 0, 1) := by decide +kernel
theorem dX19_init__146 : decode cX19_init_ 146 = .ok (.aload_n 0, 1) := by decide +kernel
theorem dX19_init__147 : decode cX19_init_ 147 = .ok (.getfield 24, 3) := by decide +kernel
theorem dX19_init__150 : decode cX19_init_ 150 = .ok (.iconst 0, 1) := by decide +kernel
theorem dX19_init__151 : decode cX19_init_ 151 = .ok (.iconst 4, 1) := by decide +kernel
theorem dX19_init__152 : decode cX19_init_ 152 = .ok (.invokestatic 105, 3) := by decide +kernel
theorem dX19_init__155 : decode cX19_init_ 155 = .ok (.aload_n 1, 1) := by decide +kernel
theorem dX19_init__156 : decode cX19_init_ 156 = .ok (.getfield 27, 3) := by decide +kernel
theorem dX19_init__159 : decode cX19_init_ 159 = .ok (.iconst 0, 1) := by decide +kernel
theorem dX19_init__160 : decode cX19_init_ 160 = .ok (.aload_n 0, 1) := by decide +kernel
theorem dX19_init__161 : decode cX19_init_ 161 = .ok (.getfield 27, 3) := by decide +kernel
theorem dX19_init__164 : decode cX19_init_ 164 = .ok (.iconst 0, 1) := by decide +kernel
theorem dX19_init__165 : decode cX19_init_ 165 = .ok (.iconst 4, 1) := by decide +kernel
theorem dX19_init__166 : decode cX19_init_ 166 = .ok (.invokestatic 105, 3) := by decide +kernel
theorem dX19_init__169 : decode cX19_init_ 169 = .ok (.aload_n 1, 1) := by decide +kernel
theorem dX19_init__170 : decode cX19_init_ 170 = .ok (.getfield 30, 3) := by decide +kernel
theorem dX19_init__173 : decode cX19_init_ 173 = .ok (.iconst 0, 1) := by decide +kernel
theorem dX19_init__174 : decode cX19_init_ 174 = .ok (.aload_n 0, 1) := by decide +kernel
theorem dX19_init__175 : decode cX19_init_ 175 = .ok (.getfield 30, 3) := by decide +kernel
theorem dX19_init__178 : decode cX19_init_ 178 = .ok (.iconst 0, 1) := by decide +kernel
theorem dX19_init__179 : decode cX19_init_ 179 = .ok (.iconst 4, 1) := by decide +kernel
theorem dX19_init__180 : decode cX19_init_ 180 = .ok (.invokestatic 105, 3) := by decide +kernel
theorem dX19_init__183 : decode cX19_init_ 183 = .ok (.aload_n 1, 1) := by decide +kernel
theorem dX19_init__184 : decode cX19_init_ 184 = .ok (.getfield 33, 3) := by decide +kernel
theorem dX19_init__187 : decode cX19_init_ 187 = .ok (.iconst 0, 1) := by decide +kernel
theorem dX19_init__188 : decode cX19_init_ 188 = .ok (.aload_n 0, 1) := by decide +kernel
theorem dX19_init__189 : decode cX19_init_ 189 = .ok (.getfield 33, 3) := by decide +kernel
theorem dX19_init__192 : decode cX19_init_ 192 = .ok (.iconst 0, 1) := by decide +kernel
theorem dX19_init__193 : decode cX19_init_ 193 = .ok (.bipush 6, 2) := by decide +kernel
theorem dX19_init__195 : decode cX19_init_ 195 = .ok (.invokestatic 105, 3) := by decide +kernel
theorem dX19_init__198 : decode cX19_init_ 198 = .ok (.aload_n 1, 1) := by decide +kernel
theorem dX19_init__199 : decode cX19_init_ 199 = .ok (.getfield 36, 3) := by decide +kernel
theorem dX19_init__202 : decode cX19_init_ 202 = .ok (.iconst 0, 1) := by decide +kernel
theorem dX19_init__203 : decode cX19_init_ 203 = .ok (.aload_n 0, 1) := by decide +kernel
theorem dX19_init__204 : decode cX19_init_ 204 = .ok (.getfield 36, 3) := by decide +kernel
theorem dX19_init__207 : decode cX19_init_ 207 = .ok (.iconst 0, 1) := by decide +kernel
theorem dX19_init__208 : decode cX19_init_ 208 = .ok (.iconst 4, 1) := by decide +kernel
theorem dX19_init__209 : decode cX19_init_ 209 = .ok (.invokestatic 105, 3) := by decide +kernel
theorem dX19_init__212 : decode cX19_init_ 212 = .ok (.iconst 0, 1) := by decide +kernel
theorem dX19_init__213 : decode cX19_init_ 213 = .ok (.istore_n 2, 1) := by decide +kernel
theorem dX19_init__214 : decode cX19_init_ 214 = .ok (.iload_n 2, 1) := by decide +kernel
theorem dX19_init__215 : decode cX19_init_ 215 = .ok (.aload_n 0, 1) := by decide +kernel
theorem dX19_init__216 : decode cX19_init_ 216 = .ok (.getfield 20, 3) := by decide +kernel
theorem dX19_init__219 : decode cX19_init_ 219 = .ok (.iconst 1, 1) := by decide +kernel
theorem dX19_init__220 : decode cX19_init_ 220 = .ok (.iaload, 1) := by decide +kernel
theorem dX19_init__221 : decode cX19_init_ 221 = .ok (.if_icmp .ge 51, 3) := by decide +kernel
theorem dX19_init__224 : decode cX19_init_ 224 = .ok (.aload_n 1, 1) := by decide +kernel
theorem dX19_init__225 : decode cX19_init_ 225 = .ok (.getfield 42, 3) := by decide +kernel
theorem dX19_init__228 : decode cX19_init_ 228 = .ok (.iload_n 2, 1) := by decide +kernel
theorem dX19_init__229 : decode cX19_init_ 229 = .ok (.aaload, 1) := by decide +kernel
theorem dX19_init__230 : decode cX19_init_ 230 = .ok (.iconst 0, 1) := by decide +kernel
theorem dX19_init__231 : decode cX19_init_ 231 = .ok (.aload_n 0, 1) := by decide +kernel
theorem dX19_init__232 : decode cX19_init_ 232 = .ok (.getfield 42, 3) := by decide +kernel
theorem dX19_init__235 : decode cX19_init_ 235 = .ok (.iload_n 2, 1) := by decide +kernel
theorem dX19_init__236 : decode cX19_init_ 236 = .ok (.aaload, 1) := by decide +kernel
theorem dX19_init__237 : decode cX19_init_ 237 = .ok (.iconst 0, 1) := by decide +kernel
theorem dX19_init__238 : decode cX19_init_ 238 = .ok (.bipush 6, 2) := by decide +kernel
theorem dX19_init__240 : decode cX19_init_ 240 = .ok (.invokestatic 105, 3) := by decide +kernel
theorem dX19_init__243 : decode cX19_init_ 243 = .ok (.aload_n 1, 1) := by decide +kernel
theorem dX19_init__244 : decode cX19_init_ 244 = .ok (.getfield 45, 3) := by decide +kernel
theorem dX19_init__247 : decode cX19_init_ 247 = .ok (.iload_n 2, 1) := by decide +kernel
theorem dX19_init__248 : decode cX19_init_ 248 = .ok (.aaload, 1) := by decide +kernel
theorem dX19_init__249 : decode cX19_init_ 249 = .ok (.iconst 0, 1) := by decide +kernel
theorem dX19_init__250 : decode cX19_init_ 250 = .ok (.aload_n 0, 1) := by decide +kernel
theorem dX19_init__251 : decode cX19_init_ 251 = .ok (.getfield 45, 3) := by decide +kernel
theorem dX19_init__254 : decode cX19_init_ 254 = .ok (.iload_n 2, 1) := by decide +kernel
theorem dX19_init__255 : decode cX19_init_ 255 = .ok (.aaload, 1) := by decide +kernel
theorem dX19_init__256 : decode cX19_init_ 256 = .ok (.iconst 0, 1) := by decide +kernel
theorem dX19_init__257 : decode cX19_init_ 257 = .ok (.aload_n 1, 1) := by decide +kernel
theorem dX19_init__258 : decode cX19_init_ 258 = .ok (.getfield 51, 3) := by decide +kernel
theorem dX19_init__261 : decode cX19_init_ 261 = .ok (.iload_n 2, 1) := by decide +kernel
theorem dX19_init__262 : decode cX19_init_ 262 = .ok (.iaload, 1) := by decide +kernel
theorem dX19_init__263 : decode cX19_init_ 263 = .ok (.invokestatic 105, 3) := by decide +kernel
theorem dX19_init__266 : decode cX19_init_ 266 = .ok (.iinc 2 1, 3) := by decide +kernel
theorem dX19_init__269 : decode cX19_init_ 269 = .ok (.goto (-55), 3) := by decide +kernel
theorem dX19_init__272 : decode cX19_init_ 272 = .ok (.aload_n 1, 1) := by decide +kernel
theorem dX19_init__273 : decode cX19_init_ 273 = .ok (.getfield 48, 3) := by decide +kernel
theorem dX19_init__276 : decode cX19_init_ 276 = .ok (.iconst 0, 1) := by decide +kernel
theorem dX19_init__277 : decode cX19_init_ 277 = .ok (.aload_n 0, 1) := by decide +kernel
theorem dX19_init__278 : decode cX19_init_ 278 = .ok (.getfield 48, 3) := by decide +kernel
theorem dX19_init__281 : decode cX19_init_ 281 = .ok (.iconst 0, 1) := by decide +kernel
theorem dX19_init__282 : decode cX19_init_ 282 = .ok (.bipush 8, 2) := by decide +kernel
theorem dX19_init__284 : decode cX19_init_ 284 = .ok (.invokestatic 105, 3) := by decide +kernel
theorem dX19_init__287 : decode cX19_init_ 287 = .ok (.aload_n 1, 1) := by decide +kernel
theorem dX19_init__288 : decode cX19_init_ 288 = .ok (.getfield 51, 3) := by decide +kernel
theorem dX19_init__291 : decode cX19_init_ 291 = .ok (.iconst 0, 1) := by decide +kernel
theorem dX19_init__292 : decode cX19_init_ 292 = .ok (.aload_n 0, 1) := by decide +kernel
theorem dX19_init__293 : decode cX19_init_ 293 = .ok (.getfield 51, 3) := by decide +kernel
theorem dX19_init__296 : decode cX19_init_ 296 = .ok (.iconst 0, 1) := by decide +kernel
theorem dX19_init__297 : decode cX19_init_ 297 = .ok (.bipush 8, 2) := by decide +kernel
theorem dX19_init__299 : decode cX19_init_ 299 = .ok (.invokestatic 105, 3) := by decide +kernel
theorem dX19_init__302 : decode cX19_init_ 302 = .ok (.aload_n 1, 1) := by decide +kernel
theorem dX19_init__303 : decode cX19_init_ 303 = .ok (.getfield 54, 3) := by decide +kernel
theorem dX19_init__306 : decode cX19_init_ 306 = .ok (.iconst 0, 1) := by decide +kernel
theorem dX19_init__307 : decode cX19_init_ 307 = .ok (.aload_n 0, 1) := by decide +kernel
theorem dX19_init__308 : decode cX19_init_ 308 = .ok (.getfield 54, 3) := by decide +kernel
theorem dX19_init__311 : decode cX19_init_ 311 = .ok (.iconst 0, 1) := by decide +kernel
theorem dX19_init__312 : decode cX19_init_ 312 = .ok (.bipush 8, 2) := by decide +kernel
theorem dX19_init__314 : decode cX19_init_ 314 = .ok (.invokestatic 105, 3) := by decide +kernel
theorem dX19_init__317 : decode cX19_init_ 317 = .ok (.aload_n 1, 1) := by decide +kernel
theorem dX19_init__318 : decode cX19_init_ 318 = .ok (.getfield 57, 3) := by decide +kernel
theorem dX19_init__321 : decode cX19_init_ 321 = .ok (.iconst 0, 1) := by decide +kernel
theorem dX19_init__322 : decode cX19_init_ 322 = .ok (.aload_n 0, 1) := by decide +kernel
theorem dX19_init__323 : decode cX19_init_ 323 = .ok (.getfield 57, 3) := by decide +kernel
theorem dX19_init__326 : decode cX19_init_ 326 = .ok (.iconst 0, 1) := by decide +kernel
theorem dX19_init__327 : decode cX19_init_ 327 = .ok (.bipush 8, 2) := by decide +kernel
theorem dX19_init__329 : decode cX19_init_ 329 = .ok (.invokestatic 105, 3) := by decide +kernel
theorem dX19_init__332 : decode cX19_init_ 332 = .ok (.aload_n 1, 1) := by decide +kernel
theorem dX19_init__333 : decode cX19_init_ 333 = .ok (.getfield 60, 3) := by decide +kernel
theorem dX19_init__336 : decode cX19_init_ 336 = .ok (.iconst 0, 1) := by decide +kernel
theorem dX19_init__337 : decode cX19_init_ 337 = .ok (.aload_n 0, 1) := by decide +kernel
theorem dX19_init__338 : decode cX19_init_ 338 = .ok (.getfield 60, 3) := by decide +kernel
theorem dX19_init__341 : decode cX19_init_ 341 = .ok (.iconst 0, 1) := by decide +kernel
theorem dX19_init__342 : decode cX19_init_ 342 = .ok (.bipush 8, 2) := by decide +kernel
theorem dX19_init__344 : decode cX19_init_ 344 = .ok (.invokestatic 105, 3) := by decide +kernel
theorem dX19_init__347 : decode cX19_init_ 347 = .ok (.aload_n 0, 1) := by decide +kernel
theorem dX19_init__348 : decode cX19_init_ 348 = .ok (.aload_n 1, 1) := by decide +kernel
theorem dX19_init__349 : decode cX19_init_ 349 = .ok (.getfield 89, 3) := by decide +kernel
theorem dX19_init__352 : decode cX19_init_ 352 = .ok (.putfield 89, 3) := by decide +kernel
theorem dX19_init__355 : decode cX19_init_ 355 = .ok (.aload_n 0, 1) := by decide +kernel
theorem dX19_init__356 : decode cX19_init_ 356 = .ok (.aload_n 1, 1) := by decide +kernel
theorem dX19_init__357 : decode cX19_init_ 357 = .ok (.getfield 69, 3) := by decide +kernel
theorem dX19_init__360 : decode cX19_init_ 360 = .ok (.putfield 69, 3) := by decide +kernel
theorem dX19_init__363 : decode cX19_init_ 363 = .ok (.return_, 1) := by decide +kernel
theorem dX19_kind_0 : decode cX19_kind 0 = .ok (.iconst 0, 1) := by decide +kernel
theorem dX19_kind_1 : decode cX19_kind 1 = .ok (.istore_n 3, 1) := by decide +kernel
theorem dX19_kind_2 : decode cX19_kind 2 = .ok (.iload_n 3, 1) := by decide +kernel
theorem dX19_kind_3 : decode cX19_kind 3 = .ok (.aload_n 0, 1) := by decide +kernel
theorem dX19_kind_4 : decode cX19_kind 4 = .ok (.getfield 89, 3) := by decide +kernel
theorem dX19_kind_7 : decode cX19_kind 7 = .ok (.if_icmp .ge 31, 3) := by decide +kernel
theorem dX19_kind_10 : decode cX19_kind 10 = .ok (.aload_n 0, 1) := by decide +kernel
theorem dX19_kind_11 : decode cX19_kind 11 = .ok (.getfield 36, 3) := by decide +kernel
theorem dX19_kind_14 : decode cX19_kind 14 = .ok (.iload_n 3, 1) := by decide +kernel
theorem dX19_kind_15 : decode cX19_kind 15 = .ok (.baload, 1) := by decide +kernel
theorem dX19_kind_16 : decode cX19_kind 16 = .ok (.iload_n 1, 1) := by decide +kernel
theorem dX19_kind_17 : decode cX19_kind 17 = .ok (.if_icmp .ne 15, 3) := by decide +kernel
theorem dX19_kind_20 : decode cX19_kind 20 = .ok (.aload_n 0, 1) := by decide +kernel
theorem dX19_kind_21 : decode cX19_kind 21 = .ok (.getfield 24, 3) := by decide +kernel
theorem dX19_kind_24 : decode cX19_kind 24 = .ok (.iload_n 3, 1) := by decide +kernel
theorem dX19_kind_25 : decode cX19_kind 25 = .ok (.iaload, 1) := by decide +kernel
theorem dX19_kind_26 : decode cX19_kind 26 = .ok (.iload_n 2, 1) := by decide +kernel
theorem dX19_kind_27 : decode cX19_kind 27 = .ok (.if_icmp .ne 5, 3) := by decide +kernel
theorem dX19_kind_30 : decode cX19_kind 30 = .ok (.iload_n 3, 1) := by decide +kernel
theorem dX19_kind_31 : decode cX19_kind 31 = .ok (.ireturn, 1) := by decide +kernel
theorem dX19_kind_32 : decode cX19_kind 32 = .ok (.iinc 3 1, 3) := by decide +kernel
theorem dX19_kind_35 : decode cX19_kind 35 = .ok (.goto (-33), 3) := by decide +kernel
theorem dX19_kind_38 : decode cX19_kind 38 = .ok (.iconst (-1), 1) := by decide +kernel
theorem dX19_kind_39 : decode cX19_kind 39 = .ok (.ireturn, 1) := by decide +kernel
theorem dX19_sorts_0 : decode cX19_sorts 0 = .ok (.iconst 0, 1) := by decide +kernel
theorem dX19_sorts_1 : decode cX19_sorts 1 = .ok (.istore_n 1, 1) := by decide +kernel
theorem dX19_sorts_2 : decode cX19_sorts 2 = .ok (.bipush 99, 2) := by decide +kernel
theorem dX19_sorts_4 : decode cX19_sorts 4 = .ok (.istore_n 2, 1) := by decide +kernel
theorem dX19_sorts_5 : decode cX19_sorts 5 = .ok (.iload_n 2, 1) := by decide +kernel
theorem dX19_sorts_6 : decode cX19_sorts 6 = .ok (.ifCond .le 57, 3) := by decide +kernel
theorem dX19_sorts_9 : decode cX19_sorts 9 = .ok (.aload_n 0, 1) := by decide +kernel
theorem dX19_sorts_10 : decode cX19_sorts 10 = .ok (.iconst 1, 1) := by decide +kernel
theorem dX19_sorts_11 : decode cX19_sorts 11 = .ok (.iload_n 2, 1) := by decide +kernel
theorem dX19_sorts_12 : decode cX19_sorts 12 = .ok (.invokevirtual 85, 3) := by decide +kernel
theorem dX19_sorts_15 : decode cX19_sorts 15 = .ok (.ifCond .lt 18, 3) := by decide +kernel
theorem dX19_sorts_18 : decode cX19_sorts 18 = .ok (.aload_n 0, 1) := by decide +kernel
theorem dX19_sorts_19 : decode cX19_sorts 19 = .ok (.getfield 30, 3) := by decide +kernel
theorem dX19_sorts_22 : decode cX19_sorts 22 = .ok (.iload_n 1, 1) := by decide +kernel
theorem dX19_sorts_23 : decode cX19_sorts 23 = .ok (.iinc 1 1, 3) := by decide +kernel
theorem dX19_sorts_26 : decode cX19_sorts 26 = .ok (.aload_n 0, 1) := by decide +kernel
theorem dX19_sorts_27 : decode cX19_sorts 27 = .ok (.iconst 1, 1) := by decide +kernel
theorem dX19_sorts_28 : decode cX19_sorts 28 = .ok (.iload_n 2, 1) := by decide +kernel
theorem dX19_sorts_29 : decode cX19_sorts 29 = .ok (.invokevirtual 85, 3) := by decide +kernel
theorem dX19_sorts_32 : decode cX19_sorts 32 = .ok (.iastore, 1) := by decide +kernel
theorem dX19_sorts_33 : decode cX19_sorts 33 = .ok (.aload_n 0, 1) := by decide +kernel
theorem dX19_sorts_34 : decode cX19_sorts 34 = .ok (.iconst 0, 1) := by decide +kernel
theorem dX19_sorts_35 : decode cX19_sorts 35 = .ok (.iload_n 2, 1) := by decide +kernel
theorem dX19_sorts_36 : decode cX19_sorts 36 = .ok (.invokevirtual 85, 3) := by decide +kernel
theorem dX19_sorts_39 : decode cX19_sorts 39 = .ok (.ifCond .lt 18, 3) := by decide +kernel
theorem dX19_sorts_42 : decode cX19_sorts 42 = .ok (.aload_n 0, 1) := by decide +kernel
theorem dX19_sorts_43 : decode cX19_sorts 43 = .ok (.getfield 30, 3) := by decide +kernel
theorem dX19_sorts_46 : decode cX19_sorts 46 = .ok (.iload_n 1, 1) := by decide +kernel
theorem dX19_sorts_47 : decode cX19_sorts 47 = .ok (.iinc 1 1, 3) := by decide +kernel
theorem dX19_sorts_50 : decode cX19_sorts 50 = .ok (.aload_n 0, 1) := by decide +kernel
theorem dX19_sorts_51 : decode cX19_sorts 51 = .ok (.iconst 0, 1) := by decide +kernel
theorem dX19_sorts_52 : decode cX19_sorts 52 = .ok (.iload_n 2, 1) := by decide +kernel
theorem dX19_sorts_53 : decode cX19_sorts 53 = .ok (.invokevirtual 85, 3) := by decide +kernel
theorem dX19_sorts_56 : decode cX19_sorts 56 = .ok (.iastore, 1) := by decide +kernel
theorem dX19_sorts_57 : decode cX19_sorts 57 = .ok (.iinc 2 (-1), 3) := by decide +kernel
theorem dX19_sorts_60 : decode cX19_sorts 60 = .ok (.goto (-55), 3) := by decide +kernel
theorem dX19_sorts_63 : decode cX19_sorts 63 = .ok (.return_, 1) := by decide +kernel
theorem dX19_blocksIn_0 : decode cX19_blocksIn 0 = .ok (.iconst 0, 1) := by decide +kernel
theorem dX19_blocksIn_1 : decode cX19_blocksIn 1 = .ok (.istore_n 2, 1) := by decide +kernel
theorem dX19_blocksIn_2 : decode cX19_blocksIn 2 = .ok (.iconst 0, 1) := by decide +kernel
theorem dX19_blocksIn_3 : decode cX19_blocksIn 3 = .ok (.istore_n 3, 1) := by decide +kernel
theorem dX19_blocksIn_4 : decode cX19_blocksIn 4 = .ok (.iload_n 3, 1) := by decide +kernel
theorem dX19_blocksIn_5 : decode cX19_blocksIn 5 = .ok (.aload_n 0, 1) := by decide +kernel
theorem dX19_blocksIn_6 : decode cX19_blocksIn 6 = .ok (.getfield 48, 3) := by decide +kernel
theorem dX19_blocksIn_9 : decode cX19_blocksIn 9 = .ok (.iload_n 1, 1) := by decide +kernel
theorem dX19_blocksIn_10 : decode cX19_blocksIn 10 = .ok (.iaload, 1) := by decide +kernel
theorem dX19_blocksIn_11 : decode cX19_blocksIn 11 = .ok (.if_icmp .ge 20, 3) := by decide +kernel
theorem dX19_blocksIn_14 : decode cX19_blocksIn 14 = .ok (.iload_n 2, 1) := by decide +kernel
theorem dX19_blocksIn_15 : decode cX19_blocksIn 15 = .ok (.aload_n 0, 1) := by decide +kernel
theorem dX19_blocksIn_16 : decode cX19_blocksIn 16 = .ok (.getfield 42, 3) := by decide +kernel
theorem dX19_blocksIn_19 : decode cX19_blocksIn 19 = .ok (.iload_n 1, 1) := by decide +kernel
theorem dX19_blocksIn_20 : decode cX19_blocksIn 20 = .ok (.aaload, 1) := by decide +kernel
theorem dX19_blocksIn_21 : decode cX19_blocksIn 21 = .ok (.iload_n 3, 1) := by decide +kernel
theorem dX19_blocksIn_22 : decode cX19_blocksIn 22 = .ok (.iaload, 1) := by decide +kernel
theorem dX19_blocksIn_23 : decode cX19_blocksIn 23 = .ok (.iadd, 1) := by decide +kernel
theorem dX19_blocksIn_24 : decode cX19_blocksIn 24 = .ok (.istore_n 2, 1) := by decide +kernel
theorem dX19_blocksIn_25 : decode cX19_blocksIn 25 = .ok (.iinc 3 1, 3) := by decide +kernel
theorem dX19_blocksIn_28 : decode cX19_blocksIn 28 = .ok (.goto (-24), 3) := by decide +kernel
theorem dX19_blocksIn_31 : decode cX19_blocksIn 31 = .ok (.iload_n 2, 1) := by decide +kernel
theorem dX19_blocksIn_32 : decode cX19_blocksIn 32 = .ok (.ireturn, 1) := by decide +kernel
theorem dX19_need_0 : decode cX19_need 0 = .ok (.aload_n 0, 1) := by decide +kernel
theorem dX19_need_1 : decode cX19_need 1 = .ok (.getfield 20, 3) := by decide +kernel
theorem dX19_need_4 : decode cX19_need 4 = .ok (.iconst 0, 1) := by decide +kernel
theorem dX19_need_5 : decode cX19_need 5 = .ok (.iaload, 1) := by decide +kernel
theorem dX19_need_6 : decode cX19_need 6 = .ok (.aload_n 0, 1) := by decide +kernel
theorem dX19_need_7 : decode cX19_need 7 = .ok (.iload_n 1, 1) := by decide +kernel
theorem dX19_need_8 : decode cX19_need 8 = .ok (.invokevirtual 111, 3) := by decide +kernel
theorem dX19_need_11 : decode cX19_need 11 = .ok (.isub, 1) := by decide +kernel
theorem dX19_need_12 : decode cX19_need 12 = .ok (.istore_n 2, 1) := by decide +kernel
theorem dX19_need_13 : decode cX19_need 13 = .ok (.iconst 0, 1) := by decide +kernel
theorem dX19_need_14 : decode cX19_need 14 = .ok (.istore_n 3, 1) := by decide +kernel
theorem dX19_need_15 : decode cX19_need 15 = .ok (.iload_n 3, 1) := by decide +kernel
theorem dX19_need_16 : decode cX19_need 16 = .ok (.aload_n 0, 1) := by decide +kernel
theorem dX19_need_17 : decode cX19_need 17 = .ok (.getfield 51, 3) := by decide +kernel
theorem dX19_need_20 : decode cX19_need 20 = .ok (.iload_n 1, 1) := by decide +kernel
theorem dX19_need_21 : decode cX19_need 21 = .ok (.iaload, 1) := by decide +kernel
theorem dX19_need_22 : decode cX19_need 22 = .ok (.if_icmp .ge 25, 3) := by decide +kernel
theorem dX19_need_25 : decode cX19_need 25 = .ok (.iload_n 2, 1) := by decide +kernel
theorem dX19_need_26 : decode cX19_need 26 = .ok (.aload_n 0, 1) := by decide +kernel
theorem dX19_need_27 : decode cX19_need 27 = .ok (.getfield 24, 3) := by decide +kernel
theorem dX19_need_30 : decode cX19_need 30 = .ok (.aload_n 0, 1) := by decide +kernel
theorem dX19_need_31 : decode cX19_need 31 = .ok (.getfield 45, 3) := by decide +kernel
theorem dX19_need_34 : decode cX19_need 34 = .ok (.iload_n 1, 1) := by decide +kernel
theorem dX19_need_35 : decode cX19_need 35 = .ok (.aaload, 1) := by decide +kernel
theorem dX19_need_36 : decode cX19_need 36 = .ok (.iload_n 3, 1) := by decide +kernel
theorem dX19_need_37 : decode cX19_need 37 = .ok (.iaload, 1) := by decide +kernel
theorem dX19_need_38 : decode cX19_need 38 = .ok (.iaload, 1) := by decide +kernel
theorem dX19_need_39 : decode cX19_need 39 = .ok (.isub, 1) := by decide +kernel
theorem dX19_need_40 : decode cX19_need 40 = .ok (.istore_n 2, 1) := by decide +kernel
theorem dX19_need_41 : decode cX19_need 41 = .ok (.iinc 3 1, 3) := by decide +kernel
theorem dX19_need_44 : decode cX19_need 44 = .ok (.goto (-29), 3) := by decide +kernel
theorem dX19_need_47 : decode cX19_need 47 = .ok (.iload_n 2, 1) := by decide +kernel
theorem dX19_need_48 : decode cX19_need 48 = .ok (.ireturn, 1) := by decide +kernel
theorem dX19_gap_0 : decode cX19_gap 0 = .ok (.aload_n 0, 1) := by decide +kernel
theorem dX19_gap_1 : decode cX19_gap 1 = .ok (.iload_n 1, 1) := by decide +kernel
theorem dX19_gap_2 : decode cX19_gap 2 = .ok (.invokevirtual 114, 3) := by decide +kernel
theorem dX19_gap_5 : decode cX19_gap 5 = .ok (.aload_n 0, 1) := by decide +kernel
theorem dX19_gap_6 : decode cX19_gap 6 = .ok (.getfield 54, 3) := by decide +kernel
theorem dX19_gap_9 : decode cX19_gap 9 = .ok (.iload_n 1, 1) := by decide +kernel
theorem dX19_gap_10 : decode cX19_gap 10 = .ok (.iaload, 1) := by decide +kernel
theorem dX19_gap_11 : decode cX19_gap 11 = .ok (.ifCond .ge 7, 3) := by decide +kernel
theorem dX19_gap_14 : decode cX19_gap 14 = .ok (.iconst 0, 1) := by decide +kernel
theorem dX19_gap_15 : decode cX19_gap 15 = .ok (.goto 23, 3) := by decide +kernel
theorem dX19_gap_18 : decode cX19_gap 18 = .ok (.aload_n 0, 1) := by decide +kernel
theorem dX19_gap_19 : decode cX19_gap 19 = .ok (.getfield 20, 3) := by decide +kernel
theorem dX19_gap_22 : decode cX19_gap 22 = .ok (.iconst 2, 1) := by decide +kernel
theorem dX19_gap_23 : decode cX19_gap 23 = .ok (.iaload, 1) := by decide +kernel
theorem dX19_gap_24 : decode cX19_gap 24 = .ok (.aload_n 0, 1) := by decide +kernel
theorem dX19_gap_25 : decode cX19_gap 25 = .ok (.getfield 54, 3) := by decide +kernel
theorem dX19_gap_28 : decode cX19_gap 28 = .ok (.iload_n 1, 1) := by decide +kernel
theorem dX19_gap_29 : decode cX19_gap 29 = .ok (.iaload, 1) := by decide +kernel
theorem dX19_gap_30 : decode cX19_gap 30 = .ok (.iadd, 1) := by decide +kernel
theorem dX19_gap_31 : decode cX19_gap 31 = .ok (.aload_n 0, 1) := by decide +kernel
theorem dX19_gap_32 : decode cX19_gap 32 = .ok (.getfield 57, 3) := by decide +kernel
theorem dX19_gap_35 : decode cX19_gap 35 = .ok (.iload_n 1, 1) := by decide +kernel
theorem dX19_gap_36 : decode cX19_gap 36 = .ok (.iaload, 1) := by decide +kernel
theorem dX19_gap_37 : decode cX19_gap 37 = .ok (.isub, 1) := by decide +kernel
theorem dX19_gap_38 : decode cX19_gap 38 = .ok (.isub, 1) := by decide +kernel
theorem dX19_gap_39 : decode cX19_gap 39 = .ok (.ireturn, 1) := by decide +kernel
theorem dX19_wood_0 : decode cX19_wood 0 = .ok (.iconst 0, 1) := by decide +kernel
theorem dX19_wood_1 : decode cX19_wood 1 = .ok (.istore_n 2, 1) := by decide +kernel
theorem dX19_wood_2 : decode cX19_wood 2 = .ok (.iconst 0, 1) := by decide +kernel
theorem dX19_wood_3 : decode cX19_wood 3 = .ok (.istore_n 3, 1) := by decide +kernel
theorem dX19_wood_4 : decode cX19_wood 4 = .ok (.iload_n 3, 1) := by decide +kernel
theorem dX19_wood_5 : decode cX19_wood 5 = .ok (.aload_n 0, 1) := by decide +kernel
theorem dX19_wood_6 : decode cX19_wood 6 = .ok (.getfield 51, 3) := by decide +kernel
theorem dX19_wood_9 : decode cX19_wood 9 = .ok (.iload_n 1, 1) := by decide +kernel
theorem dX19_wood_10 : decode cX19_wood 10 = .ok (.iaload, 1) := by decide +kernel
theorem dX19_wood_11 : decode cX19_wood 11 = .ok (.if_icmp .ge 33, 3) := by decide +kernel
theorem dX19_wood_14 : decode cX19_wood 14 = .ok (.iload_n 2, 1) := by decide +kernel
theorem dX19_wood_15 : decode cX19_wood 15 = .ok (.aload_n 0, 1) := by decide +kernel
theorem dX19_wood_16 : decode cX19_wood 16 = .ok (.getfield 36, 3) := by decide +kernel
theorem dX19_wood_19 : decode cX19_wood 19 = .ok (.aload_n 0, 1) := by decide +kernel
theorem dX19_wood_20 : decode cX19_wood 20 = .ok (.getfield 45, 3) := by decide +kernel
theorem dX19_wood_23 : decode cX19_wood 23 = .ok (.iload_n 1, 1) := by decide +kernel
theorem dX19_wood_24 : decode cX19_wood 24 = .ok (.aaload, 1) := by decide +kernel
theorem dX19_wood_25 : decode cX19_wood 25 = .ok (.iload_n 3, 1) := by decide +kernel
theorem dX19_wood_26 : decode cX19_wood 26 = .ok (.iaload, 1) := by decide +kernel
theorem dX19_wood_27 : decode cX19_wood 27 = .ok (.baload, 1) := by decide +kernel
theorem dX19_wood_28 : decode cX19_wood 28 = .ok (.ifCond .eq 7, 3) := by decide +kernel
theorem dX19_wood_31 : decode cX19_wood 31 = .ok (.iconst 0, 1) := by decide +kernel
theorem dX19_wood_32 : decode cX19_wood 32 = .ok (.goto 4, 3) := by decide +kernel
theorem dX19_wood_35 : decode cX19_wood 35 = .ok (.iconst 1, 1) := by decide +kernel
theorem dX19_wood_36 : decode cX19_wood 36 = .ok (.iadd, 1) := by decide +kernel
theorem dX19_wood_37 : decode cX19_wood 37 = .ok (.istore_n 2, 1) := by decide +kernel
theorem dX19_wood_38 : decode cX19_wood 38 = .ok (.iinc 3 1, 3) := by decide +kernel
theorem dX19_wood_41 : decode cX19_wood 41 = .ok (.goto (-37), 3) := by decide +kernel
theorem dX19_wood_44 : decode cX19_wood 44 = .ok (.iload_n 2, 1) := by decide +kernel
theorem dX19_wood_45 : decode cX19_wood 45 = .ok (.ireturn, 1) := by decide +kernel
theorem dX19_isTight_0 : decode cX19_isTight 0 = .ok (.aload_n 0, 1) := by decide +kernel
theorem dX19_isTight_1 : decode cX19_isTight 1 = .ok (.iload_n 1, 1) := by decide +kernel
theorem dX19_isTight_2 : decode cX19_isTight 2 = .ok (.invokevirtual 98, 3) := by decide +kernel
theorem dX19_isTight_5 : decode cX19_isTight 5 = .ok (.ifCond .ne 16, 3) := by decide +kernel
theorem dX19_isTight_8 : decode cX19_isTight 8 = .ok (.aload_n 0, 1) := by decide +kernel
theorem dX19_isTight_9 : decode cX19_isTight 9 = .ok (.getfield 60, 3) := by decide +kernel
theorem dX19_isTight_12 : decode cX19_isTight 12 = .ok (.iload_n 1, 1) := by decide +kernel
theorem dX19_isTight_13 : decode cX19_isTight 13 = .ok (.iaload, 1) := by decide +kernel
theorem dX19_isTight_14 : decode cX19_isTight 14 = .ok (.ifCond .ne 7, 3) := by decide +kernel
theorem dX19_isTight_17 : decode cX19_isTight 17 = .ok (.iconst 1, 1) := by decide +kernel
theorem dX19_isTight_18 : decode cX19_isTight 18 = .ok (.goto 4, 3) := by decide +kernel
theorem dX19_isTight_21 : decode cX19_isTight 21 = .ok (.iconst 0, 1) := by decide +kernel
theorem dX19_isTight_22 : decode cX19_isTight 22 = .ok (.ireturn, 1) := by decide +kernel
theorem dX19_loose_0 : decode cX19_loose 0 = .ok (.aload_n 0, 1) := by decide +kernel
theorem dX19_loose_1 : decode cX19_loose 1 = .ok (.getfield 60, 3) := by decide +kernel
theorem dX19_loose_4 : decode cX19_loose 4 = .ok (.iload_n 1, 1) := by decide +kernel
theorem dX19_loose_5 : decode cX19_loose 5 = .ok (.iaload, 1) := by decide +kernel
theorem dX19_loose_6 : decode cX19_loose 6 = .ok (.bipush 10, 2) := by decide +kernel
theorem dX19_loose_8 : decode cX19_loose 8 = .ok (.aload_n 0, 1) := by decide +kernel
theorem dX19_loose_9 : decode cX19_loose 9 = .ok (.iload_n 1, 1) := by decide +kernel
theorem dX19_loose_10 : decode cX19_loose 10 = .ok (.invokevirtual 98, 3) := by decide +kernel
theorem dX19_loose_13 : decode cX19_loose 13 = .ok (.imul, 1) := by decide +kernel
theorem dX19_loose_14 : decode cX19_loose 14 = .ok (.iadd, 1) := by decide +kernel
theorem dX19_loose_15 : decode cX19_loose 15 = .ok (.ireturn, 1) := by decide +kernel
theorem dX19_unlock_0 : decode cX19_unlock 0 = .ok (.aload_n 0, 1) := by decide +kernel
theorem dX19_unlock_1 : decode cX19_unlock 1 = .ok (.getfield 51, 3) := by decide +kernel
theorem dX19_unlock_4 : decode cX19_unlock 4 = .ok (.iload_n 1, 1) := by decide +kernel
theorem dX19_unlock_5 : decode cX19_unlock 5 = .ok (.iaload, 1) := by decide +kernel
theorem dX19_unlock_6 : decode cX19_unlock 6 = .ok (.istore_n 2, 1) := by decide +kernel
theorem dX19_unlock_7 : decode cX19_unlock 7 = .ok (.iconst 0, 1) := by decide +kernel
theorem dX19_unlock_8 : decode cX19_unlock 8 = .ok (.istore_n 3, 1) := by decide +kernel
theorem dX19_unlock_9 : decode cX19_unlock 9 = .ok (.iload_n 3, 1) := by decide +kernel
theorem dX19_unlock_10 : decode cX19_unlock 10 = .ok (.iload_n 2, 1) := by decide +kernel
theorem dX19_unlock_11 : decode cX19_unlock 11 = .ok (.if_icmp .ge 26, 3) := by decide +kernel
theorem dX19_unlock_14 : decode cX19_unlock 14 = .ok (.aload_n 0, 1) := by decide +kernel
theorem dX19_unlock_15 : decode cX19_unlock 15 = .ok (.getfield 27, 3) := by decide +kernel
theorem dX19_unlock_18 : decode cX19_unlock 18 = .ok (.aload_n 0, 1) := by decide +kernel
theorem dX19_unlock_19 : decode cX19_unlock 19 = .ok (.getfield 45, 3) := by decide +kernel
theorem dX19_unlock_22 : decode cX19_unlock 22 = .ok (.iload_n 1, 1) := by decide +kernel
theorem dX19_unlock_23 : decode cX19_unlock 23 = .ok (.aaload, 1) := by decide +kernel
theorem dX19_unlock_24 : decode cX19_unlock 24 = .ok (.iload_n 3, 1) := by decide +kernel
theorem dX19_unlock_25 : decode cX19_unlock 25 = .ok (.iaload, 1) := by decide +kernel
theorem dX19_unlock_26 : decode cX19_unlock 26 = .ok (.dup2, 1) := by decide +kernel
theorem dX19_unlock_27 : decode cX19_unlock 27 = .ok (.iaload, 1) := by decide +kernel
theorem dX19_unlock_28 : decode cX19_unlock 28 = .ok (.iconst 1, 1) := by decide +kernel
theorem dX19_unlock_29 : decode cX19_unlock 29 = .ok (.iadd, 1) := by decide +kernel
theorem dX19_unlock_30 : decode cX19_unlock 30 = .ok (.iastore, 1) := by decide +kernel
theorem dX19_unlock_31 : decode cX19_unlock 31 = .ok (.iinc 3 1, 3) := by decide +kernel
theorem dX19_unlock_34 : decode cX19_unlock 34 = .ok (.goto (-25), 3) := by decide +kernel
theorem dX19_unlock_37 : decode cX19_unlock 37 = .ok (.aload_n 0, 1) := by decide +kernel
theorem dX19_unlock_38 : decode cX19_unlock 38 = .ok (.getfield 51, 3) := by decide +kernel
theorem dX19_unlock_41 : decode cX19_unlock 41 = .ok (.iload_n 1, 1) := by decide +kernel
theorem dX19_unlock_42 : decode cX19_unlock 42 = .ok (.iconst 0, 1) := by decide +kernel
theorem dX19_unlock_43 : decode cX19_unlock 43 = .ok (.iastore, 1) := by decide +kernel
theorem dX19_unlock_44 : decode cX19_unlock 44 = .ok (.aload_n 0, 1) := by decide +kernel
theorem dX19_unlock_45 : decode cX19_unlock 45 = .ok (.getfield 60, 3) := by decide +kernel
theorem dX19_unlock_48 : decode cX19_unlock 48 = .ok (.iload_n 1, 1) := by decide +kernel
theorem dX19_unlock_49 : decode cX19_unlock 49 = .ok (.iconst 0, 1) := by decide +kernel
theorem dX19_unlock_50 : decode cX19_unlock 50 = .ok (.iastore, 1) := by decide +kernel
theorem dX19_unlock_51 : decode cX19_unlock 51 = .ok (.aload_n 0, 1) := by decide +kernel
theorem dX19_unlock_52 : decode cX19_unlock 52 = .ok (.getfield 54, 3) := by decide +kernel
theorem dX19_unlock_55 : decode cX19_unlock 55 = .ok (.iload_n 1, 1) := by decide +kernel
theorem dX19_unlock_56 : decode cX19_unlock 56 = .ok (.iaload, 1) := by decide +kernel
theorem dX19_unlock_57 : decode cX19_unlock 57 = .ok (.ifCond .lt 13, 3) := by decide +kernel
theorem dX19_unlock_60 : decode cX19_unlock 60 = .ok (.aload_n 0, 1) := by decide +kernel
theorem dX19_unlock_61 : decode cX19_unlock 61 = .ok (.dup, 1) := by decide +kernel
theorem dX19_unlock_62 : decode cX19_unlock 62 = .ok (.getfield 69, 3) := by decide +kernel
theorem dX19_unlock_65 : decode cX19_unlock 65 = .ok (.iconst 1, 1) := by decide +kernel
theorem dX19_unlock_66 : decode cX19_unlock 66 = .ok (.iadd, 1) := by decide +kernel
theorem dX19_unlock_67 : decode cX19_unlock 67 = .ok (.putfield 69, 3) := by decide +kernel
theorem dX19_unlock_70 : decode cX19_unlock 70 = .ok (.aload_n 0, 1) := by decide +kernel
theorem dX19_unlock_71 : decode cX19_unlock 71 = .ok (.getfield 54, 3) := by decide +kernel
theorem dX19_unlock_74 : decode cX19_unlock 74 = .ok (.iload_n 1, 1) := by decide +kernel
theorem dX19_unlock_75 : decode cX19_unlock 75 = .ok (.iconst (-1), 1) := by decide +kernel
theorem dX19_unlock_76 : decode cX19_unlock 76 = .ok (.iastore, 1) := by decide +kernel
theorem dX19_unlock_77 : decode cX19_unlock 77 = .ok (.aload_n 0, 1) := by decide +kernel
theorem dX19_unlock_78 : decode cX19_unlock 78 = .ok (.getfield 57, 3) := by decide +kernel
theorem dX19_unlock_81 : decode cX19_unlock 81 = .ok (.iload_n 1, 1) := by decide +kernel
theorem dX19_unlock_82 : decode cX19_unlock 82 = .ok (.iconst 0, 1) := by decide +kernel
theorem dX19_unlock_83 : decode cX19_unlock 83 = .ok (.iastore, 1) := by decide +kernel
theorem dX19_unlock_84 : decode cX19_unlock 84 = .ok (.iload_n 2, 1) := by decide +kernel
theorem dX19_unlock_85 : decode cX19_unlock 85 = .ok (.ireturn, 1) := by decide +kernel
theorem dX19_falls_0 : decode cX19_falls 0 = .ok (.iconst 0, 1) := by decide +kernel
theorem dX19_falls_1 : decode cX19_falls 1 = .ok (.istore_n 1, 1) := by decide +kernel
theorem dX19_falls_2 : decode cX19_falls 2 = .ok (.iconst 0, 1) := by decide +kernel
theorem dX19_falls_3 : decode cX19_falls 3 = .ok (.istore_n 2, 1) := by decide +kernel
theorem dX19_falls_4 : decode cX19_falls 4 = .ok (.iload_n 2, 1) := by decide +kernel
theorem dX19_falls_5 : decode cX19_falls 5 = .ok (.aload_n 0, 1) := by decide +kernel
theorem dX19_falls_6 : decode cX19_falls 6 = .ok (.getfield 20, 3) := by decide +kernel
theorem dX19_falls_9 : decode cX19_falls 9 = .ok (.iconst 1, 1) := by decide +kernel
theorem dX19_falls_10 : decode cX19_falls 10 = .ok (.iaload, 1) := by decide +kernel
theorem dX19_falls_11 : decode cX19_falls 11 = .ok (.if_icmp .ge 80, 3) := by decide +kernel
theorem dX19_falls_14 : decode cX19_falls 14 = .ok (.aload_n 0, 1) := by decide +kernel
theorem dX19_falls_15 : decode cX19_falls 15 = .ok (.getfield 48, 3) := by decide +kernel
theorem dX19_falls_18 : decode cX19_falls 18 = .ok (.iload_n 2, 1) := by decide +kernel
theorem dX19_falls_19 : decode cX19_falls 19 = .ok (.iaload, 1) := by decide +kernel
theorem dX19_falls_20 : decode cX19_falls 20 = .ok (.ifCond .eq 65, 3) := by decide +kernel
theorem dX19_falls_23 : decode cX19_falls 23 = .ok (.aload_n 0, 1) := by decide +kernel
theorem dX19_falls_24 : decode cX19_falls 24 = .ok (.iload_n 2, 1) := by decide +kernel
theorem dX19_falls_25 : decode cX19_falls 25 = .ok (.invokevirtual 117, 3) := by decide +kernel
theorem dX19_falls_28 : decode cX19_falls 28 = .ok (.aload_n 0, 1) := by decide +kernel
theorem dX19_falls_29 : decode cX19_falls 29 = .ok (.getfield 20, 3) := by decide +kernel
theorem dX19_falls_32 : decode cX19_falls 32 = .ok (.bipush 6, 2) := by decide +kernel
theorem dX19_falls_34 : decode cX19_falls 34 = .ok (.iaload, 1) := by decide +kernel
theorem dX19_falls_35 : decode cX19_falls 35 = .ok (.if_icmp .gt 6, 3) := by decide +kernel
theorem dX19_falls_38 : decode cX19_falls 38 = .ok (.goto 47, 3) := by decide +kernel
theorem dX19_falls_41 : decode cX19_falls 41 = .ok (.iload_n 1, 1) := by decide +kernel
theorem dX19_falls_42 : decode cX19_falls 42 = .ok (.iconst 1, 1) := by decide +kernel
theorem dX19_falls_43 : decode cX19_falls 43 = .ok (.iload_n 2, 1) := by decide +kernel
theorem dX19_falls_44 : decode cX19_falls 44 = .ok (.ishl, 1) := by decide +kernel
theorem dX19_falls_45 : decode cX19_falls 45 = .ok (.ior, 1) := by decide +kernel
theorem dX19_falls_46 : decode cX19_falls 46 = .ok (.istore_n 1, 1) := by decide +kernel
theorem dX19_falls_47 : decode cX19_falls 47 = .ok (.aload_n 0, 1) := by decide +kernel
theorem dX19_falls_48 : decode cX19_falls 48 = .ok (.getfield 33, 3) := by decide +kernel
theorem dX19_falls_51 : decode cX19_falls 51 = .ok (.iconst 3, 1) := by decide +kernel
theorem dX19_falls_52 : decode cX19_falls 52 = .ok (.dup2, 1) := by decide +kernel
theorem dX19_falls_53 : decode cX19_falls 53 = .ok (.iaload, 1) := by decide +kernel
theorem dX19_falls_54 : decode cX19_falls 54 = .ok (.aload_n 0, 1) := by decide +kernel
theorem dX19_falls_55 : decode cX19_falls 55 = .ok (.getfield 48, 3) := by decide +kernel
theorem dX19_falls_58 : decode cX19_falls 58 = .ok (.iload_n 2, 1) := by decide +kernel
theorem dX19_falls_59 : decode cX19_falls 59 = .ok (.iaload, 1) := by decide +kernel
theorem dX19_falls_60 : decode cX19_falls 60 = .ok (.iadd, 1) := by decide +kernel
theorem dX19_falls_61 : decode cX19_falls 61 = .ok (.iastore, 1) := by decide +kernel
theorem dX19_falls_62 : decode cX19_falls 62 = .ok (.aload_n 0, 1) := by decide +kernel
theorem dX19_falls_63 : decode cX19_falls 63 = .ok (.getfield 33, 3) := by decide +kernel
theorem dX19_falls_66 : decode cX19_falls 66 = .ok (.iconst 4, 1) := by decide +kernel
theorem dX19_falls_67 : decode cX19_falls 67 = .ok (.dup2, 1) := by decide +kernel
theorem dX19_falls_68 : decode cX19_falls 68 = .ok (.iaload, 1) := by decide +kernel
theorem dX19_falls_69 : decode cX19_falls 69 = .ok (.iconst 1, 1) := by decide +kernel
theorem dX19_falls_70 : decode cX19_falls 70 = .ok (.iadd, 1) := by decide +kernel
theorem dX19_falls_71 : decode cX19_falls 71 = .ok (.iastore, 1) := by decide +kernel
theorem dX19_falls_72 : decode cX19_falls 72 = .ok (.aload_n 0, 1) := by decide +kernel
theorem dX19_falls_73 : decode cX19_falls 73 = .ok (.getfield 48, 3) := by decide +kernel
theorem dX19_falls_76 : decode cX19_falls 76 = .ok (.iload_n 2, 1) := by decide +kernel
theorem dX19_falls_77 : decode cX19_falls 77 = .ok (.iconst 0, 1) := by decide +kernel
theorem dX19_falls_78 : decode cX19_falls 78 = .ok (.iastore, 1) := by decide +kernel
theorem dX19_falls_79 : decode cX19_falls 79 = .ok (.aload_n 0, 1) := by decide +kernel
theorem dX19_falls_80 : decode cX19_falls 80 = .ok (.iload_n 2, 1) := by decide +kernel
theorem dX19_falls_81 : decode cX19_falls 81 = .ok (.invokevirtual 120, 3) := by decide +kernel
theorem dX19_falls_84 : decode cX19_falls 84 = .ok (.istore_n 3, 1) := by decide +kernel
theorem dX19_falls_85 : decode cX19_falls 85 = .ok (.iinc 2 1, 3) := by decide +kernel
theorem dX19_falls_88 : decode cX19_falls 88 = .ok (.goto (-84), 3) := by decide +kernel
theorem dX19_falls_91 : decode cX19_falls 91 = .ok (.iload_n 1, 1) := by decide +kernel
theorem dX19_falls_92 : decode cX19_falls 92 = .ok (.ireturn, 1) := by decide +kernel
theorem dX19_print_0 : decode cX19_print 0 = .ok (.iconst 0, 1) := by decide +kernel
theorem dX19_print_1 : decode cX19_print 1 = .ok (.istore_n 1, 1) := by decide +kernel
theorem dX19_print_2 : decode cX19_print 2 = .ok (.iload_n 1, 1) := by decide +kernel
theorem dX19_print_3 : decode cX19_print 3 = .ok (.aload_n 0, 1) := by decide +kernel
theorem dX19_print_4 : decode cX19_print 4 = .ok (.getfield 20, 3) := by decide +kernel
theorem dX19_print_7 : decode cX19_print 7 = .ok (.iconst 1, 1) := by decide +kernel
theorem dX19_print_8 : decode cX19_print 8 = .ok (.iaload, 1) := by decide +kernel
theorem dX19_print_9 : decode cX19_print 9 = .ok (.if_icmp .ge 31, 3) := by decide +kernel
theorem dX19_print_12 : decode cX19_print 12 = .ok (.aload_n 0, 1) := by decide +kernel
theorem dX19_print_13 : decode cX19_print 13 = .ok (.getfield 60, 3) := by decide +kernel
theorem dX19_print_16 : decode cX19_print 16 = .ok (.iload_n 1, 1) := by decide +kernel
theorem dX19_print_17 : decode cX19_print 17 = .ok (.dup2, 1) := by decide +kernel
theorem dX19_print_18 : decode cX19_print 18 = .ok (.iaload, 1) := by decide +kernel
theorem dX19_print_19 : decode cX19_print 19 = .ok (.aload_n 0, 1) := by decide +kernel
theorem dX19_print_20 : decode cX19_print 20 = .ok (.getfield 20, 3) := by decide +kernel
theorem dX19_print_23 : decode cX19_print 23 = .ok (.iconst 4, 1) := by decide +kernel
theorem dX19_print_24 : decode cX19_print 24 = .ok (.iaload, 1) := by decide +kernel
theorem dX19_print_25 : decode cX19_print 25 = .ok (.aload_n 0, 1) := by decide +kernel
theorem dX19_print_26 : decode cX19_print 26 = .ok (.getfield 48, 3) := by decide +kernel
theorem dX19_print_29 : decode cX19_print 29 = .ok (.iload_n 1, 1) := by decide +kernel
theorem dX19_print_30 : decode cX19_print 30 = .ok (.iaload, 1) := by decide +kernel
theorem dX19_print_31 : decode cX19_print 31 = .ok (.imul, 1) := by decide +kernel
theorem dX19_print_32 : decode cX19_print 32 = .ok (.iadd, 1) := by decide +kernel
theorem dX19_print_33 : decode cX19_print 33 = .ok (.iastore, 1) := by decide +kernel
theorem dX19_print_34 : decode cX19_print 34 = .ok (.iinc 1 1, 3) := by decide +kernel
theorem dX19_print_37 : decode cX19_print 37 = .ok (.goto (-35), 3) := by decide +kernel
theorem dX19_print_40 : decode cX19_print 40 = .ok (.aload_n 0, 1) := by decide +kernel
theorem dX19_print_41 : decode cX19_print 41 = .ok (.invokevirtual 123, 3) := by decide +kernel
theorem dX19_print_44 : decode cX19_print 44 = .ok (.istore_n 1, 1) := by decide +kernel
theorem dX19_print_45 : decode cX19_print 45 = .ok (.iload_n 1, 1) := by decide +kernel
theorem dX19_print_46 : decode cX19_print 46 = .ok (.ifCond .ne 7, 3) := by decide +kernel
theorem dX19_print_49 : decode cX19_print 49 = .ok (.iconst 1, 1) := by decide +kernel
theorem dX19_print_50 : decode cX19_print 50 = .ok (.goto 4, 3) := by decide +kernel
theorem dX19_print_53 : decode cX19_print 53 = .ok (.iconst 0, 1) := by decide +kernel
theorem dX19_print_54 : decode cX19_print 54 = .ok (.istore_n 2, 1) := by decide +kernel
theorem dX19_print_55 : decode cX19_print 55 = .ok (.iconst 0, 1) := by decide +kernel
theorem dX19_print_56 : decode cX19_print 56 = .ok (.istore_n 3, 1) := by decide +kernel
theorem dX19_print_57 : decode cX19_print 57 = .ok (.iload_n 3, 1) := by decide +kernel
theorem dX19_print_58 : decode cX19_print 58 = .ok (.aload_n 0, 1) := by decide +kernel
theorem dX19_print_59 : decode cX19_print 59 = .ok (.getfield 20, 3) := by decide +kernel
theorem dX19_print_62 : decode cX19_print 62 = .ok (.iconst 1, 1) := by decide +kernel
theorem dX19_print_63 : decode cX19_print 63 = .ok (.iaload, 1) := by decide +kernel
theorem dX19_print_64 : decode cX19_print 64 = .ok (.if_icmp .ge 47, 3) := by decide +kernel
theorem dX19_print_67 : decode cX19_print 67 = .ok (.iload_n 2, 1) := by decide +kernel
theorem dX19_print_68 : decode cX19_print 68 = .ok (.ifCond .eq 35, 3) := by decide +kernel
theorem dX19_print_71 : decode cX19_print 71 = .ok (.aload_n 0, 1) := by decide +kernel
theorem dX19_print_72 : decode cX19_print 72 = .ok (.getfield 48, 3) := by decide +kernel
theorem dX19_print_75 : decode cX19_print 75 = .ok (.iload_n 3, 1) := by decide +kernel
theorem dX19_print_76 : decode cX19_print 76 = .ok (.iaload, 1) := by decide +kernel
theorem dX19_print_77 : decode cX19_print 77 = .ok (.ifCond .eq 22, 3) := by decide +kernel
theorem dX19_print_80 : decode cX19_print 80 = .ok (.aload_n 0, 1) := by decide +kernel
theorem dX19_print_81 : decode cX19_print 81 = .ok (.iload_n 3, 1) := by decide +kernel
theorem dX19_print_82 : decode cX19_print 82 = .ok (.invokevirtual 98, 3) := by decide +kernel
theorem dX19_print_85 : decode cX19_print 85 = .ok (.ifCond .ne 18, 3) := by decide +kernel
theorem dX19_print_88 : decode cX19_print 88 = .ok (.aload_n 0, 1) := by decide +kernel
theorem dX19_print_89 : decode cX19_print 89 = .ok (.getfield 60, 3) := by decide +kernel
theorem dX19_print_92 : decode cX19_print 92 = .ok (.iload_n 3, 1) := by decide +kernel
theorem dX19_print_93 : decode cX19_print 93 = .ok (.iaload, 1) := by decide +kernel
theorem dX19_print_94 : decode cX19_print 94 = .ok (.bipush 10, 2) := by decide +kernel
theorem dX19_print_96 : decode cX19_print 96 = .ok (.if_icmp .ge 7, 3) := by decide +kernel
theorem dX19_print_99 : decode cX19_print 99 = .ok (.iconst 1, 1) := by decide +kernel
theorem dX19_print_100 : decode cX19_print 100 = .ok (.goto 4, 3) := by decide +kernel
theorem dX19_print_103 : decode cX19_print 103 = .ok (.iconst 0, 1) := by decide +kernel
theorem dX19_print_104 : decode cX19_print 104 = .ok (.istore_n 2, 1) := by decide +kernel
theorem dX19_print_105 : decode cX19_print 105 = .ok (.iinc 3 1, 3) := by decide +kernel
theorem dX19_print_108 : decode cX19_print 108 = .ok (.goto (-51), 3) := by decide +kernel
theorem dX19_print_111 : decode cX19_print 111 = .ok (.aload_n 0, 1) := by decide +kernel
theorem dX19_print_112 : decode cX19_print 112 = .ok (.getfield 33, 3) := by decide +kernel
theorem dX19_print_115 : decode cX19_print 115 = .ok (.iconst 0, 1) := by decide +kernel
theorem dX19_print_116 : decode cX19_print 116 = .ok (.dup2, 1) := by decide +kernel
theorem dX19_print_117 : decode cX19_print 117 = .ok (.iaload, 1) := by decide +kernel
theorem dX19_print_118 : decode cX19_print 118 = .ok (.iconst 1, 1) := by decide +kernel
theorem dX19_print_119 : decode cX19_print 119 = .ok (.iadd, 1) := by decide +kernel
theorem dX19_print_120 : decode cX19_print 120 = .ok (.iastore, 1) := by decide +kernel
theorem dX19_print_121 : decode cX19_print 121 = .ok (.aload_n 0, 1) := by decide +kernel
theorem dX19_print_122 : decode cX19_print 122 = .ok (.getfield 33, 3) := by decide +kernel
theorem dX19_print_125 : decode cX19_print 125 = .ok (.iconst 1, 1) := by decide +kernel
theorem dX19_print_126 : decode cX19_print 126 = .ok (.dup2, 1) := by decide +kernel
theorem dX19_print_127 : decode cX19_print 127 = .ok (.iaload, 1) := by decide +kernel
theorem dX19_print_128 : decode cX19_print 128 = .ok (.iload_n 2, 1) := by decide +kernel
theorem dX19_print_129 : decode cX19_print 129 = .ok (.ifCond .eq 7, 3) := by decide +kernel
theorem dX19_print_132 : decode cX19_print 132 = .ok (.iconst 1, 1) := by decide +kernel
theorem dX19_print_133 : decode cX19_print 133 = .ok (.goto 4, 3) := by decide +kernel
theorem dX19_print_136 : decode cX19_print 136 = .ok (.iconst 0, 1) := by decide +kernel
theorem dX19_print_137 : decode cX19_print 137 = .ok (.iadd, 1) := by decide +kernel
theorem dX19_print_138 : decode cX19_print 138 = .ok (.iastore, 1) := by decide +kernel
theorem dX19_print_139 : decode cX19_print 139 = .ok (.iload_n 1, 1) := by decide +kernel
theorem dX19_print_140 : decode cX19_print 140 = .ok (.ireturn, 1) := by decide +kernel
theorem dX19_day_0 : decode cX19_day 0 = .ok (.iconst 0, 1) := by decide +kernel
theorem dX19_day_1 : decode cX19_day 1 = .ok (.istore_n 1, 1) := by decide +kernel
theorem dX19_day_2 : decode cX19_day 2 = .ok (.iload_n 1, 1) := by decide +kernel
theorem dX19_day_3 : decode cX19_day 3 = .ok (.aload_n 0, 1) := by decide +kernel
theorem dX19_day_4 : decode cX19_day 4 = .ok (.getfield 20, 3) := by decide +kernel
theorem dX19_day_7 : decode cX19_day 7 = .ok (.iconst 1, 1) := by decide +kernel
theorem dX19_day_8 : decode cX19_day 8 = .ok (.iaload, 1) := by decide +kernel
theorem dX19_day_9 : decode cX19_day 9 = .ok (.if_icmp .ge 30, 3) := by decide +kernel
theorem dX19_day_12 : decode cX19_day 12 = .ok (.aload_n 0, 1) := by decide +kernel
theorem dX19_day_13 : decode cX19_day 13 = .ok (.getfield 60, 3) := by decide +kernel
theorem dX19_day_16 : decode cX19_day 16 = .ok (.iload_n 1, 1) := by decide +kernel
theorem dX19_day_17 : decode cX19_day 17 = .ok (.dup2, 1) := by decide +kernel
theorem dX19_day_18 : decode cX19_day 18 = .ok (.iaload, 1) := by decide +kernel
theorem dX19_day_19 : decode cX19_day 19 = .ok (.aload_n 0, 1) := by decide +kernel
theorem dX19_day_20 : decode cX19_day 20 = .ok (.getfield 20, 3) := by decide +kernel
theorem dX19_day_23 : decode cX19_day 23 = .ok (.iconst 5, 1) := by decide +kernel
theorem dX19_day_24 : decode cX19_day 24 = .ok (.iaload, 1) := by decide +kernel
theorem dX19_day_25 : decode cX19_day 25 = .ok (.aload_n 0, 1) := by decide +kernel
theorem dX19_day_26 : decode cX19_day 26 = .ok (.iload_n 1, 1) := by decide +kernel
theorem dX19_day_27 : decode cX19_day 27 = .ok (.invokevirtual 127, 3) := by decide +kernel
theorem dX19_day_30 : decode cX19_day 30 = .ok (.imul, 1) := by decide +kernel
theorem dX19_day_31 : decode cX19_day 31 = .ok (.iadd, 1) := by decide +kernel
theorem dX19_day_32 : decode cX19_day 32 = .ok (.iastore, 1) := by decide +kernel
theorem dX19_day_33 : decode cX19_day 33 = .ok (.iinc 1 1, 3) := by decide +kernel
theorem dX19_day_36 : decode cX19_day 36 = .ok (.goto (-34), 3) := by decide +kernel
theorem dX19_day_39 : decode cX19_day 39 = .ok (.aload_n 0, 1) := by decide +kernel
theorem dX19_day_40 : decode cX19_day 40 = .ok (.getfield 33, 3) := by decide +kernel
theorem dX19_day_43 : decode cX19_day 43 = .ok (.iconst 2, 1) := by decide +kernel
theorem dX19_day_44 : decode cX19_day 44 = .ok (.dup2, 1) := by decide +kernel
theorem dX19_day_45 : decode cX19_day 45 = .ok (.iaload, 1) := by decide +kernel
theorem dX19_day_46 : decode cX19_day 46 = .ok (.iconst 1, 1) := by decide +kernel
theorem dX19_day_47 : decode cX19_day 47 = .ok (.iadd, 1) := by decide +kernel
theorem dX19_day_48 : decode cX19_day 48 = .ok (.iastore, 1) := by decide +kernel
theorem dX19_day_49 : decode cX19_day 49 = .ok (.aload_n 0, 1) := by decide +kernel
theorem dX19_day_50 : decode cX19_day 50 = .ok (.invokevirtual 123, 3) := by decide +kernel
theorem dX19_day_53 : decode cX19_day 53 = .ok (.ireturn, 1) := by decide +kernel
theorem dX19_fills_0 : decode cX19_fills 0 = .ok (.new 130, 3) := by decide +kernel
theorem dX19_fills_3 : decode cX19_fills 3 = .ok (.dup, 1) := by decide +kernel
theorem dX19_fills_4 : decode cX19_fills 4 = .ok (.invokespecial 132, 3) := by decide +kernel
theorem dX19_fills_7 : decode cX19_fills 7 = .ok (.astore_n 2, 1) := by decide +kernel
theorem dX19_fills_8 : decode cX19_fills 8 = .ok (.aload_n 0, 1) := by decide +kernel
theorem dX19_fills_9 : decode cX19_fills 9 = .ok (.getfield 54, 3) := by decide +kernel
theorem dX19_fills_12 : decode cX19_fills 12 = .ok (.iload_n 1, 1) := by decide +kernel
theorem dX19_fills_13 : decode cX19_fills 13 = .ok (.iaload, 1) := by decide +kernel
theorem dX19_fills_14 : decode cX19_fills 14 = .ok (.ifCond .ge 10, 3) := by decide +kernel
theorem dX19_fills_17 : decode cX19_fills 17 = .ok (.aload_n 0, 1) := by decide +kernel
theorem dX19_fills_18 : decode cX19_fills 18 = .ok (.getfield 69, 3) := by decide +kernel
theorem dX19_fills_21 : decode cX19_fills 21 = .ok (.ifCond .le 7, 3) := by decide +kernel
theorem dX19_fills_24 : decode cX19_fills 24 = .ok (.iconst 1, 1) := by decide +kernel
theorem dX19_fills_25 : decode cX19_fills 25 = .ok (.goto 4, 3) := by decide +kernel
theorem dX19_fills_28 : decode cX19_fills 28 = .ok (.iconst 0, 1) := by decide +kernel
theorem dX19_fills_29 : decode cX19_fills 29 = .ok (.istore_n 3, 1) := by decide +kernel
theorem dX19_fills_30 : decode cX19_fills 30 = .ok (.iload_n 3, 1) := by decide +kernel
theorem dX19_fills_31 : decode cX19_fills 31 = .ok (.ifCond .eq 7, 3) := by decide +kernel
theorem dX19_fills_34 : decode cX19_fills 34 = .ok (.iconst 0, 1) := by decide +kernel
theorem dX19_fills_35 : decode cX19_fills 35 = .ok (.goto 4, 3) := by decide +kernel
theorem dX19_fills_38 : decode cX19_fills 38 = .ok (.iconst (-1), 1) := by decide +kernel
theorem dX19_fills_39 : decode cX19_fills 39 = .ok (.istore 4, 2) := by decide +kernel
theorem dX19_fills_41 : decode cX19_fills 41 = .ok (.iload 4, 2) := by decide +kernel
theorem dX19_fills_43 : decode cX19_fills 43 = .ok (.iload_n 3, 1) := by decide +kernel
theorem dX19_fills_44 : decode cX19_fills 44 = .ok (.ifCond .eq 12, 3) := by decide +kernel
theorem dX19_fills_47 : decode cX19_fills 47 = .ok (.aload_n 0, 1) := by decide +kernel
theorem dX19_fills_48 : decode cX19_fills 48 = .ok (.getfield 20, 3) := by decide +kernel
theorem dX19_fills_51 : decode cX19_fills 51 = .ok (.iconst 3, 1) := by decide +kernel
theorem dX19_fills_52 : decode cX19_fills 52 = .ok (.iaload, 1) := by decide +kernel
theorem dX19_fills_53 : decode cX19_fills 53 = .ok (.goto 4, 3) := by decide +kernel
theorem dX19_fills_56 : decode cX19_fills 56 = .ok (.iconst (-1), 1) := by decide +kernel
theorem dX19_fills_57 : decode cX19_fills 57 = .ok (.if_icmp .gt 379, 3) := by decide +kernel
theorem dX19_fills_60 : decode cX19_fills 60 = .ok (.aload_n 0, 1) := by decide +kernel
theorem dX19_fills_61 : decode cX19_fills 61 = .ok (.iload_n 1, 1) := by decide +kernel
theorem dX19_fills_62 : decode cX19_fills 62 = .ok (.invokevirtual 114, 3) := by decide +kernel
theorem dX19_fills_65 : decode cX19_fills 65 = .ok (.iload_n 3, 1) := by decide +kernel
theorem dX19_fills_66 : decode cX19_fills 66 = .ok (.ifCond .eq 15, 3) := by decide +kernel
theorem dX19_fills_69 : decode cX19_fills 69 = .ok (.aload_n 0, 1) := by decide +kernel
theorem dX19_fills_70 : decode cX19_fills 70 = .ok (.getfield 20, 3) := by decide +kernel
theorem dX19_fills_73 : decode cX19_fills 73 = .ok (.iconst 2, 1) := by decide +kernel
theorem dX19_fills_74 : decode cX19_fills 74 = .ok (.iaload, 1) := by decide +kernel
theorem dX19_fills_75 : decode cX19_fills 75 = .ok (.iload 4, 2) := by decide +kernel
theorem dX19_fills_77 : decode cX19_fills 77 = .ok (.iadd, 1) := by decide +kernel
theorem dX19_fills_78 : decode cX19_fills 78 = .ok (.goto 4, 3) := by decide +kernel
theorem dX19_fills_81 : decode cX19_fills 81 = .ok (.iconst 0, 1) := by decide +kernel
theorem dX19_fills_82 : decode cX19_fills 82 = .ok (.isub, 1) := by decide +kernel
theorem dX19_fills_83 : decode cX19_fills 83 = .ok (.istore 5, 2) := by decide +kernel
theorem dX19_fills_85 : decode cX19_fills 85 = .ok (.iconst 4, 1) := by decide +kernel
theorem dX19_fills_86 : decode cX19_fills 86 = .ok (.newarray .int, 2) := by decide +kernel
theorem dX19_fills_88 : decode cX19_fills 88 = .ok (.astore 6, 2) := by decide +kernel
theorem dX19_fills_90 : decode cX19_fills 90 = .ok (.iconst 0, 1) := by decide +kernel
theorem dX19_fills_91 : decode cX19_fills 91 = .ok (.istore 7, 2) := by decide +kernel
theorem dX19_fills_93 : decode cX19_fills 93 = .ok (.iload 7, 2) := by decide +kernel
theorem dX19_fills_95 : decode cX19_fills 95 = .ok (.iconst 4, 1) := by decide +kernel
theorem dX19_fills_96 : decode cX19_fills 96 = .ok (.if_icmp .ge 39, 3) := by decide +kernel
theorem dX19_fills_99 : decode cX19_fills 99 = .ok (.aload 6, 2) := by decide +kernel
theorem dX19_fills_101 : decode cX19_fills 101 = .ok (.iload 7, 2) := by decide +kernel
theorem dX19_fills_103 : decode cX19_fills 103 = .ok (.iload 7, 2) := by decide +kernel
theorem dX19_fills_105 : decode cX19_fills 105 = .ok (.aload_n 0, 1) := by decide +kernel
theorem dX19_fills_106 : decode cX19_fills 106 = .ok (.getfield 89, 3) := by decide +kernel
theorem dX19_fills_109 : decode cX19_fills 109 = .ok (.if_icmp .ge 18, 3) := by decide +kernel
theorem dX19_fills_112 : decode cX19_fills 112 = .ok (.aload_n 0, 1) := by decide +kernel
theorem dX19_fills_113 : decode cX19_fills 113 = .ok (.getfield 27, 3) := by decide +kernel
theorem dX19_fills_116 : decode cX19_fills 116 = .ok (.aload_n 0, 1) := by decide +kernel
theorem dX19_fills_117 : decode cX19_fills 117 = .ok (.getfield 30, 3) := by decide +kernel
theorem dX19_fills_120 : decode cX19_fills 120 = .ok (.iload 7, 2) := by decide +kernel
theorem dX19_fills_122 : decode cX19_fills 122 = .ok (.iaload, 1) := by decide +kernel
theorem dX19_fills_123 : decode cX19_fills 123 = .ok (.iaload, 1) := by decide +kernel
theorem dX19_fills_124 : decode cX19_fills 124 = .ok (.goto 4, 3) := by decide +kernel
theorem dX19_fills_127 : decode cX19_fills 127 = .ok (.iconst 0, 1) := by decide +kernel
theorem dX19_fills_128 : decode cX19_fills 128 = .ok (.iastore, 1) := by decide +kernel
theorem dX19_fills_129 : decode cX19_fills 129 = .ok (.iinc 7 1, 3) := by decide +kernel
theorem dX19_fills_132 : decode cX19_fills 132 = .ok (.goto (-39), 3) := by decide +kernel
theorem dX19_fills_135 : decode cX19_fills 135 = .ok (.aload 6, 2) := by decide +kernel
theorem dX19_fills_137 : decode cX19_fills 137 = .ok (.iconst 0, 1) := by decide +kernel
theorem dX19_fills_138 : decode cX19_fills 138 = .ok (.iaload, 1) := by decide +kernel
theorem dX19_fills_139 : decode cX19_fills 139 = .ok (.istore 7, 2) := by decide +kernel
theorem dX19_fills_141 : decode cX19_fills 141 = .ok (.iload 7, 2) := by decide +kernel
theorem dX19_fills_143 : decode cX19_fills 143 = .ok (.ifCond .lt 287, 3) := by decide +kernel
theorem dX19_fills_146 : decode cX19_fills 146 = .ok (.aload 6, 2) := by decide +kernel
theorem dX19_fills_148 : decode cX19_fills 148 = .ok (.iconst 1, 1) := by decide +kernel
theorem dX19_fills_149 : decode cX19_fills 149 = .ok (.iaload, 1) := by decide +kernel
theorem dX19_fills_150 : decode cX19_fills 150 = .ok (.istore 8, 2) := by decide +kernel
theorem dX19_fills_152 : decode cX19_fills 152 = .ok (.iload 8, 2) := by decide +kernel
theorem dX19_fills_154 : decode cX19_fills 154 = .ok (.ifCond .lt 270, 3) := by decide +kernel
theorem dX19_fills_157 : decode cX19_fills 157 = .ok (.aload 6, 2) := by decide +kernel
theorem dX19_fills_159 : decode cX19_fills 159 = .ok (.iconst 2, 1) := by decide +kernel
theorem dX19_fills_160 : decode cX19_fills 160 = .ok (.iaload, 1) := by decide +kernel
theorem dX19_fills_161 : decode cX19_fills 161 = .ok (.istore 9, 2) := by decide +kernel
theorem dX19_fills_163 : decode cX19_fills 163 = .ok (.iload 9, 2) := by decide +kernel
theorem dX19_fills_165 : decode cX19_fills 165 = .ok (.ifCond .lt 253, 3) := by decide +kernel
theorem dX19_fills_168 : decode cX19_fills 168 = .ok (.iload 5, 2) := by decide +kernel
theorem dX19_fills_170 : decode cX19_fills 170 = .ok (.aload_n 0, 1) := by decide +kernel
theorem dX19_fills_171 : decode cX19_fills 171 = .ok (.getfield 89, 3) := by decide +kernel
theorem dX19_fills_174 : decode cX19_fills 174 = .ok (.ifCond .le 20, 3) := by decide +kernel
theorem dX19_fills_177 : decode cX19_fills 177 = .ok (.iload 7, 2) := by decide +kernel
theorem dX19_fills_179 : decode cX19_fills 179 = .ok (.aload_n 0, 1) := by decide +kernel
theorem dX19_fills_180 : decode cX19_fills 180 = .ok (.getfield 24, 3) := by decide +kernel
theorem dX19_fills_183 : decode cX19_fills 183 = .ok (.aload_n 0, 1) := by decide +kernel
theorem dX19_fills_184 : decode cX19_fills 184 = .ok (.getfield 30, 3) := by decide +kernel
theorem dX19_fills_187 : decode cX19_fills 187 = .ok (.iconst 0, 1) := by decide +kernel
theorem dX19_fills_188 : decode cX19_fills 188 = .ok (.iaload, 1) := by decide +kernel
theorem dX19_fills_189 : decode cX19_fills 189 = .ok (.iaload, 1) := by decide +kernel
theorem dX19_fills_190 : decode cX19_fills 190 = .ok (.imul, 1) := by decide +kernel
theorem dX19_fills_191 : decode cX19_fills 191 = .ok (.goto 4, 3) := by decide +kernel
theorem dX19_fills_194 : decode cX19_fills 194 = .ok (.iconst 0, 1) := by decide +kernel
theorem dX19_fills_195 : decode cX19_fills 195 = .ok (.isub, 1) := by decide +kernel
theorem dX19_fills_196 : decode cX19_fills 196 = .ok (.aload_n 0, 1) := by decide +kernel
theorem dX19_fills_197 : decode cX19_fills 197 = .ok (.getfield 89, 3) := by decide +kernel
theorem dX19_fills_200 : decode cX19_fills 200 = .ok (.iconst 1, 1) := by decide +kernel
theorem dX19_fills_201 : decode cX19_fills 201 = .ok (.if_icmp .le 20, 3) := by decide +kernel
theorem dX19_fills_204 : decode cX19_fills 204 = .ok (.iload 8, 2) := by decide +kernel
theorem dX19_fills_206 : decode cX19_fills 206 = .ok (.aload_n 0, 1) := by decide +kernel
theorem dX19_fills_207 : decode cX19_fills 207 = .ok (.getfield 24, 3) := by decide +kernel
theorem dX19_fills_210 : decode cX19_fills 210 = .ok (.aload_n 0, 1) := by decide +kernel
theorem dX19_fills_211 : decode cX19_fills 211 = .ok (.getfield 30, 3) := by decide +kernel
theorem dX19_fills_214 : decode cX19_fills 214 = .ok (.iconst 1, 1) := by decide +kernel
theorem dX19_fills_215 : decode cX19_fills 215 = .ok (.iaload, 1) := by decide +kernel
theorem dX19_fills_216 : decode cX19_fills 216 = .ok (.iaload, 1) := by decide +kernel
theorem dX19_fills_217 : decode cX19_fills 217 = .ok (.imul, 1) := by decide +kernel
theorem dX19_fills_218 : decode cX19_fills 218 = .ok (.goto 4, 3) := by decide +kernel
theorem dX19_fills_221 : decode cX19_fills 221 = .ok (.iconst 0, 1) := by decide +kernel
theorem dX19_fills_222 : decode cX19_fills 222 = .ok (.isub, 1) := by decide +kernel
theorem dX19_fills_223 : decode cX19_fills 223 = .ok (.aload_n 0, 1) := by decide +kernel
theorem dX19_fills_224 : decode cX19_fills 224 = .ok (.getfield 89, 3) := by decide +kernel
theorem dX19_fills_227 : decode cX19_fills 227 = .ok (.iconst 2, 1) := by decide +kernel
theorem dX19_fills_228 : decode cX19_fills 228 = .ok (.if_icmp .le 20, 3) := by decide +kernel
theorem dX19_fills_231 : decode cX19_fills 231 = .ok (.iload 9, 2) := by decide +kernel
theorem dX19_fills_233 : decode cX19_fills 233 = .ok (.aload_n 0, 1) := by decide +kernel
theorem dX19_fills_234 : decode cX19_fills 234 = .ok (.getfield 24, 3) := by decide +kernel
theorem dX19_fills_237 : decode cX19_fills 237 = .ok (.aload_n 0, 1) := by decide +kernel
theorem dX19_fills_238 : decode cX19_fills 238 = .ok (.getfield 30, 3) := by decide +kernel
