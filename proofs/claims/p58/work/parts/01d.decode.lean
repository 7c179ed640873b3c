theorem dX4_woodTaken_37 : decode cX4_woodTaken 37 = .ok (.ireturn, 1) := by decide +kernel
theorem dX5_init_0 : decode cX5_init 0 = .ok (.aload_n 0, 1) := by decide +kernel
theorem dX5_init_1 : decode cX5_init 1 = .ok (.invokespecial 3, 3) := by decide +kernel
theorem dX5_init_4 : decode cX5_init 4 = .ok (.aload_n 0, 1) := by decide +kernel
theorem dX5_init_5 : decode cX5_init 5 = .ok (.bipush 8, 2) := by decide +kernel
theorem dX5_init_7 : decode cX5_init 7 = .ok (.anewarray 9, 3) := by decide +kernel
theorem dX5_init_10 : decode cX5_init 10 = .ok (.putfield 11, 3) := by decide +kernel
theorem dX5_init_13 : decode cX5_init 13 = .ok (.aload_n 0, 1) := by decide +kernel
theorem dX5_init_14 : decode cX5_init 14 = .ok (.bipush 10, 2) := by decide +kernel
theorem dX5_init_16 : decode cX5_init 16 = .ok (.newarray .int, 2) := by decide +kernel
theorem dX5_init_18 : decode cX5_init 18 = .ok (.putfield 17, 3) := by decide +kernel
theorem dX5_init_21 : decode cX5_init 21 = .ok (.iconst 0, 1) := by decide +kernel
theorem dX5_init_22 : decode cX5_init 22 = .ok (.istore_n 1, 1) := by decide +kernel
theorem dX5_init_23 : decode cX5_init 23 = .ok (.iload_n 1, 1) := by decide +kernel
theorem dX5_init_24 : decode cX5_init 24 = .ok (.bipush 8, 2) := by decide +kernel
theorem dX5_init_26 : decode cX5_init 26 = .ok (.if_icmp .ge 22, 3) := by decide +kernel
theorem dX5_init_29 : decode cX5_init 29 = .ok (.aload_n 0, 1) := by decide +kernel
theorem dX5_init_30 : decode cX5_init 30 = .ok (.getfield 11, 3) := by decide +kernel
theorem dX5_init_33 : decode cX5_init 33 = .ok (.iload_n 1, 1) := by decide +kernel
theorem dX5_init_34 : decode cX5_init 34 = .ok (.new 9, 3) := by decide +kernel
theorem dX5_init_37 : decode cX5_init 37 = .ok (.dup, 1) := by decide +kernel
theorem dX5_init_38 : decode cX5_init 38 = .ok (.invokespecial 21, 3) := by decide +kernel
theorem dX5_init_41 : decode cX5_init 41 = .ok (.aastore, 1) := by decide +kernel
theorem dX5_init_42 : decode cX5_init 42 = .ok (.iinc 1 1, 3) := by decide +kernel
theorem dX5_init_45 : decode cX5_init 45 = .ok (.goto (-22), 3) := by decide +kernel
theorem dX5_init_48 : decode cX5_init 48 = .ok (.return_, 1) := by decide +kernel
theorem dX5_clear_0 : decode cX5_clear 0 = .ok (.iconst 0, 1) := by decide +kernel
theorem dX5_clear_1 : decode cX5_clear 1 = .ok (.istore_n 1, 1) := by decide +kernel
theorem dX5_clear_2 : decode cX5_clear 2 = .ok (.iload_n 1, 1) := by decide +kernel
theorem dX5_clear_3 : decode cX5_clear 3 = .ok (.bipush 8, 2) := by decide +kernel
theorem dX5_clear_5 : decode cX5_clear 5 = .ok (.if_icmp .ge 18, 3) := by decide +kernel
theorem dX5_clear_8 : decode cX5_clear 8 = .ok (.aload_n 0, 1) := by decide +kernel
theorem dX5_clear_9 : decode cX5_clear 9 = .ok (.getfield 11, 3) := by decide +kernel
theorem dX5_clear_12 : decode cX5_clear 12 = .ok (.iload_n 1, 1) := by decide +kernel
theorem dX5_clear_13 : decode cX5_clear 13 = .ok (.aaload, 1) := by decide +kernel
theorem dX5_clear_14 : decode cX5_clear 14 = .ok (.invokevirtual 22, 3) := by decide +kernel
theorem dX5_clear_17 : decode cX5_clear 17 = .ok (.iinc 1 1, 3) := by decide +kernel
theorem dX5_clear_20 : decode cX5_clear 20 = .ok (.goto (-18), 3) := by decide +kernel
theorem dX5_clear_23 : decode cX5_clear 23 = .ok (.iconst 0, 1) := by decide +kernel
theorem dX5_clear_24 : decode cX5_clear 24 = .ok (.istore_n 1, 1) := by decide +kernel
theorem dX5_clear_25 : decode cX5_clear 25 = .ok (.iload_n 1, 1) := by decide +kernel
theorem dX5_clear_26 : decode cX5_clear 26 = .ok (.bipush 10, 2) := by decide +kernel
theorem dX5_clear_28 : decode cX5_clear 28 = .ok (.if_icmp .ge 16, 3) := by decide +kernel
theorem dX5_clear_31 : decode cX5_clear 31 = .ok (.aload_n 0, 1) := by decide +kernel
theorem dX5_clear_32 : decode cX5_clear 32 = .ok (.getfield 17, 3) := by decide +kernel
theorem dX5_clear_35 : decode cX5_clear 35 = .ok (.iload_n 1, 1) := by decide +kernel
theorem dX5_clear_36 : decode cX5_clear 36 = .ok (.iconst 0, 1) := by decide +kernel
theorem dX5_clear_37 : decode cX5_clear 37 = .ok (.iastore, 1) := by decide +kernel
theorem dX5_clear_38 : decode cX5_clear 38 = .ok (.iinc 1 1, 3) := by decide +kernel
theorem dX5_clear_41 : decode cX5_clear 41 = .ok (.goto (-16), 3) := by decide +kernel
theorem dX5_clear_44 : decode cX5_clear 44 = .ok (.aload_n 0, 1) := by decide +kernel
theorem dX5_clear_45 : decode cX5_clear 45 = .ok (.iconst 0, 1) := by decide +kernel
theorem dX5_clear_46 : decode cX5_clear 46 = .ok (.putfield 25, 3) := by decide +kernel
theorem dX5_clear_49 : decode cX5_clear 49 = .ok (.aload_n 0, 1) := by decide +kernel
theorem dX5_clear_50 : decode cX5_clear 50 = .ok (.iconst 0, 1) := by decide +kernel
theorem dX5_clear_51 : decode cX5_clear 51 = .ok (.putfield 29, 3) := by decide +kernel
theorem dX5_clear_54 : decode cX5_clear 54 = .ok (.aload_n 0, 1) := by decide +kernel
theorem dX5_clear_55 : decode cX5_clear 55 = .ok (.iconst 0, 1) := by decide +kernel
theorem dX5_clear_56 : decode cX5_clear 56 = .ok (.putfield 32, 3) := by decide +kernel
theorem dX5_clear_59 : decode cX5_clear 59 = .ok (.aload_n 0, 1) := by decide +kernel
theorem dX5_clear_60 : decode cX5_clear 60 = .ok (.iconst 0, 1) := by decide +kernel
theorem dX5_clear_61 : decode cX5_clear 61 = .ok (.putfield 35, 3) := by decide +kernel
theorem dX5_clear_64 : decode cX5_clear 64 = .ok (.aload_n 0, 1) := by decide +kernel
theorem dX5_clear_65 : decode cX5_clear 65 = .ok (.iconst 0, 1) := by decide +kernel
theorem dX5_clear_66 : decode cX5_clear 66 = .ok (.putfield 38, 3) := by decide +kernel
theorem dX5_clear_69 : decode cX5_clear 69 = .ok (.aload_n 0, 1) := by decide +kernel
theorem dX5_clear_70 : decode cX5_clear 70 = .ok (.iconst 0, 1) := by decide +kernel
theorem dX5_clear_71 : decode cX5_clear 71 = .ok (.putfield 41, 3) := by decide +kernel
theorem dX5_clear_74 : decode cX5_clear 74 = .ok (.return_, 1) := by decide +kernel
theorem dX5_copyFrom_0 : decode cX5_copyFrom 0 = .ok (.iconst 0, 1) := by decide +kernel
theorem dX5_copyFrom_1 : decode cX5_copyFrom 1 = .ok (.istore_n 2, 1) := by decide +kernel
theorem dX5_copyFrom_2 : decode cX5_copyFrom 2 = .ok (.iload_n 2, 1) := by decide +kernel
theorem dX5_copyFrom_3 : decode cX5_copyFrom 3 = .ok (.bipush 8, 2) := by decide +kernel
theorem dX5_copyFrom_5 : decode cX5_copyFrom 5 = .ok (.if_icmp .ge 24, 3) := by decide +kernel
theorem dX5_copyFrom_8 : decode cX5_copyFrom 8 = .ok (.aload_n 0, 1) := by decide +kernel
theorem dX5_copyFrom_9 : decode cX5_copyFrom 9 = .ok (.getfield 11, 3) := by decide +kernel
theorem dX5_copyFrom_12 : decode cX5_copyFrom 12 = .ok (.iload_n 2, 1) := by decide +kernel
theorem dX5_copyFrom_13 : decode cX5_copyFrom 13 = .ok (.aaload, 1) := by decide +kernel
theorem dX5_copyFrom_14 : decode cX5_copyFrom 14 = .ok (.aload_n 1, 1) := by decide +kernel
theorem dX5_copyFrom_15 : decode cX5_copyFrom 15 = .ok (.getfield 11, 3) := by decide +kernel
theorem dX5_copyFrom_18 : decode cX5_copyFrom 18 = .ok (.iload_n 2, 1) := by decide +kernel
theorem dX5_copyFrom_19 : decode cX5_copyFrom 19 = .ok (.aaload, 1) := by decide +kernel
theorem dX5_copyFrom_20 : decode cX5_copyFrom 20 = .ok (.invokevirtual 44, 3) := by decide +kernel
theorem dX5_copyFrom_23 : decode cX5_copyFrom 23 = .ok (.iinc 2 1, 3) := by decide +kernel
theorem dX5_copyFrom_26 : decode cX5_copyFrom 26 = .ok (.goto (-24), 3) := by decide +kernel
theorem dX5_copyFrom_29 : decode cX5_copyFrom 29 = .ok (.aload_n 1, 1) := by decide +kernel
theorem dX5_copyFrom_30 : decode cX5_copyFrom 30 = .ok (.getfield 17, 3) := by decide +kernel
theorem dX5_copyFrom_33 : decode cX5_copyFrom 33 = .ok (.iconst 0, 1) := by decide +kernel
theorem dX5_copyFrom_34 : decode cX5_copyFrom 34 = .ok (.aload_n 0, 1) := by decide +kernel
theorem dX5_copyFrom_35 : decode cX5_copyFrom 35 = .ok (.getfield 17, 3) := by decide +kernel
theorem dX5_copyFrom_38 : decode cX5_copyFrom 38 = .ok (.iconst 0, 1) := by decide +kernel
theorem dX5_copyFrom_39 : decode cX5_copyFrom 39 = .ok (.bipush 10, 2) := by decide +kernel
theorem dX5_copyFrom_41 : decode cX5_copyFrom 41 = .ok (.invokestatic 48, 3) := by decide +kernel
theorem dX5_copyFrom_44 : decode cX5_copyFrom 44 = .ok (.aload_n 0, 1) := by decide +kernel
theorem dX5_copyFrom_45 : decode cX5_copyFrom 45 = .ok (.aload_n 1, 1) := by decide +kernel
theorem dX5_copyFrom_46 : decode cX5_copyFrom 46 = .ok (.getfield 25, 3) := by decide +kernel
theorem dX5_copyFrom_49 : decode cX5_copyFrom 49 = .ok (.putfield 25, 3) := by decide +kernel
theorem dX5_copyFrom_52 : decode cX5_copyFrom 52 = .ok (.aload_n 0, 1) := by decide +kernel
theorem dX5_copyFrom_53 : decode cX5_copyFrom 53 = .ok (.aload_n 1, 1) := by decide +kernel
theorem dX5_copyFrom_54 : decode cX5_copyFrom 54 = .ok (.getfield 29, 3) := by decide +kernel
theorem dX5_copyFrom_57 : decode cX5_copyFrom 57 = .ok (.putfield 29, 3) := by decide +kernel
theorem dX5_copyFrom_60 : decode cX5_copyFrom 60 = .ok (.aload_n 0, 1) := by decide +kernel
theorem dX5_copyFrom_61 : decode cX5_copyFrom 61 = .ok (.aload_n 1, 1) := by decide +kernel
theorem dX5_copyFrom_62 : decode cX5_copyFrom 62 = .ok (.getfield 32, 3) := by decide +kernel
theorem dX5_copyFrom_65 : decode cX5_copyFrom 65 = .ok (.putfield 32, 3) := by decide +kernel
theorem dX5_copyFrom_68 : decode cX5_copyFrom 68 = .ok (.aload_n 0, 1) := by decide +kernel
theorem dX5_copyFrom_69 : decode cX5_copyFrom 69 = .ok (.aload_n 1, 1) := by decide +kernel
theorem dX5_copyFrom_70 : decode cX5_copyFrom 70 = .ok (.getfield 35, 3) := by decide +kernel
theorem dX5_copyFrom_73 : decode cX5_copyFrom 73 = .ok (.putfield 35, 3) := by decide +kernel
theorem dX5_copyFrom_76 : decode cX5_copyFrom 76 = .ok (.aload_n 0, 1) := by decide +kernel
theorem dX5_copyFrom_77 : decode cX5_copyFrom 77 = .ok (.aload_n 1, 1) := by decide +kernel
theorem dX5_copyFrom_78 : decode cX5_copyFrom 78 = .ok (.getfield 38, 3) := by decide +kernel
theorem dX5_copyFrom_81 : decode cX5_copyFrom 81 = .ok (.putfield 38, 3) := by decide +kernel
theorem dX5_copyFrom_84 : decode cX5_copyFrom 84 = .ok (.aload_n 0, 1) := by decide +kernel
theorem dX5_copyFrom_85 : decode cX5_copyFrom 85 = .ok (.aload_n 1, 1) := by decide +kernel
theorem dX5_copyFrom_86 : decode cX5_copyFrom 86 = .ok (.getfield 41, 3) := by decide +kernel
theorem dX5_copyFrom_89 : decode cX5_copyFrom 89 = .ok (.putfield 41, 3) := by decide +kernel
theorem dX5_copyFrom_92 : decode cX5_copyFrom 92 = .ok (.return_, 1) := by decide +kernel
theorem dX5_blocksInRows_0 : decode cX5_blocksInRows 0 = .ok (.iconst 0, 1) := by decide +kernel
theorem dX5_blocksInRows_1 : decode cX5_blocksInRows 1 = .ok (.istore_n 1, 1) := by decide +kernel
theorem dX5_blocksInRows_2 : decode cX5_blocksInRows 2 = .ok (.iconst 0, 1) := by decide +kernel
theorem dX5_blocksInRows_3 : decode cX5_blocksInRows 3 = .ok (.istore_n 2, 1) := by decide +kernel
theorem dX5_blocksInRows_4 : decode cX5_blocksInRows 4 = .ok (.iload_n 2, 1) := by decide +kernel
theorem dX5_blocksInRows_5 : decode cX5_blocksInRows 5 = .ok (.bipush 8, 2) := by decide +kernel
theorem dX5_blocksInRows_7 : decode cX5_blocksInRows 7 = .ok (.if_icmp .ge 21, 3) := by decide +kernel
theorem dX5_blocksInRows_10 : decode cX5_blocksInRows 10 = .ok (.iload_n 1, 1) := by decide +kernel
theorem dX5_blocksInRows_11 : decode cX5_blocksInRows 11 = .ok (.aload_n 0, 1) := by decide +kernel
theorem dX5_blocksInRows_12 : decode cX5_blocksInRows 12 = .ok (.getfield 11, 3) := by decide +kernel
theorem dX5_blocksInRows_15 : decode cX5_blocksInRows 15 = .ok (.iload_n 2, 1) := by decide +kernel
theorem dX5_blocksInRows_16 : decode cX5_blocksInRows 16 = .ok (.aaload, 1) := by decide +kernel
theorem dX5_blocksInRows_17 : decode cX5_blocksInRows 17 = .ok (.getfield 54, 3) := by decide +kernel
theorem dX5_blocksInRows_20 : decode cX5_blocksInRows 20 = .ok (.iadd, 1) := by decide +kernel
theorem dX5_blocksInRows_21 : decode cX5_blocksInRows 21 = .ok (.istore_n 1, 1) := by decide +kernel
theorem dX5_blocksInRows_22 : decode cX5_blocksInRows 22 = .ok (.iinc 2 1, 3) := by decide +kernel
theorem dX5_blocksInRows_25 : decode cX5_blocksInRows 25 = .ok (.goto (-21), 3) := by decide +kernel
theorem dX5_blocksInRows_28 : decode cX5_blocksInRows 28 = .ok (.iload_n 1, 1) := by decide +kernel
theorem dX5_blocksInRows_29 : decode cX5_blocksInRows 29 = .ok (.ireturn, 1) := by decide +kernel
theorem dX5_piecesInRows_0 : decode cX5_piecesInRows 0 = .ok (.iconst 0, 1) := by decide +kernel
theorem dX5_piecesInRows_1 : decode cX5_piecesInRows 1 = .ok (.istore_n 1, 1) := by decide +kernel
theorem dX5_piecesInRows_2 : decode cX5_piecesInRows 2 = .ok (.iconst 0, 1) := by decide +kernel
theorem dX5_piecesInRows_3 : decode cX5_piecesInRows 3 = .ok (.istore_n 2, 1) := by decide +kernel
theorem dX5_piecesInRows_4 : decode cX5_piecesInRows 4 = .ok (.iload_n 2, 1) := by decide +kernel
theorem dX5_piecesInRows_5 : decode cX5_piecesInRows 5 = .ok (.bipush 8, 2) := by decide +kernel
theorem dX5_piecesInRows_7 : decode cX5_piecesInRows 7 = .ok (.if_icmp .ge 21, 3) := by decide +kernel
theorem dX5_piecesInRows_10 : decode cX5_piecesInRows 10 = .ok (.iload_n 1, 1) := by decide +kernel
theorem dX5_piecesInRows_11 : decode cX5_piecesInRows 11 = .ok (.aload_n 0, 1) := by decide +kernel
theorem dX5_piecesInRows_12 : decode cX5_piecesInRows 12 = .ok (.getfield 11, 3) := by decide +kernel
theorem dX5_piecesInRows_15 : decode cX5_piecesInRows 15 = .ok (.iload_n 2, 1) := by decide +kernel
theorem dX5_piecesInRows_16 : decode cX5_piecesInRows 16 = .ok (.aaload, 1) := by decide +kernel
theorem dX5_piecesInRows_17 : decode cX5_piecesInRows 17 = .ok (.getfield 57, 3) := by decide +kernel
theorem dX5_piecesInRows_20 : decode cX5_piecesInRows 20 = .ok (.iadd, 1) := by decide +kernel
theorem dX5_piecesInRows_21 : decode cX5_piecesInRows 21 = .ok (.istore_n 1, 1) := by decide +kernel
theorem dX5_piecesInRows_22 : decode cX5_piecesInRows 22 = .ok (.iinc 2 1, 3) := by decide +kernel
theorem dX5_piecesInRows_25 : decode cX5_piecesInRows 25 = .ok (.goto (-21), 3) := by decide +kernel
theorem dX5_piecesInRows_28 : decode cX5_piecesInRows 28 = .ok (.iload_n 1, 1) := by decide +kernel
theorem dX5_piecesInRows_29 : decode cX5_piecesInRows 29 = .ok (.ireturn, 1) := by decide +kernel
theorem dX5_inRows_0 : decode cX5_inRows 0 = .ok (.iconst 0, 1) := by decide +kernel
theorem dX5_inRows_1 : decode cX5_inRows 1 = .ok (.istore_n 2, 1) := by decide +kernel
theorem dX5_inRows_2 : decode cX5_inRows 2 = .ok (.iconst 0, 1) := by decide +kernel
theorem dX5_inRows_3 : decode cX5_inRows 3 = .ok (.istore_n 3, 1) := by decide +kernel
theorem dX5_inRows_4 : decode cX5_inRows 4 = .ok (.iload_n 3, 1) := by decide +kernel
theorem dX5_inRows_5 : decode cX5_inRows 5 = .ok (.bipush 8, 2) := by decide +kernel
theorem dX5_inRows_7 : decode cX5_inRows 7 = .ok (.if_icmp .ge 33, 3) := by decide +kernel
theorem dX5_inRows_10 : decode cX5_inRows 10 = .ok (.iload_n 1, 1) := by decide +kernel
theorem dX5_inRows_11 : decode cX5_inRows 11 = .ok (.ifCond .lt 29, 3) := by decide +kernel
theorem dX5_inRows_14 : decode cX5_inRows 14 = .ok (.iload_n 1, 1) := by decide +kernel
theorem dX5_inRows_15 : decode cX5_inRows 15 = .ok (.bipush 10, 2) := by decide +kernel
theorem dX5_inRows_17 : decode cX5_inRows 17 = .ok (.if_icmp .ge 23, 3) := by decide +kernel
theorem dX5_inRows_20 : decode cX5_inRows 20 = .ok (.iload_n 2, 1) := by decide +kernel
theorem dX5_inRows_21 : decode cX5_inRows 21 = .ok (.aload_n 0, 1) := by decide +kernel
theorem dX5_inRows_22 : decode cX5_inRows 22 = .ok (.getfield 11, 3) := by decide +kernel
theorem dX5_inRows_25 : decode cX5_inRows 25 = .ok (.iload_n 3, 1) := by decide +kernel
theorem dX5_inRows_26 : decode cX5_inRows 26 = .ok (.aaload, 1) := by decide +kernel
theorem dX5_inRows_27 : decode cX5_inRows 27 = .ok (.getfield 60, 3) := by decide +kernel
theorem dX5_inRows_30 : decode cX5_inRows 30 = .ok (.iload_n 1, 1) := by decide +kernel
theorem dX5_inRows_31 : decode cX5_inRows 31 = .ok (.iaload, 1) := by decide +kernel
theorem dX5_inRows_32 : decode cX5_inRows 32 = .ok (.iadd, 1) := by decide +kernel
theorem dX5_inRows_33 : decode cX5_inRows 33 = .ok (.istore_n 2, 1) := by decide +kernel
theorem dX5_inRows_34 : decode cX5_inRows 34 = .ok (.iinc 3 1, 3) := by decide +kernel
theorem dX5_inRows_37 : decode cX5_inRows 37 = .ok (.goto (-33), 3) := by decide +kernel
theorem dX5_inRows_40 : decode cX5_inRows 40 = .ok (.iload_n 2, 1) := by decide +kernel
theorem dX5_inRows_41 : decode cX5_inRows 41 = .ok (.ireturn, 1) := by decide +kernel
theorem dX5_piecesLeft_0 : decode cX5_piecesLeft 0 = .ok (.iconst 0, 1) := by decide +kernel
theorem dX5_piecesLeft_1 : decode cX5_piecesLeft 1 = .ok (.istore_n 1, 1) := by decide +kernel
theorem dX5_piecesLeft_2 : decode cX5_piecesLeft 2 = .ok (.iconst 0, 1) := by decide +kernel
theorem dX5_piecesLeft_3 : decode cX5_piecesLeft 3 = .ok (.istore_n 2, 1) := by decide +kernel
theorem dX5_piecesLeft_4 : decode cX5_piecesLeft 4 = .ok (.iload_n 2, 1) := by decide +kernel
theorem dX5_piecesLeft_5 : decode cX5_piecesLeft 5 = .ok (.bipush 10, 2) := by decide +kernel
theorem dX5_piecesLeft_7 : decode cX5_piecesLeft 7 = .ok (.if_icmp .ge 18, 3) := by decide +kernel
theorem dX5_piecesLeft_10 : decode cX5_piecesLeft 10 = .ok (.iload_n 1, 1) := by decide +kernel
theorem dX5_piecesLeft_11 : decode cX5_piecesLeft 11 = .ok (.aload_n 0, 1) := by decide +kernel
theorem dX5_piecesLeft_12 : decode cX5_piecesLeft 12 = .ok (.getfield 17, 3) := by decide +kernel
theorem dX5_piecesLeft_15 : decode cX5_piecesLeft 15 = .ok (.iload_n 2, 1) := by decide +kernel
theorem dX5_piecesLeft_16 : decode cX5_piecesLeft 16 = .ok (.iaload, 1) := by decide +kernel
theorem dX5_piecesLeft_17 : decode cX5_piecesLeft 17 = .ok (.iadd, 1) := by decide +kernel
theorem dX5_piecesLeft_18 : decode cX5_piecesLeft 18 = .ok (.istore_n 1, 1) := by decide +kernel
theorem dX5_piecesLeft_19 : decode cX5_piecesLeft 19 = .ok (.iinc 2 1, 3) := by decide +kernel
theorem dX5_piecesLeft_22 : decode cX5_piecesLeft 22 = .ok (.goto (-18), 3) := by decide +kernel
theorem dX5_piecesLeft_25 : decode cX5_piecesLeft 25 = .ok (.iload_n 1, 1) := by decide +kernel
theorem dX5_piecesLeft_26 : decode cX5_piecesLeft 26 = .ok (.ireturn, 1) := by decide +kernel
theorem dX5_tightRows_0 : decode cX5_tightRows 0 = .ok (.iconst 0, 1) := by decide +kernel
theorem dX5_tightRows_1 : decode cX5_tightRows 1 = .ok (.istore_n 2, 1) := by decide +kernel
theorem dX5_tightRows_2 : decode cX5_tightRows 2 = .ok (.iconst 0, 1) := by decide +kernel
theorem dX5_tightRows_3 : decode cX5_tightRows 3 = .ok (.istore_n 3, 1) := by decide +kernel
theorem dX5_tightRows_4 : decode cX5_tightRows 4 = .ok (.iload_n 3, 1) := by decide +kernel
theorem dX5_tightRows_5 : decode cX5_tightRows 5 = .ok (.bipush 8, 2) := by decide +kernel
theorem dX5_tightRows_7 : decode cX5_tightRows 7 = .ok (.if_icmp .ge 25, 3) := by decide +kernel
theorem dX5_tightRows_10 : decode cX5_tightRows 10 = .ok (.aload_n 0, 1) := by decide +kernel
theorem dX5_tightRows_11 : decode cX5_tightRows 11 = .ok (.getfield 11, 3) := by decide +kernel
theorem dX5_tightRows_14 : decode cX5_tightRows 14 = .ok (.iload_n 3, 1) := by decide +kernel
theorem dX5_tightRows_15 : decode cX5_tightRows 15 = .ok (.aaload, 1) := by decide +kernel
theorem dX5_tightRows_16 : decode cX5_tightRows 16 = .ok (.aload_n 1, 1) := by decide +kernel
theorem dX5_tightRows_17 : decode cX5_tightRows 17 = .ok (.invokevirtual 63, 3) := by decide +kernel
theorem dX5_tightRows_20 : decode cX5_tightRows 20 = .ok (.ifCond .eq 6, 3) := by decide +kernel
theorem dX5_tightRows_23 : decode cX5_tightRows 23 = .ok (.iinc 2 1, 3) := by decide +kernel
theorem dX5_tightRows_26 : decode cX5_tightRows 26 = .ok (.iinc 3 1, 3) := by decide +kernel
theorem dX5_tightRows_29 : decode cX5_tightRows 29 = .ok (.goto (-25), 3) := by decide +kernel
theorem dX5_tightRows_32 : decode cX5_tightRows 32 = .ok (.iload_n 2, 1) := by decide +kernel
theorem dX5_tightRows_33 : decode cX5_tightRows 33 = .ok (.ireturn, 1) := by decide +kernel
theorem dX5_canHaveQuoin_0 : decode cX5_canHaveQuoin 0 = .ok (.aload_n 1, 1) := by decide +kernel
theorem dX5_canHaveQuoin_1 : decode cX5_canHaveQuoin 1 = .ok (.invokevirtual 67, 3) := by decide +kernel
theorem dX5_canHaveQuoin_4 : decode cX5_canHaveQuoin 4 = .ok (.ifCond .ne 10, 3) := by decide +kernel
theorem dX5_canHaveQuoin_7 : decode cX5_canHaveQuoin 7 = .ok (.aload_n 0, 1) := by decide +kernel
theorem dX5_canHaveQuoin_8 : decode cX5_canHaveQuoin 8 = .ok (.getfield 25, 3) := by decide +kernel
theorem dX5_canHaveQuoin_11 : decode cX5_canHaveQuoin 11 = .ok (.ifCond .le 7, 3) := by decide +kernel
theorem dX5_canHaveQuoin_14 : decode cX5_canHaveQuoin 14 = .ok (.iconst 1, 1) := by decide +kernel
theorem dX5_canHaveQuoin_15 : decode cX5_canHaveQuoin 15 = .ok (.goto 4, 3) := by decide +kernel
theorem dX5_canHaveQuoin_18 : decode cX5_canHaveQuoin 18 = .ok (.iconst 0, 1) := by decide +kernel
theorem dX5_canHaveQuoin_19 : decode cX5_canHaveQuoin 19 = .ok (.ireturn, 1) := by decide +kernel
theorem dX5_setQuoin_0 : decode cX5_setQuoin 0 = .ok (.aload_n 1, 1) := by decide +kernel
theorem dX5_setQuoin_1 : decode cX5_setQuoin 1 = .ok (.invokevirtual 67, 3) := by decide +kernel
theorem dX5_setQuoin_4 : decode cX5_setQuoin 4 = .ok (.ifCond .ne 13, 3) := by decide +kernel
theorem dX5_setQuoin_7 : decode cX5_setQuoin 7 = .ok (.aload_n 0, 1) := by decide +kernel
theorem dX5_setQuoin_8 : decode cX5_setQuoin 8 = .ok (.dup, 1) := by decide +kernel
theorem dX5_setQuoin_9 : decode cX5_setQuoin 9 = .ok (.getfield 25, 3) := by decide +kernel
theorem dX5_setQuoin_12 : decode cX5_setQuoin 12 = .ok (.iconst 1, 1) := by decide +kernel
theorem dX5_setQuoin_13 : decode cX5_setQuoin 13 = .ok (.isub, 1) := by decide +kernel
theorem dX5_setQuoin_14 : decode cX5_setQuoin 14 = .ok (.putfield 25, 3) := by decide +kernel
theorem dX5_setQuoin_17 : decode cX5_setQuoin 17 = .ok (.aload_n 1, 1) := by decide +kernel
theorem dX5_setQuoin_18 : decode cX5_setQuoin 18 = .ok (.iload_n 2, 1) := by decide +kernel
theorem dX5_setQuoin_19 : decode cX5_setQuoin 19 = .ok (.putfield 71, 3) := by decide +kernel
theorem dX5_setQuoin_22 : decode cX5_setQuoin 22 = .ok (.aload_n 1, 1) := by decide +kernel
theorem dX5_setQuoin_23 : decode cX5_setQuoin 23 = .ok (.iconst 0, 1) := by decide +kernel
theorem dX5_setQuoin_24 : decode cX5_setQuoin 24 = .ok (.putfield 74, 3) := by decide +kernel
theorem dX5_setQuoin_27 : decode cX5_setQuoin 27 = .ok (.return_, 1) := by decide +kernel
theorem dX5_removeQuoin_0 : decode cX5_removeQuoin 0 = .ok (.aload_n 1, 1) := by decide +kernel
theorem dX5_removeQuoin_1 : decode cX5_removeQuoin 1 = .ok (.invokevirtual 67, 3) := by decide +kernel
theorem dX5_removeQuoin_4 : decode cX5_removeQuoin 4 = .ok (.ifCond .eq 13, 3) := by decide +kernel
theorem dX5_removeQuoin_7 : decode cX5_removeQuoin 7 = .ok (.aload_n 0, 1) := by decide +kernel
theorem dX5_removeQuoin_8 : decode cX5_removeQuoin 8 = .ok (.dup, 1) := by decide +kernel
theorem dX5_removeQuoin_9 : decode cX5_removeQuoin 9 = .ok (.getfield 25, 3) := by decide +kernel
theorem dX5_removeQuoin_12 : decode cX5_removeQuoin 12 = .ok (.iconst 1, 1) := by decide +kernel
theorem dX5_removeQuoin_13 : decode cX5_removeQuoin 13 = .ok (.iadd, 1) := by decide +kernel
theorem dX5_removeQuoin_14 : decode cX5_removeQuoin 14 = .ok (.putfield 25, 3) := by decide +kernel
theorem dX5_removeQuoin_17 : decode cX5_removeQuoin 17 = .ok (.aload_n 1, 1) := by decide +kernel
theorem dX5_removeQuoin_18 : decode cX5_removeQuoin 18 = .ok (.iconst (-1), 1) := by decide +kernel
theorem dX5_removeQuoin_19 : decode cX5_removeQuoin 19 = .ok (.putfield 71, 3) := by decide +kernel
theorem dX5_removeQuoin_22 : decode cX5_removeQuoin 22 = .ok (.aload_n 1, 1) := by decide +kernel
theorem dX5_removeQuoin_23 : decode cX5_removeQuoin 23 = .ok (.iconst 0, 1) := by decide +kernel
theorem dX5_removeQuoin_24 : decode cX5_removeQuoin 24 = .ok (.putfield 74, 3) := by decide +kernel
theorem dX5_removeQuoin_27 : decode cX5_removeQuoin 27 = .ok (.return_, 1) := by decide +kernel
theorem dX5_movePieceIn_0 : decode cX5_movePieceIn 0 = .ok (.iload_n 3, 1) := by decide +kernel
theorem dX5_movePieceIn_1 : decode cX5_movePieceIn 1 = .ok (.ifCond .lt 25, 3) := by decide +kernel
theorem dX5_movePieceIn_4 : decode cX5_movePieceIn 4 = .ok (.iload_n 3, 1) := by decide +kernel
theorem dX5_movePieceIn_5 : decode cX5_movePieceIn 5 = .ok (.bipush 10, 2) := by decide +kernel
theorem dX5_movePieceIn_7 : decode cX5_movePieceIn 7 = .ok (.if_icmp .ge 19, 3) := by decide +kernel
theorem dX5_movePieceIn_10 : decode cX5_movePieceIn 10 = .ok (.aload_n 0, 1) := by decide +kernel
theorem dX5_movePieceIn_11 : decode cX5_movePieceIn 11 = .ok (.getfield 17, 3) := by decide +kernel
theorem dX5_movePieceIn_14 : decode cX5_movePieceIn 14 = .ok (.iload_n 3, 1) := by decide +kernel
theorem dX5_movePieceIn_15 : decode cX5_movePieceIn 15 = .ok (.dup2, 1) := by decide +kernel
theorem dX5_movePieceIn_16 : decode cX5_movePieceIn 16 = .ok (.iaload, 1) := by decide +kernel
theorem dX5_movePieceIn_17 : decode cX5_movePieceIn 17 = .ok (.iconst 1, 1) := by decide +kernel
theorem dX5_movePieceIn_18 : decode cX5_movePieceIn 18 = .ok (.isub, 1) := by decide +kernel
theorem dX5_movePieceIn_19 : decode cX5_movePieceIn 19 = .ok (.iastore, 1) := by decide +kernel
theorem dX5_movePieceIn_20 : decode cX5_movePieceIn 20 = .ok (.aload_n 2, 1) := by decide +kernel
theorem dX5_movePieceIn_21 : decode cX5_movePieceIn 21 = .ok (.aload_n 1, 1) := by decide +kernel
theorem dX5_movePieceIn_22 : decode cX5_movePieceIn 22 = .ok (.iload_n 3, 1) := by decide +kernel
theorem dX5_movePieceIn_23 : decode cX5_movePieceIn 23 = .ok (.invokevirtual 77, 3) := by decide +kernel
theorem dX5_movePieceIn_26 : decode cX5_movePieceIn 26 = .ok (.return_, 1) := by decide +kernel
theorem dX5_movePieceOut_0 : decode cX5_movePieceOut 0 = .ok (.aload_n 2, 1) := by decide +kernel
theorem dX5_movePieceOut_1 : decode cX5_movePieceOut 1 = .ok (.aload_n 1, 1) := by decide +kernel
theorem dX5_movePieceOut_2 : decode cX5_movePieceOut 2 = .ok (.iload_n 3, 1) := by decide +kernel
theorem dX5_movePieceOut_3 : decode cX5_movePieceOut 3 = .ok (.invokevirtual 81, 3) := by decide +kernel
theorem dX5_movePieceOut_6 : decode cX5_movePieceOut 6 = .ok (.istore 4, 2) := by decide +kernel
theorem dX5_movePieceOut_8 : decode cX5_movePieceOut 8 = .ok (.iload 4, 2) := by decide +kernel
theorem dX5_movePieceOut_10 : decode cX5_movePieceOut 10 = .ok (.ifCond .lt 21, 3) := by decide +kernel
theorem dX5_movePieceOut_13 : decode cX5_movePieceOut 13 = .ok (.iload 4, 2) := by decide +kernel
theorem dX5_movePieceOut_15 : decode cX5_movePieceOut 15 = .ok (.bipush 10, 2) := by decide +kernel
theorem dX5_movePieceOut_17 : decode cX5_movePieceOut 17 = .ok (.if_icmp .ge 14, 3) := by decide +kernel
theorem dX5_movePieceOut_20 : decode cX5_movePieceOut 20 = .ok (.aload_n 0, 1) := by decide +kernel
theorem dX5_movePieceOut_21 : decode cX5_movePieceOut 21 = .ok (.getfield 17, 3) := by decide +kernel
theorem dX5_movePieceOut_24 : decode cX5_movePieceOut 24 = .ok (.iload 4, 2) := by decide +kernel
theorem dX5_movePieceOut_26 : decode cX5_movePieceOut 26 = .ok (.dup2, 1) := by decide +kernel
theorem dX5_movePieceOut_27 : decode cX5_movePieceOut 27 = .ok (.iaload, 1) := by decide +kernel
theorem dX5_movePieceOut_28 : decode cX5_movePieceOut 28 = .ok (.iconst 1, 1) := by decide +kernel
theorem dX5_movePieceOut_29 : decode cX5_movePieceOut 29 = .ok (.iadd, 1) := by decide +kernel
theorem dX5_movePieceOut_30 : decode cX5_movePieceOut 30 = .ok (.iastore, 1) := by decide +kernel
theorem dX5_movePieceOut_31 : decode cX5_movePieceOut 31 = .ok (.iload 4, 2) := by decide +kernel
theorem dX5_movePieceOut_33 : decode cX5_movePieceOut 33 = .ok (.ireturn, 1) := by decide +kernel
theorem dX5_fill_0 : decode cX5_fill 0 = .ok (.iload_n 2, 1) := by decide +kernel
theorem dX5_fill_1 : decode cX5_fill 1 = .ok (.ifCond .lt 9, 3) := by decide +kernel
theorem dX5_fill_4 : decode cX5_fill 4 = .ok (.iload_n 2, 1) := by decide +kernel
theorem dX5_fill_5 : decode cX5_fill 5 = .ok (.bipush 8, 2) := by decide +kernel
theorem dX5_fill_7 : decode cX5_fill 7 = .ok (.if_icmp .lt 4, 3) := by decide +kernel
theorem dX5_fill_10 : decode cX5_fill 10 = .ok (.return_, 1) := by decide +kernel
theorem dX5_fill_11 : decode cX5_fill 11 = .ok (.aload_n 0, 1) := by decide +kernel
theorem dX5_fill_12 : decode cX5_fill 12 = .ok (.getfield 11, 3) := by decide +kernel
theorem dX5_fill_15 : decode cX5_fill 15 = .ok (.iload_n 2, 1) := by decide +kernel
theorem dX5_fill_16 : decode cX5_fill 16 = .ok (.aaload, 1) := by decide +kernel
theorem dX5_fill_17 : decode cX5_fill 17 = .ok (.astore 4, 2) := by decide +kernel
theorem dX5_fill_19 : decode cX5_fill 19 = .ok (.iconst 0, 1) := by decide +kernel
theorem dX5_fill_20 : decode cX5_fill 20 = .ok (.istore 5, 2) := by decide +kernel
theorem dX5_fill_22 : decode cX5_fill 22 = .ok (.iload 5, 2) := by decide +kernel
theorem dX5_fill_24 : decode cX5_fill 24 = .ok (.aload_n 1, 1) := by decide +kernel
theorem dX5_fill_25 : decode cX5_fill 25 = .ok (.getfield 85, 3) := by decide +kernel
theorem dX5_fill_28 : decode cX5_fill 28 = .ok (.if_icmp .ge 48, 3) := by decide +kernel
theorem dX5_fill_31 : decode cX5_fill 31 = .ok (.aload_n 1, 1) := by decide +kernel
theorem dX5_fill_32 : decode cX5_fill 32 = .ok (.getfield 90, 3) := by decide +kernel
theorem dX5_fill_35 : decode cX5_fill 35 = .ok (.iload 5, 2) := by decide +kernel
theorem dX5_fill_37 : decode cX5_fill 37 = .ok (.iaload, 1) := by decide +kernel
theorem dX5_fill_38 : decode cX5_fill 38 = .ok (.istore 6, 2) := by decide +kernel
theorem dX5_fill_40 : decode cX5_fill 40 = .ok (.iconst 0, 1) := by decide +kernel
theorem dX5_fill_41 : decode cX5_fill 41 = .ok (.istore 7, 2) := by decide +kernel
theorem dX5_fill_43 : decode cX5_fill 43 = .ok (.iload 7, 2) := by decide +kernel
theorem dX5_fill_45 : decode cX5_fill 45 = .ok (.aload_n 3, 1) := by decide +kernel
theorem dX5_fill_46 : decode cX5_fill 46 = .ok (.getfield 93, 3) := by decide +kernel
theorem dX5_fill_49 : decode cX5_fill 49 = .ok (.iload 6, 2) := by decide +kernel
theorem dX5_fill_51 : decode cX5_fill 51 = .ok (.iaload, 1) := by decide +kernel
theorem dX5_fill_52 : decode cX5_fill 52 = .ok (.if_icmp .ge 18, 3) := by decide +kernel
theorem dX5_fill_55 : decode cX5_fill 55 = .ok (.aload_n 0, 1) := by decide +kernel
theorem dX5_fill_56 : decode cX5_fill 56 = .ok (.aload_n 1, 1) := by decide +kernel
theorem dX5_fill_57 : decode cX5_fill 57 = .ok (.aload 4, 2) := by decide +kernel
theorem dX5_fill_59 : decode cX5_fill 59 = .ok (.iload 6, 2) := by decide +kernel
theorem dX5_fill_61 : decode cX5_fill 61 = .ok (.invokevirtual 98, 3) := by decide +kernel
theorem dX5_fill_64 : decode cX5_fill 64 = .ok (.iinc 7 1, 3) := by decide +kernel
theorem dX5_fill_67 : decode cX5_fill 67 = .ok (.goto (-24), 3) := by decide +kernel
theorem dX5_fill_70 : decode cX5_fill 70 = .ok (.iinc 5 1, 3) := by decide +kernel
theorem dX5_fill_73 : decode cX5_fill 73 = .ok (.goto (-51), 3) := by decide +kernel
theorem dX5_fill_76 : decode cX5_fill 76 = .ok (.aload_n 3, 1) := by decide +kernel
theorem dX5_fill_77 : decode cX5_fill 77 = .ok (.getfield 102, 3) := by decide +kernel
theorem dX5_fill_80 : decode cX5_fill 80 = .ok (.iconst (-1), 1) := by decide +kernel
theorem dX5_fill_81 : decode cX5_fill 81 = .ok (.if_icmp .eq 13, 3) := by decide +kernel
theorem dX5_fill_84 : decode cX5_fill 84 = .ok (.aload_n 0, 1) := by decide +kernel
theorem dX5_fill_85 : decode cX5_fill 85 = .ok (.aload 4, 2) := by decide +kernel
theorem dX5_fill_87 : decode cX5_fill 87 = .ok (.aload_n 3, 1) := by decide +kernel
theorem dX5_fill_88 : decode cX5_fill 88 = .ok (.getfield 102, 3) := by decide +kernel
theorem dX5_fill_91 : decode cX5_fill 91 = .ok (.invokevirtual 103, 3) := by decide +kernel
theorem dX5_fill_94 : decode cX5_fill 94 = .ok (.aload 4, 2) := by decide +kernel
theorem dX5_fill_96 : decode cX5_fill 96 = .ok (.iconst 0, 1) := by decide +kernel
theorem dX5_fill_97 : decode cX5_fill 97 = .ok (.putfield 107, 3) := by decide +kernel
theorem dX5_fill_100 : decode cX5_fill 100 = .ok (.return_, 1) := by decide +kernel
theorem dX5_empty_0 : decode cX5_empty 0 = .ok (.iload_n 1, 1) := by decide +kernel
theorem dX5_empty_1 : decode cX5_empty 1 = .ok (.ifCond .lt 9, 3) := by decide +kernel
theorem dX5_empty_4 : decode cX5_empty 4 = .ok (.iload_n 1, 1) := by decide +kernel
theorem dX5_empty_5 : decode cX5_empty 5 = .ok (.bipush 8, 2) := by decide +kernel
theorem dX5_empty_7 : decode cX5_empty 7 = .ok (.if_icmp .lt 4, 3) := by decide +kernel
theorem dX5_empty_10 : decode cX5_empty 10 = .ok (.return_, 1) := by decide +kernel
theorem dX5_empty_11 : decode cX5_empty 11 = .ok (.aload_n 0, 1) := by decide +kernel
theorem dX5_empty_12 : decode cX5_empty 12 = .ok (.getfield 11, 3) := by decide +kernel
theorem dX5_empty_15 : decode cX5_empty 15 = .ok (.iload_n 1, 1) := by decide +kernel
theorem dX5_empty_16 : decode cX5_empty 16 = .ok (.aaload, 1) := by decide +kernel
theorem dX5_empty_17 : decode cX5_empty 17 = .ok (.astore_n 2, 1) := by decide +kernel
theorem dX5_empty_18 : decode cX5_empty 18 = .ok (.iconst 0, 1) := by decide +kernel
theorem dX5_empty_19 : decode cX5_empty 19 = .ok (.istore_n 3, 1) := by decide +kernel
theorem dX5_empty_20 : decode cX5_empty 20 = .ok (.iload_n 3, 1) := by decide +kernel
theorem dX5_empty_21 : decode cX5_empty 21 = .ok (.bipush 10, 2) := by decide +kernel
theorem dX5_empty_23 : decode cX5_empty 23 = .ok (.if_icmp .ge 24, 3) := by decide +kernel
theorem dX5_empty_26 : decode cX5_empty 26 = .ok (.aload_n 0, 1) := by decide +kernel
theorem dX5_empty_27 : decode cX5_empty 27 = .ok (.getfield 17, 3) := by decide +kernel
theorem dX5_empty_30 : decode cX5_empty 30 = .ok (.iload_n 3, 1) := by decide +kernel
theorem dX5_empty_31 : decode cX5_empty 31 = .ok (.dup2, 1) := by decide +kernel
theorem dX5_empty_32 : decode cX5_empty 32 = .ok (.iaload, 1) := by decide +kernel
theorem dX5_empty_33 : decode cX5_empty 33 = .ok (.aload_n 2, 1) := by decide +kernel
theorem dX5_empty_34 : decode cX5_empty 34 = .ok (.getfield 60, 3) := by decide +kernel
theorem dX5_empty_37 : decode cX5_empty 37 = .ok (.iload_n 3, 1) := by decide +kernel
theorem dX5_empty_38 : decode cX5_empty 38 = .ok (.iaload, 1) := by decide +kernel
theorem dX5_empty_39 : decode cX5_empty 39 = .ok (.iadd, 1) := by decide +kernel
theorem dX5_empty_40 : decode cX5_empty 40 = .ok (.iastore, 1) := by decide +kernel
theorem dX5_empty_41 : decode cX5_empty 41 = .ok (.iinc 3 1, 3) := by decide +kernel
theorem dX5_empty_44 : decode cX5_empty 44 = .ok (.goto (-24), 3) := by decide +kernel
theorem dX5_empty_47 : decode cX5_empty 47 = .ok (.aload_n 2, 1) := by decide +kernel
theorem dX5_empty_48 : decode cX5_empty 48 = .ok (.invokevirtual 110, 3) := by decide +kernel
theorem dX5_empty_51 : decode cX5_empty 51 = .ok (.aload_n 0, 1) := by decide +kernel
theorem dX5_empty_52 : decode cX5_empty 52 = .ok (.aload_n 2, 1) := by decide +kernel
theorem dX5_empty_53 : decode cX5_empty 53 = .ok (.invokevirtual 113, 3) := by decide +kernel
theorem dX5_empty_56 : decode cX5_empty 56 = .ok (.aload_n 2, 1) := by decide +kernel
theorem dX5_empty_57 : decode cX5_empty 57 = .ok (.iconst 0, 1) := by decide +kernel
theorem dX5_empty_58 : decode cX5_empty 58 = .ok (.putfield 107, 3) := by decide +kernel
theorem dX5_empty_61 : decode cX5_empty 61 = .ok (.return_, 1) := by decide +kernel
theorem dX5_impressOften_0 : decode cX5_impressOften 0 = .ok (.aload_n 0, 1) := by decide +kernel
theorem dX5_impressOften_1 : decode cX5_impressOften 1 = .ok (.getfield 32, 3) := by decide +kernel
theorem dX5_impressOften_4 : decode cX5_impressOften 4 = .ok (.istore_n 3, 1) := by decide +kernel
theorem dX5_impressOften_5 : decode cX5_impressOften 5 = .ok (.iconst 0, 1) := by decide +kernel
theorem dX5_impressOften_6 : decode cX5_impressOften 6 = .ok (.istore 4, 2) := by decide +kernel
theorem dX5_impressOften_8 : decode cX5_impressOften 8 = .ok (.iload 4, 2) := by decide +kernel
theorem dX5_impressOften_10 : decode cX5_impressOften 10 = .ok (.iload_n 2, 1) := by decide +kernel
theorem dX5_impressOften_11 : decode cX5_impressOften 11 = .ok (.if_icmp .ge 14, 3) := by decide +kernel
theorem dX5_impressOften_14 : decode cX5_impressOften 14 = .ok (.aload_n 0, 1) := by decide +kernel
theorem dX5_impressOften_15 : decode cX5_impressOften 15 = .ok (.aload_n 1, 1) := by decide +kernel
theorem dX5_impressOften_16 : decode cX5_impressOften 16 = .ok (.invokevirtual 116, 3) := by decide +kernel
theorem dX5_impressOften_19 : decode cX5_impressOften 19 = .ok (.iinc 4 1, 3) := by decide +kernel
theorem dX5_impressOften_22 : decode cX5_impressOften 22 = .ok (.goto (-14), 3) := by decide +kernel
theorem dX5_impressOften_25 : decode cX5_impressOften 25 = .ok (.aload_n 0, 1) := by decide +kernel
theorem dX5_impressOften_26 : decode cX5_impressOften 26 = .ok (.getfield 32, 3) := by decide +kernel
theorem dX5_impressOften_29 : decode cX5_impressOften 29 = .ok (.iload_n 3, 1) := by decide +kernel
theorem dX5_impressOften_30 : decode cX5_impressOften 30 = .ok (.isub, 1) := by decide +kernel
theorem dX5_impressOften_31 : decode cX5_impressOften 31 = .ok (.ireturn, 1) := by decide +kernel
theorem dX5_impress_0 : decode cX5_impress 0 = .ok (.iconst 0, 1) := by decide +kernel
theorem dX5_impress_1 : decode cX5_impress 1 = .ok (.istore_n 2, 1) := by decide +kernel
theorem dX5_impress_2 : decode cX5_impress 2 = .ok (.iload_n 2, 1) := by decide +kernel
theorem dX5_impress_3 : decode cX5_impress 3 = .ok (.bipush 8, 2) := by decide +kernel
theorem dX5_impress_5 : decode cX5_impress 5 = .ok (.if_icmp .ge 33, 3) := by decide +kernel
theorem dX5_impress_8 : decode cX5_impress 8 = .ok (.aload_n 0, 1) := by decide +kernel
theorem dX5_impress_9 : decode cX5_impress 9 = .ok (.getfield 11, 3) := by decide +kernel
theorem dX5_impress_12 : decode cX5_impress 12 = .ok (.iload_n 2, 1) := by decide +kernel
theorem dX5_impress_13 : decode cX5_impress 13 = .ok (.aaload, 1) := by decide +kernel
theorem dX5_impress_14 : decode cX5_impress 14 = .ok (.dup, 1) := by decide +kernel
theorem dX5_impress_15 : decode cX5_impress 15 = .ok (.getfield 107, 3) := by decide +kernel
theorem dX5_impress_18 : decode cX5_impress 18 = .ok (.aload_n 0, 1) := by decide +kernel
theorem dX5_impress_19 : decode cX5_impress 19 = .ok (.getfield 11, 3) := by decide +kernel
theorem dX5_impress_22 : decode cX5_impress 22 = .ok (.iload_n 2, 1) := by decide +kernel
theorem dX5_impress_23 : decode cX5_impress 23 = .ok (.aaload, 1) := by decide +kernel
theorem dX5_impress_24 : decode cX5_impress 24 = .ok (.aload_n 1, 1) := by decide +kernel
theorem dX5_impress_25 : decode cX5_impress 25 = .ok (.invokevirtual 120, 3) := by decide +kernel
theorem dX5_impress_28 : decode cX5_impress 28 = .ok (.iadd, 1) := by decide +kernel
theorem dX5_impress_29 : decode cX5_impress 29 = .ok (.putfield 107, 3) := by decide +kernel
theorem dX5_impress_32 : decode cX5_impress 32 = .ok (.iinc 2 1, 3) := by decide +kernel
theorem dX5_impress_35 : decode cX5_impress 35 = .ok (.goto (-33), 3) := by decide +kernel
theorem dX5_impress_38 : decode cX5_impress 38 = .ok (.aload_n 0, 1) := by decide +kernel
theorem dX5_impress_39 : decode cX5_impress 39 = .ok (.aload_n 1, 1) := by decide +kernel
theorem dX5_impress_40 : decode cX5_impress 40 = .ok (.invokevirtual 124, 3) := by decide +kernel
theorem dX5_impress_43 : decode cX5_impress 43 = .ok (.istore_n 2, 1) := by decide +kernel
theorem dX5_impress_44 : decode cX5_impress 44 = .ok (.aload_n 0, 1) := by decide +kernel
theorem dX5_impress_45 : decode cX5_impress 45 = .ok (.dup, 1) := by decide +kernel
theorem dX5_impress_46 : decode cX5_impress 46 = .ok (.getfield 29, 3) := by decide +kernel
theorem dX5_impress_49 : decode cX5_impress 49 = .ok (.iconst 1, 1) := by decide +kernel
theorem dX5_impress_50 : decode cX5_impress 50 = .ok (.iadd, 1) := by decide +kernel
theorem dX5_impress_51 : decode cX5_impress 51 = .ok (.putfield 29, 3) := by decide +kernel
theorem dX5_impress_54 : decode cX5_impress 54 = .ok (.iload_n 2, 1) := by decide +kernel
theorem dX5_impress_55 : decode cX5_impress 55 = .ok (.ifCond .ne 21, 3) := by decide +kernel
theorem dX5_impress_58 : decode cX5_impress 58 = .ok (.aload_n 0, 1) := by decide +kernel
theorem dX5_impress_59 : decode cX5_impress 59 = .ok (.aload_n 1, 1) := by decide +kernel
theorem dX5_impress_60 : decode cX5_impress 60 = .ok (.invokevirtual 127, 3) := by decide +kernel
theorem dX5_impress_63 : decode cX5_impress 63 = .ok (.ifCond .eq 13, 3) := by decide +kernel
theorem dX5_impress_66 : decode cX5_impress 66 = .ok (.aload_n 0, 1) := by decide +kernel
theorem dX5_impress_67 : decode cX5_impress 67 = .ok (.dup, 1) := by decide +kernel
theorem dX5_impress_68 : decode cX5_impress 68 = .ok (.getfield 32, 3) := by decide +kernel
theorem dX5_impress_71 : decode cX5_impress 71 = .ok (.iconst 1, 1) := by decide +kernel
theorem dX5_impress_72 : decode cX5_impress 72 = .ok (.iadd, 1) := by decide +kernel
theorem dX5_impress_73 : decode cX5_impress 73 = .ok (.putfield 32, 3) := by decide +kernel
theorem dX5_impress_76 : decode cX5_impress 76 = .ok (.return_, 1) := by decide +kernel
theorem dX5_passDay_0 : decode cX5_passDay 0 = .ok (.iconst 0, 1) := by decide +kernel
theorem dX5_passDay_1 : decode cX5_passDay 1 = .ok (.istore_n 2, 1) := by decide +kernel
theorem dX5_passDay_2 : decode cX5_passDay 2 = .ok (.iload_n 2, 1) := by decide +kernel
theorem dX5_passDay_3 : decode cX5_passDay 3 = .ok (.bipush 8, 2) := by decide +kernel
theorem dX5_passDay_5 : decode cX5_passDay 5 = .ok (.if_icmp .ge 33, 3) := by decide +kernel
theorem dX5_passDay_8 : decode cX5_passDay 8 = .ok (.aload_n 0, 1) := by decide +kernel
theorem dX5_passDay_9 : decode cX5_passDay 9 = .ok (.getfield 11, 3) := by decide +kernel
theorem dX5_passDay_12 : decode cX5_passDay 12 = .ok (.iload_n 2, 1) := by decide +kernel
theorem dX5_passDay_13 : decode cX5_passDay 13 = .ok (.aaload, 1) := by decide +kernel
theorem dX5_passDay_14 : decode cX5_passDay 14 = .ok (.dup, 1) := by decide +kernel
theorem dX5_passDay_15 : decode cX5_passDay 15 = .ok (.getfield 107, 3) := by decide +kernel
theorem dX5_passDay_18 : decode cX5_passDay 18 = .ok (.aload_n 0, 1) := by decide +kernel
theorem dX5_passDay_19 : decode cX5_passDay 19 = .ok (.getfield 11, 3) := by decide +kernel
theorem dX5_passDay_22 : decode cX5_passDay 22 = .ok (.iload_n 2, 1) := by decide +kernel
theorem dX5_passDay_23 : decode cX5_passDay 23 = .ok (.aaload, 1) := by decide +kernel
theorem dX5_passDay_24 : decode cX5_passDay 24 = .ok (.aload_n 1, 1) := by decide +kernel
theorem dX5_passDay_25 : decode cX5_passDay 25 = .ok (.invokevirtual 130, 3) := by decide +kernel
theorem dX5_passDay_28 : decode cX5_passDay 28 = .ok (.iadd, 1) := by decide +kernel
theorem dX5_passDay_29 : decode cX5_passDay 29 = .ok (.putfield 107, 3) := by decide +kernel
theorem dX5_passDay_32 : decode cX5_passDay 32 = .ok (.iinc 2 1, 3) := by decide +kernel
theorem dX5_passDay_35 : decode cX5_passDay 35 = .ok (.goto (-33), 3) := by decide +kernel
theorem dX5_passDay_38 : decode cX5_passDay 38 = .ok (.aload_n 0, 1) := by decide +kernel
theorem dX5_passDay_39 : decode cX5_passDay 39 = .ok (.dup, 1) := by decide +kernel
theorem dX5_passDay_40 : decode cX5_passDay 40 = .ok (.getfield 35, 3) := by decide +kernel
theorem dX5_passDay_43 : decode cX5_passDay 43 = .ok (.iconst 1, 1) := by decide +kernel
theorem dX5_passDay_44 : decode cX5_passDay 44 = .ok (.iadd, 1) := by decide +kernel
theorem dX5_passDay_45 : decode cX5_passDay 45 = .ok (.putfield 35, 3) := by decide +kernel
theorem dX5_passDay_48 : decode cX5_passDay 48 = .ok (.aload_n 0, 1) := by decide +kernel
theorem dX5_passDay_49 : decode cX5_passDay 49 = .ok (.aload_n 1, 1) := by decide +kernel
theorem dX5_passDay_50 : decode cX5_passDay 50 = .ok (.invokevirtual 124, 3) := by decide +kernel
theorem dX5_passDay_53 : decode cX5_passDay 53 = .ok (.ireturn, 1) := by decide +kernel
theorem dX5_dropLooseRows_0 : decode cX5_dropLooseRows 0 = .ok (.iconst 0, 1) := by decide +kernel
theorem dX5_dropLooseRows_1 : decode cX5_dropLooseRows 1 = .ok (.istore_n 2, 1) := by decide +kernel
theorem dX5_dropLooseRows_2 : decode cX5_dropLooseRows 2 = .ok (.iconst 0, 1) := by decide +kernel
theorem dX5_dropLooseRows_3 : decode cX5_dropLooseRows 3 = .ok (.istore_n 3, 1) := by decide +kernel
theorem dX5_dropLooseRows_4 : decode cX5_dropLooseRows 4 = .ok (.iload_n 3, 1) := by decide +kernel
theorem dX5_dropLooseRows_5 : decode cX5_dropLooseRows 5 = .ok (.bipush 8, 2) := by decide +kernel
theorem dX5_dropLooseRows_7 : decode cX5_dropLooseRows 7 = .ok (.if_icmp .ge 73, 3) := by decide +kernel
theorem dX5_dropLooseRows_10 : decode cX5_dropLooseRows 10 = .ok (.aload_n 0, 1) := by decide +kernel
theorem dX5_dropLooseRows_11 : decode cX5_dropLooseRows 11 = .ok (.getfield 11, 3) := by decide +kernel
theorem dX5_dropLooseRows_14 : decode cX5_dropLooseRows 14 = .ok (.iload_n 3, 1) := by decide +kernel
theorem dX5_dropLooseRows_15 : decode cX5_dropLooseRows 15 = .ok (.aaload, 1) := by decide +kernel
theorem dX5_dropLooseRows_16 : decode cX5_dropLooseRows 16 = .ok (.getfield 54, 3) := by decide +kernel
theorem dX5_dropLooseRows_19 : decode cX5_dropLooseRows 19 = .ok (.ifCond .le 55, 3) := by decide +kernel
theorem dX5_dropLooseRows_22 : decode cX5_dropLooseRows 22 = .ok (.aload_n 0, 1) := by decide +kernel
theorem dX5_dropLooseRows_23 : decode cX5_dropLooseRows 23 = .ok (.getfield 11, 3) := by decide +kernel
theorem dX5_dropLooseRows_26 : decode cX5_dropLooseRows 26 = .ok (.iload_n 3, 1) := by decide +kernel
theorem dX5_dropLooseRows_27 : decode cX5_dropLooseRows 27 = .ok (.aaload, 1) := by decide +kernel
theorem dX5_dropLooseRows_28 : decode cX5_dropLooseRows 28 = .ok (.aload_n 1, 1) := by decide +kernel
theorem dX5_dropLooseRows_29 : decode cX5_dropLooseRows 29 = .ok (.invokevirtual 133, 3) := by decide +kernel
theorem dX5_dropLooseRows_32 : decode cX5_dropLooseRows 32 = .ok (.aload_n 1, 1) := by decide +kernel
theorem dX5_dropLooseRows_33 : decode cX5_dropLooseRows 33 = .ok (.getfield 136, 3) := by decide +kernel
theorem dX5_dropLooseRows_36 : decode cX5_dropLooseRows 36 = .ok (.if_icmp .le 38, 3) := by decide +kernel
theorem dX5_dropLooseRows_39 : decode cX5_dropLooseRows 39 = .ok (.aload_n 0, 1) := by decide +kernel
theorem dX5_dropLooseRows_40 : decode cX5_dropLooseRows 40 = .ok (.dup, 1) := by decide +kernel
theorem dX5_dropLooseRows_41 : decode cX5_dropLooseRows 41 = .ok (.getfield 38, 3) := by decide +kernel
theorem dX5_dropLooseRows_44 : decode cX5_dropLooseRows 44 = .ok (.aload_n 0, 1) := by decide +kernel
theorem dX5_dropLooseRows_45 : decode cX5_dropLooseRows 45 = .ok (.getfield 11, 3) := by decide +kernel
theorem dX5_dropLooseRows_48 : decode cX5_dropLooseRows 48 = .ok (.iload_n 3, 1) := by decide +kernel
theorem dX5_dropLooseRows_49 : decode cX5_dropLooseRows 49 = .ok (.aaload, 1) := by decide +kernel
theorem dX5_dropLooseRows_50 : decode cX5_dropLooseRows 50 = .ok (.getfield 54, 3) := by decide +kernel
theorem dX5_dropLooseRows_53 : decode cX5_dropLooseRows 53 = .ok (.iadd, 1) := by decide +kernel
theorem dX5_dropLooseRows_54 : decode cX5_dropLooseRows 54 = .ok (.putfield 38, 3) := by decide +kernel
theorem dX5_dropLooseRows_57 : decode cX5_dropLooseRows 57 = .ok (.aload_n 0, 1) := by decide +kernel
theorem dX5_dropLooseRows_58 : decode cX5_dropLooseRows 58 = .ok (.getfield 11, 3) := by decide +kernel
theorem dX5_dropLooseRows_61 : decode cX5_dropLooseRows 61 = .ok (.iload_n 3, 1) := by decide +kernel
theorem dX5_dropLooseRows_62 : decode cX5_dropLooseRows 62 = .ok (.aaload, 1) := by decide +kernel
theorem dX5_dropLooseRows_63 : decode cX5_dropLooseRows 63 = .ok (.invokevirtual 139, 3) := by decide +kernel
theorem dX5_dropLooseRows_66 : decode cX5_dropLooseRows 66 = .ok (.aload_n 0, 1) := by decide +kernel
theorem dX5_dropLooseRows_67 : decode cX5_dropLooseRows 67 = .ok (.iload_n 3, 1) := by decide +kernel
theorem dX5_dropLooseRows_68 : decode cX5_dropLooseRows 68 = .ok (.invokevirtual 142, 3) := by decide +kernel
theorem dX5_dropLooseRows_71 : decode cX5_dropLooseRows 71 = .ok (.iinc 2 1, 3) := by decide +kernel
theorem dX5_dropLooseRows_74 : decode cX5_dropLooseRows 74 = .ok (.iinc 3 1, 3) := by decide +kernel
theorem dX5_dropLooseRows_77 : decode cX5_dropLooseRows 77 = .ok (.goto (-73), 3) := by decide +kernel
theorem dX5_dropLooseRows_80 : decode cX5_dropLooseRows 80 = .ok (.aload_n 0, 1) := by decide +kernel
theorem dX5_dropLooseRows_81 : decode cX5_dropLooseRows 81 = .ok (.dup, 1) := by decide +kernel
theorem dX5_dropLooseRows_82 : decode cX5_dropLooseRows 82 = .ok (.getfield 41, 3) := by decide +kernel
theorem dX5_dropLooseRows_85 : decode cX5_dropLooseRows 85 = .ok (.iload_n 2, 1) := by decide +kernel
theorem dX5_dropLooseRows_86 : decode cX5_dropLooseRows 86 = .ok (.iadd, 1) := by decide +kernel
theorem dX5_dropLooseRows_87 : decode cX5_dropLooseRows 87 = .ok (.putfield 41, 3) := by decide +kernel
theorem dX5_dropLooseRows_90 : decode cX5_dropLooseRows 90 = .ok (.iload_n 2, 1) := by decide +kernel
theorem dX5_dropLooseRows_91 : decode cX5_dropLooseRows 91 = .ok (.ireturn, 1) := by decide +kernel
theorem dX5_isFirm_0 : decode cX5_isFirm 0 = .ok (.iconst 0, 1) := by decide +kernel
theorem dX5_isFirm_1 : decode cX5_isFirm 1 = .ok (.istore_n 2, 1) := by decide +kernel
theorem dX5_isFirm_2 : decode cX5_isFirm 2 = .ok (.iload_n 2, 1) := by decide +kernel
theorem dX5_isFirm_3 : decode cX5_isFirm 3 = .ok (.bipush 8, 2) := by decide +kernel
theorem dX5_isFirm_5 : decode cX5_isFirm 5 = .ok (.if_icmp .ge 36, 3) := by decide +kernel
theorem dX5_isFirm_8 : decode cX5_isFirm 8 = .ok (.aload_n 0, 1) := by decide +kernel
theorem dX5_isFirm_9 : decode cX5_isFirm 9 = .ok (.getfield 11, 3) := by decide +kernel
theorem dX5_isFirm_12 : decode cX5_isFirm 12 = .ok (.iload_n 2, 1) := by decide +kernel
theorem dX5_isFirm_13 : decode cX5_isFirm 13 = .ok (.aaload, 1) := by decide +kernel
theorem dX5_isFirm_14 : decode cX5_isFirm 14 = .ok (.getfield 54, 3) := by decide +kernel
theorem dX5_isFirm_17 : decode cX5_isFirm 17 = .ok (.ifCond .le 18, 3) := by decide +kernel
theorem dX5_isFirm_20 : decode cX5_isFirm 20 = .ok (.aload_n 0, 1) := by decide +kernel
theorem dX5_isFirm_21 : decode cX5_isFirm 21 = .ok (.getfield 11, 3) := by decide +kernel
theorem dX5_isFirm_24 : decode cX5_isFirm 24 = .ok (.iload_n 2, 1) := by decide +kernel
theorem dX5_isFirm_25 : decode cX5_isFirm 25 = .ok (.aaload, 1) := by decide +kernel
theorem dX5_isFirm_26 : decode cX5_isFirm 26 = .ok (.aload_n 1, 1) := by decide +kernel
theorem dX5_isFirm_27 : decode cX5_isFirm 27 = .ok (.invokevirtual 146, 3) := by decide +kernel
theorem dX5_isFirm_30 : decode cX5_isFirm 30 = .ok (.ifCond .ne 5, 3) := by decide +kernel
theorem dX5_isFirm_33 : decode cX5_isFirm 33 = .ok (.iconst 0, 1) := by decide +kernel
theorem dX5_isFirm_34 : decode cX5_isFirm 34 = .ok (.ireturn, 1) := by decide +kernel
theorem dX5_isFirm_35 : decode cX5_isFirm 35 = .ok (.iinc 2 1, 3) := by decide +kernel
theorem dX5_isFirm_38 : decode cX5_isFirm 38 = .ok (.goto (-36), 3) := by decide +kernel
theorem dX5_isFirm_41 : decode cX5_isFirm 41 = .ok (.iconst 1, 1) := by decide +kernel
theorem dX5_isFirm_42 : decode cX5_isFirm 42 = .ok (.ireturn, 1) := by decide +kernel
theorem dX6_init_0 : decode cX6_init 0 = .ok (.aload_n 0, 1) := by decide +kernel
theorem dX6_init_1 : decode cX6_init 1 = .ok (.invokespecial 1, 3) := by decide +kernel
theorem dX6_init_4 : decode cX6_init 4 = .ok (.aload_n 0, 1) := by decide +kernel
theorem dX6_init_5 : decode cX6_init 5 = .ok (.new 7, 3) := by decide +kernel
theorem dX6_init_8 : decode cX6_init 8 = .ok (.dup, 1) := by decide +kernel
theorem dX6_init_9 : decode cX6_init 9 = .ok (.invokespecial 9, 3) := by decide +kernel
theorem dX6_init_12 : decode cX6_init 12 = .ok (.putfield 10, 3) := by decide +kernel
theorem dX6_init_15 : decode cX6_init 15 = .ok (.aload_n 0, 1) := by decide +kernel
theorem dX6_init_16 : decode cX6_init 16 = .ok (.new 16, 3) := by decide +kernel
theorem dX6_init_19 : decode cX6_init 19 = .ok (.dup, 1) := by decide +kernel
theorem dX6_init_20 : decode cX6_init 20 = .ok (.invokespecial 18, 3) := by decide +kernel
theorem dX6_init_23 : decode cX6_init 23 = .ok (.putfield 19, 3) := by decide +kernel
theorem dX6_init_26 : decode cX6_init 26 = .ok (.aload_n 0, 1) := by decide +kernel
theorem dX6_init_27 : decode cX6_init 27 = .ok (.new 23, 3) := by decide +kernel
theorem dX6_init_30 : decode cX6_init 30 = .ok (.dup, 1) := by decide +kernel
theorem dX6_init_31 : decode cX6_init 31 = .ok (.invokespecial 25, 3) := by decide +kernel
theorem dX6_init_34 : decode cX6_init 34 = .ok (.putfield 26, 3) := by decide +kernel
theorem dX6_init_37 : decode cX6_init 37 = .ok (.aload_n 0, 1) := by decide +kernel
theorem dX6_init_38 : decode cX6_init 38 = .ok (.new 30, 3) := by decide +kernel
theorem dX6_init_41 : decode cX6_init 41 = .ok (.dup, 1) := by decide +kernel
theorem dX6_init_42 : decode cX6_init 42 = .ok (.invokespecial 32, 3) := by decide +kernel
theorem dX6_init_45 : decode cX6_init 45 = .ok (.putfield 33, 3) := by decide +kernel
theorem dX6_init_48 : decode cX6_init 48 = .ok (.aload_n 0, 1) := by decide +kernel
theorem dX6_init_49 : decode cX6_init 49 = .ok (.new 30, 3) := by decide +kernel
theorem dX6_init_52 : decode cX6_init 52 = .ok (.dup, 1) := by decide +kernel
theorem dX6_init_53 : decode cX6_init 53 = .ok (.invokespecial 32, 3) := by decide +kernel
theorem dX6_init_56 : decode cX6_init 56 = .ok (.putfield 37, 3) := by decide +kernel
theorem dX6_init_59 : decode cX6_init 59 = .ok (.aload_n 0, 1) := by decide +kernel
theorem dX6_init_60 : decode cX6_init 60 = .ok (.iconst 2, 1) := by decide +kernel
theorem dX6_init_61 : decode cX6_init 61 = .ok (.anewarray 30, 3) := by decide +kernel
theorem dX6_init_64 : decode cX6_init 64 = .ok (.putfield 40, 3) := by decide +kernel
theorem dX6_init_67 : decode cX6_init 67 = .ok (.aload_n 0, 1) := by decide +kernel
theorem dX6_init_68 : decode cX6_init 68 = .ok (.iconst 2, 1) := by decide +kernel
theorem dX6_init_69 : decode cX6_init 69 = .ok (.newarray .boolean, 2) := by decide +kernel
theorem dX6_init_71 : decode cX6_init 71 = .ok (.putfield 44, 3) := by decide +kernel
theorem dX6_init_74 : decode cX6_init 74 = .ok (.aload_n 0, 1) := by decide +kernel
theorem dX6_init_75 : decode cX6_init 75 = .ok (.new 48, 3) := by decide +kernel
theorem dX6_init_78 : decode cX6_init 78 = .ok (.dup, 1) := by decide +kernel
theorem dX6_init_79 : decode cX6_init 79 = .ok (.invokespecial 50, 3) := by decide +kernel
theorem dX6_init_82 : decode cX6_init 82 = .ok (.putfield 51, 3) := by decide +kernel
theorem dX6_init_85 : decode cX6_init 85 = .ok (.aload_n 0, 1) := by decide +kernel
theorem dX6_init_86 : decode cX6_init 86 = .ok (.new 55, 3) := by decide +kernel
theorem dX6_init_89 : decode cX6_init 89 = .ok (.dup, 1) := by decide +kernel
theorem dX6_init_90 : decode cX6_init 90 = .ok (.invokespecial 57, 3) := by decide +kernel
theorem dX6_init_93 : decode cX6_init 93 = .ok (.putfield 58, 3) := by decide +kernel
theorem dX6_init_96 : decode cX6_init 96 = .ok (.aload_n 0, 1) := by decide +kernel
theorem dX6_init_97 : decode cX6_init 97 = .ok (.new 55, 3) := by decide +kernel
theorem dX6_init_100 : decode cX6_init 100 = .ok (.dup, 1) := by decide +kernel
theorem dX6_init_101 : decode cX6_init 101 = .ok (.invokespecial 57, 3) := by decide +kernel
theorem dX6_init_104 : decode cX6_init 104 = .ok (.putfield 62, 3) := by decide +kernel
theorem dX6_init_107 : decode cX6_init 107 = .ok (.iconst 0, 1) := by decide +kernel
theorem dX6_init_108 : decode cX6_init 108 = .ok (.istore_n 1, 1) := by decide +kernel
theorem dX6_init_109 : decode cX6_init 109 = .ok (.iload_n 1, 1) := by decide +kernel
theorem dX6_init_110 : decode cX6_init 110 = .ok (.iconst 2, 1) := by decide +kernel
theorem dX6_init_111 : decode cX6_init 111 = .ok (.if_icmp .ge 22, 3) := by decide +kernel
theorem dX6_init_114 : decode cX6_init 114 = .ok (.aload_n 0, 1) := by decide +kernel
theorem dX6_init_115 : decode cX6_init 115 = .ok (.getfield 40, 3) := by decide +kernel
theorem dX6_init_118 : decode cX6_init 118 = .ok (.iload_n 1, 1) := by decide +kernel
theorem dX6_init_119 : decode cX6_init 119 = .ok (.new 30, 3) := by decide +kernel
theorem dX6_init_122 : decode cX6_init 122 = .ok (.dup, 1) := by decide +kernel
theorem dX6_init_123 : decode cX6_init 123 = .ok (.invokespecial 32, 3) := by decide +kernel
theorem dX6_init_126 : decode cX6_init 126 = .ok (.aastore, 1) := by decide +kernel
theorem dX6_init_127 : decode cX6_init 127 = .ok (.iinc 1 1, 3) := by decide +kernel
theorem dX6_init_130 : decode cX6_init 130 = .ok (.goto (-21), 3) := by decide +kernel
theorem dX6_init_133 : decode cX6_init 133 = .ok (.return_, 1) := by decide +kernel
theorem dX6_append_0 : decode cX6_append 0 = .ok (.aload_n 0, 1) := by decide +kernel
theorem dX6_append_1 : decode cX6_append 1 = .ok (.getfield 10, 3) := by decide +kernel
theorem dX6_append_4 : decode cX6_append 4 = .ok (.iload_n 1, 1) := by decide +kernel
theorem dX6_append_5 : decode cX6_append 5 = .ok (.iload_n 2, 1) := by decide +kernel
theorem dX6_append_6 : decode cX6_append 6 = .ok (.iload_n 3, 1) := by decide +kernel
theorem dX6_append_7 : decode cX6_append 7 = .ok (.iload 4, 2) := by decide +kernel
theorem dX6_append_9 : decode cX6_append 9 = .ok (.iload 5, 2) := by decide +kernel
theorem dX6_append_11 : decode cX6_append 11 = .ok (.invokevirtual 65, 3) := by decide +kernel
theorem dX6_append_14 : decode cX6_append 14 = .ok (.ifCond .eq 13, 3) := by decide +kernel
theorem dX6_append_17 : decode cX6_append 17 = .ok (.aload_n 0, 1) := by decide +kernel
theorem dX6_append_18 : decode cX6_append 18 = .ok (.getfield 10, 3) := by decide +kernel
theorem dX6_append_21 : decode cX6_append 21 = .ok (.getfield 69, 3) := by decide +kernel
theorem dX6_append_24 : decode cX6_append 24 = .ok (.goto 4, 3) := by decide +kernel
theorem dX6_append_27 : decode cX6_append 27 = .ok (.iconst (-1), 1) := by decide +kernel
theorem dX6_append_28 : decode cX6_append 28 = .ok (.ireturn, 1) := by decide +kernel
theorem dX6_load_0 : decode cX6_load 0 = .ok (.iload_n 1, 1) := by decide +kernel
theorem dX6_load_1 : decode cX6_load 1 = .ok (.ifCond .lt 14, 3) := by decide +kernel
theorem dX6_load_4 : decode cX6_load 4 = .ok (.iload_n 1, 1) := by decide +kernel
theorem dX6_load_5 : decode cX6_load 5 = .ok (.aload_n 0, 1) := by decide +kernel
theorem dX6_load_6 : decode cX6_load 6 = .ok (.getfield 10, 3) := by decide +kernel
theorem dX6_load_9 : decode cX6_load 9 = .ok (.getfield 69, 3) := by decide +kernel
theorem dX6_load_12 : decode cX6_load 12 = .ok (.if_icmp .le 13, 3) := by decide +kernel
theorem dX6_load_15 : decode cX6_load 15 = .ok (.new 73, 3) := by decide +kernel
theorem dX6_load_18 : decode cX6_load 18 = .ok (.dup, 1) := by decide +kernel
theorem dX6_load_19 : decode cX6_load 19 = .ok (.ldc 75, 2) := by decide +kernel
theorem dX6_load_21 : decode cX6_load 21 = .ok (.invokespecial 77, 3) := by decide +kernel
theorem dX6_load_24 : decode cX6_load 24 = .ok (.athrow, 1) := by decide +kernel
theorem dX6_load_25 : decode cX6_load 25 = .ok (.aload_n 0, 1) := by decide +kernel
theorem dX6_load_26 : decode cX6_load 26 = .ok (.getfield 10, 3) := by decide +kernel
theorem dX6_load_29 : decode cX6_load 29 = .ok (.iload_n 1, 1) := by decide +kernel
theorem dX6_load_30 : decode cX6_load 30 = .ok (.aload_n 0, 1) := by decide +kernel
theorem dX6_load_31 : decode cX6_load 31 = .ok (.getfield 62, 3) := by decide +kernel
theorem dX6_load_34 : decode cX6_load 34 = .ok (.aload_n 0, 1) := by decide +kernel
theorem dX6_load_35 : decode cX6_load 35 = .ok (.getfield 37, 3) := by decide +kernel
theorem dX6_load_38 : decode cX6_load 38 = .ok (.invokevirtual 80, 3) := by decide +kernel
theorem dX6_load_41 : decode cX6_load 41 = .ok (.ifCond .ne 13, 3) := by decide +kernel
theorem dX6_load_44 : decode cX6_load 44 = .ok (.new 84, 3) := by decide +kernel
theorem dX6_load_47 : decode cX6_load 47 = .ok (.dup, 1) := by decide +kernel
theorem dX6_load_48 : decode cX6_load 48 = .ok (.ldc 86, 2) := by decide +kernel
theorem dX6_load_50 : decode cX6_load 50 = .ok (.invokespecial 88, 3) := by decide +kernel
theorem dX6_load_53 : decode cX6_load 53 = .ok (.athrow, 1) := by decide +kernel
theorem dX6_load_54 : decode cX6_load 54 = .ok (.aload_n 0, 1) := by decide +kernel
theorem dX6_load_55 : decode cX6_load 55 = .ok (.invokevirtual 89, 3) := by decide +kernel
theorem dX6_load_58 : decode cX6_load 58 = .ok (.aload_n 0, 1) := by decide +kernel
theorem dX6_load_59 : decode cX6_load 59 = .ok (.getfield 58, 3) := by decide +kernel
theorem dX6_load_62 : decode cX6_load 62 = .ok (.getfield 92, 3) := by decide +kernel
theorem dX6_load_65 : decode cX6_load 65 = .ok (.ireturn, 1) := by decide +kernel
theorem dX6_takeOverText_0 : decode cX6_takeOverText 0 = .ok (.aload_n 0, 1) := by decide +kernel
theorem dX6_takeOverText_1 : decode cX6_takeOverText 1 = .ok (.getfield 58, 3) := by decide +kernel
theorem dX6_takeOverText_4 : decode cX6_takeOverText 4 = .ok (.astore_n 1, 1) := by decide +kernel
theorem dX6_takeOverText_5 : decode cX6_takeOverText 5 = .ok (.aload_n 0, 1) := by decide +kernel
theorem dX6_takeOverText_6 : decode cX6_takeOverText 6 = .ok (.aload_n 0, 1) := by decide +kernel
theorem dX6_takeOverText_7 : decode cX6_takeOverText 7 = .ok (.getfield 62, 3) := by decide +kernel
theorem dX6_takeOverText_10 : decode cX6_takeOverText 10 = .ok (.putfield 58, 3) := by decide +kernel
theorem dX6_takeOverText_13 : decode cX6_takeOverText 13 = .ok (.aload_n 0, 1) := by decide +kernel
theorem dX6_takeOverText_14 : decode cX6_takeOverText 14 = .ok (.aload_n 1, 1) := by decide +kernel
theorem dX6_takeOverText_15 : decode cX6_takeOverText 15 = .ok (.putfield 62, 3) := by decide +kernel
theorem dX6_takeOverText_18 : decode cX6_takeOverText 18 = .ok (.aload_n 0, 1) := by decide +kernel
theorem dX6_takeOverText_19 : decode cX6_takeOverText 19 = .ok (.getfield 33, 3) := by decide +kernel
theorem dX6_takeOverText_22 : decode cX6_takeOverText 22 = .ok (.aload_n 0, 1) := by decide +kernel
theorem dX6_takeOverText_23 : decode cX6_takeOverText 23 = .ok (.getfield 37, 3) := by decide +kernel
theorem dX6_takeOverText_26 : decode cX6_takeOverText 26 = .ok (.invokevirtual 95, 3) := by decide +kernel
theorem dX6_takeOverText_29 : decode cX6_takeOverText 29 = .ok (.aload_n 0, 1) := by decide +kernel
theorem dX6_takeOverText_30 : decode cX6_takeOverText 30 = .ok (.getfield 26, 3) := by decide +kernel
theorem dX6_takeOverText_33 : decode cX6_takeOverText 33 = .ok (.invokevirtual 99, 3) := by decide +kernel
theorem dX6_takeOverText_36 : decode cX6_takeOverText 36 = .ok (.iconst 0, 1) := by decide +kernel
theorem dX6_takeOverText_37 : decode cX6_takeOverText 37 = .ok (.istore_n 2, 1) := by decide +kernel
theorem dX6_takeOverText_38 : decode cX6_takeOverText 38 = .ok (.iload_n 2, 1) := by decide +kernel
theorem dX6_takeOverText_39 : decode cX6_takeOverText 39 = .ok (.iconst 2, 1) := by decide +kernel
theorem dX6_takeOverText_40 : decode cX6_takeOverText 40 = .ok (.if_icmp .ge 16, 3) := by decide +kernel
theorem dX6_takeOverText_43 : decode cX6_takeOverText 43 = .ok (.aload_n 0, 1) := by decide +kernel
theorem dX6_takeOverText_44 : decode cX6_takeOverText 44 = .ok (.getfield 44, 3) := by decide +kernel
theorem dX6_takeOverText_47 : decode cX6_takeOverText 47 = .ok (.iload_n 2, 1) := by decide +kernel
theorem dX6_takeOverText_48 : decode cX6_takeOverText 48 = .ok (.iconst 0, 1) := by decide +kernel
theorem dX6_takeOverText_49 : decode cX6_takeOverText 49 = .ok (.bastore, 1) := by decide +kernel
theorem dX6_takeOverText_50 : decode cX6_takeOverText 50 = .ok (.iinc 2 1, 3) := by decide +kernel
theorem dX6_takeOverText_53 : decode cX6_takeOverText 53 = .ok (.goto (-15), 3) := by decide +kernel
theorem dX6_takeOverText_56 : decode cX6_takeOverText 56 = .ok (.aload_n 0, 1) := by decide +kernel
theorem dX6_takeOverText_57 : decode cX6_takeOverText 57 = .ok (.iconst 1, 1) := by decide +kernel
theorem dX6_takeOverText_58 : decode cX6_takeOverText 58 = .ok (.putfield 102, 3) := by decide +kernel
theorem dX6_takeOverText_61 : decode cX6_takeOverText 61 = .ok (.return_, 1) := by decide +kernel
theorem dX6_parseError_0 : decode cX6_parseError 0 = .ok (.aload_n 0, 1) := by decide +kernel
theorem dX6_parseError_1 : decode cX6_parseError 1 = .ok (.getfield 10, 3) := by decide +kernel
theorem dX6_parseError_4 : decode cX6_parseError 4 = .ok (.getfield 106, 3) := by decide +kernel
theorem dX6_parseError_7 : decode cX6_parseError 7 = .ok (.ireturn, 1) := by decide +kernel
theorem dX6_errorPosition_0 : decode cX6_errorPosition 0 = .ok (.aload_n 0, 1) := by decide +kernel
theorem dX6_errorPosition_1 : decode cX6_errorPosition 1 = .ok (.getfield 10, 3) := by decide +kernel
theorem dX6_errorPosition_4 : decode cX6_errorPosition 4 = .ok (.getfield 109, 3) := by decide +kernel
theorem dX6_errorPosition_7 : decode cX6_errorPosition 7 = .ok (.ireturn, 1) := by decide +kernel
theorem dX6_count_0 : decode cX6_count 0 = .ok (.aload_n 0, 1) := by decide +kernel
theorem dX6_count_1 : decode cX6_count 1 = .ok (.invokevirtual 112, 3) := by decide +kernel
theorem dX6_count_4 : decode cX6_count 4 = .ok (.iload_n 1, 1) := by decide +kernel
theorem dX6_count_5 : decode cX6_count 5 = .ok (.tableswitch 163 0 11 #[63, 71, 79, 87, 95, 103, 115, 123, 131, 139, 147, 155], 63) := by decide +kernel
theorem dX6_count_68 : decode cX6_count 68 = .ok (.aload_n 0, 1) := by decide +kernel
theorem dX6_count_69 : decode cX6_count 69 = .ok (.getfield 58, 3) := by decide +kernel
theorem dX6_count_72 : decode cX6_count 72 = .ok (.getfield 115, 3) := by decide +kernel
theorem dX6_count_75 : decode cX6_count 75 = .ok (.ireturn, 1) := by decide +kernel
theorem dX6_count_76 : decode cX6_count 76 = .ok (.aload_n 0, 1) := by decide +kernel
theorem dX6_count_77 : decode cX6_count 77 = .ok (.getfield 58, 3) := by decide +kernel
theorem dX6_count_80 : decode cX6_count 80 = .ok (.getfield 92, 3) := by decide +kernel
theorem dX6_count_83 : decode cX6_count 83 = .ok (.ireturn, 1) := by decide +kernel
theorem dX6_count_84 : decode cX6_count 84 = .ok (.aload_n 0, 1) := by decide +kernel
theorem dX6_count_85 : decode cX6_count 85 = .ok (.getfield 33, 3) := by decide +kernel
theorem dX6_count_88 : decode cX6_count 88 = .ok (.getfield 118, 3) := by decide +kernel
theorem dX6_count_91 : decode cX6_count 91 = .ok (.ireturn, 1) := by decide +kernel
theorem dX6_count_92 : decode cX6_count 92 = .ok (.aload_n 0, 1) := by decide +kernel
theorem dX6_count_93 : decode cX6_count 93 = .ok (.getfield 33, 3) := by decide +kernel
theorem dX6_count_96 : decode cX6_count 96 = .ok (.invokevirtual 121, 3) := by decide +kernel
theorem dX6_count_99 : decode cX6_count 99 = .ok (.ireturn, 1) := by decide +kernel
theorem dX6_count_100 : decode cX6_count 100 = .ok (.aload_n 0, 1) := by decide +kernel
theorem dX6_count_101 : decode cX6_count 101 = .ok (.getfield 33, 3) := by decide +kernel
theorem dX6_count_104 : decode cX6_count 104 = .ok (.invokevirtual 125, 3) := by decide +kernel
theorem dX6_count_107 : decode cX6_count 107 = .ok (.ireturn, 1) := by decide +kernel
theorem dX6_count_108 : decode cX6_count 108 = .ok (.aload_n 0, 1) := by decide +kernel
theorem dX6_count_109 : decode cX6_count 109 = .ok (.getfield 33, 3) := by decide +kernel
theorem dX6_count_112 : decode cX6_count 112 = .ok (.aload_n 0, 1) := by decide +kernel
theorem dX6_count_113 : decode cX6_count 113 = .ok (.getfield 58, 3) := by decide +kernel
theorem dX6_count_116 : decode cX6_count 116 = .ok (.invokevirtual 128, 3) := by decide +kernel
theorem dX6_count_119 : decode cX6_count 119 = .ok (.ireturn, 1) := by decide +kernel
theorem dX6_count_120 : decode cX6_count 120 = .ok (.aload_n 0, 1) := by decide +kernel
theorem dX6_count_121 : decode cX6_count 121 = .ok (.getfield 33, 3) := by decide +kernel
theorem dX6_count_124 : decode cX6_count 124 = .ok (.getfield 132, 3) := by decide +kernel
theorem dX6_count_127 : decode cX6_count 127 = .ok (.ireturn, 1) := by decide +kernel
theorem dX6_count_128 : decode cX6_count 128 = .ok (.aload_n 0, 1) := by decide +kernel
theorem dX6_count_129 : decode cX6_count 129 = .ok (.getfield 33, 3) := by decide +kernel
theorem dX6_count_132 : decode cX6_count 132 = .ok (.getfield 135, 3) := by decide +kernel
theorem dX6_count_135 : decode cX6_count 135 = .ok (.ireturn, 1) := by decide +kernel
theorem dX6_count_136 : decode cX6_count 136 = .ok (.aload_n 0, 1) := by decide +kernel
theorem dX6_count_137 : decode cX6_count 137 = .ok (.getfield 33, 3) := by decide +kernel
theorem dX6_count_140 : decode cX6_count 140 = .ok (.getfield 138, 3) := by decide +kernel
theorem dX6_count_143 : decode cX6_count 143 = .ok (.ireturn, 1) := by decide +kernel
theorem dX6_count_144 : decode cX6_count 144 = .ok (.aload_n 0, 1) := by decide +kernel
theorem dX6_count_145 : decode cX6_count 145 = .ok (.getfield 33, 3) := by decide +kernel
theorem dX6_count_148 : decode cX6_count 148 = .ok (.getfield 141, 3) := by decide +kernel
theorem dX6_count_151 : decode cX6_count 151 = .ok (.ireturn, 1) := by decide +kernel
theorem dX6_count_152 : decode cX6_count 152 = .ok (.aload_n 0, 1) := by decide +kernel
theorem dX6_count_153 : decode cX6_count 153 = .ok (.getfield 33, 3) := by decide +kernel
theorem dX6_count_156 : decode cX6_count 156 = .ok (.getfield 144, 3) := by decide +kernel
theorem dX6_count_159 : decode cX6_count 159 = .ok (.ireturn, 1) := by decide +kernel
theorem dX6_count_160 : decode cX6_count 160 = .ok (.aload_n 0, 1) := by decide +kernel
theorem dX6_count_161 : decode cX6_count 161 = .ok (.getfield 33, 3) := by decide +kernel
theorem dX6_count_164 : decode cX6_count 164 = .ok (.invokevirtual 147, 3) := by decide +kernel
theorem dX6_count_167 : decode cX6_count 167 = .ok (.ireturn, 1) := by decide +kernel
theorem dX6_count_168 : decode cX6_count 168 = .ok (.new 84, 3) := by decide +kernel
theorem dX6_count_171 : decode cX6_count 171 = .ok (.dup, 1) := by decide +kernel
theorem dX6_count_172 : decode cX6_count 172 = .ok (.ldc 150, 2) := by decide +kernel
theorem dX6_count_174 : decode cX6_count 174 = .ok (.invokespecial 88, 3) := by decide +kernel
theorem dX6_count_177 : decode cX6_count 177 = .ok (.athrow, 1) := by decide +kernel
theorem dX6_setting_0 : decode cX6_setting 0 = .ok (.aload_n 0, 1) := by decide +kernel
theorem dX6_setting_1 : decode cX6_setting 1 = .ok (.invokevirtual 112, 3) := by decide +kernel
theorem dX6_setting_4 : decode cX6_setting 4 = .ok (.iload_n 1, 1) := by decide +kernel
theorem dX6_setting_5 : decode cX6_setting 5 = .ok (.tableswitch 87 0 5 #[39, 47, 55, 63, 71, 79], 39) := by decide +kernel
theorem dX6_setting_44 : decode cX6_setting 44 = .ok (.aload_n 0, 1) := by decide +kernel
theorem dX6_setting_45 : decode cX6_setting 45 = .ok (.getfield 58, 3) := by decide +kernel
theorem dX6_setting_48 : decode cX6_setting 48 = .ok (.getfield 152, 3) := by decide +kernel
theorem dX6_setting_51 : decode cX6_setting 51 = .ok (.ireturn, 1) := by decide +kernel
theorem dX6_setting_52 : decode cX6_setting 52 = .ok (.aload_n 0, 1) := by decide +kernel
theorem dX6_setting_53 : decode cX6_setting 53 = .ok (.getfield 58, 3) := by decide +kernel
theorem dX6_setting_56 : decode cX6_setting 56 = .ok (.getfield 155, 3) := by decide +kernel
theorem dX6_setting_59 : decode cX6_setting 59 = .ok (.ireturn, 1) := by decide +kernel
theorem dX6_setting_60 : decode cX6_setting 60 = .ok (.aload_n 0, 1) := by decide +kernel
theorem dX6_setting_61 : decode cX6_setting 61 = .ok (.getfield 58, 3) := by decide +kernel
theorem dX6_setting_64 : decode cX6_setting 64 = .ok (.getfield 158, 3) := by decide +kernel
theorem dX6_setting_67 : decode cX6_setting 67 = .ok (.ireturn, 1) := by decide +kernel
theorem dX6_setting_68 : decode cX6_setting 68 = .ok (.aload_n 0, 1) := by decide +kernel
theorem dX6_setting_69 : decode cX6_setting 69 = .ok (.getfield 58, 3) := by decide +kernel
theorem dX6_setting_72 : decode cX6_setting 72 = .ok (.getfield 161, 3) := by decide +kernel
theorem dX6_setting_75 : decode cX6_setting 75 = .ok (.ireturn, 1) := by decide +kernel
theorem dX6_setting_76 : decode cX6_setting 76 = .ok (.aload_n 0, 1) := by decide +kernel
theorem dX6_setting_77 : decode cX6_setting 77 = .ok (.getfield 58, 3) := by decide +kernel
theorem dX6_setting_80 : decode cX6_setting 80 = .ok (.getfield 164, 3) := by decide +kernel
theorem dX6_setting_83 : decode cX6_setting 83 = .ok (.ireturn, 1) := by decide +kernel
theorem dX6_setting_84 : decode cX6_setting 84 = .ok (.aload_n 0, 1) := by decide +kernel
theorem dX6_setting_85 : decode cX6_setting 85 = .ok (.getfield 58, 3) := by decide +kernel
theorem dX6_setting_88 : decode cX6_setting 88 = .ok (.getfield 167, 3) := by decide +kernel
theorem dX6_setting_91 : decode cX6_setting 91 = .ok (.ireturn, 1) := by decide +kernel
theorem dX6_setting_92 : decode cX6_setting 92 = .ok (.new 84, 3) := by decide +kernel
theorem dX6_setting_95 : decode cX6_setting 95 = .ok (.dup, 1) := by decide +kernel
theorem dX6_setting_96 : decode cX6_setting 96 = .ok (.ldc 170, 2) := by decide +kernel
theorem dX6_setting_98 : decode cX6_setting 98 = .ok (.invokespecial 88, 3) := by decide +kernel
theorem dX6_setting_101 : decode cX6_setting 101 = .ok (.athrow, 1) := by decide +kernel
theorem dX6_row_0 : decode cX6_row 0 = .ok (.aload_n 0, 1) := by decide +kernel
theorem dX6_row_1 : decode cX6_row 1 = .ok (.iload_n 1, 1) := by decide +kernel
theorem dX6_row_2 : decode cX6_row 2 = .ok (.invokevirtual 172, 3) := by decide +kernel
theorem dX6_row_5 : decode cX6_row 5 = .ok (.astore_n 3, 1) := by decide +kernel
theorem dX6_row_6 : decode cX6_row 6 = .ok (.iload_n 2, 1) := by decide +kernel
theorem dX6_row_7 : decode cX6_row 7 = .ok (.tableswitch 125 0 8 #[49, 54, 59, 76, 85, 90, 95, 104, 109], 49) := by decide +kernel
theorem dX6_row_56 : decode cX6_row 56 = .ok (.aload_n 3, 1) := by decide +kernel
theorem dX6_row_57 : decode cX6_row 57 = .ok (.getfield 176, 3) := by decide +kernel
theorem dX6_row_60 : decode cX6_row 60 = .ok (.ireturn, 1) := by decide +kernel
theorem dX6_row_61 : decode cX6_row 61 = .ok (.aload_n 3, 1) := by decide +kernel
theorem dX6_row_62 : decode cX6_row 62 = .ok (.getfield 181, 3) := by decide +kernel
theorem dX6_row_65 : decode cX6_row 65 = .ok (.ireturn, 1) := by decide +kernel
theorem dX6_row_66 : decode cX6_row 66 = .ok (.aload_n 0, 1) := by decide +kernel
theorem dX6_row_67 : decode cX6_row 67 = .ok (.getfield 58, 3) := by decide +kernel
theorem dX6_row_70 : decode cX6_row 70 = .ok (.getfield 152, 3) := by decide +kernel
theorem dX6_row_73 : decode cX6_row 73 = .ok (.aload_n 3, 1) := by decide +kernel
theorem dX6_row_74 : decode cX6_row 74 = .ok (.aload_n 0, 1) := by decide +kernel
theorem dX6_row_75 : decode cX6_row 75 = .ok (.getfield 58, 3) := by decide +kernel
theorem dX6_row_78 : decode cX6_row 78 = .ok (.invokevirtual 184, 3) := by decide +kernel
theorem dX6_row_81 : decode cX6_row 81 = .ok (.isub, 1) := by decide +kernel
theorem dX6_row_82 : decode cX6_row 82 = .ok (.ireturn, 1) := by decide +kernel
theorem dX6_row_83 : decode cX6_row 83 = .ok (.aload_n 3, 1) := by decide +kernel
theorem dX6_row_84 : decode cX6_row 84 = .ok (.aload_n 0, 1) := by decide +kernel
theorem dX6_row_85 : decode cX6_row 85 = .ok (.getfield 58, 3) := by decide +kernel
theorem dX6_row_88 : decode cX6_row 88 = .ok (.invokevirtual 184, 3) := by decide +kernel
theorem dX6_row_91 : decode cX6_row 91 = .ok (.ireturn, 1) := by decide +kernel
theorem dX6_row_92 : decode cX6_row 92 = .ok (.aload_n 3, 1) := by decide +kernel
theorem dX6_row_93 : decode cX6_row 93 = .ok (.getfield 187, 3) := by decide +kernel
theorem dX6_row_96 : decode cX6_row 96 = .ok (.ireturn, 1) := by decide +kernel
theorem dX6_row_97 : decode cX6_row 97 = .ok (.aload_n 3, 1) := by decide +kernel
theorem dX6_row_98 : decode cX6_row 98 = .ok (.getfield 190, 3) := by decide +kernel
theorem dX6_row_101 : decode cX6_row 101 = .ok (.ireturn, 1) := by decide +kernel
theorem dX6_row_102 : decode cX6_row 102 = .ok (.aload_n 3, 1) := by decide +kernel
theorem dX6_row_103 : decode cX6_row 103 = .ok (.aload_n 0, 1) := by decide +kernel
theorem dX6_row_104 : decode cX6_row 104 = .ok (.getfield 58, 3) := by decide +kernel
theorem dX6_row_107 : decode cX6_row 107 = .ok (.invokevirtual 193, 3) := by decide +kernel
theorem dX6_row_110 : decode cX6_row 110 = .ok (.ireturn, 1) := by decide +kernel
theorem dX6_row_111 : decode cX6_row 111 = .ok (.aload_n 3, 1) := by decide +kernel
theorem dX6_row_112 : decode cX6_row 112 = .ok (.getfield 196, 3) := by decide +kernel
theorem dX6_row_115 : decode cX6_row 115 = .ok (.ireturn, 1) := by decide +kernel
theorem dX6_row_116 : decode cX6_row 116 = .ok (.aload_n 3, 1) := by decide +kernel
theorem dX6_row_117 : decode cX6_row 117 = .ok (.invokevirtual 199, 3) := by decide +kernel
theorem dX6_row_120 : decode cX6_row 120 = .ok (.ifCond .eq 10, 3) := by decide +kernel
theorem dX6_row_123 : decode cX6_row 123 = .ok (.aload_n 3, 1) := by decide +kernel
theorem dX6_row_124 : decode cX6_row 124 = .ok (.getfield 203, 3) := by decide +kernel
theorem dX6_row_127 : decode cX6_row 127 = .ok (.goto 4, 3) := by decide +kernel
theorem dX6_row_130 : decode cX6_row 130 = .ok (.iconst (-1), 1) := by decide +kernel
theorem dX6_row_131 : decode cX6_row 131 = .ok (.ireturn, 1) := by decide +kernel
theorem dX6_row_132 : decode cX6_row 132 = .ok (.new 84, 3) := by decide +kernel
theorem dX6_row_135 : decode cX6_row 135 = .ok (.dup, 1) := by decide +kernel
theorem dX6_row_136 : decode cX6_row 136 = .ok (.ldc 206, 2) := by decide +kernel
theorem dX6_row_138 : decode cX6_row 138 = .ok (.invokespecial 88, 3) := by decide +kernel
theorem dX6_row_141 : decode cX6_row 141 = .ok (.athrow, 1) := by decide +kernel
theorem dX6_block_0 : decode cX6_block 0 = .ok (.aload_n 0, 1) := by decide +kernel
theorem dX6_block_1 : decode cX6_block 1 = .ok (.iload_n 1, 1) := by decide +kernel
theorem dX6_block_2 : decode cX6_block 2 = .ok (.invokevirtual 172, 3) := by decide +kernel
theorem dX6_block_5 : decode cX6_block 5 = .ok (.astore_n 3, 1) := by decide +kernel
theorem dX6_block_6 : decode cX6_block 6 = .ok (.iload_n 2, 1) := by decide +kernel
theorem dX6_block_7 : decode cX6_block 7 = .ok (.aload_n 3, 1) := by decide +kernel
theorem dX6_block_8 : decode cX6_block 8 = .ok (.getfield 176, 3) := by decide +kernel
theorem dX6_block_11 : decode cX6_block 11 = .ok (.invokestatic 208, 3) := by decide +kernel
theorem dX6_block_14 : decode cX6_block 14 = .ok (.aload_n 3, 1) := by decide +kernel
theorem dX6_block_15 : decode cX6_block 15 = .ok (.iload_n 2, 1) := by decide +kernel
theorem dX6_block_16 : decode cX6_block 16 = .ok (.invokevirtual 212, 3) := by decide +kernel
theorem dX6_block_19 : decode cX6_block 19 = .ok (.ireturn, 1) := by decide +kernel
theorem dX6_piece_0 : decode cX6_piece 0 = .ok (.aload_n 0, 1) := by decide +kernel
theorem dX6_piece_1 : decode cX6_piece 1 = .ok (.iload_n 1, 1) := by decide +kernel
theorem dX6_piece_2 : decode cX6_piece 2 = .ok (.invokevirtual 172, 3) := by decide +kernel
theorem dX6_piece_5 : decode cX6_piece 5 = .ok (.astore_n 3, 1) := by decide +kernel
theorem dX6_piece_6 : decode cX6_piece 6 = .ok (.iload_n 2, 1) := by decide +kernel
theorem dX6_piece_7 : decode cX6_piece 7 = .ok (.aload_n 3, 1) := by decide +kernel
theorem dX6_piece_8 : decode cX6_piece 8 = .ok (.getfield 181, 3) := by decide +kernel
theorem dX6_piece_11 : decode cX6_piece 11 = .ok (.invokestatic 208, 3) := by decide +kernel
theorem dX6_piece_14 : decode cX6_piece 14 = .ok (.aload_n 3, 1) := by decide +kernel
theorem dX6_piece_15 : decode cX6_piece 15 = .ok (.iload_n 2, 1) := by decide +kernel
theorem dX6_piece_16 : decode cX6_piece 16 = .ok (.invokevirtual 216, 3) := by decide +kernel
theorem dX6_piece_19 : decode cX6_piece 19 = .ok (.ireturn, 1) := by decide +kernel
theorem dX6_kind_0 : decode cX6_kind 0 = .ok (.aload_n 0, 1) := by decide +kernel
theorem dX6_kind_1 : decode cX6_kind 1 = .ok (.invokevirtual 112, 3) := by decide +kernel
theorem dX6_kind_4 : decode cX6_kind 4 = .ok (.aload_n 0, 1) := by decide +kernel
theorem dX6_kind_5 : decode cX6_kind 5 = .ok (.iload_n 1, 1) := by decide +kernel
theorem dX6_kind_6 : decode cX6_kind 6 = .ok (.invokevirtual 219, 3) := by decide +kernel
theorem dX6_kind_9 : decode cX6_kind 9 = .ok (.iload_n 2, 1) := by decide +kernel
theorem dX6_kind_10 : decode cX6_kind 10 = .ok (.tableswitch 77 0 3 #[30, 48, 58, 68], 30) := by decide +kernel
theorem dX6_kind_40 : decode cX6_kind 40 = .ok (.aload_n 0, 1) := by decide +kernel
theorem dX6_kind_41 : decode cX6_kind 41 = .ok (.getfield 58, 3) := by decide +kernel
theorem dX6_kind_44 : decode cX6_kind 44 = .ok (.getfield 223, 3) := by decide +kernel
theorem dX6_kind_47 : decode cX6_kind 47 = .ok (.iload_n 1, 1) := by decide +kernel
theorem dX6_kind_48 : decode cX6_kind 48 = .ok (.baload, 1) := by decide +kernel
theorem dX6_kind_49 : decode cX6_kind 49 = .ok (.ifCond .eq 7, 3) := by decide +kernel
theorem dX6_kind_52 : decode cX6_kind 52 = .ok (.iconst 1, 1) := by decide +kernel
theorem dX6_kind_53 : decode cX6_kind 53 = .ok (.goto 4, 3) := by decide +kernel
theorem dX6_kind_56 : decode cX6_kind 56 = .ok (.iconst 0, 1) := by decide +kernel
theorem dX6_kind_57 : decode cX6_kind 57 = .ok (.ireturn, 1) := by decide +kernel
theorem dX6_kind_58 : decode cX6_kind 58 = .ok (.aload_n 0, 1) := by decide +kernel
theorem dX6_kind_59 : decode cX6_kind 59 = .ok (.getfield 58, 3) := by decide +kernel
theorem dX6_kind_62 : decode cX6_kind 62 = .ok (.getfield 226, 3) := by decide +kernel
theorem dX6_kind_65 : decode cX6_kind 65 = .ok (.iload_n 1, 1) := by decide +kernel
theorem dX6_kind_66 : decode cX6_kind 66 = .ok (.iaload, 1) := by decide +kernel
theorem dX6_kind_67 : decode cX6_kind 67 = .ok (.ireturn, 1) := by decide +kernel
theorem dX6_kind_68 : decode cX6_kind 68 = .ok (.aload_n 0, 1) := by decide +kernel
theorem dX6_kind_69 : decode cX6_kind 69 = .ok (.getfield 33, 3) := by decide +kernel
theorem dX6_kind_72 : decode cX6_kind 72 = .ok (.getfield 230, 3) := by decide +kernel
theorem dX6_kind_75 : decode cX6_kind 75 = .ok (.iload_n 1, 1) := by decide +kernel
theorem dX6_kind_76 : decode cX6_kind 76 = .ok (.iaload, 1) := by decide +kernel
theorem dX6_kind_77 : decode cX6_kind 77 = .ok (.ireturn, 1) := by decide +kernel
theorem dX6_kind_78 : decode cX6_kind 78 = .ok (.aload_n 0, 1) := by decide +kernel
theorem dX6_kind_79 : decode cX6_kind 79 = .ok (.getfield 33, 3) := by decide +kernel
theorem dX6_kind_82 : decode cX6_kind 82 = .ok (.iload_n 1, 1) := by decide +kernel
theorem dX6_kind_83 : decode cX6_kind 83 = .ok (.invokevirtual 233, 3) := by decide +kernel
theorem dX6_kind_86 : decode cX6_kind 86 = .ok (.ireturn, 1) := by decide +kernel
theorem dX6_kind_87 : decode cX6_kind 87 = .ok (.new 84, 3) := by decide +kernel
theorem dX6_kind_90 : decode cX6_kind 90 = .ok (.dup, 1) := by decide +kernel
theorem dX6_kind_91 : decode cX6_kind 91 = .ok (.ldc 236, 2) := by decide +kernel
theorem dX6_kind_93 : decode cX6_kind 93 = .ok (.invokespecial 88, 3) := by decide +kernel
theorem dX6_kind_96 : decode cX6_kind 96 = .ok (.athrow, 1) := by decide +kernel
theorem dX6_kindOf_0 : decode cX6_kindOf 0 = .ok (.aload_n 0, 1) := by decide +kernel
theorem dX6_kindOf_1 : decode cX6_kindOf 1 = .ok (.invokevirtual 112, 3) := by decide +kernel
theorem dX6_kindOf_4 : decode cX6_kindOf 4 = .ok (.aload_n 0, 1) := by decide +kernel
theorem dX6_kindOf_5 : decode cX6_kindOf 5 = .ok (.getfield 58, 3) := by decide +kernel
theorem dX6_kindOf_8 : decode cX6_kindOf 8 = .ok (.iload_n 1, 1) := by decide +kernel
theorem dX6_kindOf_9 : decode cX6_kindOf 9 = .ok (.iload_n 2, 1) := by decide +kernel
theorem dX6_kindOf_10 : decode cX6_kindOf 10 = .ok (.invokevirtual 238, 3) := by decide +kernel
theorem dX6_kindOf_13 : decode cX6_kindOf 13 = .ok (.ireturn, 1) := by decide +kernel
theorem dX6_isTight_0 : decode cX6_isTight 0 = .ok (.aload_n 0, 1) := by decide +kernel
theorem dX6_isTight_1 : decode cX6_isTight 1 = .ok (.iload_n 1, 1) := by decide +kernel
theorem dX6_isTight_2 : decode cX6_isTight 2 = .ok (.invokevirtual 172, 3) := by decide +kernel
theorem dX6_isTight_5 : decode cX6_isTight 5 = .ok (.aload_n 0, 1) := by decide +kernel
theorem dX6_isTight_6 : decode cX6_isTight 6 = .ok (.getfield 58, 3) := by decide +kernel
theorem dX6_isTight_9 : decode cX6_isTight 9 = .ok (.invokevirtual 242, 3) := by decide +kernel
theorem dX6_isTight_12 : decode cX6_isTight 12 = .ok (.ireturn, 1) := by decide +kernel
theorem dX6_widestGap_0 : decode cX6_widestGap 0 = .ok (.aload_n 0, 1) := by decide +kernel
theorem dX6_widestGap_1 : decode cX6_widestGap 1 = .ok (.invokevirtual 112, 3) := by decide +kernel
theorem dX6_widestGap_4 : decode cX6_widestGap 4 = .ok (.iconst 0, 1) := by decide +kernel
theorem dX6_widestGap_5 : decode cX6_widestGap 5 = .ok (.istore_n 1, 1) := by decide +kernel
theorem dX6_widestGap_6 : decode cX6_widestGap 6 = .ok (.iconst 1, 1) := by decide +kernel
theorem dX6_widestGap_7 : decode cX6_widestGap 7 = .ok (.istore_n 2, 1) := by decide +kernel
theorem dX6_widestGap_8 : decode cX6_widestGap 8 = .ok (.iload_n 2, 1) := by decide +kernel
theorem dX6_widestGap_9 : decode cX6_widestGap 9 = .ok (.aload_n 0, 1) := by decide +kernel
theorem dX6_widestGap_10 : decode cX6_widestGap 10 = .ok (.getfield 58, 3) := by decide +kernel
theorem dX6_widestGap_13 : decode cX6_widestGap 13 = .ok (.getfield 115, 3) := by decide +kernel
theorem dX6_widestGap_16 : decode cX6_widestGap 16 = .ok (.if_icmp .ge 46, 3) := by decide +kernel
theorem dX6_widestGap_19 : decode cX6_widestGap 19 = .ok (.aload_n 0, 1) := by decide +kernel
theorem dX6_widestGap_20 : decode cX6_widestGap 20 = .ok (.getfield 33, 3) := by decide +kernel
theorem dX6_widestGap_23 : decode cX6_widestGap 23 = .ok (.getfield 246, 3) := by decide +kernel
theorem dX6_widestGap_26 : decode cX6_widestGap 26 = .ok (.iload_n 2, 1) := by decide +kernel
theorem dX6_widestGap_27 : decode cX6_widestGap 27 = .ok (.aaload, 1) := by decide +kernel
theorem dX6_widestGap_28 : decode cX6_widestGap 28 = .ok (.aload_n 0, 1) := by decide +kernel
theorem dX6_widestGap_29 : decode cX6_widestGap 29 = .ok (.getfield 58, 3) := by decide +kernel
theorem dX6_widestGap_32 : decode cX6_widestGap 32 = .ok (.invokevirtual 184, 3) := by decide +kernel
theorem dX6_widestGap_35 : decode cX6_widestGap 35 = .ok (.aload_n 0, 1) := by decide +kernel
theorem dX6_widestGap_36 : decode cX6_widestGap 36 = .ok (.getfield 33, 3) := by decide +kernel
theorem dX6_widestGap_39 : decode cX6_widestGap 39 = .ok (.getfield 246, 3) := by decide +kernel
theorem dX6_widestGap_42 : decode cX6_widestGap 42 = .ok (.iload_n 1, 1) := by decide +kernel
theorem dX6_widestGap_43 : decode cX6_widestGap 43 = .ok (.aaload, 1) := by decide +kernel
theorem dX6_widestGap_44 : decode cX6_widestGap 44 = .ok (.aload_n 0, 1) := by decide +kernel
theorem dX6_widestGap_45 : decode cX6_widestGap 45 = .ok (.getfield 58, 3) := by decide +kernel
theorem dX6_widestGap_48 : decode cX6_widestGap 48 = .ok (.invokevirtual 184, 3) := by decide +kernel
theorem dX6_widestGap_51 : decode cX6_widestGap 51 = .ok (.if_icmp .le 5, 3) := by decide +kernel
theorem dX6_widestGap_54 : decode cX6_widestGap 54 = .ok (.iload_n 2, 1) := by decide +kernel
theorem dX6_widestGap_55 : decode cX6_widestGap 55 = .ok (.istore_n 1, 1) := by decide +kernel
theorem dX6_widestGap_56 : decode cX6_widestGap 56 = .ok (.iinc 2 1, 3) := by decide +kernel
theorem dX6_widestGap_59 : decode cX6_widestGap 59 = .ok (.goto (-51), 3) := by decide +kernel
theorem dX6_widestGap_62 : decode cX6_widestGap 62 = .ok (.iload_n 1, 1) := by decide +kernel
theorem dX6_widestGap_63 : decode cX6_widestGap 63 = .ok (.ireturn, 1) := by decide +kernel
theorem dX6_loosest_0 : decode cX6_loosest 0 = .ok (.aload_n 0, 1) := by decide +kernel
theorem dX6_loosest_1 : decode cX6_loosest 1 = .ok (.invokevirtual 112, 3) := by decide +kernel
theorem dX6_loosest_4 : decode cX6_loosest 4 = .ok (.iconst (-1), 1) := by decide +kernel
theorem dX6_loosest_5 : decode cX6_loosest 5 = .ok (.istore_n 1, 1) := by decide +kernel
theorem dX6_loosest_6 : decode cX6_loosest 6 = .ok (.iconst (-1), 1) := by decide +kernel
theorem dX6_loosest_7 : decode cX6_loosest 7 = .ok (.istore_n 2, 1) := by decide +kernel
theorem dX6_loosest_8 : decode cX6_loosest 8 = .ok (.iconst 0, 1) := by decide +kernel
theorem dX6_loosest_9 : decode cX6_loosest 9 = .ok (.istore_n 3, 1) := by decide +kernel
theorem dX6_loosest_10 : decode cX6_loosest 10 = .ok (.iload_n 3, 1) := by decide +kernel
theorem dX6_loosest_11 : decode cX6_loosest 11 = .ok (.aload_n 0, 1) := by decide +kernel
theorem dX6_loosest_12 : decode cX6_loosest 12 = .ok (.getfield 58, 3) := by decide +kernel
theorem dX6_loosest_15 : decode cX6_loosest 15 = .ok (.getfield 115, 3) := by decide +kernel
theorem dX6_loosest_18 : decode cX6_loosest 18 = .ok (.if_icmp .ge 53, 3) := by decide +kernel
theorem dX6_loosest_21 : decode cX6_loosest 21 = .ok (.aload_n 0, 1) := by decide +kernel
theorem dX6_loosest_22 : decode cX6_loosest 22 = .ok (.getfield 33, 3) := by decide +kernel
theorem dX6_loosest_25 : decode cX6_loosest 25 = .ok (.getfield 246, 3) := by decide +kernel
theorem dX6_loosest_28 : decode cX6_loosest 28 = .ok (.iload_n 3, 1) := by decide +kernel
theorem dX6_loosest_29 : decode cX6_loosest 29 = .ok (.aaload, 1) := by decide +kernel
theorem dX6_loosest_30 : decode cX6_loosest 30 = .ok (.astore 4, 2) := by decide +kernel
theorem dX6_loosest_32 : decode cX6_loosest 32 = .ok (.aload 4, 2) := by decide +kernel
theorem dX6_loosest_34 : decode cX6_loosest 34 = .ok (.getfield 176, 3) := by decide +kernel
theorem dX6_loosest_37 : decode cX6_loosest 37 = .ok (.ifCond .le 28, 3) := by decide +kernel
theorem dX6_loosest_40 : decode cX6_loosest 40 = .ok (.aload 4, 2) := by decide +kernel
theorem dX6_loosest_42 : decode cX6_loosest 42 = .ok (.aload_n 0, 1) := by decide +kernel
theorem dX6_loosest_43 : decode cX6_loosest 43 = .ok (.getfield 58, 3) := by decide +kernel
theorem dX6_loosest_46 : decode cX6_loosest 46 = .ok (.invokevirtual 249, 3) := by decide +kernel
theorem dX6_loosest_49 : decode cX6_loosest 49 = .ok (.iload_n 2, 1) := by decide +kernel
theorem dX6_loosest_50 : decode cX6_loosest 50 = .ok (.if_icmp .le 15, 3) := by decide +kernel
theorem dX6_loosest_53 : decode cX6_loosest 53 = .ok (.iload_n 3, 1) := by decide +kernel
theorem dX6_loosest_54 : decode cX6_loosest 54 = .ok (.istore_n 1, 1) := by decide +kernel
theorem dX6_loosest_55 : decode cX6_loosest 55 = .ok (.aload 4, 2) := by decide +kernel
theorem dX6_loosest_57 : decode cX6_loosest 57 = .ok (.aload_n 0, 1) := by decide +kernel
theorem dX6_loosest_58 : decode cX6_loosest 58 = .ok (.getfield 58, 3) := by decide +kernel
theorem dX6_loosest_61 : decode cX6_loosest 61 = .ok (.invokevirtual 249, 3) := by decide +kernel
theorem dX6_loosest_64 : decode cX6_loosest 64 = .ok (.istore_n 2, 1) := by decide +kernel
theorem dX6_loosest_65 : decode cX6_loosest 65 = .ok (.iinc 3 1, 3) := by decide +kernel
theorem dX6_loosest_68 : decode cX6_loosest 68 = .ok (.goto (-58), 3) := by decide +kernel
theorem dX6_loosest_71 : decode cX6_loosest 71 = .ok (.iload_n 1, 1) := by decide +kernel
theorem dX6_loosest_72 : decode cX6_loosest 72 = .ok (.ireturn, 1) := by decide +kernel
theorem dX6_longestLeft_0 : decode cX6_longestLeft 0 = .ok (.aload_n 0, 1) := by decide +kernel
theorem dX6_longestLeft_1 : decode cX6_longestLeft 1 = .ok (.invokevirtual 112, 3) := by decide +kernel
theorem dX6_longestLeft_4 : decode cX6_longestLeft 4 = .ok (.iconst 0, 1) := by decide +kernel
theorem dX6_longestLeft_5 : decode cX6_longestLeft 5 = .ok (.istore_n 1, 1) := by decide +kernel
theorem dX6_longestLeft_6 : decode cX6_longestLeft 6 = .ok (.iload_n 1, 1) := by decide +kernel
theorem dX6_longestLeft_7 : decode cX6_longestLeft 7 = .ok (.aload_n 0, 1) := by decide +kernel
theorem dX6_longestLeft_8 : decode cX6_longestLeft 8 = .ok (.getfield 58, 3) := by decide +kernel
theorem dX6_longestLeft_11 : decode cX6_longestLeft 11 = .ok (.getfield 92, 3) := by decide +kernel
theorem dX6_longestLeft_14 : decode cX6_longestLeft 14 = .ok (.if_icmp .ge 33, 3) := by decide +kernel
theorem dX6_longestLeft_17 : decode cX6_longestLeft 17 = .ok (.aload_n 0, 1) := by decide +kernel
theorem dX6_longestLeft_18 : decode cX6_longestLeft 18 = .ok (.getfield 58, 3) := by decide +kernel
theorem dX6_longestLeft_21 : decode cX6_longestLeft 21 = .ok (.getfield 252, 3) := by decide +kernel
theorem dX6_longestLeft_24 : decode cX6_longestLeft 24 = .ok (.iload_n 1, 1) := by decide +kernel
theorem dX6_longestLeft_25 : decode cX6_longestLeft 25 = .ok (.iaload, 1) := by decide +kernel
theorem dX6_longestLeft_26 : decode cX6_longestLeft 26 = .ok (.istore_n 2, 1) := by decide +kernel
theorem dX6_longestLeft_27 : decode cX6_longestLeft 27 = .ok (.aload_n 0, 1) := by decide +kernel
theorem dX6_longestLeft_28 : decode cX6_longestLeft 28 = .ok (.getfield 33, 3) := by decide +kernel
theorem dX6_longestLeft_31 : decode cX6_longestLeft 31 = .ok (.getfield 230, 3) := by decide +kernel
theorem dX6_longestLeft_34 : decode cX6_longestLeft 34 = .ok (.iload_n 2, 1) := by decide +kernel
theorem dX6_longestLeft_35 : decode cX6_longestLeft 35 = .ok (.iaload, 1) := by decide +kernel
theorem dX6_longestLeft_36 : decode cX6_longestLeft 36 = .ok (.ifCond .le 5, 3) := by decide +kernel
theorem dX6_longestLeft_39 : decode cX6_longestLeft 39 = .ok (.iload_n 2, 1) := by decide +kernel
theorem dX6_longestLeft_40 : decode cX6_longestLeft 40 = .ok (.ireturn, 1) := by decide +kernel
theorem dX6_longestLeft_41 : decode cX6_longestLeft 41 = .ok (.iinc 1 1, 3) := by decide +kernel
theorem dX6_longestLeft_44 : decode cX6_longestLeft 44 = .ok (.goto (-38), 3) := by decide +kernel
theorem dX6_longestLeft_47 : decode cX6_longestLeft 47 = .ok (.iconst (-1), 1) := by decide +kernel
theorem dX6_longestLeft_48 : decode cX6_longestLeft 48 = .ok (.ireturn, 1) := by decide +kernel
theorem dX6_lengthLeft_0 : decode cX6_lengthLeft 0 = .ok (.aload_n 0, 1) := by decide +kernel
theorem dX6_lengthLeft_1 : decode cX6_lengthLeft 1 = .ok (.invokevirtual 112, 3) := by decide +kernel
theorem dX6_lengthLeft_4 : decode cX6_lengthLeft 4 = .ok (.iconst 0, 1) := by decide +kernel
theorem dX6_lengthLeft_5 : decode cX6_lengthLeft 5 = .ok (.istore_n 1, 1) := by decide +kernel
theorem dX6_lengthLeft_6 : decode cX6_lengthLeft 6 = .ok (.iconst 0, 1) := by decide +kernel
theorem dX6_lengthLeft_7 : decode cX6_lengthLeft 7 = .ok (.istore_n 2, 1) := by decide +kernel
theorem dX6_lengthLeft_8 : decode cX6_lengthLeft 8 = .ok (.iload_n 2, 1) := by decide +kernel
theorem dX6_lengthLeft_9 : decode cX6_lengthLeft 9 = .ok (.aload_n 0, 1) := by decide +kernel
theorem dX6_lengthLeft_10 : decode cX6_lengthLeft 10 = .ok (.getfield 58, 3) := by decide +kernel
theorem dX6_lengthLeft_13 : decode cX6_lengthLeft 13 = .ok (.getfield 92, 3) := by decide +kernel
theorem dX6_lengthLeft_16 : decode cX6_lengthLeft 16 = .ok (.if_icmp .ge 31, 3) := by decide +kernel
theorem dX6_lengthLeft_19 : decode cX6_lengthLeft 19 = .ok (.iload_n 1, 1) := by decide +kernel
theorem dX6_lengthLeft_20 : decode cX6_lengthLeft 20 = .ok (.aload_n 0, 1) := by decide +kernel
theorem dX6_lengthLeft_21 : decode cX6_lengthLeft 21 = .ok (.getfield 33, 3) := by decide +kernel
theorem dX6_lengthLeft_24 : decode cX6_lengthLeft 24 = .ok (.getfield 230, 3) := by decide +kernel
theorem dX6_lengthLeft_27 : decode cX6_lengthLeft 27 = .ok (.iload_n 2, 1) := by decide +kernel
theorem dX6_lengthLeft_28 : decode cX6_lengthLeft 28 = .ok (.iaload, 1) := by decide +kernel
theorem dX6_lengthLeft_29 : decode cX6_lengthLeft 29 = .ok (.aload_n 0, 1) := by decide +kernel
theorem dX6_lengthLeft_30 : decode cX6_lengthLeft 30 = .ok (.getfield 58, 3) := by decide +kernel
theorem dX6_lengthLeft_33 : decode cX6_lengthLeft 33 = .ok (.getfield 226, 3) := by decide +kernel
theorem dX6_lengthLeft_36 : decode cX6_lengthLeft 36 = .ok (.iload_n 2, 1) := by decide +kernel
theorem dX6_lengthLeft_37 : decode cX6_lengthLeft 37 = .ok (.iaload, 1) := by decide +kernel
theorem dX6_lengthLeft_38 : decode cX6_lengthLeft 38 = .ok (.imul, 1) := by decide +kernel
theorem dX6_lengthLeft_39 : decode cX6_lengthLeft 39 = .ok (.iadd, 1) := by decide +kernel
theorem dX6_lengthLeft_40 : decode cX6_lengthLeft 40 = .ok (.istore_n 1, 1) := by decide +kernel
theorem dX6_lengthLeft_41 : decode cX6_lengthLeft 41 = .ok (.iinc 2 1, 3) := by decide +kernel
theorem dX6_lengthLeft_44 : decode cX6_lengthLeft 44 = .ok (.goto (-36), 3) := by decide +kernel
theorem dX6_lengthLeft_47 : decode cX6_lengthLeft 47 = .ok (.iload_n 1, 1) := by decide +kernel
theorem dX6_lengthLeft_48 : decode cX6_lengthLeft 48 = .ok (.ireturn, 1) := by decide +kernel
theorem dX6_meanGap_0 : decode cX6_meanGap 0 = .ok (.aload_n 0, 1) := by decide +kernel
theorem dX6_meanGap_1 : decode cX6_meanGap 1 = .ok (.invokevirtual 112, 3) := by decide +kernel
theorem dX6_meanGap_4 : decode cX6_meanGap 4 = .ok (.iconst 0, 1) := by decide +kernel
theorem dX6_meanGap_5 : decode cX6_meanGap 5 = .ok (.istore_n 1, 1) := by decide +kernel
theorem dX6_meanGap_6 : decode cX6_meanGap 6 = .ok (.iconst 0, 1) := by decide +kernel
theorem dX6_meanGap_7 : decode cX6_meanGap 7 = .ok (.istore_n 2, 1) := by decide +kernel
theorem dX6_meanGap_8 : decode cX6_meanGap 8 = .ok (.iload_n 2, 1) := by decide +kernel
theorem dX6_meanGap_9 : decode cX6_meanGap 9 = .ok (.aload_n 0, 1) := by decide +kernel
theorem dX6_meanGap_10 : decode cX6_meanGap 10 = .ok (.getfield 58, 3) := by decide +kernel
theorem dX6_meanGap_13 : decode cX6_meanGap 13 = .ok (.getfield 115, 3) := by decide +kernel
theorem dX6_meanGap_16 : decode cX6_meanGap 16 = .ok (.if_icmp .ge 28, 3) := by decide +kernel
theorem dX6_meanGap_19 : decode cX6_meanGap 19 = .ok (.iload_n 1, 1) := by decide +kernel
theorem dX6_meanGap_20 : decode cX6_meanGap 20 = .ok (.aload_n 0, 1) := by decide +kernel
theorem dX6_meanGap_21 : decode cX6_meanGap 21 = .ok (.getfield 33, 3) := by decide +kernel
theorem dX6_meanGap_24 : decode cX6_meanGap 24 = .ok (.getfield 246, 3) := by decide +kernel
theorem dX6_meanGap_27 : decode cX6_meanGap 27 = .ok (.iload_n 2, 1) := by decide +kernel
theorem dX6_meanGap_28 : decode cX6_meanGap 28 = .ok (.aaload, 1) := by decide +kernel
theorem dX6_meanGap_29 : decode cX6_meanGap 29 = .ok (.aload_n 0, 1) := by decide +kernel
theorem dX6_meanGap_30 : decode cX6_meanGap 30 = .ok (.getfield 58, 3) := by decide +kernel
theorem dX6_meanGap_33 : decode cX6_meanGap 33 = .ok (.invokevirtual 184, 3) := by decide +kernel
theorem dX6_meanGap_36 : decode cX6_meanGap 36 = .ok (.iadd, 1) := by decide +kernel
theorem dX6_meanGap_37 : decode cX6_meanGap 37 = .ok (.istore_n 1, 1) := by decide +kernel
theorem dX6_meanGap_38 : decode cX6_meanGap 38 = .ok (.iinc 2 1, 3) := by decide +kernel
theorem dX6_meanGap_41 : decode cX6_meanGap 41 = .ok (.goto (-33), 3) := by decide +kernel
theorem dX6_meanGap_44 : decode cX6_meanGap 44 = .ok (.aload_n 0, 1) := by decide +kernel
theorem dX6_meanGap_45 : decode cX6_meanGap 45 = .ok (.getfield 58, 3) := by decide +kernel
theorem dX6_meanGap_48 : decode cX6_meanGap 48 = .ok (.getfield 115, 3) := by decide +kernel
theorem dX6_meanGap_51 : decode cX6_meanGap 51 = .ok (.ifCond .ne 7, 3) := by decide +kernel
theorem dX6_meanGap_54 : decode cX6_meanGap 54 = .ok (.dconst 0, 1) := by decide +kernel
theorem dX6_meanGap_55 : decode cX6_meanGap 55 = .ok (.goto 14, 3) := by decide +kernel
theorem dX6_meanGap_58 : decode cX6_meanGap 58 = .ok (.iload_n 1, 1) := by decide +kernel
theorem dX6_meanGap_59 : decode cX6_meanGap 59 = .ok (.i2d, 1) := by decide +kernel
theorem dX6_meanGap_60 : decode cX6_meanGap 60 = .ok (.aload_n 0, 1) := by decide +kernel
theorem dX6_meanGap_61 : decode cX6_meanGap 61 = .ok (.getfield 58, 3) := by decide +kernel
theorem dX6_meanGap_64 : decode cX6_meanGap 64 = .ok (.getfield 115, 3) := by decide +kernel
theorem dX6_meanGap_67 : decode cX6_meanGap 67 = .ok (.i2d, 1) := by decide +kernel
theorem dX6_meanGap_68 : decode cX6_meanGap 68 = .ok (.ddiv, 1) := by decide +kernel
theorem dX6_meanGap_69 : decode cX6_meanGap 69 = .ok (.dreturn, 1) := by decide +kernel
theorem dX6_woodShare_0 : decode cX6_woodShare 0 = .ok (.aload_n 0, 1) := by decide +kernel
theorem dX6_woodShare_1 : decode cX6_woodShare 1 = .ok (.invokevirtual 112, 3) := by decide +kernel
theorem dX6_woodShare_4 : decode cX6_woodShare 4 = .ok (.iconst 0, 1) := by decide +kernel
theorem dX6_woodShare_5 : decode cX6_woodShare 5 = .ok (.istore_n 1, 1) := by decide +kernel
theorem dX6_woodShare_6 : decode cX6_woodShare 6 = .ok (.iconst 0, 1) := by decide +kernel
theorem dX6_woodShare_7 : decode cX6_woodShare 7 = .ok (.istore_n 2, 1) := by decide +kernel
theorem dX6_woodShare_8 : decode cX6_woodShare 8 = .ok (.iload_n 2, 1) := by decide +kernel
theorem dX6_woodShare_9 : decode cX6_woodShare 9 = .ok (.aload_n 0, 1) := by decide +kernel
theorem dX6_woodShare_10 : decode cX6_woodShare 10 = .ok (.getfield 58, 3) := by decide +kernel
theorem dX6_woodShare_13 : decode cX6_woodShare 13 = .ok (.getfield 115, 3) := by decide +kernel
theorem dX6_woodShare_16 : decode cX6_woodShare 16 = .ok (.if_icmp .ge 28, 3) := by decide +kernel
theorem dX6_woodShare_19 : decode cX6_woodShare 19 = .ok (.iload_n 1, 1) := by decide +kernel
theorem dX6_woodShare_20 : decode cX6_woodShare 20 = .ok (.aload_n 0, 1) := by decide +kernel
theorem dX6_woodShare_21 : decode cX6_woodShare 21 = .ok (.getfield 33, 3) := by decide +kernel
theorem dX6_woodShare_24 : decode cX6_woodShare 24 = .ok (.getfield 246, 3) := by decide +kernel
theorem dX6_woodShare_27 : decode cX6_woodShare 27 = .ok (.iload_n 2, 1) := by decide +kernel
theorem dX6_woodShare_28 : decode cX6_woodShare 28 = .ok (.aaload, 1) := by decide +kernel
theorem dX6_woodShare_29 : decode cX6_woodShare 29 = .ok (.aload_n 0, 1) := by decide +kernel
theorem dX6_woodShare_30 : decode cX6_woodShare 30 = .ok (.getfield 58, 3) := by decide +kernel
theorem dX6_woodShare_33 : decode cX6_woodShare 33 = .ok (.invokevirtual 193, 3) := by decide +kernel
theorem dX6_woodShare_36 : decode cX6_woodShare 36 = .ok (.iadd, 1) := by decide +kernel
theorem dX6_woodShare_37 : decode cX6_woodShare 37 = .ok (.istore_n 1, 1) := by decide +kernel
theorem dX6_woodShare_38 : decode cX6_woodShare 38 = .ok (.iinc 2 1, 3) := by decide +kernel
theorem dX6_woodShare_41 : decode cX6_woodShare 41 = .ok (.goto (-33), 3) := by decide +kernel
theorem dX6_woodShare_44 : decode cX6_woodShare 44 = .ok (.iload_n 1, 1) := by decide +kernel
theorem dX6_woodShare_45 : decode cX6_woodShare 45 = .ok (.aload_n 0, 1) := by decide +kernel
theorem dX6_woodShare_46 : decode cX6_woodShare 46 = .ok (.getfield 33, 3) := by decide +kernel
theorem dX6_woodShare_49 : decode cX6_woodShare 49 = .ok (.invokevirtual 125, 3) := by decide +kernel
theorem dX6_woodShare_52 : decode cX6_woodShare 52 = .ok (.invokestatic 255, 3) := by decide +kernel
theorem dX6_woodShare_55 : decode cX6_woodShare 55 = .ok (.freturn, 1) := by decide +kernel
theorem dX6_goodShare_0 : decode cX6_goodShare 0 = .ok (.aload_n 0, 1) := by decide +kernel
theorem dX6_goodShare_1 : decode cX6_goodShare 1 = .ok (.invokevirtual 112, 3) := by decide +kernel
theorem dX6_goodShare_4 : decode cX6_goodShare 4 = .ok (.aload_n 0, 1) := by decide +kernel
theorem dX6_goodShare_5 : decode cX6_goodShare 5 = .ok (.getfield 33, 3) := by decide +kernel
theorem dX6_goodShare_8 : decode cX6_goodShare 8 = .ok (.getfield 135, 3) := by decide +kernel
theorem dX6_goodShare_11 : decode cX6_goodShare 11 = .ok (.aload_n 0, 1) := by decide +kernel
theorem dX6_goodShare_12 : decode cX6_goodShare 12 = .ok (.getfield 33, 3) := by decide +kernel
theorem dX6_goodShare_15 : decode cX6_goodShare 15 = .ok (.getfield 132, 3) := by decide +kernel
theorem dX6_goodShare_18 : decode cX6_goodShare 18 = .ok (.invokestatic 255, 3) := by decide +kernel
theorem dX6_goodShare_21 : decode cX6_goodShare 21 = .ok (.freturn, 1) := by decide +kernel
theorem dX6_share_0 : decode cX6_share 0 = .ok (.iload_n 1, 1) := by decide +kernel
theorem dX6_share_1 : decode cX6_share 1 = .ok (.ifCond .ne 7, 3) := by decide +kernel
theorem dX6_share_4 : decode cX6_share 4 = .ok (.fconst 0, 1) := by decide +kernel
theorem dX6_share_5 : decode cX6_share 5 = .ok (.goto 8, 3) := by decide +kernel
theorem dX6_share_8 : decode cX6_share 8 = .ok (.iload_n 0, 1) := by decide +kernel
theorem dX6_share_9 : decode cX6_share 9 = .ok (.i2f, 1) := by decide +kernel
theorem dX6_share_10 : decode cX6_share 10 = .ok (.iload_n 1, 1) := by decide +kernel
theorem dX6_share_11 : decode cX6_share 11 = .ok (.i2f, 1) := by decide +kernel
theorem dX6_share_12 : decode cX6_share 12 = .ok (.fdiv, 1) := by decide +kernel
theorem dX6_share_13 : decode cX6_share 13 = .ok (.freturn, 1) := by decide +kernel
theorem dX6_choice_0 : decode cX6_choice 0 = .ok (.aload_n 0, 1) := by decide +kernel
theorem dX6_choice_1 : decode cX6_choice 1 = .ok (.iload_n 1, 1) := by decide +kernel
theorem dX6_choice_2 : decode cX6_choice 2 = .ok (.invokevirtual 172, 3) := by decide +kernel
theorem dX6_choice_5 : decode cX6_choice 5 = .ok (.astore_n 3, 1) := by decide +kernel
theorem dX6_choice_6 : decode cX6_choice 6 = .ok (.iload_n 2, 1) := by decide +kernel
theorem dX6_choice_7 : decode cX6_choice 7 = .ok (.ifCond .lt 8, 3) := by decide +kernel
theorem dX6_choice_10 : decode cX6_choice 10 = .ok (.iload_n 2, 1) := by decide +kernel
theorem dX6_choice_11 : decode cX6_choice 11 = .ok (.iconst 3, 1) := by decide +kernel
theorem dX6_choice_12 : decode cX6_choice 12 = .ok (.if_icmp .le 14, 3) := by decide +kernel
theorem dX6_choice_15 : decode cX6_choice 15 = .ok (.new 84, 3) := by decide +kernel
theorem dX6_choice_18 : decode cX6_choice 18 = .ok (.dup, 1) := by decide +kernel
theorem dX6_choice_19 : decode cX6_choice 19 = .ok (.ldc_w 259, 3) := by decide +kernel
theorem dX6_choice_22 : decode cX6_choice 22 = .ok (.invokespecial 88, 3) := by decide +kernel
theorem dX6_choice_25 : decode cX6_choice 25 = .ok (.athrow, 1) := by decide +kernel
theorem dX6_choice_26 : decode cX6_choice 26 = .ok (.aload_n 0, 1) := by decide +kernel
theorem dX6_choice_27 : decode cX6_choice 27 = .ok (.aload_n 0, 1) := by decide +kernel
theorem dX6_choice_28 : decode cX6_choice 28 = .ok (.getfield 33, 3) := by decide +kernel
theorem dX6_choice_31 : decode cX6_choice 31 = .ok (.aload_n 3, 1) := by decide +kernel
theorem dX6_choice_32 : decode cX6_choice 32 = .ok (.invokevirtual 261, 3) := by decide +kernel
theorem dX6_choice_35 : decode cX6_choice 35 = .ok (.ifCond .ne 5, 3) := by decide +kernel
theorem dX6_choice_38 : decode cX6_choice 38 = .ok (.iconst (-1), 1) := by decide +kernel
theorem dX6_choice_39 : decode cX6_choice 39 = .ok (.ireturn, 1) := by decide +kernel
theorem dX6_choice_40 : decode cX6_choice 40 = .ok (.iload_n 2, 1) := by decide +kernel
theorem dX6_choice_41 : decode cX6_choice 41 = .ok (.tableswitch 51 0 2 #[27, 35, 43], 27) := by decide +kernel
theorem dX6_choice_68 : decode cX6_choice 68 = .ok (.aload_n 0, 1) := by decide +kernel
theorem dX6_choice_69 : decode cX6_choice 69 = .ok (.getfield 19, 3) := by decide +kernel
theorem dX6_choice_72 : decode cX6_choice 72 = .ok (.getfield 265, 3) := by decide +kernel
theorem dX6_choice_75 : decode cX6_choice 75 = .ok (.ireturn, 1) := by decide +kernel
theorem dX6_choice_76 : decode cX6_choice 76 = .ok (.aload_n 0, 1) := by decide +kernel
theorem dX6_choice_77 : decode cX6_choice 77 = .ok (.getfield 19, 3) := by decide +kernel
theorem dX6_choice_80 : decode cX6_choice 80 = .ok (.getfield 268, 3) := by decide +kernel
theorem dX6_choice_83 : decode cX6_choice 83 = .ok (.ireturn, 1) := by decide +kernel
theorem dX6_choice_84 : decode cX6_choice 84 = .ok (.aload_n 0, 1) := by decide +kernel
theorem dX6_choice_85 : decode cX6_choice 85 = .ok (.getfield 19, 3) := by decide +kernel
theorem dX6_choice_88 : decode cX6_choice 88 = .ok (.getfield 269, 3) := by decide +kernel
theorem dX6_choice_91 : decode cX6_choice 91 = .ok (.ireturn, 1) := by decide +kernel
theorem dX6_choice_92 : decode cX6_choice 92 = .ok (.aload_n 0, 1) := by decide +kernel
theorem dX6_choice_93 : decode cX6_choice 93 = .ok (.getfield 19, 3) := by decide +kernel
theorem dX6_choice_96 : decode cX6_choice 96 = .ok (.aload_n 0, 1) := by decide +kernel
theorem dX6_choice_97 : decode cX6_choice 97 = .ok (.getfield 58, 3) := by decide +kernel
theorem dX6_choice_100 : decode cX6_choice 100 = .ok (.invokevirtual 272, 3) := by decide +kernel
theorem dX6_choice_103 : decode cX6_choice 103 = .ok (.ireturn, 1) := by decide +kernel
theorem dX6_fewestAt_0 : decode cX6_fewestAt 0 = .ok (.aload_n 0, 1) := by decide +kernel
theorem dX6_fewestAt_1 : decode cX6_fewestAt 1 = .ok (.iload_n 1, 1) := by decide +kernel
theorem dX6_fewestAt_2 : decode cX6_fewestAt 2 = .ok (.invokevirtual 172, 3) := by decide +kernel
theorem dX6_fewestAt_5 : decode cX6_fewestAt 5 = .ok (.astore_n 3, 1) := by decide +kernel
theorem dX6_fewestAt_6 : decode cX6_fewestAt 6 = .ok (.iload_n 2, 1) := by decide +kernel
theorem dX6_fewestAt_7 : decode cX6_fewestAt 7 = .ok (.invokestatic 306, 3) := by decide +kernel
theorem dX6_fewestAt_10 : decode cX6_fewestAt 10 = .ok (.aload_n 0, 1) := by decide +kernel
theorem dX6_fewestAt_11 : decode cX6_fewestAt 11 = .ok (.getfield 19, 3) := by decide +kernel
theorem dX6_fewestAt_14 : decode cX6_fewestAt 14 = .ok (.aload_n 0, 1) := by decide +kernel
theorem dX6_fewestAt_15 : decode cX6_fewestAt 15 = .ok (.getfield 33, 3) := by decide +kernel
theorem dX6_fewestAt_18 : decode cX6_fewestAt 18 = .ok (.invokevirtual 278, 3) := by decide +kernel
theorem dX6_fewestAt_21 : decode cX6_fewestAt 21 = .ok (.aload_n 0, 1) := by decide +kernel
theorem dX6_fewestAt_22 : decode cX6_fewestAt 22 = .ok (.getfield 19, 3) := by decide +kernel
theorem dX6_fewestAt_25 : decode cX6_fewestAt 25 = .ok (.aload_n 0, 1) := by decide +kernel
theorem dX6_fewestAt_26 : decode cX6_fewestAt 26 = .ok (.getfield 58, 3) := by decide +kernel
theorem dX6_fewestAt_29 : decode cX6_fewestAt 29 = .ok (.invokevirtual 292, 3) := by decide +kernel
theorem dX6_fewestAt_32 : decode cX6_fewestAt 32 = .ok (.aload_n 0, 1) := by decide +kernel
theorem dX6_fewestAt_33 : decode cX6_fewestAt 33 = .ok (.aload_n 3, 1) := by decide +kernel
theorem dX6_fewestAt_34 : decode cX6_fewestAt 34 = .ok (.iload_n 2, 1) := by decide +kernel
theorem dX6_fewestAt_35 : decode cX6_fewestAt 35 = .ok (.invokevirtual 309, 3) := by decide +kernel
theorem dX6_fewestAt_38 : decode cX6_fewestAt 38 = .ok (.ireturn, 1) := by decide +kernel
theorem dX6_rowFor_0 : decode cX6_rowFor 0 = .ok (.aload_n 0, 1) := by decide +kernel
theorem dX6_rowFor_1 : decode cX6_rowFor 1 = .ok (.invokevirtual 112, 3) := by decide +kernel
theorem dX6_rowFor_4 : decode cX6_rowFor 4 = .ok (.iload_n 1, 1) := by decide +kernel
theorem dX6_rowFor_5 : decode cX6_rowFor 5 = .ok (.invokestatic 306, 3) := by decide +kernel
theorem dX6_rowFor_8 : decode cX6_rowFor 8 = .ok (.aload_n 0, 1) := by decide +kernel
theorem dX6_rowFor_9 : decode cX6_rowFor 9 = .ok (.getfield 19, 3) := by decide +kernel
theorem dX6_rowFor_12 : decode cX6_rowFor 12 = .ok (.aload_n 0, 1) := by decide +kernel
theorem dX6_rowFor_13 : decode cX6_rowFor 13 = .ok (.getfield 33, 3) := by decide +kernel
theorem dX6_rowFor_16 : decode cX6_rowFor 16 = .ok (.invokevirtual 278, 3) := by decide +kernel
theorem dX6_rowFor_19 : decode cX6_rowFor 19 = .ok (.aload_n 0, 1) := by decide +kernel
theorem dX6_rowFor_20 : decode cX6_rowFor 20 = .ok (.getfield 19, 3) := by decide +kernel
theorem dX6_rowFor_23 : decode cX6_rowFor 23 = .ok (.aload_n 0, 1) := by decide +kernel
theorem dX6_rowFor_24 : decode cX6_rowFor 24 = .ok (.getfield 58, 3) := by decide +kernel
theorem dX6_rowFor_27 : decode cX6_rowFor 27 = .ok (.invokevirtual 292, 3) := by decide +kernel
theorem dX6_rowFor_30 : decode cX6_rowFor 30 = .ok (.iconst (-1), 1) := by decide +kernel
theorem dX6_rowFor_31 : decode cX6_rowFor 31 = .ok (.istore_n 2, 1) := by decide +kernel
theorem dX6_rowFor_32 : decode cX6_rowFor 32 = .ok (.ldc_w 313, 3) := by decide +kernel
theorem dX6_rowFor_35 : decode cX6_rowFor 35 = .ok (.istore_n 3, 1) := by decide +kernel
theorem dX6_rowFor_36 : decode cX6_rowFor 36 = .ok (.iconst 0, 1) := by decide +kernel
theorem dX6_rowFor_37 : decode cX6_rowFor 37 = .ok (.istore 4, 2) := by decide +kernel
theorem dX6_rowFor_39 : decode cX6_rowFor 39 = .ok (.iload 4, 2) := by decide +kernel
theorem dX6_rowFor_41 : decode cX6_rowFor 41 = .ok (.aload_n 0, 1) := by decide +kernel
theorem dX6_rowFor_42 : decode cX6_rowFor 42 = .ok (.getfield 58, 3) := by decide +kernel
theorem dX6_rowFor_45 : decode cX6_rowFor 45 = .ok (.getfield 115, 3) := by decide +kernel
theorem dX6_rowFor_48 : decode cX6_rowFor 48 = .ok (.if_icmp .ge 44, 3) := by decide +kernel
theorem dX6_rowFor_51 : decode cX6_rowFor 51 = .ok (.aload_n 0, 1) := by decide +kernel
theorem dX6_rowFor_52 : decode cX6_rowFor 52 = .ok (.aload_n 0, 1) := by decide +kernel
theorem dX6_rowFor_53 : decode cX6_rowFor 53 = .ok (.getfield 33, 3) := by decide +kernel
theorem dX6_rowFor_56 : decode cX6_rowFor 56 = .ok (.getfield 246, 3) := by decide +kernel
theorem dX6_rowFor_59 : decode cX6_rowFor 59 = .ok (.iload 4, 2) := by decide +kernel
theorem dX6_rowFor_61 : decode cX6_rowFor 61 = .ok (.aaload, 1) := by decide +kernel
theorem dX6_rowFor_62 : decode cX6_rowFor 62 = .ok (.iload_n 1, 1) := by decide +kernel
theorem dX6_rowFor_63 : decode cX6_rowFor 63 = .ok (.invokevirtual 309, 3) := by decide +kernel
theorem dX6_rowFor_66 : decode cX6_rowFor 66 = .ok (.istore 5, 2) := by decide +kernel
theorem dX6_rowFor_68 : decode cX6_rowFor 68 = .ok (.iload 5, 2) := by decide +kernel
theorem dX6_rowFor_70 : decode cX6_rowFor 70 = .ok (.iconst (-1), 1) := by decide +kernel
theorem dX6_rowFor_71 : decode cX6_rowFor 71 = .ok (.if_icmp .eq 15, 3) := by decide +kernel
theorem dX6_rowFor_74 : decode cX6_rowFor 74 = .ok (.iload 5, 2) := by decide +kernel
theorem dX6_rowFor_76 : decode cX6_rowFor 76 = .ok (.iload_n 3, 1) := by decide +kernel
theorem dX6_rowFor_77 : decode cX6_rowFor 77 = .ok (.if_icmp .ge 9, 3) := by decide +kernel
theorem dX6_rowFor_80 : decode cX6_rowFor 80 = .ok (.iload 4, 2) := by decide +kernel
theorem dX6_rowFor_82 : decode cX6_rowFor 82 = .ok (.istore_n 2, 1) := by decide +kernel
theorem dX6_rowFor_83 : decode cX6_rowFor 83 = .ok (.iload 5, 2) := by decide +kernel
theorem dX6_rowFor_85 : decode cX6_rowFor 85 = .ok (.istore_n 3, 1) := by decide +kernel
theorem dX6_rowFor_86 : decode cX6_rowFor 86 = .ok (.iinc 4 1, 3) := by decide +kernel
theorem dX6_rowFor_89 : decode cX6_rowFor 89 = .ok (.goto (-50), 3) := by decide +kernel
theorem dX6_rowFor_92 : decode cX6_rowFor 92 = .ok (.iload_n 2, 1) := by decide +kernel
theorem dX6_rowFor_93 : decode cX6_rowFor 93 = .ok (.ireturn, 1) := by decide +kernel
theorem dX6_fewestWith_0 : decode cX6_fewestWith 0 = .ok (.aload_n 1, 1) := by decide +kernel
theorem dX6_fewestWith_1 : decode cX6_fewestWith 1 = .ok (.aload_n 0, 1) := by decide +kernel
theorem dX6_fewestWith_2 : decode cX6_fewestWith 2 = .ok (.getfield 58, 3) := by decide +kernel
theorem dX6_fewestWith_5 : decode cX6_fewestWith 5 = .ok (.iload_n 2, 1) := by decide +kernel
theorem dX6_fewestWith_6 : decode cX6_fewestWith 6 = .ok (.invokevirtual 314, 3) := by decide +kernel
theorem dX6_fewestWith_9 : decode cX6_fewestWith 9 = .ok (.ifCond .ne 5, 3) := by decide +kernel
theorem dX6_fewestWith_12 : decode cX6_fewestWith 12 = .ok (.iconst (-1), 1) := by decide +kernel
theorem dX6_fewestWith_13 : decode cX6_fewestWith 13 = .ok (.ireturn, 1) := by decide +kernel
theorem dX6_fewestWith_14 : decode cX6_fewestWith 14 = .ok (.aload_n 0, 1) := by decide +kernel
theorem dX6_fewestWith_15 : decode cX6_fewestWith 15 = .ok (.getfield 19, 3) := by decide +kernel
theorem dX6_fewestWith_18 : decode cX6_fewestWith 18 = .ok (.aload_n 0, 1) := by decide +kernel
theorem dX6_fewestWith_19 : decode cX6_fewestWith 19 = .ok (.getfield 58, 3) := by decide +kernel
theorem dX6_fewestWith_22 : decode cX6_fewestWith 22 = .ok (.aload_n 1, 1) := by decide +kernel
theorem dX6_fewestWith_23 : decode cX6_fewestWith 23 = .ok (.aload_n 0, 1) := by decide +kernel
theorem dX6_fewestWith_24 : decode cX6_fewestWith 24 = .ok (.getfield 58, 3) := by decide +kernel
theorem dX6_fewestWith_27 : decode cX6_fewestWith 27 = .ok (.invokevirtual 281, 3) := by decide +kernel
theorem dX6_fewestWith_30 : decode cX6_fewestWith 30 = .ok (.iload_n 2, 1) := by decide +kernel
theorem dX6_fewestWith_31 : decode cX6_fewestWith 31 = .ok (.isub, 1) := by decide +kernel
theorem dX6_fewestWith_32 : decode cX6_fewestWith 32 = .ok (.aload_n 0, 1) := by decide +kernel
theorem dX6_fewestWith_33 : decode cX6_fewestWith 33 = .ok (.getfield 33, 3) := by decide +kernel
theorem dX6_fewestWith_36 : decode cX6_fewestWith 36 = .ok (.aload_n 1, 1) := by decide +kernel
theorem dX6_fewestWith_37 : decode cX6_fewestWith 37 = .ok (.invokevirtual 284, 3) := by decide +kernel
theorem dX6_fewestWith_40 : decode cX6_fewestWith 40 = .ok (.invokevirtual 318, 3) := by decide +kernel
theorem dX6_fewestWith_43 : decode cX6_fewestWith 43 = .ok (.istore_n 3, 1) := by decide +kernel
theorem dX6_fewestWith_44 : decode cX6_fewestWith 44 = .ok (.iload_n 3, 1) := by decide +kernel
theorem dX6_fewestWith_45 : decode cX6_fewestWith 45 = .ok (.ifCond .eq 13, 3) := by decide +kernel
theorem dX6_fewestWith_48 : decode cX6_fewestWith 48 = .ok (.aload_n 0, 1) := by decide +kernel
theorem dX6_fewestWith_49 : decode cX6_fewestWith 49 = .ok (.getfield 19, 3) := by decide +kernel
theorem dX6_fewestWith_52 : decode cX6_fewestWith 52 = .ok (.getfield 265, 3) := by decide +kernel
theorem dX6_fewestWith_55 : decode cX6_fewestWith 55 = .ok (.goto 4, 3) := by decide +kernel
theorem dX6_fewestWith_58 : decode cX6_fewestWith 58 = .ok (.iconst (-1), 1) := by decide +kernel
theorem dX6_fewestWith_59 : decode cX6_fewestWith 59 = .ok (.ireturn, 1) := by decide +kernel
theorem dX6_canPut_0 : decode cX6_canPut 0 = .ok (.aload_n 0, 1) := by decide +kernel
theorem dX6_canPut_1 : decode cX6_canPut 1 = .ok (.iload_n 1, 1) := by decide +kernel
theorem dX6_canPut_2 : decode cX6_canPut 2 = .ok (.invokevirtual 172, 3) := by decide +kernel
theorem dX6_canPut_5 : decode cX6_canPut 5 = .ok (.astore_n 3, 1) := by decide +kernel
theorem dX6_canPut_6 : decode cX6_canPut 6 = .ok (.aload_n 0, 1) := by decide +kernel
theorem dX6_canPut_7 : decode cX6_canPut 7 = .ok (.iload_n 2, 1) := by decide +kernel
theorem dX6_canPut_8 : decode cX6_canPut 8 = .ok (.invokevirtual 219, 3) := by decide +kernel
theorem dX6_canPut_11 : decode cX6_canPut 11 = .ok (.aload_n 0, 1) := by decide +kernel
theorem dX6_canPut_12 : decode cX6_canPut 12 = .ok (.aload_n 3, 1) := by decide +kernel
theorem dX6_canPut_13 : decode cX6_canPut 13 = .ok (.iload_n 2, 1) := by decide +kernel
theorem dX6_canPut_14 : decode cX6_canPut 14 = .ok (.invokevirtual 325, 3) := by decide +kernel
theorem dX6_canPut_17 : decode cX6_canPut 17 = .ok (.ireturn, 1) := by decide +kernel
theorem dX6_takesPiece_0 : decode cX6_takesPiece 0 = .ok (.aload_n 0, 1) := by decide +kernel
theorem dX6_takesPiece_1 : decode cX6_takesPiece 1 = .ok (.getfield 33, 3) := by decide +kernel
theorem dX6_takesPiece_4 : decode cX6_takesPiece 4 = .ok (.getfield 230, 3) := by decide +kernel
theorem dX6_takesPiece_7 : decode cX6_takesPiece 7 = .ok (.iload_n 2, 1) := by decide +kernel
theorem dX6_takesPiece_8 : decode cX6_takesPiece 8 = .ok (.iaload, 1) := by decide +kernel
theorem dX6_takesPiece_9 : decode cX6_takesPiece 9 = .ok (.ifCond .le 27, 3) := by decide +kernel
theorem dX6_takesPiece_12 : decode cX6_takesPiece 12 = .ok (.aload_n 0, 1) := by decide +kernel
theorem dX6_takesPiece_13 : decode cX6_takesPiece 13 = .ok (.getfield 58, 3) := by decide +kernel
theorem dX6_takesPiece_16 : decode cX6_takesPiece 16 = .ok (.getfield 226, 3) := by decide +kernel
theorem dX6_takesPiece_19 : decode cX6_takesPiece 19 = .ok (.iload_n 2, 1) := by decide +kernel
theorem dX6_takesPiece_20 : decode cX6_takesPiece 20 = .ok (.iaload, 1) := by decide +kernel
theorem dX6_takesPiece_21 : decode cX6_takesPiece 21 = .ok (.aload_n 1, 1) := by decide +kernel
theorem dX6_takesPiece_22 : decode cX6_takesPiece 22 = .ok (.aload_n 0, 1) := by decide +kernel
theorem dX6_takesPiece_23 : decode cX6_takesPiece 23 = .ok (.getfield 58, 3) := by decide +kernel
theorem dX6_takesPiece_26 : decode cX6_takesPiece 26 = .ok (.invokevirtual 184, 3) := by decide +kernel
theorem dX6_takesPiece_29 : decode cX6_takesPiece 29 = .ok (.if_icmp .gt 7, 3) := by decide +kernel
theorem dX6_takesPiece_32 : decode cX6_takesPiece 32 = .ok (.iconst 1, 1) := by decide +kernel
theorem dX6_takesPiece_33 : decode cX6_takesPiece 33 = .ok (.goto 4, 3) := by decide +kernel
theorem dX6_takesPiece_36 : decode cX6_takesPiece 36 = .ok (.iconst 0, 1) := by decide +kernel
theorem dX6_takesPiece_37 : decode cX6_takesPiece 37 = .ok (.ireturn, 1) := by decide +kernel
theorem dX6_fillable_0 : decode cX6_fillable 0 = .ok (.aload_n 0, 1) := by decide +kernel
theorem dX6_fillable_1 : decode cX6_fillable 1 = .ok (.invokevirtual 112, 3) := by decide +kernel
theorem dX6_fillable_4 : decode cX6_fillable 4 = .ok (.iload_n 1, 1) := by decide +kernel
theorem dX6_fillable_5 : decode cX6_fillable 5 = .ok (.ifCond .lt 14, 3) := by decide +kernel
theorem dX6_fillable_8 : decode cX6_fillable 8 = .ok (.iload_n 1, 1) := by decide +kernel
theorem dX6_fillable_9 : decode cX6_fillable 9 = .ok (.aload_n 0, 1) := by decide +kernel
theorem dX6_fillable_10 : decode cX6_fillable 10 = .ok (.getfield 58, 3) := by decide +kernel
theorem dX6_fillable_13 : decode cX6_fillable 13 = .ok (.getfield 152, 3) := by decide +kernel
theorem dX6_fillable_16 : decode cX6_fillable 16 = .ok (.if_icmp .le 14, 3) := by decide +kernel
theorem dX6_fillable_19 : decode cX6_fillable 19 = .ok (.new 84, 3) := by decide +kernel
theorem dX6_fillable_22 : decode cX6_fillable 22 = .ok (.dup, 1) := by decide +kernel
theorem dX6_fillable_23 : decode cX6_fillable 23 = .ok (.ldc_w 332, 3) := by decide +kernel
theorem dX6_fillable_26 : decode cX6_fillable 26 = .ok (.invokespecial 88, 3) := by decide +kernel
theorem dX6_fillable_29 : decode cX6_fillable 29 = .ok (.athrow, 1) := by decide +kernel
theorem dX6_fillable_30 : decode cX6_fillable 30 = .ok (.aload_n 0, 1) := by decide +kernel
theorem dX6_fillable_31 : decode cX6_fillable 31 = .ok (.getfield 19, 3) := by decide +kernel
theorem dX6_fillable_34 : decode cX6_fillable 34 = .ok (.aload_n 0, 1) := by decide +kernel
theorem dX6_fillable_35 : decode cX6_fillable 35 = .ok (.getfield 33, 3) := by decide +kernel
theorem dX6_fillable_38 : decode cX6_fillable 38 = .ok (.invokevirtual 278, 3) := by decide +kernel
theorem dX6_fillable_41 : decode cX6_fillable 41 = .ok (.aload_n 0, 1) := by decide +kernel
theorem dX6_fillable_42 : decode cX6_fillable 42 = .ok (.getfield 19, 3) := by decide +kernel
theorem dX6_fillable_45 : decode cX6_fillable 45 = .ok (.aload_n 0, 1) := by decide +kernel
theorem dX6_fillable_46 : decode cX6_fillable 46 = .ok (.getfield 58, 3) := by decide +kernel
theorem dX6_fillable_49 : decode cX6_fillable 49 = .ok (.invokevirtual 292, 3) := by decide +kernel
theorem dX6_fillable_52 : decode cX6_fillable 52 = .ok (.iconst 0, 1) := by decide +kernel
theorem dX6_fillable_53 : decode cX6_fillable 53 = .ok (.istore_n 2, 1) := by decide +kernel
theorem dX6_fillable_54 : decode cX6_fillable 54 = .ok (.iconst 0, 1) := by decide +kernel
theorem dX6_fillable_55 : decode cX6_fillable 55 = .ok (.istore_n 3, 1) := by decide +kernel
theorem dX6_fillable_56 : decode cX6_fillable 56 = .ok (.iload_n 3, 1) := by decide +kernel
theorem dX6_fillable_57 : decode cX6_fillable 57 = .ok (.iload_n 1, 1) := by decide +kernel
theorem dX6_fillable_58 : decode cX6_fillable 58 = .ok (.if_icmp .gt 23, 3) := by decide +kernel
theorem dX6_fillable_61 : decode cX6_fillable 61 = .ok (.aload_n 0, 1) := by decide +kernel
theorem dX6_fillable_62 : decode cX6_fillable 62 = .ok (.getfield 19, 3) := by decide +kernel
theorem dX6_fillable_65 : decode cX6_fillable 65 = .ok (.iload_n 3, 1) := by decide +kernel
theorem dX6_fillable_66 : decode cX6_fillable 66 = .ok (.invokevirtual 296, 3) := by decide +kernel
theorem dX6_fillable_69 : decode cX6_fillable 69 = .ok (.ifCond .eq 6, 3) := by decide +kernel
theorem dX6_fillable_72 : decode cX6_fillable 72 = .ok (.iinc 2 1, 3) := by decide +kernel
theorem dX6_fillable_75 : decode cX6_fillable 75 = .ok (.iinc 3 1, 3) := by decide +kernel
theorem dX6_fillable_78 : decode cX6_fillable 78 = .ok (.goto (-22), 3) := by decide +kernel
theorem dX6_fillable_81 : decode cX6_fillable 81 = .ok (.iload_n 2, 1) := by decide +kernel
theorem dX6_fillable_82 : decode cX6_fillable 82 = .ok (.ireturn, 1) := by decide +kernel
theorem dX6_goodIn_0 : decode cX6_goodIn 0 = .ok (.aload_n 0, 1) := by decide +kernel
theorem dX6_goodIn_1 : decode cX6_goodIn 1 = .ok (.invokevirtual 112, 3) := by decide +kernel
theorem dX6_goodIn_4 : decode cX6_goodIn 4 = .ok (.iload_n 1, 1) := by decide +kernel
theorem dX6_goodIn_5 : decode cX6_goodIn 5 = .ok (.ifCond .lt 10, 3) := by decide +kernel
theorem dX6_goodIn_8 : decode cX6_goodIn 8 = .ok (.iload_n 1, 1) := by decide +kernel
theorem dX6_goodIn_9 : decode cX6_goodIn 9 = .ok (.sipush 200, 3) := by decide +kernel
theorem dX6_goodIn_12 : decode cX6_goodIn 12 = .ok (.if_icmp .le 14, 3) := by decide +kernel
theorem dX6_goodIn_15 : decode cX6_goodIn 15 = .ok (.new 84, 3) := by decide +kernel
theorem dX6_goodIn_18 : decode cX6_goodIn 18 = .ok (.dup, 1) := by decide +kernel
theorem dX6_goodIn_19 : decode cX6_goodIn 19 = .ok (.ldc_w 340, 3) := by decide +kernel
theorem dX6_goodIn_22 : decode cX6_goodIn 22 = .ok (.invokespecial 88, 3) := by decide +kernel
theorem dX6_goodIn_25 : decode cX6_goodIn 25 = .ok (.athrow, 1) := by decide +kernel
theorem dX6_goodIn_26 : decode cX6_goodIn 26 = .ok (.aload_n 0, 1) := by decide +kernel
theorem dX6_goodIn_27 : decode cX6_goodIn 27 = .ok (.getfield 37, 3) := by decide +kernel
theorem dX6_goodIn_30 : decode cX6_goodIn 30 = .ok (.aload_n 0, 1) := by decide +kernel
theorem dX6_goodIn_31 : decode cX6_goodIn 31 = .ok (.getfield 33, 3) := by decide +kernel
theorem dX6_goodIn_34 : decode cX6_goodIn 34 = .ok (.invokevirtual 95, 3) := by decide +kernel
theorem dX6_goodIn_37 : decode cX6_goodIn 37 = .ok (.aload_n 0, 1) := by decide +kernel
theorem dX6_goodIn_38 : decode cX6_goodIn 38 = .ok (.getfield 37, 3) := by decide +kernel
theorem dX6_goodIn_41 : decode cX6_goodIn 41 = .ok (.aload_n 0, 1) := by decide +kernel
theorem dX6_goodIn_42 : decode cX6_goodIn 42 = .ok (.getfield 58, 3) := by decide +kernel
theorem dX6_goodIn_45 : decode cX6_goodIn 45 = .ok (.iload_n 1, 1) := by decide +kernel
theorem dX6_goodIn_46 : decode cX6_goodIn 46 = .ok (.invokevirtual 342, 3) := by decide +kernel
theorem dX6_goodIn_49 : decode cX6_goodIn 49 = .ok (.ireturn, 1) := by decide +kernel
theorem dX6_solve_0 : decode cX6_solve 0 = .ok (.aload_n 0, 1) := by decide +kernel
theorem dX6_solve_1 : decode cX6_solve 1 = .ok (.getfield 19, 3) := by decide +kernel
theorem dX6_solve_4 : decode cX6_solve 4 = .ok (.aload_n 1, 1) := by decide +kernel
theorem dX6_solve_5 : decode cX6_solve 5 = .ok (.invokevirtual 278, 3) := by decide +kernel
theorem dX6_solve_8 : decode cX6_solve 8 = .ok (.aload_n 0, 1) := by decide +kernel
theorem dX6_solve_9 : decode cX6_solve 9 = .ok (.getfield 19, 3) := by decide +kernel
theorem dX6_solve_12 : decode cX6_solve 12 = .ok (.aload_n 0, 1) := by decide +kernel
theorem dX6_solve_13 : decode cX6_solve 13 = .ok (.getfield 58, 3) := by decide +kernel
theorem dX6_solve_16 : decode cX6_solve 16 = .ok (.invokevirtual 292, 3) := by decide +kernel
theorem dX6_solve_19 : decode cX6_solve 19 = .ok (.aload_n 0, 1) := by decide +kernel
theorem dX6_solve_20 : decode cX6_solve 20 = .ok (.getfield 19, 3) := by decide +kernel
theorem dX6_solve_23 : decode cX6_solve 23 = .ok (.aload_n 0, 1) := by decide +kernel
theorem dX6_solve_24 : decode cX6_solve 24 = .ok (.getfield 58, 3) := by decide +kernel
theorem dX6_solve_27 : decode cX6_solve 27 = .ok (.aload_n 2, 1) := by decide +kernel
theorem dX6_solve_28 : decode cX6_solve 28 = .ok (.aload_n 0, 1) := by decide +kernel
theorem dX6_solve_29 : decode cX6_solve 29 = .ok (.getfield 58, 3) := by decide +kernel
theorem dX6_solve_32 : decode cX6_solve 32 = .ok (.invokevirtual 281, 3) := by decide +kernel
theorem dX6_solve_35 : decode cX6_solve 35 = .ok (.aload_n 1, 1) := by decide +kernel
theorem dX6_solve_36 : decode cX6_solve 36 = .ok (.aload_n 2, 1) := by decide +kernel
theorem dX6_solve_37 : decode cX6_solve 37 = .ok (.invokevirtual 284, 3) := by decide +kernel
theorem dX6_solve_40 : decode cX6_solve 40 = .ok (.invokevirtual 318, 3) := by decide +kernel
theorem dX6_solve_43 : decode cX6_solve 43 = .ok (.ireturn, 1) := by decide +kernel
theorem dX6_writeRow_0 : decode cX6_writeRow 0 = .ok (.aload_n 0, 1) := by decide +kernel
theorem dX6_writeRow_1 : decode cX6_writeRow 1 = .ok (.iload_n 1, 1) := by decide +kernel
theorem dX6_writeRow_2 : decode cX6_writeRow 2 = .ok (.invokevirtual 172, 3) := by decide +kernel
theorem dX6_writeRow_5 : decode cX6_writeRow 5 = .ok (.astore_n 2, 1) := by decide +kernel
theorem dX6_writeRow_6 : decode cX6_writeRow 6 = .ok (.aload_n 0, 1) := by decide +kernel
theorem dX6_writeRow_7 : decode cX6_writeRow 7 = .ok (.getfield 51, 3) := by decide +kernel
theorem dX6_writeRow_10 : decode cX6_writeRow 10 = .ok (.iconst 0, 1) := by decide +kernel
theorem dX6_writeRow_11 : decode cX6_writeRow 11 = .ok (.invokevirtual 350, 3) := by decide +kernel
theorem dX6_writeRow_14 : decode cX6_writeRow 14 = .ok (.iconst 0, 1) := by decide +kernel
theorem dX6_writeRow_15 : decode cX6_writeRow 15 = .ok (.istore_n 3, 1) := by decide +kernel
theorem dX6_writeRow_16 : decode cX6_writeRow 16 = .ok (.iload_n 3, 1) := by decide +kernel
theorem dX6_writeRow_17 : decode cX6_writeRow 17 = .ok (.aload_n 2, 1) := by decide +kernel
theorem dX6_writeRow_18 : decode cX6_writeRow 18 = .ok (.getfield 176, 3) := by decide +kernel
theorem dX6_writeRow_21 : decode cX6_writeRow 21 = .ok (.if_icmp .ge 46, 3) := by decide +kernel
theorem dX6_writeRow_24 : decode cX6_writeRow 24 = .ok (.aload_n 0, 1) := by decide +kernel
theorem dX6_writeRow_25 : decode cX6_writeRow 25 = .ok (.invokevirtual 353, 3) := by decide +kernel
theorem dX6_writeRow_28 : decode cX6_writeRow 28 = .ok (.aload_n 0, 1) := by decide +kernel
theorem dX6_writeRow_29 : decode cX6_writeRow 29 = .ok (.getfield 51, 3) := by decide +kernel
theorem dX6_writeRow_32 : decode cX6_writeRow 32 = .ok (.bipush 91, 2) := by decide +kernel
theorem dX6_writeRow_34 : decode cX6_writeRow 34 = .ok (.invokevirtual 356, 3) := by decide +kernel
theorem dX6_writeRow_37 : decode cX6_writeRow 37 = .ok (.pop, 1) := by decide +kernel
theorem dX6_writeRow_38 : decode cX6_writeRow 38 = .ok (.aload_n 0, 1) := by decide +kernel
theorem dX6_writeRow_39 : decode cX6_writeRow 39 = .ok (.getfield 51, 3) := by decide +kernel
theorem dX6_writeRow_42 : decode cX6_writeRow 42 = .ok (.aload_n 2, 1) := by decide +kernel
theorem dX6_writeRow_43 : decode cX6_writeRow 43 = .ok (.iload_n 3, 1) := by decide +kernel
theorem dX6_writeRow_44 : decode cX6_writeRow 44 = .ok (.invokevirtual 212, 3) := by decide +kernel
theorem dX6_writeRow_47 : decode cX6_writeRow 47 = .ok (.invokevirtual 360, 3) := by decide +kernel
theorem dX6_writeRow_50 : decode cX6_writeRow 50 = .ok (.pop, 1) := by decide +kernel
theorem dX6_writeRow_51 : decode cX6_writeRow 51 = .ok (.aload_n 0, 1) := by decide +kernel
theorem dX6_writeRow_52 : decode cX6_writeRow 52 = .ok (.getfield 51, 3) := by decide +kernel
theorem dX6_writeRow_55 : decode cX6_writeRow 55 = .ok (.bipush 93, 2) := by decide +kernel
theorem dX6_writeRow_57 : decode cX6_writeRow 57 = .ok (.invokevirtual 356, 3) := by decide +kernel
theorem dX6_writeRow_60 : decode cX6_writeRow 60 = .ok (.pop, 1) := by decide +kernel
theorem dX6_writeRow_61 : decode cX6_writeRow 61 = .ok (.iinc 3 1, 3) := by decide +kernel
theorem dX6_writeRow_64 : decode cX6_writeRow 64 = .ok (.goto (-48), 3) := by decide +kernel
theorem dX6_writeRow_67 : decode cX6_writeRow 67 = .ok (.iconst 0, 1) := by decide +kernel
theorem dX6_writeRow_68 : decode cX6_writeRow 68 = .ok (.istore_n 3, 1) := by decide +kernel
theorem dX6_writeRow_69 : decode cX6_writeRow 69 = .ok (.iload_n 3, 1) := by decide +kernel
theorem dX6_writeRow_70 : decode cX6_writeRow 70 = .ok (.aload_n 2, 1) := by decide +kernel
theorem dX6_writeRow_71 : decode cX6_writeRow 71 = .ok (.getfield 181, 3) := by decide +kernel
theorem dX6_writeRow_74 : decode cX6_writeRow 74 = .ok (.if_icmp .ge 22, 3) := by decide +kernel
theorem dX6_writeRow_77 : decode cX6_writeRow 77 = .ok (.aload_n 0, 1) := by decide +kernel
theorem dX6_writeRow_78 : decode cX6_writeRow 78 = .ok (.invokevirtual 353, 3) := by decide +kernel
theorem dX6_writeRow_81 : decode cX6_writeRow 81 = .ok (.aload_n 0, 1) := by decide +kernel
theorem dX6_writeRow_82 : decode cX6_writeRow 82 = .ok (.aload_n 2, 1) := by decide +kernel
theorem dX6_writeRow_83 : decode cX6_writeRow 83 = .ok (.iload_n 3, 1) := by decide +kernel
theorem dX6_writeRow_84 : decode cX6_writeRow 84 = .ok (.invokevirtual 216, 3) := by decide +kernel
theorem dX6_writeRow_87 : decode cX6_writeRow 87 = .ok (.invokevirtual 363, 3) := by decide +kernel
theorem dX6_writeRow_90 : decode cX6_writeRow 90 = .ok (.iinc 3 1, 3) := by decide +kernel
theorem dX6_writeRow_93 : decode cX6_writeRow 93 = .ok (.goto (-24), 3) := by decide +kernel
theorem dX6_writeRow_96 : decode cX6_writeRow 96 = .ok (.aload_n 2, 1) := by decide +kernel
theorem dX6_writeRow_97 : decode cX6_writeRow 97 = .ok (.invokevirtual 199, 3) := by decide +kernel
theorem dX6_writeRow_100 : decode cX6_writeRow 100 = .ok (.ifCond .eq 11, 3) := by decide +kernel
theorem dX6_writeRow_103 : decode cX6_writeRow 103 = .ok (.aload_n 0, 1) := by decide +kernel
theorem dX6_writeRow_104 : decode cX6_writeRow 104 = .ok (.aload_n 2, 1) := by decide +kernel
theorem dX6_writeRow_105 : decode cX6_writeRow 105 = .ok (.getfield 187, 3) := by decide +kernel
theorem dX6_writeRow_108 : decode cX6_writeRow 108 = .ok (.invokevirtual 366, 3) := by decide +kernel
theorem dX6_writeRow_111 : decode cX6_writeRow 111 = .ok (.aload_n 0, 1) := by decide +kernel
theorem dX6_writeRow_112 : decode cX6_writeRow 112 = .ok (.getfield 51, 3) := by decide +kernel
theorem dX6_writeRow_115 : decode cX6_writeRow 115 = .ok (.invokevirtual 369, 3) := by decide +kernel
theorem dX6_writeRow_118 : decode cX6_writeRow 118 = .ok (.ireturn, 1) := by decide +kernel
theorem dX6_writeStock_0 : decode cX6_writeStock 0 = .ok (.aload_n 0, 1) := by decide +kernel
theorem dX6_writeStock_1 : decode cX6_writeStock 1 = .ok (.invokevirtual 112, 3) := by decide +kernel
theorem dX6_writeStock_4 : decode cX6_writeStock 4 = .ok (.aload_n 0, 1) := by decide +kernel
theorem dX6_writeStock_5 : decode cX6_writeStock 5 = .ok (.getfield 51, 3) := by decide +kernel
theorem dX6_writeStock_8 : decode cX6_writeStock 8 = .ok (.iconst 0, 1) := by decide +kernel
theorem dX6_writeStock_9 : decode cX6_writeStock 9 = .ok (.invokevirtual 350, 3) := by decide +kernel
theorem dX6_writeStock_12 : decode cX6_writeStock 12 = .ok (.iconst 0, 1) := by decide +kernel
theorem dX6_writeStock_13 : decode cX6_writeStock 13 = .ok (.istore_n 1, 1) := by decide +kernel
theorem dX6_writeStock_14 : decode cX6_writeStock 14 = .ok (.iload_n 1, 1) := by decide +kernel
theorem dX6_writeStock_15 : decode cX6_writeStock 15 = .ok (.aload_n 0, 1) := by decide +kernel
theorem dX6_writeStock_16 : decode cX6_writeStock 16 = .ok (.getfield 58, 3) := by decide +kernel
theorem dX6_writeStock_19 : decode cX6_writeStock 19 = .ok (.getfield 92, 3) := by decide +kernel
theorem dX6_writeStock_22 : decode cX6_writeStock 22 = .ok (.if_icmp .ge 55, 3) := by decide +kernel
theorem dX6_writeStock_25 : decode cX6_writeStock 25 = .ok (.iload_n 1, 1) := by decide +kernel
theorem dX6_writeStock_26 : decode cX6_writeStock 26 = .ok (.ifCond .le 13, 3) := by decide +kernel
theorem dX6_writeStock_29 : decode cX6_writeStock 29 = .ok (.aload_n 0, 1) := by decide +kernel
theorem dX6_writeStock_30 : decode cX6_writeStock 30 = .ok (.getfield 51, 3) := by decide +kernel
theorem dX6_writeStock_33 : decode cX6_writeStock 33 = .ok (.bipush 44, 2) := by decide +kernel
theorem dX6_writeStock_35 : decode cX6_writeStock 35 = .ok (.invokevirtual 356, 3) := by decide +kernel
theorem dX6_writeStock_38 : decode cX6_writeStock 38 = .ok (.pop, 1) := by decide +kernel
theorem dX6_writeStock_39 : decode cX6_writeStock 39 = .ok (.aload_n 0, 1) := by decide +kernel
theorem dX6_writeStock_40 : decode cX6_writeStock 40 = .ok (.iload_n 1, 1) := by decide +kernel
theorem dX6_writeStock_41 : decode cX6_writeStock 41 = .ok (.invokevirtual 363, 3) := by decide +kernel
theorem dX6_writeStock_44 : decode cX6_writeStock 44 = .ok (.aload_n 0, 1) := by decide +kernel
theorem dX6_writeStock_45 : decode cX6_writeStock 45 = .ok (.getfield 51, 3) := by decide +kernel
theorem dX6_writeStock_48 : decode cX6_writeStock 48 = .ok (.bipush 58, 2) := by decide +kernel
theorem dX6_writeStock_50 : decode cX6_writeStock 50 = .ok (.invokevirtual 356, 3) := by decide +kernel
theorem dX6_writeStock_53 : decode cX6_writeStock 53 = .ok (.pop, 1) := by decide +kernel
theorem dX6_writeStock_54 : decode cX6_writeStock 54 = .ok (.aload_n 0, 1) := by decide +kernel
theorem dX6_writeStock_55 : decode cX6_writeStock 55 = .ok (.getfield 51, 3) := by decide +kernel
theorem dX6_writeStock_58 : decode cX6_writeStock 58 = .ok (.aload_n 0, 1) := by decide +kernel
theorem dX6_writeStock_59 : decode cX6_writeStock 59 = .ok (.getfield 33, 3) := by decide +kernel
theorem dX6_writeStock_62 : decode cX6_writeStock 62 = .ok (.getfield 230, 3) := by decide +kernel
theorem dX6_writeStock_65 : decode cX6_writeStock 65 = .ok (.iload_n 1, 1) := by decide +kernel
theorem dX6_writeStock_66 : decode cX6_writeStock 66 = .ok (.iaload, 1) := by decide +kernel
theorem dX6_writeStock_67 : decode cX6_writeStock 67 = .ok (.invokevirtual 360, 3) := by decide +kernel
theorem dX6_writeStock_70 : decode cX6_writeStock 70 = .ok (.pop, 1) := by decide +kernel
theorem dX6_writeStock_71 : decode cX6_writeStock 71 = .ok (.iinc 1 1, 3) := by decide +kernel
theorem dX6_writeStock_74 : decode cX6_writeStock 74 = .ok (.goto (-60), 3) := by decide +kernel
theorem dX6_writeStock_77 : decode cX6_writeStock 77 = .ok (.aload_n 0, 1) := by decide +kernel
theorem dX6_writeStock_78 : decode cX6_writeStock 78 = .ok (.getfield 51, 3) := by decide +kernel
theorem dX6_writeStock_81 : decode cX6_writeStock 81 = .ok (.invokevirtual 369, 3) := by decide +kernel
theorem dX6_writeStock_84 : decode cX6_writeStock 84 = .ok (.ireturn, 1) := by decide +kernel
theorem dX6_textByte_0 : decode cX6_textByte 0 = .ok (.iload_n 1, 1) := by decide +kernel
theorem dX6_textByte_1 : decode cX6_textByte 1 = .ok (.aload_n 0, 1) := by decide +kernel
theorem dX6_textByte_2 : decode cX6_textByte 2 = .ok (.getfield 51, 3) := by decide +kernel
theorem dX6_textByte_5 : decode cX6_textByte 5 = .ok (.invokevirtual 369, 3) := by decide +kernel
theorem dX6_textByte_8 : decode cX6_textByte 8 = .ok (.invokestatic 208, 3) := by decide +kernel
theorem dX6_textByte_11 : decode cX6_textByte 11 = .ok (.aload_n 0, 1) := by decide +kernel
theorem dX6_textByte_12 : decode cX6_textByte 12 = .ok (.getfield 51, 3) := by decide +kernel
theorem dX6_textByte_15 : decode cX6_textByte 15 = .ok (.iload_n 1, 1) := by decide +kernel
theorem dX6_textByte_16 : decode cX6_textByte 16 = .ok (.invokevirtual 372, 3) := by decide +kernel
theorem dX6_textByte_19 : decode cX6_textByte 19 = .ok (.ireturn, 1) := by decide +kernel
theorem dX6_writeGapBefore_0 : decode cX6_writeGapBefore 0 = .ok (.aload_n 0, 1) := by decide +kernel
theorem dX6_writeGapBefore_1 : decode cX6_writeGapBefore 1 = .ok (.getfield 51, 3) := by decide +kernel
theorem dX6_writeGapBefore_4 : decode cX6_writeGapBefore 4 = .ok (.invokevirtual 369, 3) := by decide +kernel
theorem dX6_writeGapBefore_7 : decode cX6_writeGapBefore 7 = .ok (.ifCond .le 13, 3) := by decide +kernel
theorem dX6_writeGapBefore_10 : decode cX6_writeGapBefore 10 = .ok (.aload_n 0, 1) := by decide +kernel
theorem dX6_writeGapBefore_11 : decode cX6_writeGapBefore 11 = .ok (.getfield 51, 3) := by decide +kernel
theorem dX6_writeGapBefore_14 : decode cX6_writeGapBefore 14 = .ok (.bipush 32, 2) := by decide +kernel
theorem dX6_writeGapBefore_16 : decode cX6_writeGapBefore 16 = .ok (.invokevirtual 356, 3) := by decide +kernel
theorem dX6_writeGapBefore_19 : decode cX6_writeGapBefore 19 = .ok (.pop, 1) := by decide +kernel
theorem dX6_writeGapBefore_20 : decode cX6_writeGapBefore 20 = .ok (.return_, 1) := by decide +kernel
theorem dX6_writeKind_0 : decode cX6_writeKind 0 = .ok (.iload_n 1, 1) := by decide +kernel
theorem dX6_writeKind_1 : decode cX6_writeKind 1 = .ok (.ifCond .lt 58, 3) := by decide +kernel
theorem dX6_writeKind_4 : decode cX6_writeKind 4 = .ok (.iload_n 1, 1) := by decide +kernel
theorem dX6_writeKind_5 : decode cX6_writeKind 5 = .ok (.aload_n 0, 1) := by decide +kernel
theorem dX6_writeKind_6 : decode cX6_writeKind 6 = .ok (.getfield 58, 3) := by decide +kernel
theorem dX6_writeKind_9 : decode cX6_writeKind 9 = .ok (.getfield 92, 3) := by decide +kernel
theorem dX6_writeKind_12 : decode cX6_writeKind 12 = .ok (.if_icmp .ge 47, 3) := by decide +kernel
theorem dX6_writeKind_15 : decode cX6_writeKind 15 = .ok (.aload_n 0, 1) := by decide +kernel
theorem dX6_writeKind_16 : decode cX6_writeKind 16 = .ok (.getfield 51, 3) := by decide +kernel
theorem dX6_writeKind_19 : decode cX6_writeKind 19 = .ok (.aload_n 0, 1) := by decide +kernel
theorem dX6_writeKind_20 : decode cX6_writeKind 20 = .ok (.getfield 58, 3) := by decide +kernel
theorem dX6_writeKind_23 : decode cX6_writeKind 23 = .ok (.getfield 223, 3) := by decide +kernel
theorem dX6_writeKind_26 : decode cX6_writeKind 26 = .ok (.iload_n 1, 1) := by decide +kernel
theorem dX6_writeKind_27 : decode cX6_writeKind 27 = .ok (.baload, 1) := by decide +kernel
theorem dX6_writeKind_28 : decode cX6_writeKind 28 = .ok (.ifCond .eq 8, 3) := by decide +kernel
theorem dX6_writeKind_31 : decode cX6_writeKind 31 = .ok (.bipush 109, 2) := by decide +kernel
theorem dX6_writeKind_33 : decode cX6_writeKind 33 = .ok (.goto 5, 3) := by decide +kernel
theorem dX6_writeKind_36 : decode cX6_writeKind 36 = .ok (.bipush 119, 2) := by decide +kernel
theorem dX6_writeKind_38 : decode cX6_writeKind 38 = .ok (.invokevirtual 356, 3) := by decide +kernel
theorem dX6_writeKind_41 : decode cX6_writeKind 41 = .ok (.pop, 1) := by decide +kernel
theorem dX6_writeKind_42 : decode cX6_writeKind 42 = .ok (.aload_n 0, 1) := by decide +kernel
theorem dX6_writeKind_43 : decode cX6_writeKind 43 = .ok (.getfield 51, 3) := by decide +kernel
theorem dX6_writeKind_46 : decode cX6_writeKind 46 = .ok (.aload_n 0, 1) := by decide +kernel
theorem dX6_writeKind_47 : decode cX6_writeKind 47 = .ok (.getfield 58, 3) := by decide +kernel
theorem dX6_writeKind_50 : decode cX6_writeKind 50 = .ok (.getfield 226, 3) := by decide +kernel
theorem dX6_writeKind_53 : decode cX6_writeKind 53 = .ok (.iload_n 1, 1) := by decide +kernel
theorem dX6_writeKind_54 : decode cX6_writeKind 54 = .ok (.iaload, 1) := by decide +kernel
theorem dX6_writeKind_55 : decode cX6_writeKind 55 = .ok (.invokevirtual 360, 3) := by decide +kernel
theorem dX6_writeKind_58 : decode cX6_writeKind 58 = .ok (.pop, 1) := by decide +kernel
theorem dX6_writeKind_59 : decode cX6_writeKind 59 = .ok (.return_, 1) := by decide +kernel
theorem dX6_writeOpening_0 : decode cX6_writeOpening 0 = .ok (.aload_n 0, 1) := by decide +kernel
theorem dX6_writeOpening_1 : decode cX6_writeOpening 1 = .ok (.invokevirtual 353, 3) := by decide +kernel
theorem dX6_writeOpening_4 : decode cX6_writeOpening 4 = .ok (.aload_n 0, 1) := by decide +kernel
theorem dX6_writeOpening_5 : decode cX6_writeOpening 5 = .ok (.getfield 51, 3) := by decide +kernel
theorem dX6_writeOpening_8 : decode cX6_writeOpening 8 = .ok (.bipush 113, 2) := by decide +kernel
theorem dX6_writeOpening_10 : decode cX6_writeOpening 10 = .ok (.invokevirtual 356, 3) := by decide +kernel
theorem dX6_writeOpening_13 : decode cX6_writeOpening 13 = .ok (.pop, 1) := by decide +kernel
theorem dX6_writeOpening_14 : decode cX6_writeOpening 14 = .ok (.aload_n 0, 1) := by decide +kernel
theorem dX6_writeOpening_15 : decode cX6_writeOpening 15 = .ok (.getfield 51, 3) := by decide +kernel
theorem dX6_writeOpening_18 : decode cX6_writeOpening 18 = .ok (.iload_n 1, 1) := by decide +kernel
theorem dX6_writeOpening_19 : decode cX6_writeOpening 19 = .ok (.invokevirtual 360, 3) := by decide +kernel
theorem dX6_writeOpening_22 : decode cX6_writeOpening 22 = .ok (.pop, 1) := by decide +kernel
theorem dX6_writeOpening_23 : decode cX6_writeOpening 23 = .ok (.return_, 1) := by decide +kernel
theorem dX6_place_0 : decode cX6_place 0 = .ok (.aload_n 0, 1) := by decide +kernel
theorem dX6_place_1 : decode cX6_place 1 = .ok (.iload_n 1, 1) := by decide +kernel
theorem dX6_place_2 : decode cX6_place 2 = .ok (.invokevirtual 172, 3) := by decide +kernel
theorem dX6_place_5 : decode cX6_place 5 = .ok (.astore_n 3, 1) := by decide +kernel
theorem dX6_place_6 : decode cX6_place 6 = .ok (.iload_n 2, 1) := by decide +kernel
theorem dX6_place_7 : decode cX6_place 7 = .ok (.invokestatic 306, 3) := by decide +kernel
theorem dX6_place_10 : decode cX6_place 10 = .ok (.aload_n 3, 1) := by decide +kernel
theorem dX6_place_11 : decode cX6_place 11 = .ok (.aload_n 0, 1) := by decide +kernel
theorem dX6_place_12 : decode cX6_place 12 = .ok (.getfield 58, 3) := by decide +kernel
theorem dX6_place_15 : decode cX6_place 15 = .ok (.iload_n 2, 1) := by decide +kernel
theorem dX6_place_16 : decode cX6_place 16 = .ok (.invokevirtual 314, 3) := by decide +kernel
theorem dX6_place_19 : decode cX6_place 19 = .ok (.ifCond .ne 14, 3) := by decide +kernel
theorem dX6_place_22 : decode cX6_place 22 = .ok (.new 84, 3) := by decide +kernel
theorem dX6_place_25 : decode cX6_place 25 = .ok (.dup, 1) := by decide +kernel
theorem dX6_place_26 : decode cX6_place 26 = .ok (.ldc_w 376, 3) := by decide +kernel
theorem dX6_place_29 : decode cX6_place 29 = .ok (.invokespecial 88, 3) := by decide +kernel
theorem dX6_place_32 : decode cX6_place 32 = .ok (.athrow, 1) := by decide +kernel
theorem dX6_place_33 : decode cX6_place 33 = .ok (.aload_n 0, 1) := by decide +kernel
theorem dX6_place_34 : decode cX6_place 34 = .ok (.getfield 26, 3) := by decide +kernel
theorem dX6_place_37 : decode cX6_place 37 = .ok (.aload_n 0, 1) := by decide +kernel
theorem dX6_place_38 : decode cX6_place 38 = .ok (.getfield 33, 3) := by decide +kernel
theorem dX6_place_41 : decode cX6_place 41 = .ok (.invokevirtual 378, 3) := by decide +kernel
theorem dX6_place_44 : decode cX6_place 44 = .ok (.aload_n 3, 1) := by decide +kernel
theorem dX6_place_45 : decode cX6_place 45 = .ok (.iload_n 2, 1) := by decide +kernel
theorem dX6_place_46 : decode cX6_place 46 = .ok (.invokevirtual 381, 3) := by decide +kernel
theorem dX6_place_49 : decode cX6_place 49 = .ok (.aload_n 3, 1) := by decide +kernel
theorem dX6_place_50 : decode cX6_place 50 = .ok (.aload_n 0, 1) := by decide +kernel
theorem dX6_place_51 : decode cX6_place 51 = .ok (.getfield 58, 3) := by decide +kernel
theorem dX6_place_54 : decode cX6_place 54 = .ok (.invokevirtual 184, 3) := by decide +kernel
theorem dX6_place_57 : decode cX6_place 57 = .ok (.ireturn, 1) := by decide +kernel
theorem dX6_lift_0 : decode cX6_lift 0 = .ok (.aload_n 0, 1) := by decide +kernel
theorem dX6_lift_1 : decode cX6_lift 1 = .ok (.iload_n 1, 1) := by decide +kernel
theorem dX6_lift_2 : decode cX6_lift 2 = .ok (.invokevirtual 172, 3) := by decide +kernel
theorem dX6_lift_5 : decode cX6_lift 5 = .ok (.astore_n 3, 1) := by decide +kernel
theorem dX6_lift_6 : decode cX6_lift 6 = .ok (.iload_n 2, 1) := by decide +kernel
theorem dX6_lift_7 : decode cX6_lift 7 = .ok (.aload_n 3, 1) := by decide +kernel
theorem dX6_lift_8 : decode cX6_lift 8 = .ok (.getfield 176, 3) := by decide +kernel
theorem dX6_lift_11 : decode cX6_lift 11 = .ok (.invokestatic 208, 3) := by decide +kernel
theorem dX6_lift_14 : decode cX6_lift 14 = .ok (.aload_n 0, 1) := by decide +kernel
theorem dX6_lift_15 : decode cX6_lift 15 = .ok (.getfield 26, 3) := by decide +kernel
theorem dX6_lift_18 : decode cX6_lift 18 = .ok (.aload_n 0, 1) := by decide +kernel
theorem dX6_lift_19 : decode cX6_lift 19 = .ok (.getfield 33, 3) := by decide +kernel
theorem dX6_lift_22 : decode cX6_lift 22 = .ok (.invokevirtual 378, 3) := by decide +kernel
theorem dX6_lift_25 : decode cX6_lift 25 = .ok (.aload_n 3, 1) := by decide +kernel
theorem dX6_lift_26 : decode cX6_lift 26 = .ok (.iload_n 2, 1) := by decide +kernel
theorem dX6_lift_27 : decode cX6_lift 27 = .ok (.invokevirtual 384, 3) := by decide +kernel
theorem dX6_lift_30 : decode cX6_lift 30 = .ok (.ireturn, 1) := by decide +kernel
theorem dX6_put_0 : decode cX6_put 0 = .ok (.aload_n 0, 1) := by decide +kernel
theorem dX6_put_1 : decode cX6_put 1 = .ok (.iload_n 1, 1) := by decide +kernel
theorem dX6_put_2 : decode cX6_put 2 = .ok (.invokevirtual 172, 3) := by decide +kernel
theorem dX6_put_5 : decode cX6_put 5 = .ok (.astore_n 3, 1) := by decide +kernel
theorem dX6_put_6 : decode cX6_put 6 = .ok (.aload_n 0, 1) := by decide +kernel
theorem dX6_put_7 : decode cX6_put 7 = .ok (.iload_n 2, 1) := by decide +kernel
theorem dX6_put_8 : decode cX6_put 8 = .ok (.invokevirtual 219, 3) := by decide +kernel
theorem dX6_put_11 : decode cX6_put 11 = .ok (.aload_n 0, 1) := by decide +kernel
theorem dX6_put_12 : decode cX6_put 12 = .ok (.aload_n 3, 1) := by decide +kernel
theorem dX6_put_13 : decode cX6_put 13 = .ok (.iload_n 2, 1) := by decide +kernel
theorem dX6_put_14 : decode cX6_put 14 = .ok (.invokevirtual 325, 3) := by decide +kernel
theorem dX6_put_17 : decode cX6_put 17 = .ok (.ifCond .ne 14, 3) := by decide +kernel
theorem dX6_put_20 : decode cX6_put 20 = .ok (.new 84, 3) := by decide +kernel
theorem dX6_put_23 : decode cX6_put 23 = .ok (.dup, 1) := by decide +kernel
theorem dX6_put_24 : decode cX6_put 24 = .ok (.ldc_w 387, 3) := by decide +kernel
theorem dX6_put_27 : decode cX6_put 27 = .ok (.invokespecial 88, 3) := by decide +kernel
theorem dX6_put_30 : decode cX6_put 30 = .ok (.athrow, 1) := by decide +kernel
theorem dX6_put_31 : decode cX6_put 31 = .ok (.aload_n 0, 1) := by decide +kernel
theorem dX6_put_32 : decode cX6_put 32 = .ok (.getfield 26, 3) := by decide +kernel
theorem dX6_put_35 : decode cX6_put 35 = .ok (.aload_n 0, 1) := by decide +kernel
theorem dX6_put_36 : decode cX6_put 36 = .ok (.getfield 33, 3) := by decide +kernel
theorem dX6_put_39 : decode cX6_put 39 = .ok (.invokevirtual 378, 3) := by decide +kernel
theorem dX6_put_42 : decode cX6_put 42 = .ok (.aload_n 0, 1) := by decide +kernel
theorem dX6_put_43 : decode cX6_put 43 = .ok (.getfield 33, 3) := by decide +kernel
theorem dX6_put_46 : decode cX6_put 46 = .ok (.aload_n 0, 1) := by decide +kernel
theorem dX6_put_47 : decode cX6_put 47 = .ok (.getfield 58, 3) := by decide +kernel
theorem dX6_put_50 : decode cX6_put 50 = .ok (.aload_n 3, 1) := by decide +kernel
theorem dX6_put_51 : decode cX6_put 51 = .ok (.iload_n 2, 1) := by decide +kernel
theorem dX6_put_52 : decode cX6_put 52 = .ok (.invokevirtual 389, 3) := by decide +kernel
theorem dX6_put_55 : decode cX6_put 55 = .ok (.aload_n 3, 1) := by decide +kernel
theorem dX6_put_56 : decode cX6_put 56 = .ok (.aload_n 0, 1) := by decide +kernel
theorem dX6_put_57 : decode cX6_put 57 = .ok (.getfield 58, 3) := by decide +kernel
theorem dX6_put_60 : decode cX6_put 60 = .ok (.invokevirtual 184, 3) := by decide +kernel
theorem dX6_put_63 : decode cX6_put 63 = .ok (.ireturn, 1) := by decide +kernel
theorem dX6_take_0 : decode cX6_take 0 = .ok (.aload_n 0, 1) := by decide +kernel
theorem dX6_take_1 : decode cX6_take 1 = .ok (.iload_n 1, 1) := by decide +kernel
theorem dX6_take_2 : decode cX6_take 2 = .ok (.invokevirtual 172, 3) := by decide +kernel
theorem dX6_take_5 : decode cX6_take 5 = .ok (.astore_n 3, 1) := by decide +kernel
theorem dX6_take_6 : decode cX6_take 6 = .ok (.iload_n 2, 1) := by decide +kernel
theorem dX6_take_7 : decode cX6_take 7 = .ok (.aload_n 3, 1) := by decide +kernel
theorem dX6_take_8 : decode cX6_take 8 = .ok (.getfield 181, 3) := by decide +kernel
theorem dX6_take_11 : decode cX6_take 11 = .ok (.invokestatic 208, 3) := by decide +kernel
theorem dX6_take_14 : decode cX6_take 14 = .ok (.aload_n 0, 1) := by decide +kernel
theorem dX6_take_15 : decode cX6_take 15 = .ok (.getfield 26, 3) := by decide +kernel
theorem dX6_take_18 : decode cX6_take 18 = .ok (.aload_n 0, 1) := by decide +kernel
theorem dX6_take_19 : decode cX6_take 19 = .ok (.getfield 33, 3) := by decide +kernel
theorem dX6_take_22 : decode cX6_take 22 = .ok (.invokevirtual 378, 3) := by decide +kernel
theorem dX6_take_25 : decode cX6_take 25 = .ok (.aload_n 0, 1) := by decide +kernel
theorem dX6_take_26 : decode cX6_take 26 = .ok (.getfield 33, 3) := by decide +kernel
theorem dX6_take_29 : decode cX6_take 29 = .ok (.aload_n 0, 1) := by decide +kernel
theorem dX6_take_30 : decode cX6_take 30 = .ok (.getfield 58, 3) := by decide +kernel
theorem dX6_take_33 : decode cX6_take 33 = .ok (.aload_n 3, 1) := by decide +kernel
theorem dX6_take_34 : decode cX6_take 34 = .ok (.iload_n 2, 1) := by decide +kernel
theorem dX6_take_35 : decode cX6_take 35 = .ok (.invokevirtual 393, 3) := by decide +kernel
theorem dX6_take_38 : decode cX6_take 38 = .ok (.ireturn, 1) := by decide +kernel
theorem dX6_quoin_0 : decode cX6_quoin 0 = .ok (.aload_n 0, 1) := by decide +kernel
theorem dX6_quoin_1 : decode cX6_quoin 1 = .ok (.iload_n 1, 1) := by decide +kernel
theorem dX6_quoin_2 : decode cX6_quoin 2 = .ok (.invokevirtual 172, 3) := by decide +kernel
theorem dX6_quoin_5 : decode cX6_quoin 5 = .ok (.astore_n 3, 1) := by decide +kernel
theorem dX6_quoin_6 : decode cX6_quoin 6 = .ok (.aload_n 3, 1) := by decide +kernel
theorem dX6_quoin_7 : decode cX6_quoin 7 = .ok (.invokevirtual 199, 3) := by decide +kernel
theorem dX6_quoin_10 : decode cX6_quoin 10 = .ok (.iload_n 2, 1) := by decide +kernel
