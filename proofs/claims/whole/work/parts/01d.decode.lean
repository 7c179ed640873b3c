theorem dX6_fewestWith_5 : decode cX6_fewestWith 5 = .ok (.iload_n 2, 1) := by decide +kernel
theorem dX6_fewestWith_6 : decode cX6_fewestWith 6 = .ok (.invokevirtual 314, 3) := by decide +kernel
theorem dX6_fewestWith_9 : decode cX6_fewestWith 9 = .ok (.ifCond .ne 5, 3) := by decide +kernel
theorem dX6_fewestWith_12 : decode cX6_fewestWith 12 = .ok (.iconst (-1), 1) := by decide +kernel
theorem dX6_fewestWith_13 : decode cX6_fewestWith 13 = .ok (.ireturn, 1) := by decide +kernel
theorem dX6_fewestWith_14 : decode cX6_fewestWith 14 = .ok (.aload_n 0, 1) := by decide +kernel
theorem dX6_fewestWith_15 : decode cX6_fewestWith 15 = .ok (.getfield 19, 3) := by decide +kernel
theorem dX6_fewestWith_18 : decode cX6_fewestWith 18 = .ok (.aload_n 0, 1) := by decide +kernel
theorem dX6_fewestWith_19 : decode cX6_fewestWith 19 = .ok (.getfield 58, 3) := by decide +kernel
theorem dX6_fewestWith_22 : decode cX6_fewestWith 22 = .ok (.aload_n 1, 1) := by decide +kernel
theorem dX6_fewestWith_23 : decode cX6_fewestWith 23 = .ok (.aload_n 0, 1) := by decide +kernel
theorem dX6_fewestWith_24 : decode cX6_fewestWith 24 = .ok (.getfield 58, 3) := by decide +kernel
theorem dX6_fewestWith_27 : decode cX6_fewestWith 27 = .ok (.invokevirtual 281, 3) := by decide +kernel
theorem dX6_fewestWith_30 : decode cX6_fewestWith 30 = .ok (.iload_n 2, 1) := by decide +kernel
theorem dX6_fewestWith_31 : decode cX6_fewestWith 31 = .ok (.isub, 1) := by decide +kernel
theorem dX6_fewestWith_32 : decode cX6_fewestWith 32 = .ok (.aload_n 0, 1) := by decide +kernel
theorem dX6_fewestWith_33 : decode cX6_fewestWith 33 = .ok (.getfield 33, 3) := by decide +kernel
theorem dX6_fewestWith_36 : decode cX6_fewestWith 36 = .ok (.aload_n 1, 1) := by decide +kernel
theorem dX6_fewestWith_37 : decode cX6_fewestWith 37 = .ok (.invokevirtual 284, 3) := by decide +kernel
theorem dX6_fewestWith_40 : decode cX6_fewestWith 40 = .ok (.invokevirtual 318, 3) := by decide +kernel
theorem dX6_fewestWith_43 : decode cX6_fewestWith 43 = .ok (.istore_n 3, 1) := by decide +kernel
theorem dX6_fewestWith_44 : decode cX6_fewestWith 44 = .ok (.iload_n 3, 1) := by decide +kernel
theorem dX6_fewestWith_45 : decode cX6_fewestWith 45 = .ok (.ifCond .eq 13, 3) := by decide +kernel
theorem dX6_fewestWith_48 : decode cX6_fewestWith 48 = .ok (.aload_n 0, 1) := by decide +kernel
theorem dX6_fewestWith_49 : decode cX6_fewestWith 49 = .ok (.getfield 19, 3) := by decide +kernel
theorem dX6_fewestWith_52 : decode cX6_fewestWith 52 = .ok (.getfield 265, 3) := by decide +kernel
theorem dX6_fewestWith_55 : decode cX6_fewestWith 55 = .ok (.goto 4, 3) := by decide +kernel
theorem dX6_fewestWith_58 : decode cX6_fewestWith 58 = .ok (.iconst (-1), 1) := by decide +kernel
theorem dX6_fewestWith_59 : decode cX6_fewestWith 59 = .ok (.ireturn, 1) := by decide +kernel
theorem dX6_missing_0 : decode cX6_missing 0 = .ok (.aload_n 0, 1) := by decide +kernel
theorem dX6_missing_1 : decode cX6_missing 1 = .ok (.iload_n 1, 1) := by decide +kernel
theorem dX6_missing_2 : decode cX6_missing 2 = .ok (.invokevirtual 172, 3) := by decide +kernel
theorem dX6_missing_5 : decode cX6_missing 5 = .ok (.astore_n 2, 1) := by decide +kernel
theorem dX6_missing_6 : decode cX6_missing 6 = .ok (.aload_n 0, 1) := by decide +kernel
theorem dX6_missing_7 : decode cX6_missing 7 = .ok (.aload_n 0, 1) := by decide +kernel
theorem dX6_missing_8 : decode cX6_missing 8 = .ok (.getfield 33, 3) := by decide +kernel
theorem dX6_missing_11 : decode cX6_missing 11 = .ok (.aload_n 2, 1) := by decide +kernel
theorem dX6_missing_12 : decode cX6_missing 12 = .ok (.invokevirtual 261, 3) := by decide +kernel
theorem dX6_missing_15 : decode cX6_missing 15 = .ok (.ifCond .eq 5, 3) := by decide +kernel
theorem dX6_missing_18 : decode cX6_missing 18 = .ok (.iconst (-1), 1) := by decide +kernel
theorem dX6_missing_19 : decode cX6_missing 19 = .ok (.ireturn, 1) := by decide +kernel
theorem dX6_missing_20 : decode cX6_missing 20 = .ok (.aload_n 0, 1) := by decide +kernel
theorem dX6_missing_21 : decode cX6_missing 21 = .ok (.getfield 19, 3) := by decide +kernel
theorem dX6_missing_24 : decode cX6_missing 24 = .ok (.aload_n 0, 1) := by decide +kernel
theorem dX6_missing_25 : decode cX6_missing 25 = .ok (.getfield 58, 3) := by decide +kernel
theorem dX6_missing_28 : decode cX6_missing 28 = .ok (.aload_n 2, 1) := by decide +kernel
theorem dX6_missing_29 : decode cX6_missing 29 = .ok (.aload_n 0, 1) := by decide +kernel
theorem dX6_missing_30 : decode cX6_missing 30 = .ok (.getfield 58, 3) := by decide +kernel
theorem dX6_missing_33 : decode cX6_missing 33 = .ok (.invokevirtual 281, 3) := by decide +kernel
theorem dX6_missing_36 : decode cX6_missing 36 = .ok (.aload_n 0, 1) := by decide +kernel
theorem dX6_missing_37 : decode cX6_missing 37 = .ok (.getfield 33, 3) := by decide +kernel
theorem dX6_missing_40 : decode cX6_missing 40 = .ok (.aload_n 2, 1) := by decide +kernel
theorem dX6_missing_41 : decode cX6_missing 41 = .ok (.invokevirtual 284, 3) := by decide +kernel
theorem dX6_missing_44 : decode cX6_missing 44 = .ok (.invokevirtual 322, 3) := by decide +kernel
theorem dX6_missing_47 : decode cX6_missing 47 = .ok (.ireturn, 1) := by decide +kernel
theorem dX6_canPut_0 : decode cX6_canPut 0 = .ok (.aload_n 0, 1) := by decide +kernel
theorem dX6_canPut_1 : decode cX6_canPut 1 = .ok (.iload_n 1, 1) := by decide +kernel
theorem dX6_canPut_2 : decode cX6_canPut 2 = .ok (.invokevirtual 172, 3) := by decide +kernel
theorem dX6_canPut_5 : decode cX6_canPut 5 = .ok (.astore_n 3, 1) := by decide +kernel
theorem dX6_canPut_6 : decode cX6_canPut 6 = .ok (.aload_n 0, 1) := by decide +kernel
theorem dX6_canPut_7 : decode cX6_canPut 7 = .ok (.iload_n 2, 1) := by decide +kernel
theorem dX6_canPut_8 : decode cX6_canPut 8 = .ok (.invokevirtual 219, 3) := by decide +kernel
theorem dX6_canPut_11 : decode cX6_canPut 11 = .ok (.aload_n 0, 1) := by decide +kernel
theorem dX6_canPut_12 : decode cX6_canPut 12 = .ok (.aload_n 3, 1) := by decide +kernel
theorem dX6_canPut_13 : decode cX6_canPut 13 = .ok (.iload_n 2, 1) := by decide +kernel
theorem dX6_canPut_14 : decode cX6_canPut 14 = .ok (.invokevirtual 325, 3) := by decide +kernel
theorem dX6_canPut_17 : decode cX6_canPut 17 = .ok (.ireturn, 1) := by decide +kernel
theorem dX6_takesPiece_0 : decode cX6_takesPiece 0 = .ok (.aload_n 0, 1) := by decide +kernel
theorem dX6_takesPiece_1 : decode cX6_takesPiece 1 = .ok (.getfield 33, 3) := by decide +kernel
theorem dX6_takesPiece_4 : decode cX6_takesPiece 4 = .ok (.getfield 230, 3) := by decide +kernel
theorem dX6_takesPiece_7 : decode cX6_takesPiece 7 = .ok (.iload_n 2, 1) := by decide +kernel
theorem dX6_takesPiece_8 : decode cX6_takesPiece 8 = .ok (.iaload, 1) := by decide +kernel
theorem dX6_takesPiece_9 : decode cX6_takesPiece 9 = .ok (.ifCond .le 27, 3) := by decide +kernel
theorem dX6_takesPiece_12 : decode cX6_takesPiece 12 = .ok (.aload_n 0, 1) := by decide +kernel
theorem dX6_takesPiece_13 : decode cX6_takesPiece 13 = .ok (.getfield 58, 3) := by decide +kernel
theorem dX6_takesPiece_16 : decode cX6_takesPiece 16 = .ok (.getfield 226, 3) := by decide +kernel
theorem dX6_takesPiece_19 : decode cX6_takesPiece 19 = .ok (.iload_n 2, 1) := by decide +kernel
theorem dX6_takesPiece_20 : decode cX6_takesPiece 20 = .ok (.iaload, 1) := by decide +kernel
theorem dX6_takesPiece_21 : decode cX6_takesPiece 21 = .ok (.aload_n 1, 1) := by decide +kernel
theorem dX6_takesPiece_22 : decode cX6_takesPiece 22 = .ok (.aload_n 0, 1) := by decide +kernel
theorem dX6_takesPiece_23 : decode cX6_takesPiece 23 = .ok (.getfield 58, 3) := by decide +kernel
theorem dX6_takesPiece_26 : decode cX6_takesPiece 26 = .ok (.invokevirtual 184, 3) := by decide +kernel
theorem dX6_takesPiece_29 : decode cX6_takesPiece 29 = .ok (.if_icmp .gt 7, 3) := by decide +kernel
theorem dX6_takesPiece_32 : decode cX6_takesPiece 32 = .ok (.iconst 1, 1) := by decide +kernel
theorem dX6_takesPiece_33 : decode cX6_takesPiece 33 = .ok (.goto 4, 3) := by decide +kernel
theorem dX6_takesPiece_36 : decode cX6_takesPiece 36 = .ok (.iconst 0, 1) := by decide +kernel
theorem dX6_takesPiece_37 : decode cX6_takesPiece 37 = .ok (.ireturn, 1) := by decide +kernel
theorem dX6_freshChoice_0 : decode cX6_freshChoice 0 = .ok (.aload_n 0, 1) := by decide +kernel
theorem dX6_freshChoice_1 : decode cX6_freshChoice 1 = .ok (.iload_n 1, 1) := by decide +kernel
theorem dX6_freshChoice_2 : decode cX6_freshChoice 2 = .ok (.invokevirtual 172, 3) := by decide +kernel
theorem dX6_freshChoice_5 : decode cX6_freshChoice 5 = .ok (.pop, 1) := by decide +kernel
theorem dX6_freshChoice_6 : decode cX6_freshChoice 6 = .ok (.aload_n 0, 1) := by decide +kernel
theorem dX6_freshChoice_7 : decode cX6_freshChoice 7 = .ok (.getfield 37, 3) := by decide +kernel
theorem dX6_freshChoice_10 : decode cX6_freshChoice 10 = .ok (.aload_n 0, 1) := by decide +kernel
theorem dX6_freshChoice_11 : decode cX6_freshChoice 11 = .ok (.getfield 33, 3) := by decide +kernel
theorem dX6_freshChoice_14 : decode cX6_freshChoice 14 = .ok (.invokevirtual 95, 3) := by decide +kernel
theorem dX6_freshChoice_17 : decode cX6_freshChoice 17 = .ok (.aload_n 0, 1) := by decide +kernel
theorem dX6_freshChoice_18 : decode cX6_freshChoice 18 = .ok (.getfield 37, 3) := by decide +kernel
theorem dX6_freshChoice_21 : decode cX6_freshChoice 21 = .ok (.iload_n 1, 1) := by decide +kernel
theorem dX6_freshChoice_22 : decode cX6_freshChoice 22 = .ok (.invokevirtual 329, 3) := by decide +kernel
theorem dX6_freshChoice_25 : decode cX6_freshChoice 25 = .ok (.aload_n 0, 1) := by decide +kernel
theorem dX6_freshChoice_26 : decode cX6_freshChoice 26 = .ok (.aload_n 0, 1) := by decide +kernel
theorem dX6_freshChoice_27 : decode cX6_freshChoice 27 = .ok (.getfield 37, 3) := by decide +kernel
theorem dX6_freshChoice_30 : decode cX6_freshChoice 30 = .ok (.aload_n 0, 1) := by decide +kernel
theorem dX6_freshChoice_31 : decode cX6_freshChoice 31 = .ok (.getfield 37, 3) := by decide +kernel
theorem dX6_freshChoice_34 : decode cX6_freshChoice 34 = .ok (.getfield 246, 3) := by decide +kernel
theorem dX6_freshChoice_37 : decode cX6_freshChoice 37 = .ok (.iload_n 1, 1) := by decide +kernel
theorem dX6_freshChoice_38 : decode cX6_freshChoice 38 = .ok (.aaload, 1) := by decide +kernel
theorem dX6_freshChoice_39 : decode cX6_freshChoice 39 = .ok (.invokevirtual 261, 3) := by decide +kernel
theorem dX6_freshChoice_42 : decode cX6_freshChoice 42 = .ok (.ifCond .eq 13, 3) := by decide +kernel
theorem dX6_freshChoice_45 : decode cX6_freshChoice 45 = .ok (.aload_n 0, 1) := by decide +kernel
theorem dX6_freshChoice_46 : decode cX6_freshChoice 46 = .ok (.getfield 19, 3) := by decide +kernel
theorem dX6_freshChoice_49 : decode cX6_freshChoice 49 = .ok (.getfield 265, 3) := by decide +kernel
theorem dX6_freshChoice_52 : decode cX6_freshChoice 52 = .ok (.goto 4, 3) := by decide +kernel
theorem dX6_freshChoice_55 : decode cX6_freshChoice 55 = .ok (.iconst (-1), 1) := by decide +kernel
theorem dX6_freshChoice_56 : decode cX6_freshChoice 56 = .ok (.ireturn, 1) := by decide +kernel
theorem dX6_fillable_0 : decode cX6_fillable 0 = .ok (.aload_n 0, 1) := by decide +kernel
theorem dX6_fillable_1 : decode cX6_fillable 1 = .ok (.invokevirtual 112, 3) := by decide +kernel
theorem dX6_fillable_4 : decode cX6_fillable 4 = .ok (.iload_n 1, 1) := by decide +kernel
theorem dX6_fillable_5 : decode cX6_fillable 5 = .ok (.ifCond .lt 14, 3) := by decide +kernel
theorem dX6_fillable_8 : decode cX6_fillable 8 = .ok (.iload_n 1, 1) := by decide +kernel
theorem dX6_fillable_9 : decode cX6_fillable 9 = .ok (.aload_n 0, 1) := by decide +kernel
theorem dX6_fillable_10 : decode cX6_fillable 10 = .ok (.getfield 58, 3) := by decide +kernel
theorem dX6_fillable_13 : decode cX6_fillable 13 = .ok (.getfield 152, 3) := by decide +kernel
theorem dX6_fillable_16 : decode cX6_fillable 16 = .ok (.if_icmp .le 14, 3) := by decide +kernel
theorem dX6_fillable_19 : decode cX6_fillable 19 = .ok (.new 84, 3) := by decide +kernel
theorem dX6_fillable_22 : decode cX6_fillable 22 = .ok (.dup, 1) := by decide +kernel
theorem dX6_fillable_23 : decode cX6_fillable 23 = .ok (.ldc_w 332, 3) := by decide +kernel
theorem dX6_fillable_26 : decode cX6_fillable 26 = .ok (.invokespecial 88, 3) := by decide +kernel
theorem dX6_fillable_29 : decode cX6_fillable 29 = .ok (.athrow, 1) := by decide +kernel
theorem dX6_fillable_30 : decode cX6_fillable 30 = .ok (.aload_n 0, 1) := by decide +kernel
theorem dX6_fillable_31 : decode cX6_fillable 31 = .ok (.getfield 19, 3) := by decide +kernel
theorem dX6_fillable_34 : decode cX6_fillable 34 = .ok (.aload_n 0, 1) := by decide +kernel
theorem dX6_fillable_35 : decode cX6_fillable 35 = .ok (.getfield 33, 3) := by decide +kernel
theorem dX6_fillable_38 : decode cX6_fillable 38 = .ok (.invokevirtual 278, 3) := by decide +kernel
theorem dX6_fillable_41 : decode cX6_fillable 41 = .ok (.aload_n 0, 1) := by decide +kernel
theorem dX6_fillable_42 : decode cX6_fillable 42 = .ok (.getfield 19, 3) := by decide +kernel
theorem dX6_fillable_45 : decode cX6_fillable 45 = .ok (.aload_n 0, 1) := by decide +kernel
theorem dX6_fillable_46 : decode cX6_fillable 46 = .ok (.getfield 58, 3) := by decide +kernel
theorem dX6_fillable_49 : decode cX6_fillable 49 = .ok (.invokevirtual 292, 3) := by decide +kernel
theorem dX6_fillable_52 : decode cX6_fillable 52 = .ok (.iconst 0, 1) := by decide +kernel
theorem dX6_fillable_53 : decode cX6_fillable 53 = .ok (.istore_n 2, 1) := by decide +kernel
theorem dX6_fillable_54 : decode cX6_fillable 54 = .ok (.iconst 0, 1) := by decide +kernel
theorem dX6_fillable_55 : decode cX6_fillable 55 = .ok (.istore_n 3, 1) := by decide +kernel
theorem dX6_fillable_56 : decode cX6_fillable 56 = .ok (.iload_n 3, 1) := by decide +kernel
theorem dX6_fillable_57 : decode cX6_fillable 57 = .ok (.iload_n 1, 1) := by decide +kernel
theorem dX6_fillable_58 : decode cX6_fillable 58 = .ok (.if_icmp .gt 23, 3) := by decide +kernel
theorem dX6_fillable_61 : decode cX6_fillable 61 = .ok (.aload_n 0, 1) := by decide +kernel
theorem dX6_fillable_62 : decode cX6_fillable 62 = .ok (.getfield 19, 3) := by decide +kernel
theorem dX6_fillable_65 : decode cX6_fillable 65 = .ok (.iload_n 3, 1) := by decide +kernel
theorem dX6_fillable_66 : decode cX6_fillable 66 = .ok (.invokevirtual 296, 3) := by decide +kernel
theorem dX6_fillable_69 : decode cX6_fillable 69 = .ok (.ifCond .eq 6, 3) := by decide +kernel
theorem dX6_fillable_72 : decode cX6_fillable 72 = .ok (.iinc 2 1, 3) := by decide +kernel
theorem dX6_fillable_75 : decode cX6_fillable 75 = .ok (.iinc 3 1, 3) := by decide +kernel
theorem dX6_fillable_78 : decode cX6_fillable 78 = .ok (.goto (-22), 3) := by decide +kernel
theorem dX6_fillable_81 : decode cX6_fillable 81 = .ok (.iload_n 2, 1) := by decide +kernel
theorem dX6_fillable_82 : decode cX6_fillable 82 = .ok (.ireturn, 1) := by decide +kernel
theorem dX6_fallsIn_0 : decode cX6_fallsIn 0 = .ok (.aload_n 0, 1) := by decide +kernel
theorem dX6_fallsIn_1 : decode cX6_fallsIn 1 = .ok (.iload_n 1, 1) := by decide +kernel
theorem dX6_fallsIn_2 : decode cX6_fallsIn 2 = .ok (.invokevirtual 172, 3) := by decide +kernel
theorem dX6_fallsIn_5 : decode cX6_fallsIn 5 = .ok (.astore_n 3, 1) := by decide +kernel
theorem dX6_fallsIn_6 : decode cX6_fallsIn 6 = .ok (.aload_n 3, 1) := by decide +kernel
theorem dX6_fallsIn_7 : decode cX6_fallsIn 7 = .ok (.getfield 176, 3) := by decide +kernel
theorem dX6_fallsIn_10 : decode cX6_fallsIn 10 = .ok (.ifCond .ne 5, 3) := by decide +kernel
theorem dX6_fallsIn_13 : decode cX6_fallsIn 13 = .ok (.iconst (-1), 1) := by decide +kernel
theorem dX6_fallsIn_14 : decode cX6_fallsIn 14 = .ok (.ireturn, 1) := by decide +kernel
theorem dX6_fallsIn_15 : decode cX6_fallsIn 15 = .ok (.iload_n 2, 1) := by decide +kernel
theorem dX6_fallsIn_16 : decode cX6_fallsIn 16 = .ok (.ifCond .eq 14, 3) := by decide +kernel
theorem dX6_fallsIn_19 : decode cX6_fallsIn 19 = .ok (.aload_n 3, 1) := by decide +kernel
theorem dX6_fallsIn_20 : decode cX6_fallsIn 20 = .ok (.aload_n 0, 1) := by decide +kernel
theorem dX6_fallsIn_21 : decode cX6_fallsIn 21 = .ok (.getfield 58, 3) := by decide +kernel
theorem dX6_fallsIn_24 : decode cX6_fallsIn 24 = .ok (.invokevirtual 334, 3) := by decide +kernel
theorem dX6_fallsIn_27 : decode cX6_fallsIn 27 = .ok (.goto 11, 3) := by decide +kernel
theorem dX6_fallsIn_30 : decode cX6_fallsIn 30 = .ok (.aload_n 3, 1) := by decide +kernel
theorem dX6_fallsIn_31 : decode cX6_fallsIn 31 = .ok (.aload_n 0, 1) := by decide +kernel
theorem dX6_fallsIn_32 : decode cX6_fallsIn 32 = .ok (.getfield 58, 3) := by decide +kernel
theorem dX6_fallsIn_35 : decode cX6_fallsIn 35 = .ok (.invokevirtual 337, 3) := by decide +kernel
theorem dX6_fallsIn_38 : decode cX6_fallsIn 38 = .ok (.istore 4, 2) := by decide +kernel
theorem dX6_fallsIn_40 : decode cX6_fallsIn 40 = .ok (.aload_n 3, 1) := by decide +kernel
theorem dX6_fallsIn_41 : decode cX6_fallsIn 41 = .ok (.aload_n 0, 1) := by decide +kernel
theorem dX6_fallsIn_42 : decode cX6_fallsIn 42 = .ok (.getfield 58, 3) := by decide +kernel
theorem dX6_fallsIn_45 : decode cX6_fallsIn 45 = .ok (.invokevirtual 249, 3) := by decide +kernel
theorem dX6_fallsIn_48 : decode cX6_fallsIn 48 = .ok (.istore 5, 2) := by decide +kernel
theorem dX6_fallsIn_50 : decode cX6_fallsIn 50 = .ok (.iconst 1, 1) := by decide +kernel
theorem dX6_fallsIn_51 : decode cX6_fallsIn 51 = .ok (.istore 6, 2) := by decide +kernel
theorem dX6_fallsIn_53 : decode cX6_fallsIn 53 = .ok (.iload 6, 2) := by decide +kernel
theorem dX6_fallsIn_55 : decode cX6_fallsIn 55 = .ok (.sipush 200, 3) := by decide +kernel
theorem dX6_fallsIn_58 : decode cX6_fallsIn 58 = .ok (.if_icmp .gt 31, 3) := by decide +kernel
theorem dX6_fallsIn_61 : decode cX6_fallsIn 61 = .ok (.iload 5, 2) := by decide +kernel
theorem dX6_fallsIn_63 : decode cX6_fallsIn 63 = .ok (.iload 4, 2) := by decide +kernel
theorem dX6_fallsIn_65 : decode cX6_fallsIn 65 = .ok (.iadd, 1) := by decide +kernel
theorem dX6_fallsIn_66 : decode cX6_fallsIn 66 = .ok (.istore 5, 2) := by decide +kernel
theorem dX6_fallsIn_68 : decode cX6_fallsIn 68 = .ok (.iload 5, 2) := by decide +kernel
theorem dX6_fallsIn_70 : decode cX6_fallsIn 70 = .ok (.aload_n 0, 1) := by decide +kernel
theorem dX6_fallsIn_71 : decode cX6_fallsIn 71 = .ok (.getfield 58, 3) := by decide +kernel
theorem dX6_fallsIn_74 : decode cX6_fallsIn 74 = .ok (.getfield 167, 3) := by decide +kernel
theorem dX6_fallsIn_77 : decode cX6_fallsIn 77 = .ok (.if_icmp .le 6, 3) := by decide +kernel
theorem dX6_fallsIn_80 : decode cX6_fallsIn 80 = .ok (.iload 6, 2) := by decide +kernel
theorem dX6_fallsIn_82 : decode cX6_fallsIn 82 = .ok (.ireturn, 1) := by decide +kernel
theorem dX6_fallsIn_83 : decode cX6_fallsIn 83 = .ok (.iinc 6 1, 3) := by decide +kernel
theorem dX6_fallsIn_86 : decode cX6_fallsIn 86 = .ok (.goto (-33), 3) := by decide +kernel
theorem dX6_fallsIn_89 : decode cX6_fallsIn 89 = .ok (.iconst (-1), 1) := by decide +kernel
theorem dX6_fallsIn_90 : decode cX6_fallsIn 90 = .ok (.ireturn, 1) := by decide +kernel
theorem dX6_goodIn_0 : decode cX6_goodIn 0 = .ok (.aload_n 0, 1) := by decide +kernel
theorem dX6_goodIn_1 : decode cX6_goodIn 1 = .ok (.invokevirtual 112, 3) := by decide +kernel
theorem dX6_goodIn_4 : decode cX6_goodIn 4 = .ok (.iload_n 1, 1) := by decide +kernel
theorem dX6_goodIn_5 : decode cX6_goodIn 5 = .ok (.ifCond .lt 10, 3) := by decide +kernel
theorem dX6_goodIn_8 : decode cX6_goodIn 8 = .ok (.iload_n 1, 1) := by decide +kernel
theorem dX6_goodIn_9 : decode cX6_goodIn 9 = .ok (.sipush 200, 3) := by decide +kernel
theorem dX6_goodIn_12 : decode cX6_goodIn 12 = .ok (.if_icmp .le 14, 3) := by decide +kernel
theorem dX6_goodIn_15 : decode cX6_goodIn 15 = .ok (.new 84, 3) := by decide +kernel
theorem dX6_goodIn_18 : decode cX6_goodIn 18 = .ok (.dup, 1) := by decide +kernel
theorem dX6_goodIn_19 : decode cX6_goodIn 19 = .ok (.ldc_w 340, 3) := by decide +kernel
theorem dX6_goodIn_22 : decode cX6_goodIn 22 = .ok (.invokespecial 88, 3) := by decide +kernel
theorem dX6_goodIn_25 : decode cX6_goodIn 25 = .ok (.athrow, 1) := by decide +kernel
theorem dX6_goodIn_26 : decode cX6_goodIn 26 = .ok (.aload_n 0, 1) := by decide +kernel
theorem dX6_goodIn_27 : decode cX6_goodIn 27 = .ok (.getfield 37, 3) := by decide +kernel
theorem dX6_goodIn_30 : decode cX6_goodIn 30 = .ok (.aload_n 0, 1) := by decide +kernel
theorem dX6_goodIn_31 : decode cX6_goodIn 31 = .ok (.getfield 33, 3) := by decide +kernel
theorem dX6_goodIn_34 : decode cX6_goodIn 34 = .ok (.invokevirtual 95, 3) := by decide +kernel
theorem dX6_goodIn_37 : decode cX6_goodIn 37 = .ok (.aload_n 0, 1) := by decide +kernel
theorem dX6_goodIn_38 : decode cX6_goodIn 38 = .ok (.getfield 37, 3) := by decide +kernel
theorem dX6_goodIn_41 : decode cX6_goodIn 41 = .ok (.aload_n 0, 1) := by decide +kernel
theorem dX6_goodIn_42 : decode cX6_goodIn 42 = .ok (.getfield 58, 3) := by decide +kernel
theorem dX6_goodIn_45 : decode cX6_goodIn 45 = .ok (.iload_n 1, 1) := by decide +kernel
theorem dX6_goodIn_46 : decode cX6_goodIn 46 = .ok (.invokevirtual 342, 3) := by decide +kernel
theorem dX6_goodIn_49 : decode cX6_goodIn 49 = .ok (.ireturn, 1) := by decide +kernel
theorem dX6_lockable_0 : decode cX6_lockable 0 = .ok (.aload_n 0, 1) := by decide +kernel
theorem dX6_lockable_1 : decode cX6_lockable 1 = .ok (.invokevirtual 112, 3) := by decide +kernel
theorem dX6_lockable_4 : decode cX6_lockable 4 = .ok (.aload_n 0, 1) := by decide +kernel
theorem dX6_lockable_5 : decode cX6_lockable 5 = .ok (.getfield 19, 3) := by decide +kernel
theorem dX6_lockable_8 : decode cX6_lockable 8 = .ok (.aload_n 0, 1) := by decide +kernel
theorem dX6_lockable_9 : decode cX6_lockable 9 = .ok (.getfield 33, 3) := by decide +kernel
theorem dX6_lockable_12 : decode cX6_lockable 12 = .ok (.invokevirtual 278, 3) := by decide +kernel
theorem dX6_lockable_15 : decode cX6_lockable 15 = .ok (.aload_n 0, 1) := by decide +kernel
theorem dX6_lockable_16 : decode cX6_lockable 16 = .ok (.getfield 19, 3) := by decide +kernel
theorem dX6_lockable_19 : decode cX6_lockable 19 = .ok (.aload_n 0, 1) := by decide +kernel
theorem dX6_lockable_20 : decode cX6_lockable 20 = .ok (.getfield 58, 3) := by decide +kernel
theorem dX6_lockable_23 : decode cX6_lockable 23 = .ok (.invokevirtual 292, 3) := by decide +kernel
theorem dX6_lockable_26 : decode cX6_lockable 26 = .ok (.iconst 0, 1) := by decide +kernel
theorem dX6_lockable_27 : decode cX6_lockable 27 = .ok (.istore_n 1, 1) := by decide +kernel
theorem dX6_lockable_28 : decode cX6_lockable 28 = .ok (.iconst 0, 1) := by decide +kernel
theorem dX6_lockable_29 : decode cX6_lockable 29 = .ok (.istore_n 2, 1) := by decide +kernel
theorem dX6_lockable_30 : decode cX6_lockable 30 = .ok (.iload_n 2, 1) := by decide +kernel
theorem dX6_lockable_31 : decode cX6_lockable 31 = .ok (.aload_n 0, 1) := by decide +kernel
theorem dX6_lockable_32 : decode cX6_lockable 32 = .ok (.getfield 58, 3) := by decide +kernel
theorem dX6_lockable_35 : decode cX6_lockable 35 = .ok (.getfield 115, 3) := by decide +kernel
theorem dX6_lockable_38 : decode cX6_lockable 38 = .ok (.if_icmp .ge 55, 3) := by decide +kernel
theorem dX6_lockable_41 : decode cX6_lockable 41 = .ok (.aload_n 0, 1) := by decide +kernel
theorem dX6_lockable_42 : decode cX6_lockable 42 = .ok (.getfield 33, 3) := by decide +kernel
theorem dX6_lockable_45 : decode cX6_lockable 45 = .ok (.getfield 246, 3) := by decide +kernel
theorem dX6_lockable_48 : decode cX6_lockable 48 = .ok (.iload_n 2, 1) := by decide +kernel
theorem dX6_lockable_49 : decode cX6_lockable 49 = .ok (.aaload, 1) := by decide +kernel
theorem dX6_lockable_50 : decode cX6_lockable 50 = .ok (.astore_n 3, 1) := by decide +kernel
theorem dX6_lockable_51 : decode cX6_lockable 51 = .ok (.aload_n 0, 1) := by decide +kernel
theorem dX6_lockable_52 : decode cX6_lockable 52 = .ok (.getfield 19, 3) := by decide +kernel
theorem dX6_lockable_55 : decode cX6_lockable 55 = .ok (.aload_n 0, 1) := by decide +kernel
theorem dX6_lockable_56 : decode cX6_lockable 56 = .ok (.getfield 58, 3) := by decide +kernel
theorem dX6_lockable_59 : decode cX6_lockable 59 = .ok (.aload_n 3, 1) := by decide +kernel
theorem dX6_lockable_60 : decode cX6_lockable 60 = .ok (.aload_n 0, 1) := by decide +kernel
theorem dX6_lockable_61 : decode cX6_lockable 61 = .ok (.getfield 58, 3) := by decide +kernel
theorem dX6_lockable_64 : decode cX6_lockable 64 = .ok (.invokevirtual 281, 3) := by decide +kernel
theorem dX6_lockable_67 : decode cX6_lockable 67 = .ok (.aload_n 0, 1) := by decide +kernel
theorem dX6_lockable_68 : decode cX6_lockable 68 = .ok (.getfield 33, 3) := by decide +kernel
theorem dX6_lockable_71 : decode cX6_lockable 71 = .ok (.aload_n 3, 1) := by decide +kernel
theorem dX6_lockable_72 : decode cX6_lockable 72 = .ok (.invokevirtual 284, 3) := by decide +kernel
theorem dX6_lockable_75 : decode cX6_lockable 75 = .ok (.invokevirtual 318, 3) := by decide +kernel
theorem dX6_lockable_78 : decode cX6_lockable 78 = .ok (.ifCond .eq 9, 3) := by decide +kernel
theorem dX6_lockable_81 : decode cX6_lockable 81 = .ok (.iload_n 1, 1) := by decide +kernel
theorem dX6_lockable_82 : decode cX6_lockable 82 = .ok (.iconst 1, 1) := by decide +kernel
theorem dX6_lockable_83 : decode cX6_lockable 83 = .ok (.iload_n 2, 1) := by decide +kernel
theorem dX6_lockable_84 : decode cX6_lockable 84 = .ok (.ishl, 1) := by decide +kernel
theorem dX6_lockable_85 : decode cX6_lockable 85 = .ok (.ior, 1) := by decide +kernel
theorem dX6_lockable_86 : decode cX6_lockable 86 = .ok (.istore_n 1, 1) := by decide +kernel
theorem dX6_lockable_87 : decode cX6_lockable 87 = .ok (.iinc 2 1, 3) := by decide +kernel
theorem dX6_lockable_90 : decode cX6_lockable 90 = .ok (.goto (-60), 3) := by decide +kernel
theorem dX6_lockable_93 : decode cX6_lockable 93 = .ok (.iload_n 1, 1) := by decide +kernel
theorem dX6_lockable_94 : decode cX6_lockable 94 = .ok (.ireturn, 1) := by decide +kernel
theorem dX6_lockedAll_0 : decode cX6_lockedAll 0 = .ok (.aload_n 0, 1) := by decide +kernel
theorem dX6_lockedAll_1 : decode cX6_lockedAll 1 = .ok (.invokevirtual 112, 3) := by decide +kernel
theorem dX6_lockedAll_4 : decode cX6_lockedAll 4 = .ok (.aload_n 0, 1) := by decide +kernel
theorem dX6_lockedAll_5 : decode cX6_lockedAll 5 = .ok (.getfield 37, 3) := by decide +kernel
theorem dX6_lockedAll_8 : decode cX6_lockedAll 8 = .ok (.aload_n 0, 1) := by decide +kernel
theorem dX6_lockedAll_9 : decode cX6_lockedAll 9 = .ok (.getfield 33, 3) := by decide +kernel
theorem dX6_lockedAll_12 : decode cX6_lockedAll 12 = .ok (.invokevirtual 95, 3) := by decide +kernel
theorem dX6_lockedAll_15 : decode cX6_lockedAll 15 = .ok (.iconst 0, 1) := by decide +kernel
theorem dX6_lockedAll_16 : decode cX6_lockedAll 16 = .ok (.istore_n 1, 1) := by decide +kernel
theorem dX6_lockedAll_17 : decode cX6_lockedAll 17 = .ok (.iload_n 1, 1) := by decide +kernel
theorem dX6_lockedAll_18 : decode cX6_lockedAll 18 = .ok (.aload_n 0, 1) := by decide +kernel
theorem dX6_lockedAll_19 : decode cX6_lockedAll 19 = .ok (.getfield 58, 3) := by decide +kernel
theorem dX6_lockedAll_22 : decode cX6_lockedAll 22 = .ok (.getfield 115, 3) := by decide +kernel
theorem dX6_lockedAll_25 : decode cX6_lockedAll 25 = .ok (.if_icmp .ge 45, 3) := by decide +kernel
theorem dX6_lockedAll_28 : decode cX6_lockedAll 28 = .ok (.aload_n 0, 1) := by decide +kernel
theorem dX6_lockedAll_29 : decode cX6_lockedAll 29 = .ok (.aload_n 0, 1) := by decide +kernel
theorem dX6_lockedAll_30 : decode cX6_lockedAll 30 = .ok (.getfield 37, 3) := by decide +kernel
theorem dX6_lockedAll_33 : decode cX6_lockedAll 33 = .ok (.aload_n 0, 1) := by decide +kernel
theorem dX6_lockedAll_34 : decode cX6_lockedAll 34 = .ok (.getfield 37, 3) := by decide +kernel
theorem dX6_lockedAll_37 : decode cX6_lockedAll 37 = .ok (.getfield 246, 3) := by decide +kernel
theorem dX6_lockedAll_40 : decode cX6_lockedAll 40 = .ok (.iload_n 1, 1) := by decide +kernel
theorem dX6_lockedAll_41 : decode cX6_lockedAll 41 = .ok (.aaload, 1) := by decide +kernel
theorem dX6_lockedAll_42 : decode cX6_lockedAll 42 = .ok (.invokevirtual 261, 3) := by decide +kernel
theorem dX6_lockedAll_45 : decode cX6_lockedAll 45 = .ok (.ifCond .eq 19, 3) := by decide +kernel
theorem dX6_lockedAll_48 : decode cX6_lockedAll 48 = .ok (.aload_n 0, 1) := by decide +kernel
theorem dX6_lockedAll_49 : decode cX6_lockedAll 49 = .ok (.getfield 37, 3) := by decide +kernel
theorem dX6_lockedAll_52 : decode cX6_lockedAll 52 = .ok (.aload_n 0, 1) := by decide +kernel
theorem dX6_lockedAll_53 : decode cX6_lockedAll 53 = .ok (.getfield 58, 3) := by decide +kernel
theorem dX6_lockedAll_56 : decode cX6_lockedAll 56 = .ok (.iload_n 1, 1) := by decide +kernel
theorem dX6_lockedAll_57 : decode cX6_lockedAll 57 = .ok (.aload_n 0, 1) := by decide +kernel
theorem dX6_lockedAll_58 : decode cX6_lockedAll 58 = .ok (.getfield 19, 3) := by decide +kernel
theorem dX6_lockedAll_61 : decode cX6_lockedAll 61 = .ok (.invokevirtual 346, 3) := by decide +kernel
theorem dX6_lockedAll_64 : decode cX6_lockedAll 64 = .ok (.iinc 1 1, 3) := by decide +kernel
theorem dX6_lockedAll_67 : decode cX6_lockedAll 67 = .ok (.goto (-50), 3) := by decide +kernel
theorem dX6_lockedAll_70 : decode cX6_lockedAll 70 = .ok (.aload_n 0, 1) := by decide +kernel
theorem dX6_lockedAll_71 : decode cX6_lockedAll 71 = .ok (.getfield 37, 3) := by decide +kernel
theorem dX6_lockedAll_74 : decode cX6_lockedAll 74 = .ok (.aload_n 0, 1) := by decide +kernel
theorem dX6_lockedAll_75 : decode cX6_lockedAll 75 = .ok (.getfield 58, 3) := by decide +kernel
theorem dX6_lockedAll_78 : decode cX6_lockedAll 78 = .ok (.invokevirtual 128, 3) := by decide +kernel
theorem dX6_lockedAll_81 : decode cX6_lockedAll 81 = .ok (.ireturn, 1) := by decide +kernel
theorem dX6_solve_0 : decode cX6_solve 0 = .ok (.aload_n 0, 1) := by decide +kernel
theorem dX6_solve_1 : decode cX6_solve 1 = .ok (.getfield 19, 3) := by decide +kernel
theorem dX6_solve_4 : decode cX6_solve 4 = .ok (.aload_n 1, 1) := by decide +kernel
theorem dX6_solve_5 : decode cX6_solve 5 = .ok (.invokevirtual 278, 3) := by decide +kernel
theorem dX6_solve_8 : decode cX6_solve 8 = .ok (.aload_n 0, 1) := by decide +kernel
theorem dX6_solve_9 : decode cX6_solve 9 = .ok (.getfield 19, 3) := by decide +kernel
theorem dX6_solve_12 : decode cX6_solve 12 = .ok (.aload_n 0, 1) := by decide +kernel
theorem dX6_solve_13 : decode cX6_solve 13 = .ok (.getfield 58, 3) := by decide +kernel
theorem dX6_solve_16 : decode cX6_solve 16 = .ok (.invokevirtual 292, 3) := by decide +kernel
theorem dX6_solve_19 : decode cX6_solve 19 = .ok (.aload_n 0, 1) := by decide +kernel
theorem dX6_solve_20 : decode cX6_solve 20 = .ok (.getfield 19, 3) := by decide +kernel
theorem dX6_solve_23 : decode cX6_solve 23 = .ok (.aload_n 0, 1) := by decide +kernel
theorem dX6_solve_24 : decode cX6_solve 24 = .ok (.getfield 58, 3) := by decide +kernel
theorem dX6_solve_27 : decode cX6_solve 27 = .ok (.aload_n 2, 1) := by decide +kernel
theorem dX6_solve_28 : decode cX6_solve 28 = .ok (.aload_n 0, 1) := by decide +kernel
theorem dX6_solve_29 : decode cX6_solve 29 = .ok (.getfield 58, 3) := by decide +kernel
theorem dX6_solve_32 : decode cX6_solve 32 = .ok (.invokevirtual 281, 3) := by decide +kernel
theorem dX6_solve_35 : decode cX6_solve 35 = .ok (.aload_n 1, 1) := by decide +kernel
theorem dX6_solve_36 : decode cX6_solve 36 = .ok (.aload_n 2, 1) := by decide +kernel
theorem dX6_solve_37 : decode cX6_solve 37 = .ok (.invokevirtual 284, 3) := by decide +kernel
theorem dX6_solve_40 : decode cX6_solve 40 = .ok (.invokevirtual 318, 3) := by decide +kernel
theorem dX6_solve_43 : decode cX6_solve 43 = .ok (.ireturn, 1) := by decide +kernel
theorem dX6_writeRow_0 : decode cX6_writeRow 0 = .ok (.aload_n 0, 1) := by decide +kernel
theorem dX6_writeRow_1 : decode cX6_writeRow 1 = .ok (.iload_n 1, 1) := by decide +kernel
theorem dX6_writeRow_2 : decode cX6_writeRow 2 = .ok (.invokevirtual 172, 3) := by decide +kernel
theorem dX6_writeRow_5 : decode cX6_writeRow 5 = .ok (.astore_n 2, 1) := by decide +kernel
theorem dX6_writeRow_6 : decode cX6_writeRow 6 = .ok (.aload_n 0, 1) := by decide +kernel
theorem dX6_writeRow_7 : decode cX6_writeRow 7 = .ok (.getfield 51, 3) := by decide +kernel
theorem dX6_writeRow_10 : decode cX6_writeRow 10 = .ok (.iconst 0, 1) := by decide +kernel
theorem dX6_writeRow_11 : decode cX6_writeRow 11 = .ok (.invokevirtual 350, 3) := by decide +kernel
theorem dX6_writeRow_14 : decode cX6_writeRow 14 = .ok (.iconst 0, 1) := by decide +kernel
theorem dX6_writeRow_15 : decode cX6_writeRow 15 = .ok (.istore_n 3, 1) := by decide +kernel
theorem dX6_writeRow_16 : decode cX6_writeRow 16 = .ok (.iload_n 3, 1) := by decide +kernel
theorem dX6_writeRow_17 : decode cX6_writeRow 17 = .ok (.aload_n 2, 1) := by decide +kernel
theorem dX6_writeRow_18 : decode cX6_writeRow 18 = .ok (.getfield 176, 3) := by decide +kernel
theorem dX6_writeRow_21 : decode cX6_writeRow 21 = .ok (.if_icmp .ge 46, 3) := by decide +kernel
theorem dX6_writeRow_24 : decode cX6_writeRow 24 = .ok (.aload_n 0, 1) := by decide +kernel
theorem dX6_writeRow_25 : decode cX6_writeRow 25 = .ok (.invokevirtual 353, 3) := by decide +kernel
theorem dX6_writeRow_28 : decode cX6_writeRow 28 = .ok (.aload_n 0, 1) := by decide +kernel
theorem dX6_writeRow_29 : decode cX6_writeRow 29 = .ok (.getfield 51, 3) := by decide +kernel
theorem dX6_writeRow_32 : decode cX6_writeRow 32 = .ok (.bipush 91, 2) := by decide +kernel
theorem dX6_writeRow_34 : decode cX6_writeRow 34 = .ok (.invokevirtual 356, 3) := by decide +kernel
theorem dX6_writeRow_37 : decode cX6_writeRow 37 = .ok (.pop, 1) := by decide +kernel
theorem dX6_writeRow_38 : decode cX6_writeRow 38 = .ok (.aload_n 0, 1) := by decide +kernel
theorem dX6_writeRow_39 : decode cX6_writeRow 39 = .ok (.getfield 51, 3) := by decide +kernel
theorem dX6_writeRow_42 : decode cX6_writeRow 42 = .ok (.aload_n 2, 1) := by decide +kernel
theorem dX6_writeRow_43 : decode cX6_writeRow 43 = .ok (.iload_n 3, 1) := by decide +kernel
theorem dX6_writeRow_44 : decode cX6_writeRow 44 = .ok (.invokevirtual 212, 3) := by decide +kernel
theorem dX6_writeRow_47 : decode cX6_writeRow 47 = .ok (.invokevirtual 360, 3) := by decide +kernel
theorem dX6_writeRow_50 : decode cX6_writeRow 50 = .ok (.pop, 1) := by decide +kernel
theorem dX6_writeRow_51 : decode cX6_writeRow 51 = .ok (.aload_n 0, 1) := by decide +kernel
theorem dX6_writeRow_52 : decode cX6_writeRow 52 = .ok (.getfield 51, 3) := by decide +kernel
theorem dX6_writeRow_55 : decode cX6_writeRow 55 = .ok (.bipush 93, 2) := by decide +kernel
theorem dX6_writeRow_57 : decode cX6_writeRow 57 = .ok (.invokevirtual 356, 3) := by decide +kernel
theorem dX6_writeRow_60 : decode cX6_writeRow 60 = .ok (.pop, 1) := by decide +kernel
theorem dX6_writeRow_61 : decode cX6_writeRow 61 = .ok (.iinc 3 1, 3) := by decide +kernel
theorem dX6_writeRow_64 : decode cX6_writeRow 64 = .ok (.goto (-48), 3) := by decide +kernel
theorem dX6_writeRow_67 : decode cX6_writeRow 67 = .ok (.iconst 0, 1) := by decide +kernel
theorem dX6_writeRow_68 : decode cX6_writeRow 68 = .ok (.istore_n 3, 1) := by decide +kernel
theorem dX6_writeRow_69 : decode cX6_writeRow 69 = .ok (.iload_n 3, 1) := by decide +kernel
theorem dX6_writeRow_70 : decode cX6_writeRow 70 = .ok (.aload_n 2, 1) := by decide +kernel
theorem dX6_writeRow_71 : decode cX6_writeRow 71 = .ok (.getfield 181, 3) := by decide +kernel
theorem dX6_writeRow_74 : decode cX6_writeRow 74 = .ok (.if_icmp .ge 22, 3) := by decide +kernel
theorem dX6_writeRow_77 : decode cX6_writeRow 77 = .ok (.aload_n 0, 1) := by decide +kernel
theorem dX6_writeRow_78 : decode cX6_writeRow 78 = .ok (.invokevirtual 353, 3) := by decide +kernel
theorem dX6_writeRow_81 : decode cX6_writeRow 81 = .ok (.aload_n 0, 1) := by decide +kernel
theorem dX6_writeRow_82 : decode cX6_writeRow 82 = .ok (.aload_n 2, 1) := by decide +kernel
theorem dX6_writeRow_83 : decode cX6_writeRow 83 = .ok (.iload_n 3, 1) := by decide +kernel
theorem dX6_writeRow_84 : decode cX6_writeRow 84 = .ok (.invokevirtual 216, 3) := by decide +kernel
theorem dX6_writeRow_87 : decode cX6_writeRow 87 = .ok (.invokevirtual 363, 3) := by decide +kernel
theorem dX6_writeRow_90 : decode cX6_writeRow 90 = .ok (.iinc 3 1, 3) := by decide +kernel
theorem dX6_writeRow_93 : decode cX6_writeRow 93 = .ok (.goto (-24), 3) := by decide +kernel
theorem dX6_writeRow_96 : decode cX6_writeRow 96 = .ok (.aload_n 2, 1) := by decide +kernel
theorem dX6_writeRow_97 : decode cX6_writeRow 97 = .ok (.invokevirtual 199, 3) := by decide +kernel
theorem dX6_writeRow_100 : decode cX6_writeRow 100 = .ok (.ifCond .eq 11, 3) := by decide +kernel
theorem dX6_writeRow_103 : decode cX6_writeRow 103 = .ok (.aload_n 0, 1) := by decide +kernel
theorem dX6_writeRow_104 : decode cX6_writeRow 104 = .ok (.aload_n 2, 1) := by decide +kernel
theorem dX6_writeRow_105 : decode cX6_writeRow 105 = .ok (.getfield 187, 3) := by decide +kernel
theorem dX6_writeRow_108 : decode cX6_writeRow 108 = .ok (.invokevirtual 366, 3) := by decide +kernel
theorem dX6_writeRow_111 : decode cX6_writeRow 111 = .ok (.aload_n 0, 1) := by decide +kernel
theorem dX6_writeRow_112 : decode cX6_writeRow 112 = .ok (.getfield 51, 3) := by decide +kernel
theorem dX6_writeRow_115 : decode cX6_writeRow 115 = .ok (.invokevirtual 369, 3) := by decide +kernel
theorem dX6_writeRow_118 : decode cX6_writeRow 118 = .ok (.ireturn, 1) := by decide +kernel
theorem dX6_writeChoice_0 : decode cX6_writeChoice 0 = .ok (.aload_n 0, 1) := by decide +kernel
theorem dX6_writeChoice_1 : decode cX6_writeChoice 1 = .ok (.iload_n 1, 1) := by decide +kernel
theorem dX6_writeChoice_2 : decode cX6_writeChoice 2 = .ok (.invokevirtual 172, 3) := by decide +kernel
theorem dX6_writeChoice_5 : decode cX6_writeChoice 5 = .ok (.astore_n 2, 1) := by decide +kernel
theorem dX6_writeChoice_6 : decode cX6_writeChoice 6 = .ok (.aload_n 0, 1) := by decide +kernel
theorem dX6_writeChoice_7 : decode cX6_writeChoice 7 = .ok (.getfield 51, 3) := by decide +kernel
theorem dX6_writeChoice_10 : decode cX6_writeChoice 10 = .ok (.iconst 0, 1) := by decide +kernel
theorem dX6_writeChoice_11 : decode cX6_writeChoice 11 = .ok (.invokevirtual 350, 3) := by decide +kernel
theorem dX6_writeChoice_14 : decode cX6_writeChoice 14 = .ok (.aload_n 0, 1) := by decide +kernel
theorem dX6_writeChoice_15 : decode cX6_writeChoice 15 = .ok (.aload_n 0, 1) := by decide +kernel
theorem dX6_writeChoice_16 : decode cX6_writeChoice 16 = .ok (.getfield 33, 3) := by decide +kernel
theorem dX6_writeChoice_19 : decode cX6_writeChoice 19 = .ok (.aload_n 2, 1) := by decide +kernel
theorem dX6_writeChoice_20 : decode cX6_writeChoice 20 = .ok (.invokevirtual 261, 3) := by decide +kernel
theorem dX6_writeChoice_23 : decode cX6_writeChoice 23 = .ok (.ifCond .ne 21, 3) := by decide +kernel
theorem dX6_writeChoice_26 : decode cX6_writeChoice 26 = .ok (.aload_n 0, 1) := by decide +kernel
theorem dX6_writeChoice_27 : decode cX6_writeChoice 27 = .ok (.getfield 51, 3) := by decide +kernel
theorem dX6_writeChoice_30 : decode cX6_writeChoice 30 = .ok (.bipush 45, 2) := by decide +kernel
theorem dX6_writeChoice_32 : decode cX6_writeChoice 32 = .ok (.invokevirtual 356, 3) := by decide +kernel
theorem dX6_writeChoice_35 : decode cX6_writeChoice 35 = .ok (.pop, 1) := by decide +kernel
theorem dX6_writeChoice_36 : decode cX6_writeChoice 36 = .ok (.aload_n 0, 1) := by decide +kernel
theorem dX6_writeChoice_37 : decode cX6_writeChoice 37 = .ok (.getfield 51, 3) := by decide +kernel
theorem dX6_writeChoice_40 : decode cX6_writeChoice 40 = .ok (.invokevirtual 369, 3) := by decide +kernel
theorem dX6_writeChoice_43 : decode cX6_writeChoice 43 = .ok (.ireturn, 1) := by decide +kernel
theorem dX6_writeChoice_44 : decode cX6_writeChoice 44 = .ok (.iconst 0, 1) := by decide +kernel
theorem dX6_writeChoice_45 : decode cX6_writeChoice 45 = .ok (.istore_n 3, 1) := by decide +kernel
theorem dX6_writeChoice_46 : decode cX6_writeChoice 46 = .ok (.iload_n 3, 1) := by decide +kernel
theorem dX6_writeChoice_47 : decode cX6_writeChoice 47 = .ok (.aload_n 0, 1) := by decide +kernel
theorem dX6_writeChoice_48 : decode cX6_writeChoice 48 = .ok (.getfield 58, 3) := by decide +kernel
theorem dX6_writeChoice_51 : decode cX6_writeChoice 51 = .ok (.getfield 92, 3) := by decide +kernel
theorem dX6_writeChoice_54 : decode cX6_writeChoice 54 = .ok (.if_icmp .ge 71, 3) := by decide +kernel
theorem dX6_writeChoice_57 : decode cX6_writeChoice 57 = .ok (.aload_n 0, 1) := by decide +kernel
theorem dX6_writeChoice_58 : decode cX6_writeChoice 58 = .ok (.getfield 58, 3) := by decide +kernel
theorem dX6_writeChoice_61 : decode cX6_writeChoice 61 = .ok (.getfield 252, 3) := by decide +kernel
theorem dX6_writeChoice_64 : decode cX6_writeChoice 64 = .ok (.iload_n 3, 1) := by decide +kernel
theorem dX6_writeChoice_65 : decode cX6_writeChoice 65 = .ok (.iaload, 1) := by decide +kernel
theorem dX6_writeChoice_66 : decode cX6_writeChoice 66 = .ok (.istore 4, 2) := by decide +kernel
theorem dX6_writeChoice_68 : decode cX6_writeChoice 68 = .ok (.aload_n 0, 1) := by decide +kernel
theorem dX6_writeChoice_69 : decode cX6_writeChoice 69 = .ok (.getfield 19, 3) := by decide +kernel
theorem dX6_writeChoice_72 : decode cX6_writeChoice 72 = .ok (.getfield 275, 3) := by decide +kernel
theorem dX6_writeChoice_75 : decode cX6_writeChoice 75 = .ok (.iload 4, 2) := by decide +kernel
theorem dX6_writeChoice_77 : decode cX6_writeChoice 77 = .ok (.iaload, 1) := by decide +kernel
theorem dX6_writeChoice_78 : decode cX6_writeChoice 78 = .ok (.ifCond .le 41, 3) := by decide +kernel
theorem dX6_writeChoice_81 : decode cX6_writeChoice 81 = .ok (.aload_n 0, 1) := by decide +kernel
theorem dX6_writeChoice_82 : decode cX6_writeChoice 82 = .ok (.invokevirtual 353, 3) := by decide +kernel
theorem dX6_writeChoice_85 : decode cX6_writeChoice 85 = .ok (.aload_n 0, 1) := by decide +kernel
theorem dX6_writeChoice_86 : decode cX6_writeChoice 86 = .ok (.getfield 51, 3) := by decide +kernel
theorem dX6_writeChoice_89 : decode cX6_writeChoice 89 = .ok (.aload_n 0, 1) := by decide +kernel
theorem dX6_writeChoice_90 : decode cX6_writeChoice 90 = .ok (.getfield 19, 3) := by decide +kernel
theorem dX6_writeChoice_93 : decode cX6_writeChoice 93 = .ok (.getfield 275, 3) := by decide +kernel
theorem dX6_writeChoice_96 : decode cX6_writeChoice 96 = .ok (.iload 4, 2) := by decide +kernel
theorem dX6_writeChoice_98 : decode cX6_writeChoice 98 = .ok (.iaload, 1) := by decide +kernel
theorem dX6_writeChoice_99 : decode cX6_writeChoice 99 = .ok (.invokevirtual 360, 3) := by decide +kernel
theorem dX6_writeChoice_102 : decode cX6_writeChoice 102 = .ok (.pop, 1) := by decide +kernel
theorem dX6_writeChoice_103 : decode cX6_writeChoice 103 = .ok (.aload_n 0, 1) := by decide +kernel
theorem dX6_writeChoice_104 : decode cX6_writeChoice 104 = .ok (.getfield 51, 3) := by decide +kernel
theorem dX6_writeChoice_107 : decode cX6_writeChoice 107 = .ok (.bipush 120, 2) := by decide +kernel
theorem dX6_writeChoice_109 : decode cX6_writeChoice 109 = .ok (.invokevirtual 356, 3) := by decide +kernel
theorem dX6_writeChoice_112 : decode cX6_writeChoice 112 = .ok (.pop, 1) := by decide +kernel
theorem dX6_writeChoice_113 : decode cX6_writeChoice 113 = .ok (.aload_n 0, 1) := by decide +kernel
theorem dX6_writeChoice_114 : decode cX6_writeChoice 114 = .ok (.iload 4, 2) := by decide +kernel
theorem dX6_writeChoice_116 : decode cX6_writeChoice 116 = .ok (.invokevirtual 363, 3) := by decide +kernel
theorem dX6_writeChoice_119 : decode cX6_writeChoice 119 = .ok (.iinc 3 1, 3) := by decide +kernel
theorem dX6_writeChoice_122 : decode cX6_writeChoice 122 = .ok (.goto (-76), 3) := by decide +kernel
theorem dX6_writeChoice_125 : decode cX6_writeChoice 125 = .ok (.aload_n 0, 1) := by decide +kernel
theorem dX6_writeChoice_126 : decode cX6_writeChoice 126 = .ok (.getfield 19, 3) := by decide +kernel
theorem dX6_writeChoice_129 : decode cX6_writeChoice 129 = .ok (.getfield 268, 3) := by decide +kernel
theorem dX6_writeChoice_132 : decode cX6_writeChoice 132 = .ok (.iconst (-1), 1) := by decide +kernel
theorem dX6_writeChoice_133 : decode cX6_writeChoice 133 = .ok (.if_icmp .eq 14, 3) := by decide +kernel
theorem dX6_writeChoice_136 : decode cX6_writeChoice 136 = .ok (.aload_n 0, 1) := by decide +kernel
theorem dX6_writeChoice_137 : decode cX6_writeChoice 137 = .ok (.aload_n 0, 1) := by decide +kernel
theorem dX6_writeChoice_138 : decode cX6_writeChoice 138 = .ok (.getfield 19, 3) := by decide +kernel
theorem dX6_writeChoice_141 : decode cX6_writeChoice 141 = .ok (.getfield 268, 3) := by decide +kernel
theorem dX6_writeChoice_144 : decode cX6_writeChoice 144 = .ok (.invokevirtual 366, 3) := by decide +kernel
theorem dX6_writeChoice_147 : decode cX6_writeChoice 147 = .ok (.aload_n 0, 1) := by decide +kernel
theorem dX6_writeChoice_148 : decode cX6_writeChoice 148 = .ok (.getfield 51, 3) := by decide +kernel
theorem dX6_writeChoice_151 : decode cX6_writeChoice 151 = .ok (.invokevirtual 369, 3) := by decide +kernel
theorem dX6_writeChoice_154 : decode cX6_writeChoice 154 = .ok (.ireturn, 1) := by decide +kernel
theorem dX6_writeStock_0 : decode cX6_writeStock 0 = .ok (.aload_n 0, 1) := by decide +kernel
theorem dX6_writeStock_1 : decode cX6_writeStock 1 = .ok (.invokevirtual 112, 3) := by decide +kernel
theorem dX6_writeStock_4 : decode cX6_writeStock 4 = .ok (.aload_n 0, 1) := by decide +kernel
theorem dX6_writeStock_5 : decode cX6_writeStock 5 = .ok (.getfield 51, 3) := by decide +kernel
theorem dX6_writeStock_8 : decode cX6_writeStock 8 = .ok (.iconst 0, 1) := by decide +kernel
theorem dX6_writeStock_9 : decode cX6_writeStock 9 = .ok (.invokevirtual 350, 3) := by decide +kernel
theorem dX6_writeStock_12 : decode cX6_writeStock 12 = .ok (.iconst 0, 1) := by decide +kernel
theorem dX6_writeStock_13 : decode cX6_writeStock 13 = .ok (.istore_n 1, 1) := by decide +kernel
theorem dX6_writeStock_14 : decode cX6_writeStock 14 = .ok (.iload_n 1, 1) := by decide +kernel
theorem dX6_writeStock_15 : decode cX6_writeStock 15 = .ok (.aload_n 0, 1) := by decide +kernel
theorem dX6_writeStock_16 : decode cX6_writeStock 16 = .ok (.getfield 58, 3) := by decide +kernel
theorem dX6_writeStock_19 : decode cX6_writeStock 19 = .ok (.getfield 92, 3) := by decide +kernel
theorem dX6_writeStock_22 : decode cX6_writeStock 22 = .ok (.if_icmp .ge 55, 3) := by decide +kernel
theorem dX6_writeStock_25 : decode cX6_writeStock 25 = .ok (.iload_n 1, 1) := by decide +kernel
theorem dX6_writeStock_26 : decode cX6_writeStock 26 = .ok (.ifCond .le 13, 3) := by decide +kernel
theorem dX6_writeStock_29 : decode cX6_writeStock 29 = .ok (.aload_n 0, 1) := by decide +kernel
theorem dX6_writeStock_30 : decode cX6_writeStock 30 = .ok (.getfield 51, 3) := by decide +kernel
theorem dX6_writeStock_33 : decode cX6_writeStock 33 = .ok (.bipush 44, 2) := by decide +kernel
theorem dX6_writeStock_35 : decode cX6_writeStock 35 = .ok (.invokevirtual 356, 3) := by decide +kernel
theorem dX6_writeStock_38 : decode cX6_writeStock 38 = .ok (.pop, 1) := by decide +kernel
theorem dX6_writeStock_39 : decode cX6_writeStock 39 = .ok (.aload_n 0, 1) := by decide +kernel
theorem dX6_writeStock_40 : decode cX6_writeStock 40 = .ok (.iload_n 1, 1) := by decide +kernel
theorem dX6_writeStock_41 : decode cX6_writeStock 41 = .ok (.invokevirtual 363, 3) := by decide +kernel
theorem dX6_writeStock_44 : decode cX6_writeStock 44 = .ok (.aload_n 0, 1) := by decide +kernel
theorem dX6_writeStock_45 : decode cX6_writeStock 45 = .ok (.getfield 51, 3) := by decide +kernel
theorem dX6_writeStock_48 : decode cX6_writeStock 48 = .ok (.bipush 58, 2) := by decide +kernel
theorem dX6_writeStock_50 : decode cX6_writeStock 50 = .ok (.invokevirtual 356, 3) := by decide +kernel
theorem dX6_writeStock_53 : decode cX6_writeStock 53 = .ok (.pop, 1) := by decide +kernel
theorem dX6_writeStock_54 : decode cX6_writeStock 54 = .ok (.aload_n 0, 1) := by decide +kernel
theorem dX6_writeStock_55 : decode cX6_writeStock 55 = .ok (.getfield 51, 3) := by decide +kernel
theorem dX6_writeStock_58 : decode cX6_writeStock 58 = .ok (.aload_n 0, 1) := by decide +kernel
theorem dX6_writeStock_59 : decode cX6_writeStock 59 = .ok (.getfield 33, 3) := by decide +kernel
theorem dX6_writeStock_62 : decode cX6_writeStock 62 = .ok (.getfield 230, 3) := by decide +kernel
theorem dX6_writeStock_65 : decode cX6_writeStock 65 = .ok (.iload_n 1, 1) := by decide +kernel
theorem dX6_writeStock_66 : decode cX6_writeStock 66 = .ok (.iaload, 1) := by decide +kernel
theorem dX6_writeStock_67 : decode cX6_writeStock 67 = .ok (.invokevirtual 360, 3) := by decide +kernel
theorem dX6_writeStock_70 : decode cX6_writeStock 70 = .ok (.pop, 1) := by decide +kernel
theorem dX6_writeStock_71 : decode cX6_writeStock 71 = .ok (.iinc 1 1, 3) := by decide +kernel
theorem dX6_writeStock_74 : decode cX6_writeStock 74 = .ok (.goto (-60), 3) := by decide +kernel
theorem dX6_writeStock_77 : decode cX6_writeStock 77 = .ok (.aload_n 0, 1) := by decide +kernel
theorem dX6_writeStock_78 : decode cX6_writeStock 78 = .ok (.getfield 51, 3) := by decide +kernel
theorem dX6_writeStock_81 : decode cX6_writeStock 81 = .ok (.invokevirtual 369, 3) := by decide +kernel
theorem dX6_writeStock_84 : decode cX6_writeStock 84 = .ok (.ireturn, 1) := by decide +kernel
theorem dX6_textByte_0 : decode cX6_textByte 0 = .ok (.iload_n 1, 1) := by decide +kernel
theorem dX6_textByte_1 : decode cX6_textByte 1 = .ok (.aload_n 0, 1) := by decide +kernel
theorem dX6_textByte_2 : decode cX6_textByte 2 = .ok (.getfield 51, 3) := by decide +kernel
theorem dX6_textByte_5 : decode cX6_textByte 5 = .ok (.invokevirtual 369, 3) := by decide +kernel
theorem dX6_textByte_8 : decode cX6_textByte 8 = .ok (.invokestatic 208, 3) := by decide +kernel
theorem dX6_textByte_11 : decode cX6_textByte 11 = .ok (.aload_n 0, 1) := by decide +kernel
theorem dX6_textByte_12 : decode cX6_textByte 12 = .ok (.getfield 51, 3) := by decide +kernel
theorem dX6_textByte_15 : decode cX6_textByte 15 = .ok (.iload_n 1, 1) := by decide +kernel
theorem dX6_textByte_16 : decode cX6_textByte 16 = .ok (.invokevirtual 372, 3) := by decide +kernel
theorem dX6_textByte_19 : decode cX6_textByte 19 = .ok (.ireturn, 1) := by decide +kernel
theorem dX6_writeGapBefore_0 : decode cX6_writeGapBefore 0 = .ok (.aload_n 0, 1) := by decide +kernel
theorem dX6_writeGapBefore_1 : decode cX6_writeGapBefore 1 = .ok (.getfield 51, 3) := by decide +kernel
theorem dX6_writeGapBefore_4 : decode cX6_writeGapBefore 4 = .ok (.invokevirtual 369, 3) := by decide +kernel
theorem dX6_writeGapBefore_7 : decode cX6_writeGapBefore 7 = .ok (.ifCond .le 13, 3) := by decide +kernel
theorem dX6_writeGapBefore_10 : decode cX6_writeGapBefore 10 = .ok (.aload_n 0, 1) := by decide +kernel
theorem dX6_writeGapBefore_11 : decode cX6_writeGapBefore 11 = .ok (.getfield 51, 3) := by decide +kernel
theorem dX6_writeGapBefore_14 : decode cX6_writeGapBefore 14 = .ok (.bipush 32, 2) := by decide +kernel
theorem dX6_writeGapBefore_16 : decode cX6_writeGapBefore 16 = .ok (.invokevirtual 356, 3) := by decide +kernel
theorem dX6_writeGapBefore_19 : decode cX6_writeGapBefore 19 = .ok (.pop, 1) := by decide +kernel
theorem dX6_writeGapBefore_20 : decode cX6_writeGapBefore 20 = .ok (.return_, 1) := by decide +kernel
theorem dX6_writeKind_0 : decode cX6_writeKind 0 = .ok (.iload_n 1, 1) := by decide +kernel
theorem dX6_writeKind_1 : decode cX6_writeKind 1 = .ok (.ifCond .lt 58, 3) := by decide +kernel
theorem dX6_writeKind_4 : decode cX6_writeKind 4 = .ok (.iload_n 1, 1) := by decide +kernel
theorem dX6_writeKind_5 : decode cX6_writeKind 5 = .ok (.aload_n 0, 1) := by decide +kernel
theorem dX6_writeKind_6 : decode cX6_writeKind 6 = .ok (.getfield 58, 3) := by decide +kernel
theorem dX6_writeKind_9 : decode cX6_writeKind 9 = .ok (.getfield 92, 3) := by decide +kernel
theorem dX6_writeKind_12 : decode cX6_writeKind 12 = .ok (.if_icmp .ge 47, 3) := by decide +kernel
theorem dX6_writeKind_15 : decode cX6_writeKind 15 = .ok (.aload_n 0, 1) := by decide +kernel
theorem dX6_writeKind_16 : decode cX6_writeKind 16 = .ok (.getfield 51, 3) := by decide +kernel
theorem dX6_writeKind_19 : decode cX6_writeKind 19 = .ok (.aload_n 0, 1) := by decide +kernel
theorem dX6_writeKind_20 : decode cX6_writeKind 20 = .ok (.getfield 58, 3) := by decide +kernel
theorem dX6_writeKind_23 : decode cX6_writeKind 23 = .ok (.getfield 223, 3) := by decide +kernel
theorem dX6_writeKind_26 : decode cX6_writeKind 26 = .ok (.iload_n 1, 1) := by decide +kernel
theorem dX6_writeKind_27 : decode cX6_writeKind 27 = .ok (.baload, 1) := by decide +kernel
theorem dX6_writeKind_28 : decode cX6_writeKind 28 = .ok (.ifCond .eq 8, 3) := by decide +kernel
theorem dX6_writeKind_31 : decode cX6_writeKind 31 = .ok (.bipush 109, 2) := by decide +kernel
theorem dX6_writeKind_33 : decode cX6_writeKind 33 = .ok (.goto 5, 3) := by decide +kernel
theorem dX6_writeKind_36 : decode cX6_writeKind 36 = .ok (.bipush 119, 2) := by decide +kernel
theorem dX6_writeKind_38 : decode cX6_writeKind 38 = .ok (.invokevirtual 356, 3) := by decide +kernel
theorem dX6_writeKind_41 : decode cX6_writeKind 41 = .ok (.pop, 1) := by decide +kernel
theorem dX6_writeKind_42 : decode cX6_writeKind 42 = .ok (.aload_n 0, 1) := by decide +kernel
theorem dX6_writeKind_43 : decode cX6_writeKind 43 = .ok (.getfield 51, 3) := by decide +kernel
theorem dX6_writeKind_46 : decode cX6_writeKind 46 = .ok (.aload_n 0, 1) := by decide +kernel
theorem dX6_writeKind_47 : decode cX6_writeKind 47 = .ok (.getfield 58, 3) := by decide +kernel
theorem dX6_writeKind_50 : decode cX6_writeKind 50 = .ok (.getfield 226, 3) := by decide +kernel
theorem dX6_writeKind_53 : decode cX6_writeKind 53 = .ok (.iload_n 1, 1) := by decide +kernel
theorem dX6_writeKind_54 : decode cX6_writeKind 54 = .ok (.iaload, 1) := by decide +kernel
theorem dX6_writeKind_55 : decode cX6_writeKind 55 = .ok (.invokevirtual 360, 3) := by decide +kernel
theorem dX6_writeKind_58 : decode cX6_writeKind 58 = .ok (.pop, 1) := by decide +kernel
theorem dX6_writeKind_59 : decode cX6_writeKind 59 = .ok (.return_, 1) := by decide +kernel
theorem dX6_writeOpening_0 : decode cX6_writeOpening 0 = .ok (.aload_n 0, 1) := by decide +kernel
theorem dX6_writeOpening_1 : decode cX6_writeOpening 1 = .ok (.invokevirtual 353, 3) := by decide +kernel
theorem dX6_writeOpening_4 : decode cX6_writeOpening 4 = .ok (.aload_n 0, 1) := by decide +kernel
theorem dX6_writeOpening_5 : decode cX6_writeOpening 5 = .ok (.getfield 51, 3) := by decide +kernel
theorem dX6_writeOpening_8 : decode cX6_writeOpening 8 = .ok (.bipush 113, 2) := by decide +kernel
theorem dX6_writeOpening_10 : decode cX6_writeOpening 10 = .ok (.invokevirtual 356, 3) := by decide +kernel
theorem dX6_writeOpening_13 : decode cX6_writeOpening 13 = .ok (.pop, 1) := by decide +kernel
theorem dX6_writeOpening_14 : decode cX6_writeOpening 14 = .ok (.aload_n 0, 1) := by decide +kernel
theorem dX6_writeOpening_15 : decode cX6_writeOpening 15 = .ok (.getfield 51, 3) := by decide +kernel
theorem dX6_writeOpening_18 : decode cX6_writeOpening 18 = .ok (.iload_n 1, 1) := by decide +kernel
theorem dX6_writeOpening_19 : decode cX6_writeOpening 19 = .ok (.invokevirtual 360, 3) := by decide +kernel
theorem dX6_writeOpening_22 : decode cX6_writeOpening 22 = .ok (.pop, 1) := by decide +kernel
theorem dX6_writeOpening_23 : decode cX6_writeOpening 23 = .ok (.return_, 1) := by decide +kernel
theorem dX6_place_0 : decode cX6_place 0 = .ok (.aload_n 0, 1) := by decide +kernel
theorem dX6_place_1 : decode cX6_place 1 = .ok (.iload_n 1, 1) := by decide +kernel
theorem dX6_place_2 : decode cX6_place 2 = .ok (.invokevirtual 172, 3) := by decide +kernel
theorem dX6_place_5 : decode cX6_place 5 = .ok (.astore_n 3, 1) := by decide +kernel
theorem dX6_place_6 : decode cX6_place 6 = .ok (.iload_n 2, 1) := by decide +kernel
theorem dX6_place_7 : decode cX6_place 7 = .ok (.invokestatic 306, 3) := by decide +kernel
theorem dX6_place_10 : decode cX6_place 10 = .ok (.aload_n 3, 1) := by decide +kernel
theorem dX6_place_11 : decode cX6_place 11 = .ok (.aload_n 0, 1) := by decide +kernel
theorem dX6_place_12 : decode cX6_place 12 = .ok (.getfield 58, 3) := by decide +kernel
theorem dX6_place_15 : decode cX6_place 15 = .ok (.iload_n 2, 1) := by decide +kernel
theorem dX6_place_16 : decode cX6_place 16 = .ok (.invokevirtual 314, 3) := by decide +kernel
theorem dX6_place_19 : decode cX6_place 19 = .ok (.ifCond .ne 14, 3) := by decide +kernel
theorem dX6_place_22 : decode cX6_place 22 = .ok (.new 84, 3) := by decide +kernel
theorem dX6_place_25 : decode cX6_place 25 = .ok (.dup, 1) := by decide +kernel
theorem dX6_place_26 : decode cX6_place 26 = .ok (.ldc_w 376, 3) := by decide +kernel
theorem dX6_place_29 : decode cX6_place 29 = .ok (.invokespecial 88, 3) := by decide +kernel
theorem dX6_place_32 : decode cX6_place 32 = .ok (.athrow, 1) := by decide +kernel
theorem dX6_place_33 : decode cX6_place 33 = .ok (.aload_n 0, 1) := by decide +kernel
theorem dX6_place_34 : decode cX6_place 34 = .ok (.getfield 26, 3) := by decide +kernel
theorem dX6_place_37 : decode cX6_place 37 = .ok (.aload_n 0, 1) := by decide +kernel
theorem dX6_place_38 : decode cX6_place 38 = .ok (.getfield 33, 3) := by decide +kernel
theorem dX6_place_41 : decode cX6_place 41 = .ok (.invokevirtual 378, 3) := by decide +kernel
theorem dX6_place_44 : decode cX6_place 44 = .ok (.aload_n 3, 1) := by decide +kernel
theorem dX6_place_45 : decode cX6_place 45 = .ok (.iload_n 2, 1) := by decide +kernel
theorem dX6_place_46 : decode cX6_place 46 = .ok (.invokevirtual 381, 3) := by decide +kernel
theorem dX6_place_49 : decode cX6_place 49 = .ok (.aload_n 3, 1) := by decide +kernel
theorem dX6_place_50 : decode cX6_place 50 = .ok (.aload_n 0, 1) := by decide +kernel
theorem dX6_place_51 : decode cX6_place 51 = .ok (.getfield 58, 3) := by decide +kernel
theorem dX6_place_54 : decode cX6_place 54 = .ok (.invokevirtual 184, 3) := by decide +kernel
theorem dX6_place_57 : decode cX6_place 57 = .ok (.ireturn, 1) := by decide +kernel
theorem dX6_lift_0 : decode cX6_lift 0 = .ok (.aload_n 0, 1) := by decide +kernel
theorem dX6_lift_1 : decode cX6_lift 1 = .ok (.iload_n 1, 1) := by decide +kernel
theorem dX6_lift_2 : decode cX6_lift 2 = .ok (.invokevirtual 172, 3) := by decide +kernel
theorem dX6_lift_5 : decode cX6_lift 5 = .ok (.astore_n 3, 1) := by decide +kernel
theorem dX6_lift_6 : decode cX6_lift 6 = .ok (.iload_n 2, 1) := by decide +kernel
theorem dX6_lift_7 : decode cX6_lift 7 = .ok (.aload_n 3, 1) := by decide +kernel
theorem dX6_lift_8 : decode cX6_lift 8 = .ok (.getfield 176, 3) := by decide +kernel
theorem dX6_lift_11 : decode cX6_lift 11 = .ok (.invokestatic 208, 3) := by decide +kernel
theorem dX6_lift_14 : decode cX6_lift 14 = .ok (.aload_n 0, 1) := by decide +kernel
theorem dX6_lift_15 : decode cX6_lift 15 = .ok (.getfield 26, 3) := by decide +kernel
theorem dX6_lift_18 : decode cX6_lift 18 = .ok (.aload_n 0, 1) := by decide +kernel
theorem dX6_lift_19 : decode cX6_lift 19 = .ok (.getfield 33, 3) := by decide +kernel
theorem dX6_lift_22 : decode cX6_lift 22 = .ok (.invokevirtual 378, 3) := by decide +kernel
theorem dX6_lift_25 : decode cX6_lift 25 = .ok (.aload_n 3, 1) := by decide +kernel
theorem dX6_lift_26 : decode cX6_lift 26 = .ok (.iload_n 2, 1) := by decide +kernel
theorem dX6_lift_27 : decode cX6_lift 27 = .ok (.invokevirtual 384, 3) := by decide +kernel
theorem dX6_lift_30 : decode cX6_lift 30 = .ok (.ireturn, 1) := by decide +kernel
theorem dX6_put_0 : decode cX6_put 0 = .ok (.aload_n 0, 1) := by decide +kernel
theorem dX6_put_1 : decode cX6_put 1 = .ok (.iload_n 1, 1) := by decide +kernel
theorem dX6_put_2 : decode cX6_put 2 = .ok (.invokevirtual 172, 3) := by decide +kernel
theorem dX6_put_5 : decode cX6_put 5 = .ok (.astore_n 3, 1) := by decide +kernel
theorem dX6_put_6 : decode cX6_put 6 = .ok (.aload_n 0, 1) := by decide +kernel
theorem dX6_put_7 : decode cX6_put 7 = .ok (.iload_n 2, 1) := by decide +kernel
theorem dX6_put_8 : decode cX6_put 8 = .ok (.invokevirtual 219, 3) := by decide +kernel
theorem dX6_put_11 : decode cX6_put 11 = .ok (.aload_n 0, 1) := by decide +kernel
theorem dX6_put_12 : decode cX6_put 12 = .ok (.aload_n 3, 1) := by decide +kernel
theorem dX6_put_13 : decode cX6_put 13 = .ok (.iload_n 2, 1) := by decide +kernel
theorem dX6_put_14 : decode cX6_put 14 = .ok (.invokevirtual 325, 3) := by decide +kernel
theorem dX6_put_17 : decode cX6_put 17 = .ok (.ifCond .ne 14, 3) := by decide +kernel
theorem dX6_put_20 : decode cX6_put 20 = .ok (.new 84, 3) := by decide +kernel
theorem dX6_put_23 : decode cX6_put 23 = .ok (.dup, 1) := by decide +kernel
theorem dX6_put_24 : decode cX6_put 24 = .ok (.ldc_w 387, 3) := by decide +kernel
theorem dX6_put_27 : decode cX6_put 27 = .ok (.invokespecial 88, 3) := by decide +kernel
theorem dX6_put_30 : decode cX6_put 30 = .ok (.athrow, 1) := by decide +kernel
theorem dX6_put_31 : decode cX6_put 31 = .ok (.aload_n 0, 1) := by decide +kernel
theorem dX6_put_32 : decode cX6_put 32 = .ok (.getfield 26, 3) := by decide +kernel
theorem dX6_put_35 : decode cX6_put 35 = .ok (.aload_n 0, 1) := by decide +kernel
theorem dX6_put_36 : decode cX6_put 36 = .ok (.getfield 33, 3) := by decide +kernel
theorem dX6_put_39 : decode cX6_put 39 = .ok (.invokevirtual 378, 3) := by decide +kernel
theorem dX6_put_42 : decode cX6_put 42 = .ok (.aload_n 0, 1) := by decide +kernel
theorem dX6_put_43 : decode cX6_put 43 = .ok (.getfield 33, 3) := by decide +kernel
theorem dX6_put_46 : decode cX6_put 46 = .ok (.aload_n 0, 1) := by decide +kernel
theorem dX6_put_47 : decode cX6_put 47 = .ok (.getfield 58, 3) := by decide +kernel
theorem dX6_put_50 : decode cX6_put 50 = .ok (.aload_n 3, 1) := by decide +kernel
theorem dX6_put_51 : decode cX6_put 51 = .ok (.iload_n 2, 1) := by decide +kernel
theorem dX6_put_52 : decode cX6_put 52 = .ok (.invokevirtual 389, 3) := by decide +kernel
theorem dX6_put_55 : decode cX6_put 55 = .ok (.aload_n 3, 1) := by decide +kernel
theorem dX6_put_56 : decode cX6_put 56 = .ok (.aload_n 0, 1) := by decide +kernel
theorem dX6_put_57 : decode cX6_put 57 = .ok (.getfield 58, 3) := by decide +kernel
theorem dX6_put_60 : decode cX6_put 60 = .ok (.invokevirtual 184, 3) := by decide +kernel
theorem dX6_put_63 : decode cX6_put 63 = .ok (.ireturn, 1) := by decide +kernel
theorem dX6_take_0 : decode cX6_take 0 = .ok (.aload_n 0, 1) := by decide +kernel
theorem dX6_take_1 : decode cX6_take 1 = .ok (.iload_n 1, 1) := by decide +kernel
theorem dX6_take_2 : decode cX6_take 2 = .ok (.invokevirtual 172, 3) := by decide +kernel
theorem dX6_take_5 : decode cX6_take 5 = .ok (.astore_n 3, 1) := by decide +kernel
theorem dX6_take_6 : decode cX6_take 6 = .ok (.iload_n 2, 1) := by decide +kernel
theorem dX6_take_7 : decode cX6_take 7 = .ok (.aload_n 3, 1) := by decide +kernel
theorem dX6_take_8 : decode cX6_take 8 = .ok (.getfield 181, 3) := by decide +kernel
theorem dX6_take_11 : decode cX6_take 11 = .ok (.invokestatic 208, 3) := by decide +kernel
theorem dX6_take_14 : decode cX6_take 14 = .ok (.aload_n 0, 1) := by decide +kernel
theorem dX6_take_15 : decode cX6_take 15 = .ok (.getfield 26, 3) := by decide +kernel
theorem dX6_take_18 : decode cX6_take 18 = .ok (.aload_n 0, 1) := by decide +kernel
theorem dX6_take_19 : decode cX6_take 19 = .ok (.getfield 33, 3) := by decide +kernel
theorem dX6_take_22 : decode cX6_take 22 = .ok (.invokevirtual 378, 3) := by decide +kernel
theorem dX6_take_25 : decode cX6_take 25 = .ok (.aload_n 0, 1) := by decide +kernel
theorem dX6_take_26 : decode cX6_take 26 = .ok (.getfield 33, 3) := by decide +kernel
theorem dX6_take_29 : decode cX6_take 29 = .ok (.aload_n 0, 1) := by decide +kernel
theorem dX6_take_30 : decode cX6_take 30 = .ok (.getfield 58, 3) := by decide +kernel
theorem dX6_take_33 : decode cX6_take 33 = .ok (.aload_n 3, 1) := by decide +kernel
theorem dX6_take_34 : decode cX6_take 34 = .ok (.iload_n 2, 1) := by decide +kernel
theorem dX6_take_35 : decode cX6_take 35 = .ok (.invokevirtual 393, 3) := by decide +kernel
theorem dX6_take_38 : decode cX6_take 38 = .ok (.ireturn, 1) := by decide +kernel
theorem dX6_quoin_0 : decode cX6_quoin 0 = .ok (.aload_n 0, 1) := by decide +kernel
theorem dX6_quoin_1 : decode cX6_quoin 1 = .ok (.iload_n 1, 1) := by decide +kernel
theorem dX6_quoin_2 : decode cX6_quoin 2 = .ok (.invokevirtual 172, 3) := by decide +kernel
theorem dX6_quoin_5 : decode cX6_quoin 5 = .ok (.astore_n 3, 1) := by decide +kernel
theorem dX6_quoin_6 : decode cX6_quoin 6 = .ok (.aload_n 3, 1) := by decide +kernel
theorem dX6_quoin_7 : decode cX6_quoin 7 = .ok (.invokevirtual 199, 3) := by decide +kernel
theorem dX6_quoin_10 : decode cX6_quoin 10 = .ok (.iload_n 2, 1) := by decide +kernel
theorem dX6_quoin_11 : decode cX6_quoin 11 = .ok (.if_icmp .ne 14, 3) := by decide +kernel
theorem dX6_quoin_14 : decode cX6_quoin 14 = .ok (.new 84, 3) := by decide +kernel
theorem dX6_quoin_17 : decode cX6_quoin 17 = .ok (.dup, 1) := by decide +kernel
theorem dX6_quoin_18 : decode cX6_quoin 18 = .ok (.ldc_w 397, 3) := by decide +kernel
theorem dX6_quoin_21 : decode cX6_quoin 21 = .ok (.invokespecial 88, 3) := by decide +kernel
theorem dX6_quoin_24 : decode cX6_quoin 24 = .ok (.athrow, 1) := by decide +kernel
theorem dX6_quoin_25 : decode cX6_quoin 25 = .ok (.iload_n 2, 1) := by decide +kernel
theorem dX6_quoin_26 : decode cX6_quoin 26 = .ok (.ifCond .eq 42, 3) := by decide +kernel
theorem dX6_quoin_29 : decode cX6_quoin 29 = .ok (.aload_n 0, 1) := by decide +kernel
theorem dX6_quoin_30 : decode cX6_quoin 30 = .ok (.getfield 33, 3) := by decide +kernel
theorem dX6_quoin_33 : decode cX6_quoin 33 = .ok (.getfield 118, 3) := by decide +kernel
theorem dX6_quoin_36 : decode cX6_quoin 36 = .ok (.ifCond .eq 21, 3) := by decide +kernel
theorem dX6_quoin_39 : decode cX6_quoin 39 = .ok (.aload_n 0, 1) := by decide +kernel
theorem dX6_quoin_40 : decode cX6_quoin 40 = .ok (.getfield 58, 3) := by decide +kernel
theorem dX6_quoin_43 : decode cX6_quoin 43 = .ok (.getfield 155, 3) := by decide +kernel
theorem dX6_quoin_46 : decode cX6_quoin 46 = .ok (.aload_n 3, 1) := by decide +kernel
theorem dX6_quoin_47 : decode cX6_quoin 47 = .ok (.aload_n 0, 1) := by decide +kernel
theorem dX6_quoin_48 : decode cX6_quoin 48 = .ok (.getfield 58, 3) := by decide +kernel
theorem dX6_quoin_51 : decode cX6_quoin 51 = .ok (.invokevirtual 184, 3) := by decide +kernel
theorem dX6_quoin_54 : decode cX6_quoin 54 = .ok (.if_icmp .le 14, 3) := by decide +kernel
theorem dX6_quoin_57 : decode cX6_quoin 57 = .ok (.new 84, 3) := by decide +kernel
theorem dX6_quoin_60 : decode cX6_quoin 60 = .ok (.dup, 1) := by decide +kernel
theorem dX6_quoin_61 : decode cX6_quoin 61 = .ok (.ldc_w 399, 3) := by decide +kernel
theorem dX6_quoin_64 : decode cX6_quoin 64 = .ok (.invokespecial 88, 3) := by decide +kernel
theorem dX6_quoin_67 : decode cX6_quoin 67 = .ok (.athrow, 1) := by decide +kernel
theorem dX6_quoin_68 : decode cX6_quoin 68 = .ok (.aload_n 0, 1) := by decide +kernel
theorem dX6_quoin_69 : decode cX6_quoin 69 = .ok (.getfield 26, 3) := by decide +kernel
theorem dX6_quoin_72 : decode cX6_quoin 72 = .ok (.aload_n 0, 1) := by decide +kernel
theorem dX6_quoin_73 : decode cX6_quoin 73 = .ok (.getfield 33, 3) := by decide +kernel
theorem dX6_quoin_76 : decode cX6_quoin 76 = .ok (.invokevirtual 378, 3) := by decide +kernel
theorem dX6_quoin_79 : decode cX6_quoin 79 = .ok (.iload_n 2, 1) := by decide +kernel
theorem dX6_quoin_80 : decode cX6_quoin 80 = .ok (.ifCond .eq 15, 3) := by decide +kernel
theorem dX6_quoin_83 : decode cX6_quoin 83 = .ok (.aload_n 0, 1) := by decide +kernel
theorem dX6_quoin_84 : decode cX6_quoin 84 = .ok (.getfield 33, 3) := by decide +kernel
theorem dX6_quoin_87 : decode cX6_quoin 87 = .ok (.aload_n 3, 1) := by decide +kernel
theorem dX6_quoin_88 : decode cX6_quoin 88 = .ok (.iconst 0, 1) := by decide +kernel
theorem dX6_quoin_89 : decode cX6_quoin 89 = .ok (.invokevirtual 401, 3) := by decide +kernel
theorem dX6_quoin_92 : decode cX6_quoin 92 = .ok (.goto 11, 3) := by decide +kernel
theorem dX6_quoin_95 : decode cX6_quoin 95 = .ok (.aload_n 0, 1) := by decide +kernel
theorem dX6_quoin_96 : decode cX6_quoin 96 = .ok (.getfield 33, 3) := by decide +kernel
theorem dX6_quoin_99 : decode cX6_quoin 99 = .ok (.aload_n 3, 1) := by decide +kernel
theorem dX6_quoin_100 : decode cX6_quoin 100 = .ok (.invokevirtual 405, 3) := by decide +kernel
theorem dX6_quoin_103 : decode cX6_quoin 103 = .ok (.aload_n 3, 1) := by decide +kernel
theorem dX6_quoin_104 : decode cX6_quoin 104 = .ok (.aload_n 0, 1) := by decide +kernel
theorem dX6_quoin_105 : decode cX6_quoin 105 = .ok (.getfield 58, 3) := by decide +kernel
theorem dX6_quoin_108 : decode cX6_quoin 108 = .ok (.invokevirtual 184, 3) := by decide +kernel
theorem dX6_quoin_111 : decode cX6_quoin 111 = .ok (.ireturn, 1) := by decide +kernel
theorem dX6_open_0 : decode cX6_open 0 = .ok (.aload_n 0, 1) := by decide +kernel
theorem dX6_open_1 : decode cX6_open 1 = .ok (.iload_n 1, 1) := by decide +kernel
theorem dX6_open_2 : decode cX6_open 2 = .ok (.invokevirtual 172, 3) := by decide +kernel
theorem dX6_open_5 : decode cX6_open 5 = .ok (.astore_n 3, 1) := by decide +kernel
theorem dX6_open_6 : decode cX6_open 6 = .ok (.aload_n 3, 1) := by decide +kernel
theorem dX6_open_7 : decode cX6_open 7 = .ok (.invokevirtual 199, 3) := by decide +kernel
theorem dX6_open_10 : decode cX6_open 10 = .ok (.ifCond .eq 18, 3) := by decide +kernel
theorem dX6_open_13 : decode cX6_open 13 = .ok (.iload_n 2, 1) := by decide +kernel
theorem dX6_open_14 : decode cX6_open 14 = .ok (.ifCond .lt 14, 3) := by decide +kernel
theorem dX6_open_17 : decode cX6_open 17 = .ok (.iload_n 2, 1) := by decide +kernel
theorem dX6_open_18 : decode cX6_open 18 = .ok (.aload_n 0, 1) := by decide +kernel
theorem dX6_open_19 : decode cX6_open 19 = .ok (.getfield 58, 3) := by decide +kernel
theorem dX6_open_22 : decode cX6_open 22 = .ok (.getfield 158, 3) := by decide +kernel
theorem dX6_open_25 : decode cX6_open 25 = .ok (.if_icmp .le 14, 3) := by decide +kernel
theorem dX6_open_28 : decode cX6_open 28 = .ok (.new 84, 3) := by decide +kernel
theorem dX6_open_31 : decode cX6_open 31 = .ok (.dup, 1) := by decide +kernel
theorem dX6_open_32 : decode cX6_open 32 = .ok (.ldc_w 409, 3) := by decide +kernel
theorem dX6_open_35 : decode cX6_open 35 = .ok (.invokespecial 88, 3) := by decide +kernel
theorem dX6_open_38 : decode cX6_open 38 = .ok (.athrow, 1) := by decide +kernel
theorem dX6_open_39 : decode cX6_open 39 = .ok (.aload_n 0, 1) := by decide +kernel
theorem dX6_open_40 : decode cX6_open 40 = .ok (.getfield 58, 3) := by decide +kernel
theorem dX6_open_43 : decode cX6_open 43 = .ok (.getfield 155, 3) := by decide +kernel
theorem dX6_open_46 : decode cX6_open 46 = .ok (.iload_n 2, 1) := by decide +kernel
theorem dX6_open_47 : decode cX6_open 47 = .ok (.iadd, 1) := by decide +kernel
theorem dX6_open_48 : decode cX6_open 48 = .ok (.aload_n 3, 1) := by decide +kernel
theorem dX6_open_49 : decode cX6_open 49 = .ok (.aload_n 0, 1) := by decide +kernel
theorem dX6_open_50 : decode cX6_open 50 = .ok (.getfield 58, 3) := by decide +kernel
theorem dX6_open_53 : decode cX6_open 53 = .ok (.invokevirtual 281, 3) := by decide +kernel
theorem dX6_open_56 : decode cX6_open 56 = .ok (.if_icmp .le 14, 3) := by decide +kernel
theorem dX6_open_59 : decode cX6_open 59 = .ok (.new 84, 3) := by decide +kernel
theorem dX6_open_62 : decode cX6_open 62 = .ok (.dup, 1) := by decide +kernel
theorem dX6_open_63 : decode cX6_open 63 = .ok (.ldc_w 411, 3) := by decide +kernel
theorem dX6_open_66 : decode cX6_open 66 = .ok (.invokespecial 88, 3) := by decide +kernel
theorem dX6_open_69 : decode cX6_open 69 = .ok (.athrow, 1) := by decide +kernel
theorem dX6_open_70 : decode cX6_open 70 = .ok (.aload_n 0, 1) := by decide +kernel
theorem dX6_open_71 : decode cX6_open 71 = .ok (.getfield 26, 3) := by decide +kernel
theorem dX6_open_74 : decode cX6_open 74 = .ok (.aload_n 0, 1) := by decide +kernel
theorem dX6_open_75 : decode cX6_open 75 = .ok (.getfield 33, 3) := by decide +kernel
theorem dX6_open_78 : decode cX6_open 78 = .ok (.invokevirtual 378, 3) := by decide +kernel
theorem dX6_open_81 : decode cX6_open 81 = .ok (.aload_n 0, 1) := by decide +kernel
theorem dX6_open_82 : decode cX6_open 82 = .ok (.getfield 33, 3) := by decide +kernel
theorem dX6_open_85 : decode cX6_open 85 = .ok (.aload_n 3, 1) := by decide +kernel
theorem dX6_open_86 : decode cX6_open 86 = .ok (.iload_n 2, 1) := by decide +kernel
theorem dX6_open_87 : decode cX6_open 87 = .ok (.invokevirtual 401, 3) := by decide +kernel
theorem dX6_open_90 : decode cX6_open 90 = .ok (.aload_n 3, 1) := by decide +kernel
theorem dX6_open_91 : decode cX6_open 91 = .ok (.aload_n 0, 1) := by decide +kernel
theorem dX6_open_92 : decode cX6_open 92 = .ok (.getfield 58, 3) := by decide +kernel
theorem dX6_open_95 : decode cX6_open 95 = .ok (.invokevirtual 184, 3) := by decide +kernel
theorem dX6_open_98 : decode cX6_open 98 = .ok (.ireturn, 1) := by decide +kernel
theorem dX6_lock_0 : decode cX6_lock 0 = .ok (.aload_n 0, 1) := by decide +kernel
theorem dX6_lock_1 : decode cX6_lock 1 = .ok (.iload_n 1, 1) := by decide +kernel
theorem dX6_lock_2 : decode cX6_lock 2 = .ok (.invokevirtual 172, 3) := by decide +kernel
theorem dX6_lock_5 : decode cX6_lock 5 = .ok (.astore_n 2, 1) := by decide +kernel
theorem dX6_lock_6 : decode cX6_lock 6 = .ok (.aload_n 0, 1) := by decide +kernel
theorem dX6_lock_7 : decode cX6_lock 7 = .ok (.aload_n 0, 1) := by decide +kernel
theorem dX6_lock_8 : decode cX6_lock 8 = .ok (.getfield 33, 3) := by decide +kernel
theorem dX6_lock_11 : decode cX6_lock 11 = .ok (.aload_n 2, 1) := by decide +kernel
theorem dX6_lock_12 : decode cX6_lock 12 = .ok (.invokevirtual 261, 3) := by decide +kernel
theorem dX6_lock_15 : decode cX6_lock 15 = .ok (.ifCond .ne 14, 3) := by decide +kernel
theorem dX6_lock_18 : decode cX6_lock 18 = .ok (.new 84, 3) := by decide +kernel
theorem dX6_lock_21 : decode cX6_lock 21 = .ok (.dup, 1) := by decide +kernel
theorem dX6_lock_22 : decode cX6_lock 22 = .ok (.ldc_w 413, 3) := by decide +kernel
theorem dX6_lock_25 : decode cX6_lock 25 = .ok (.invokespecial 88, 3) := by decide +kernel
theorem dX6_lock_28 : decode cX6_lock 28 = .ok (.athrow, 1) := by decide +kernel
theorem dX6_lock_29 : decode cX6_lock 29 = .ok (.aload_n 0, 1) := by decide +kernel
theorem dX6_lock_30 : decode cX6_lock 30 = .ok (.getfield 26, 3) := by decide +kernel
theorem dX6_lock_33 : decode cX6_lock 33 = .ok (.aload_n 0, 1) := by decide +kernel
theorem dX6_lock_34 : decode cX6_lock 34 = .ok (.getfield 33, 3) := by decide +kernel
theorem dX6_lock_37 : decode cX6_lock 37 = .ok (.invokevirtual 378, 3) := by decide +kernel
theorem dX6_lock_40 : decode cX6_lock 40 = .ok (.aload_n 0, 1) := by decide +kernel
theorem dX6_lock_41 : decode cX6_lock 41 = .ok (.getfield 33, 3) := by decide +kernel
theorem dX6_lock_44 : decode cX6_lock 44 = .ok (.aload_n 0, 1) := by decide +kernel
theorem dX6_lock_45 : decode cX6_lock 45 = .ok (.getfield 58, 3) := by decide +kernel
theorem dX6_lock_48 : decode cX6_lock 48 = .ok (.iload_n 1, 1) := by decide +kernel
theorem dX6_lock_49 : decode cX6_lock 49 = .ok (.aload_n 0, 1) := by decide +kernel
theorem dX6_lock_50 : decode cX6_lock 50 = .ok (.getfield 19, 3) := by decide +kernel
theorem dX6_lock_53 : decode cX6_lock 53 = .ok (.invokevirtual 346, 3) := by decide +kernel
theorem dX6_lock_56 : decode cX6_lock 56 = .ok (.aload_n 0, 1) := by decide +kernel
theorem dX6_lock_57 : decode cX6_lock 57 = .ok (.getfield 19, 3) := by decide +kernel
theorem dX6_lock_60 : decode cX6_lock 60 = .ok (.getfield 265, 3) := by decide +kernel
theorem dX6_lock_63 : decode cX6_lock 63 = .ok (.ireturn, 1) := by decide +kernel
theorem dX6_unlock_0 : decode cX6_unlock 0 = .ok (.aload_n 0, 1) := by decide +kernel
theorem dX6_unlock_1 : decode cX6_unlock 1 = .ok (.iload_n 1, 1) := by decide +kernel
theorem dX6_unlock_2 : decode cX6_unlock 2 = .ok (.invokevirtual 172, 3) := by decide +kernel
theorem dX6_unlock_5 : decode cX6_unlock 5 = .ok (.astore_n 2, 1) := by decide +kernel
theorem dX6_unlock_6 : decode cX6_unlock 6 = .ok (.aload_n 2, 1) := by decide +kernel
theorem dX6_unlock_7 : decode cX6_unlock 7 = .ok (.getfield 181, 3) := by decide +kernel
theorem dX6_unlock_10 : decode cX6_unlock 10 = .ok (.istore_n 3, 1) := by decide +kernel
theorem dX6_unlock_11 : decode cX6_unlock 11 = .ok (.aload_n 0, 1) := by decide +kernel
theorem dX6_unlock_12 : decode cX6_unlock 12 = .ok (.getfield 26, 3) := by decide +kernel
theorem dX6_unlock_15 : decode cX6_unlock 15 = .ok (.aload_n 0, 1) := by decide +kernel
theorem dX6_unlock_16 : decode cX6_unlock 16 = .ok (.getfield 33, 3) := by decide +kernel
theorem dX6_unlock_19 : decode cX6_unlock 19 = .ok (.invokevirtual 378, 3) := by decide +kernel
theorem dX6_unlock_22 : decode cX6_unlock 22 = .ok (.aload_n 0, 1) := by decide +kernel
theorem dX6_unlock_23 : decode cX6_unlock 23 = .ok (.getfield 33, 3) := by decide +kernel
theorem dX6_unlock_26 : decode cX6_unlock 26 = .ok (.iload_n 1, 1) := by decide +kernel
theorem dX6_unlock_27 : decode cX6_unlock 27 = .ok (.invokevirtual 329, 3) := by decide +kernel
theorem dX6_unlock_30 : decode cX6_unlock 30 = .ok (.iload_n 3, 1) := by decide +kernel
theorem dX6_unlock_31 : decode cX6_unlock 31 = .ok (.ireturn, 1) := by decide +kernel
theorem dX6_relock_0 : decode cX6_relock 0 = .ok (.aload_n 0, 1) := by decide +kernel
theorem dX6_relock_1 : decode cX6_relock 1 = .ok (.iload_n 1, 1) := by decide +kernel
theorem dX6_relock_2 : decode cX6_relock 2 = .ok (.invokevirtual 172, 3) := by decide +kernel
theorem dX6_relock_5 : decode cX6_relock 5 = .ok (.pop, 1) := by decide +kernel
theorem dX6_relock_6 : decode cX6_relock 6 = .ok (.aload_n 0, 1) := by decide +kernel
theorem dX6_relock_7 : decode cX6_relock 7 = .ok (.getfield 37, 3) := by decide +kernel
theorem dX6_relock_10 : decode cX6_relock 10 = .ok (.aload_n 0, 1) := by decide +kernel
theorem dX6_relock_11 : decode cX6_relock 11 = .ok (.getfield 33, 3) := by decide +kernel
theorem dX6_relock_14 : decode cX6_relock 14 = .ok (.invokevirtual 95, 3) := by decide +kernel
theorem dX6_relock_17 : decode cX6_relock 17 = .ok (.aload_n 0, 1) := by decide +kernel
theorem dX6_relock_18 : decode cX6_relock 18 = .ok (.getfield 37, 3) := by decide +kernel
theorem dX6_relock_21 : decode cX6_relock 21 = .ok (.iload_n 1, 1) := by decide +kernel
theorem dX6_relock_22 : decode cX6_relock 22 = .ok (.invokevirtual 329, 3) := by decide +kernel
theorem dX6_relock_25 : decode cX6_relock 25 = .ok (.aload_n 0, 1) := by decide +kernel
theorem dX6_relock_26 : decode cX6_relock 26 = .ok (.aload_n 0, 1) := by decide +kernel
theorem dX6_relock_27 : decode cX6_relock 27 = .ok (.getfield 37, 3) := by decide +kernel
theorem dX6_relock_30 : decode cX6_relock 30 = .ok (.aload_n 0, 1) := by decide +kernel
theorem dX6_relock_31 : decode cX6_relock 31 = .ok (.getfield 37, 3) := by decide +kernel
theorem dX6_relock_34 : decode cX6_relock 34 = .ok (.getfield 246, 3) := by decide +kernel
theorem dX6_relock_37 : decode cX6_relock 37 = .ok (.iload_n 1, 1) := by decide +kernel
theorem dX6_relock_38 : decode cX6_relock 38 = .ok (.aaload, 1) := by decide +kernel
theorem dX6_relock_39 : decode cX6_relock 39 = .ok (.invokevirtual 261, 3) := by decide +kernel
theorem dX6_relock_42 : decode cX6_relock 42 = .ok (.ifCond .ne 14, 3) := by decide +kernel
theorem dX6_relock_45 : decode cX6_relock 45 = .ok (.new 84, 3) := by decide +kernel
theorem dX6_relock_48 : decode cX6_relock 48 = .ok (.dup, 1) := by decide +kernel
theorem dX6_relock_49 : decode cX6_relock 49 = .ok (.ldc_w 413, 3) := by decide +kernel
theorem dX6_relock_52 : decode cX6_relock 52 = .ok (.invokespecial 88, 3) := by decide +kernel
theorem dX6_relock_55 : decode cX6_relock 55 = .ok (.athrow, 1) := by decide +kernel
theorem dX6_relock_56 : decode cX6_relock 56 = .ok (.aload_n 0, 1) := by decide +kernel
theorem dX6_relock_57 : decode cX6_relock 57 = .ok (.getfield 26, 3) := by decide +kernel
theorem dX6_relock_60 : decode cX6_relock 60 = .ok (.aload_n 0, 1) := by decide +kernel
theorem dX6_relock_61 : decode cX6_relock 61 = .ok (.getfield 33, 3) := by decide +kernel
theorem dX6_relock_64 : decode cX6_relock 64 = .ok (.invokevirtual 378, 3) := by decide +kernel
theorem dX6_relock_67 : decode cX6_relock 67 = .ok (.aload_n 0, 1) := by decide +kernel
theorem dX6_relock_68 : decode cX6_relock 68 = .ok (.getfield 33, 3) := by decide +kernel
theorem dX6_relock_71 : decode cX6_relock 71 = .ok (.iload_n 1, 1) := by decide +kernel
theorem dX6_relock_72 : decode cX6_relock 72 = .ok (.invokevirtual 329, 3) := by decide +kernel
theorem dX6_relock_75 : decode cX6_relock 75 = .ok (.aload_n 0, 1) := by decide +kernel
theorem dX6_relock_76 : decode cX6_relock 76 = .ok (.getfield 33, 3) := by decide +kernel
theorem dX6_relock_79 : decode cX6_relock 79 = .ok (.aload_n 0, 1) := by decide +kernel
theorem dX6_relock_80 : decode cX6_relock 80 = .ok (.getfield 58, 3) := by decide +kernel
theorem dX6_relock_83 : decode cX6_relock 83 = .ok (.iload_n 1, 1) := by decide +kernel
theorem dX6_relock_84 : decode cX6_relock 84 = .ok (.aload_n 0, 1) := by decide +kernel
theorem dX6_relock_85 : decode cX6_relock 85 = .ok (.getfield 19, 3) := by decide +kernel
theorem dX6_relock_88 : decode cX6_relock 88 = .ok (.invokevirtual 346, 3) := by decide +kernel
theorem dX6_relock_91 : decode cX6_relock 91 = .ok (.aload_n 0, 1) := by decide +kernel
theorem dX6_relock_92 : decode cX6_relock 92 = .ok (.getfield 19, 3) := by decide +kernel
theorem dX6_relock_95 : decode cX6_relock 95 = .ok (.getfield 265, 3) := by decide +kernel
theorem dX6_relock_98 : decode cX6_relock 98 = .ok (.ireturn, 1) := by decide +kernel
theorem dX6_tighten_0 : decode cX6_tighten 0 = .ok (.aload_n 0, 1) := by decide +kernel
theorem dX6_tighten_1 : decode cX6_tighten 1 = .ok (.iload_n 1, 1) := by decide +kernel
theorem dX6_tighten_2 : decode cX6_tighten 2 = .ok (.invokevirtual 172, 3) := by decide +kernel
theorem dX6_tighten_5 : decode cX6_tighten 5 = .ok (.astore_n 2, 1) := by decide +kernel
theorem dX6_tighten_6 : decode cX6_tighten 6 = .ok (.aload_n 2, 1) := by decide +kernel
theorem dX6_tighten_7 : decode cX6_tighten 7 = .ok (.invokevirtual 199, 3) := by decide +kernel
theorem dX6_tighten_10 : decode cX6_tighten 10 = .ok (.ifCond .ne 14, 3) := by decide +kernel
theorem dX6_tighten_13 : decode cX6_tighten 13 = .ok (.new 84, 3) := by decide +kernel
theorem dX6_tighten_16 : decode cX6_tighten 16 = .ok (.dup, 1) := by decide +kernel
theorem dX6_tighten_17 : decode cX6_tighten 17 = .ok (.ldc_w 415, 3) := by decide +kernel
theorem dX6_tighten_20 : decode cX6_tighten 20 = .ok (.invokespecial 88, 3) := by decide +kernel
theorem dX6_tighten_23 : decode cX6_tighten 23 = .ok (.athrow, 1) := by decide +kernel
theorem dX6_tighten_24 : decode cX6_tighten 24 = .ok (.aload_n 0, 1) := by decide +kernel
theorem dX6_tighten_25 : decode cX6_tighten 25 = .ok (.getfield 26, 3) := by decide +kernel
theorem dX6_tighten_28 : decode cX6_tighten 28 = .ok (.aload_n 0, 1) := by decide +kernel
theorem dX6_tighten_29 : decode cX6_tighten 29 = .ok (.getfield 33, 3) := by decide +kernel
theorem dX6_tighten_32 : decode cX6_tighten 32 = .ok (.invokevirtual 378, 3) := by decide +kernel
theorem dX6_tighten_35 : decode cX6_tighten 35 = .ok (.aload_n 2, 1) := by decide +kernel
theorem dX6_tighten_36 : decode cX6_tighten 36 = .ok (.getfield 187, 3) := by decide +kernel
theorem dX6_tighten_39 : decode cX6_tighten 39 = .ok (.aload_n 0, 1) := by decide +kernel
theorem dX6_tighten_40 : decode cX6_tighten 40 = .ok (.getfield 58, 3) := by decide +kernel
theorem dX6_tighten_43 : decode cX6_tighten 43 = .ok (.getfield 158, 3) := by decide +kernel
theorem dX6_tighten_46 : decode cX6_tighten 46 = .ok (.if_icmp .ge 48, 3) := by decide +kernel
theorem dX6_tighten_49 : decode cX6_tighten 49 = .ok (.aload_n 2, 1) := by decide +kernel
theorem dX6_tighten_50 : decode cX6_tighten 50 = .ok (.getfield 190, 3) := by decide +kernel
theorem dX6_tighten_53 : decode cX6_tighten 53 = .ok (.ifCond .le 41, 3) := by decide +kernel
theorem dX6_tighten_56 : decode cX6_tighten 56 = .ok (.aload_n 2, 1) := by decide +kernel
theorem dX6_tighten_57 : decode cX6_tighten 57 = .ok (.dup, 1) := by decide +kernel
theorem dX6_tighten_58 : decode cX6_tighten 58 = .ok (.getfield 187, 3) := by decide +kernel
theorem dX6_tighten_61 : decode cX6_tighten 61 = .ok (.iconst 1, 1) := by decide +kernel
theorem dX6_tighten_62 : decode cX6_tighten 62 = .ok (.iadd, 1) := by decide +kernel
theorem dX6_tighten_63 : decode cX6_tighten 63 = .ok (.putfield 187, 3) := by decide +kernel
theorem dX6_tighten_66 : decode cX6_tighten 66 = .ok (.aload_n 2, 1) := by decide +kernel
theorem dX6_tighten_67 : decode cX6_tighten 67 = .ok (.dup, 1) := by decide +kernel
theorem dX6_tighten_68 : decode cX6_tighten 68 = .ok (.getfield 203, 3) := by decide +kernel
theorem dX6_tighten_71 : decode cX6_tighten 71 = .ok (.iconst 1, 1) := by decide +kernel
theorem dX6_tighten_72 : decode cX6_tighten 72 = .ok (.iadd, 1) := by decide +kernel
theorem dX6_tighten_73 : decode cX6_tighten 73 = .ok (.putfield 203, 3) := by decide +kernel
theorem dX6_tighten_76 : decode cX6_tighten 76 = .ok (.aload_n 2, 1) := by decide +kernel
theorem dX6_tighten_77 : decode cX6_tighten 77 = .ok (.iconst 0, 1) := by decide +kernel
theorem dX6_tighten_78 : decode cX6_tighten 78 = .ok (.aload_n 2, 1) := by decide +kernel
theorem dX6_tighten_79 : decode cX6_tighten 79 = .ok (.getfield 190, 3) := by decide +kernel
theorem dX6_tighten_82 : decode cX6_tighten 82 = .ok (.bipush 10, 2) := by decide +kernel
theorem dX6_tighten_84 : decode cX6_tighten 84 = .ok (.isub, 1) := by decide +kernel
theorem dX6_tighten_85 : decode cX6_tighten 85 = .ok (.invokestatic 300, 3) := by decide +kernel
theorem dX6_tighten_88 : decode cX6_tighten 88 = .ok (.putfield 190, 3) := by decide +kernel
theorem dX6_tighten_91 : decode cX6_tighten 91 = .ok (.goto (-56), 3) := by decide +kernel
theorem dX6_tighten_94 : decode cX6_tighten 94 = .ok (.aload_n 2, 1) := by decide +kernel
theorem dX6_tighten_95 : decode cX6_tighten 95 = .ok (.getfield 190, 3) := by decide +kernel
theorem dX6_tighten_98 : decode cX6_tighten 98 = .ok (.ireturn, 1) := by decide +kernel
theorem dX6_print_0 : decode cX6_print 0 = .ok (.aload_n 0, 1) := by decide +kernel
theorem dX6_print_1 : decode cX6_print 1 = .ok (.invokevirtual 112, 3) := by decide +kernel
theorem dX6_print_4 : decode cX6_print 4 = .ok (.iload_n 1, 1) := by decide +kernel
theorem dX6_print_5 : decode cX6_print 5 = .ok (.invokestatic 417, 3) := by decide +kernel
theorem dX6_print_8 : decode cX6_print 8 = .ok (.aload_n 0, 1) := by decide +kernel
theorem dX6_print_9 : decode cX6_print 9 = .ok (.getfield 26, 3) := by decide +kernel
theorem dX6_print_12 : decode cX6_print 12 = .ok (.aload_n 0, 1) := by decide +kernel
theorem dX6_print_13 : decode cX6_print 13 = .ok (.getfield 33, 3) := by decide +kernel
theorem dX6_print_16 : decode cX6_print 16 = .ok (.invokevirtual 378, 3) := by decide +kernel
theorem dX6_print_19 : decode cX6_print 19 = .ok (.aload_n 0, 1) := by decide +kernel
theorem dX6_print_20 : decode cX6_print 20 = .ok (.getfield 33, 3) := by decide +kernel
theorem dX6_print_23 : decode cX6_print 23 = .ok (.aload_n 0, 1) := by decide +kernel
theorem dX6_print_24 : decode cX6_print 24 = .ok (.getfield 58, 3) := by decide +kernel
theorem dX6_print_27 : decode cX6_print 27 = .ok (.iload_n 1, 1) := by decide +kernel
theorem dX6_print_28 : decode cX6_print 28 = .ok (.invokevirtual 342, 3) := by decide +kernel
theorem dX6_print_31 : decode cX6_print 31 = .ok (.ireturn, 1) := by decide +kernel
theorem dX6_rest_0 : decode cX6_rest 0 = .ok (.aload_n 0, 1) := by decide +kernel
theorem dX6_rest_1 : decode cX6_rest 1 = .ok (.invokevirtual 112, 3) := by decide +kernel
theorem dX6_rest_4 : decode cX6_rest 4 = .ok (.iload_n 1, 1) := by decide +kernel
theorem dX6_rest_5 : decode cX6_rest 5 = .ok (.invokestatic 417, 3) := by decide +kernel
theorem dX6_rest_8 : decode cX6_rest 8 = .ok (.aload_n 0, 1) := by decide +kernel
theorem dX6_rest_9 : decode cX6_rest 9 = .ok (.getfield 26, 3) := by decide +kernel
theorem dX6_rest_12 : decode cX6_rest 12 = .ok (.aload_n 0, 1) := by decide +kernel
theorem dX6_rest_13 : decode cX6_rest 13 = .ok (.getfield 33, 3) := by decide +kernel
theorem dX6_rest_16 : decode cX6_rest 16 = .ok (.invokevirtual 378, 3) := by decide +kernel
theorem dX6_rest_19 : decode cX6_rest 19 = .ok (.iconst 0, 1) := by decide +kernel
theorem dX6_rest_20 : decode cX6_rest 20 = .ok (.istore_n 2, 1) := by decide +kernel
theorem dX6_rest_21 : decode cX6_rest 21 = .ok (.iconst 0, 1) := by decide +kernel
theorem dX6_rest_22 : decode cX6_rest 22 = .ok (.istore_n 3, 1) := by decide +kernel
theorem dX6_rest_23 : decode cX6_rest 23 = .ok (.iload_n 3, 1) := by decide +kernel
theorem dX6_rest_24 : decode cX6_rest 24 = .ok (.iload_n 1, 1) := by decide +kernel
theorem dX6_rest_25 : decode cX6_rest 25 = .ok (.if_icmp .ge 23, 3) := by decide +kernel
theorem dX6_rest_28 : decode cX6_rest 28 = .ok (.iload_n 2, 1) := by decide +kernel
theorem dX6_rest_29 : decode cX6_rest 29 = .ok (.aload_n 0, 1) := by decide +kernel
theorem dX6_rest_30 : decode cX6_rest 30 = .ok (.getfield 33, 3) := by decide +kernel
theorem dX6_rest_33 : decode cX6_rest 33 = .ok (.aload_n 0, 1) := by decide +kernel
theorem dX6_rest_34 : decode cX6_rest 34 = .ok (.getfield 58, 3) := by decide +kernel
theorem dX6_rest_37 : decode cX6_rest 37 = .ok (.invokevirtual 420, 3) := by decide +kernel
theorem dX6_rest_40 : decode cX6_rest 40 = .ok (.iadd, 1) := by decide +kernel
theorem dX6_rest_41 : decode cX6_rest 41 = .ok (.istore_n 2, 1) := by decide +kernel
theorem dX6_rest_42 : decode cX6_rest 42 = .ok (.iinc 3 1, 3) := by decide +kernel
theorem dX6_rest_45 : decode cX6_rest 45 = .ok (.goto (-22), 3) := by decide +kernel
theorem dX6_rest_48 : decode cX6_rest 48 = .ok (.iload_n 2, 1) := by decide +kernel
theorem dX6_rest_49 : decode cX6_rest 49 = .ok (.ireturn, 1) := by decide +kernel
theorem dX6_buy_0 : decode cX6_buy 0 = .ok (.aload_n 0, 1) := by decide +kernel
theorem dX6_buy_1 : decode cX6_buy 1 = .ok (.invokevirtual 112, 3) := by decide +kernel
theorem dX6_buy_4 : decode cX6_buy 4 = .ok (.aload_n 0, 1) := by decide +kernel
theorem dX6_buy_5 : decode cX6_buy 5 = .ok (.iload_n 1, 1) := by decide +kernel
theorem dX6_buy_6 : decode cX6_buy 6 = .ok (.invokevirtual 219, 3) := by decide +kernel
theorem dX6_buy_9 : decode cX6_buy 9 = .ok (.iload_n 2, 1) := by decide +kernel
theorem dX6_buy_10 : decode cX6_buy 10 = .ok (.iconst 1, 1) := by decide +kernel
theorem dX6_buy_11 : decode cX6_buy 11 = .ok (.if_icmp .lt 25, 3) := by decide +kernel
theorem dX6_buy_14 : decode cX6_buy 14 = .ok (.iload_n 2, 1) := by decide +kernel
theorem dX6_buy_15 : decode cX6_buy 15 = .ok (.bipush 99, 2) := by decide +kernel
theorem dX6_buy_17 : decode cX6_buy 17 = .ok (.if_icmp .gt 19, 3) := by decide +kernel
theorem dX6_buy_20 : decode cX6_buy 20 = .ok (.aload_n 0, 1) := by decide +kernel
theorem dX6_buy_21 : decode cX6_buy 21 = .ok (.getfield 33, 3) := by decide +kernel
theorem dX6_buy_24 : decode cX6_buy 24 = .ok (.getfield 230, 3) := by decide +kernel
theorem dX6_buy_27 : decode cX6_buy 27 = .ok (.iload_n 1, 1) := by decide +kernel
theorem dX6_buy_28 : decode cX6_buy 28 = .ok (.iaload, 1) := by decide +kernel
theorem dX6_buy_29 : decode cX6_buy 29 = .ok (.bipush 99, 2) := by decide +kernel
theorem dX6_buy_31 : decode cX6_buy 31 = .ok (.iload_n 2, 1) := by decide +kernel
theorem dX6_buy_32 : decode cX6_buy 32 = .ok (.isub, 1) := by decide +kernel
theorem dX6_buy_33 : decode cX6_buy 33 = .ok (.if_icmp .le 14, 3) := by decide +kernel
theorem dX6_buy_36 : decode cX6_buy 36 = .ok (.new 84, 3) := by decide +kernel
theorem dX6_buy_39 : decode cX6_buy 39 = .ok (.dup, 1) := by decide +kernel
theorem dX6_buy_40 : decode cX6_buy 40 = .ok (.ldc_w 423, 3) := by decide +kernel
theorem dX6_buy_43 : decode cX6_buy 43 = .ok (.invokespecial 88, 3) := by decide +kernel
theorem dX6_buy_46 : decode cX6_buy 46 = .ok (.athrow, 1) := by decide +kernel
theorem dX6_buy_47 : decode cX6_buy 47 = .ok (.aload_n 0, 1) := by decide +kernel
theorem dX6_buy_48 : decode cX6_buy 48 = .ok (.getfield 26, 3) := by decide +kernel
theorem dX6_buy_51 : decode cX6_buy 51 = .ok (.aload_n 0, 1) := by decide +kernel
theorem dX6_buy_52 : decode cX6_buy 52 = .ok (.getfield 33, 3) := by decide +kernel
theorem dX6_buy_55 : decode cX6_buy 55 = .ok (.invokevirtual 378, 3) := by decide +kernel
theorem dX6_buy_58 : decode cX6_buy 58 = .ok (.aload_n 0, 1) := by decide +kernel
theorem dX6_buy_59 : decode cX6_buy 59 = .ok (.getfield 33, 3) := by decide +kernel
theorem dX6_buy_62 : decode cX6_buy 62 = .ok (.getfield 230, 3) := by decide +kernel
theorem dX6_buy_65 : decode cX6_buy 65 = .ok (.iload_n 1, 1) := by decide +kernel
theorem dX6_buy_66 : decode cX6_buy 66 = .ok (.dup2, 1) := by decide +kernel
theorem dX6_buy_67 : decode cX6_buy 67 = .ok (.iaload, 1) := by decide +kernel
theorem dX6_buy_68 : decode cX6_buy 68 = .ok (.iload_n 2, 1) := by decide +kernel
theorem dX6_buy_69 : decode cX6_buy 69 = .ok (.iadd, 1) := by decide +kernel
theorem dX6_buy_70 : decode cX6_buy 70 = .ok (.iastore, 1) := by decide +kernel
theorem dX6_buy_71 : decode cX6_buy 71 = .ok (.aload_n 0, 1) := by decide +kernel
theorem dX6_buy_72 : decode cX6_buy 72 = .ok (.getfield 33, 3) := by decide +kernel
theorem dX6_buy_75 : decode cX6_buy 75 = .ok (.getfield 230, 3) := by decide +kernel
theorem dX6_buy_78 : decode cX6_buy 78 = .ok (.iload_n 1, 1) := by decide +kernel
theorem dX6_buy_79 : decode cX6_buy 79 = .ok (.iaload, 1) := by decide +kernel
theorem dX6_buy_80 : decode cX6_buy 80 = .ok (.ireturn, 1) := by decide +kernel
theorem dX6_undo_0 : decode cX6_undo 0 = .ok (.aload_n 0, 1) := by decide +kernel
theorem dX6_undo_1 : decode cX6_undo 1 = .ok (.getfield 26, 3) := by decide +kernel
theorem dX6_undo_4 : decode cX6_undo 4 = .ok (.getfield 425, 3) := by decide +kernel
theorem dX6_undo_7 : decode cX6_undo 7 = .ok (.ifCond .ne 14, 3) := by decide +kernel
theorem dX6_undo_10 : decode cX6_undo 10 = .ok (.new 428, 3) := by decide +kernel
theorem dX6_undo_13 : decode cX6_undo 13 = .ok (.dup, 1) := by decide +kernel
theorem dX6_undo_14 : decode cX6_undo 14 = .ok (.ldc_w 430, 3) := by decide +kernel
theorem dX6_undo_17 : decode cX6_undo 17 = .ok (.invokespecial 432, 3) := by decide +kernel
theorem dX6_undo_20 : decode cX6_undo 20 = .ok (.athrow, 1) := by decide +kernel
theorem dX6_undo_21 : decode cX6_undo 21 = .ok (.aload_n 0, 1) := by decide +kernel
theorem dX6_undo_22 : decode cX6_undo 22 = .ok (.getfield 26, 3) := by decide +kernel
theorem dX6_undo_25 : decode cX6_undo 25 = .ok (.aload_n 0, 1) := by decide +kernel
theorem dX6_undo_26 : decode cX6_undo 26 = .ok (.getfield 33, 3) := by decide +kernel
theorem dX6_undo_29 : decode cX6_undo 29 = .ok (.invokevirtual 433, 3) := by decide +kernel
theorem dX6_undo_32 : decode cX6_undo 32 = .ok (.aload_n 0, 1) := by decide +kernel
theorem dX6_undo_33 : decode cX6_undo 33 = .ok (.getfield 26, 3) := by decide +kernel
theorem dX6_undo_36 : decode cX6_undo 36 = .ok (.getfield 425, 3) := by decide +kernel
theorem dX6_undo_39 : decode cX6_undo 39 = .ok (.ireturn, 1) := by decide +kernel
theorem dX6_undoable_0 : decode cX6_undoable 0 = .ok (.aload_n 0, 1) := by decide +kernel
theorem dX6_undoable_1 : decode cX6_undoable 1 = .ok (.getfield 26, 3) := by decide +kernel
theorem dX6_undoable_4 : decode cX6_undoable 4 = .ok (.getfield 425, 3) := by decide +kernel
theorem dX6_undoable_7 : decode cX6_undoable 7 = .ok (.ireturn, 1) := by decide +kernel
theorem dX6_save_0 : decode cX6_save 0 = .ok (.aload_n 0, 1) := by decide +kernel
theorem dX6_save_1 : decode cX6_save 1 = .ok (.invokevirtual 112, 3) := by decide +kernel
theorem dX6_save_4 : decode cX6_save 4 = .ok (.iload_n 1, 1) := by decide +kernel
theorem dX6_save_5 : decode cX6_save 5 = .ok (.iconst 2, 1) := by decide +kernel
theorem dX6_save_6 : decode cX6_save 6 = .ok (.invokestatic 208, 3) := by decide +kernel
theorem dX6_save_9 : decode cX6_save 9 = .ok (.aload_n 0, 1) := by decide +kernel
theorem dX6_save_10 : decode cX6_save 10 = .ok (.getfield 40, 3) := by decide +kernel
theorem dX6_save_13 : decode cX6_save 13 = .ok (.iload_n 1, 1) := by decide +kernel
theorem dX6_save_14 : decode cX6_save 14 = .ok (.aaload, 1) := by decide +kernel
theorem dX6_save_15 : decode cX6_save 15 = .ok (.aload_n 0, 1) := by decide +kernel
theorem dX6_save_16 : decode cX6_save 16 = .ok (.getfield 33, 3) := by decide +kernel
theorem dX6_save_19 : decode cX6_save 19 = .ok (.invokevirtual 95, 3) := by decide +kernel
theorem dX6_save_22 : decode cX6_save 22 = .ok (.aload_n 0, 1) := by decide +kernel
theorem dX6_save_23 : decode cX6_save 23 = .ok (.getfield 44, 3) := by decide +kernel
theorem dX6_save_26 : decode cX6_save 26 = .ok (.iload_n 1, 1) := by decide +kernel
theorem dX6_save_27 : decode cX6_save 27 = .ok (.iconst 1, 1) := by decide +kernel
theorem dX6_save_28 : decode cX6_save 28 = .ok (.bastore, 1) := by decide +kernel
theorem dX6_save_29 : decode cX6_save 29 = .ok (.aload_n 0, 1) := by decide +kernel
theorem dX6_save_30 : decode cX6_save 30 = .ok (.getfield 33, 3) := by decide +kernel
theorem dX6_save_33 : decode cX6_save 33 = .ok (.getfield 132, 3) := by decide +kernel
theorem dX6_save_36 : decode cX6_save 36 = .ok (.ireturn, 1) := by decide +kernel
theorem dX6_restore_0 : decode cX6_restore 0 = .ok (.iload_n 1, 1) := by decide +kernel
theorem dX6_restore_1 : decode cX6_restore 1 = .ok (.iconst 2, 1) := by decide +kernel
theorem dX6_restore_2 : decode cX6_restore 2 = .ok (.invokestatic 208, 3) := by decide +kernel
theorem dX6_restore_5 : decode cX6_restore 5 = .ok (.aload_n 0, 1) := by decide +kernel
theorem dX6_restore_6 : decode cX6_restore 6 = .ok (.getfield 44, 3) := by decide +kernel
theorem dX6_restore_9 : decode cX6_restore 9 = .ok (.iload_n 1, 1) := by decide +kernel
theorem dX6_restore_10 : decode cX6_restore 10 = .ok (.baload, 1) := by decide +kernel
theorem dX6_restore_11 : decode cX6_restore 11 = .ok (.ifCond .ne 14, 3) := by decide +kernel
theorem dX6_restore_14 : decode cX6_restore 14 = .ok (.new 428, 3) := by decide +kernel
theorem dX6_restore_17 : decode cX6_restore 17 = .ok (.dup, 1) := by decide +kernel
theorem dX6_restore_18 : decode cX6_restore 18 = .ok (.ldc_w 436, 3) := by decide +kernel
theorem dX6_restore_21 : decode cX6_restore 21 = .ok (.invokespecial 432, 3) := by decide +kernel
theorem dX6_restore_24 : decode cX6_restore 24 = .ok (.athrow, 1) := by decide +kernel
theorem dX6_restore_25 : decode cX6_restore 25 = .ok (.aload_n 0, 1) := by decide +kernel
theorem dX6_restore_26 : decode cX6_restore 26 = .ok (.getfield 33, 3) := by decide +kernel
theorem dX6_restore_29 : decode cX6_restore 29 = .ok (.aload_n 0, 1) := by decide +kernel
theorem dX6_restore_30 : decode cX6_restore 30 = .ok (.getfield 40, 3) := by decide +kernel
theorem dX6_restore_33 : decode cX6_restore 33 = .ok (.iload_n 1, 1) := by decide +kernel
theorem dX6_restore_34 : decode cX6_restore 34 = .ok (.aaload, 1) := by decide +kernel
theorem dX6_restore_35 : decode cX6_restore 35 = .ok (.invokevirtual 95, 3) := by decide +kernel
theorem dX6_restore_38 : decode cX6_restore 38 = .ok (.aload_n 0, 1) := by decide +kernel
theorem dX6_restore_39 : decode cX6_restore 39 = .ok (.getfield 26, 3) := by decide +kernel
theorem dX6_restore_42 : decode cX6_restore 42 = .ok (.invokevirtual 99, 3) := by decide +kernel
theorem dX6_restore_45 : decode cX6_restore 45 = .ok (.aload_n 0, 1) := by decide +kernel
theorem dX6_restore_46 : decode cX6_restore 46 = .ok (.getfield 33, 3) := by decide +kernel
theorem dX6_restore_49 : decode cX6_restore 49 = .ok (.getfield 132, 3) := by decide +kernel
theorem dX6_restore_52 : decode cX6_restore 52 = .ok (.ireturn, 1) := by decide +kernel
theorem dX6_needChase_0 : decode cX6_needChase 0 = .ok (.aload_n 0, 1) := by decide +kernel
theorem dX6_needChase_1 : decode cX6_needChase 1 = .ok (.getfield 102, 3) := by decide +kernel
theorem dX6_needChase_4 : decode cX6_needChase 4 = .ok (.ifCond .ne 14, 3) := by decide +kernel
theorem dX6_needChase_7 : decode cX6_needChase 7 = .ok (.new 428, 3) := by decide +kernel
theorem dX6_needChase_10 : decode cX6_needChase 10 = .ok (.dup, 1) := by decide +kernel
theorem dX6_needChase_11 : decode cX6_needChase 11 = .ok (.ldc_w 438, 3) := by decide +kernel
theorem dX6_needChase_14 : decode cX6_needChase 14 = .ok (.invokespecial 432, 3) := by decide +kernel
theorem dX6_needChase_17 : decode cX6_needChase 17 = .ok (.athrow, 1) := by decide +kernel
theorem dX6_needChase_18 : decode cX6_needChase 18 = .ok (.return_, 1) := by decide +kernel
theorem dX6_needRow_0 : decode cX6_needRow 0 = .ok (.aload_n 0, 1) := by decide +kernel
theorem dX6_needRow_1 : decode cX6_needRow 1 = .ok (.invokevirtual 112, 3) := by decide +kernel
theorem dX6_needRow_4 : decode cX6_needRow 4 = .ok (.iload_n 1, 1) := by decide +kernel
theorem dX6_needRow_5 : decode cX6_needRow 5 = .ok (.ifCond .lt 20, 3) := by decide +kernel
theorem dX6_needRow_8 : decode cX6_needRow 8 = .ok (.iload_n 1, 1) := by decide +kernel
theorem dX6_needRow_9 : decode cX6_needRow 9 = .ok (.aload_n 0, 1) := by decide +kernel
theorem dX6_needRow_10 : decode cX6_needRow 10 = .ok (.getfield 58, 3) := by decide +kernel
theorem dX6_needRow_13 : decode cX6_needRow 13 = .ok (.getfield 115, 3) := by decide +kernel
theorem dX6_needRow_16 : decode cX6_needRow 16 = .ok (.if_icmp .ge 9, 3) := by decide +kernel
theorem dX6_needRow_19 : decode cX6_needRow 19 = .ok (.iload_n 1, 1) := by decide +kernel
theorem dX6_needRow_20 : decode cX6_needRow 20 = .ok (.bipush 8, 2) := by decide +kernel
theorem dX6_needRow_22 : decode cX6_needRow 22 = .ok (.if_icmp .lt 14, 3) := by decide +kernel
theorem dX6_needRow_25 : decode cX6_needRow 25 = .ok (.new 73, 3) := by decide +kernel
theorem dX6_needRow_28 : decode cX6_needRow 28 = .ok (.dup, 1) := by decide +kernel
theorem dX6_needRow_29 : decode cX6_needRow 29 = .ok (.ldc_w 440, 3) := by decide +kernel
theorem dX6_needRow_32 : decode cX6_needRow 32 = .ok (.invokespecial 77, 3) := by decide +kernel
theorem dX6_needRow_35 : decode cX6_needRow 35 = .ok (.athrow, 1) := by decide +kernel
theorem dX6_needRow_36 : decode cX6_needRow 36 = .ok (.aload_n 0, 1) := by decide +kernel
theorem dX6_needRow_37 : decode cX6_needRow 37 = .ok (.getfield 33, 3) := by decide +kernel
theorem dX6_needRow_40 : decode cX6_needRow 40 = .ok (.getfield 246, 3) := by decide +kernel
theorem dX6_needRow_43 : decode cX6_needRow 43 = .ok (.iload_n 1, 1) := by decide +kernel
theorem dX6_needRow_44 : decode cX6_needRow 44 = .ok (.aaload, 1) := by decide +kernel
theorem dX6_needRow_45 : decode cX6_needRow 45 = .ok (.areturn, 1) := by decide +kernel
theorem dX6_needKind_0 : decode cX6_needKind 0 = .ok (.iload_n 1, 1) := by decide +kernel
theorem dX6_needKind_1 : decode cX6_needKind 1 = .ok (.ifCond .lt 20, 3) := by decide +kernel
theorem dX6_needKind_4 : decode cX6_needKind 4 = .ok (.iload_n 1, 1) := by decide +kernel
theorem dX6_needKind_5 : decode cX6_needKind 5 = .ok (.aload_n 0, 1) := by decide +kernel
theorem dX6_needKind_6 : decode cX6_needKind 6 = .ok (.getfield 58, 3) := by decide +kernel
theorem dX6_needKind_9 : decode cX6_needKind 9 = .ok (.getfield 92, 3) := by decide +kernel
theorem dX6_needKind_12 : decode cX6_needKind 12 = .ok (.if_icmp .ge 9, 3) := by decide +kernel
theorem dX6_needKind_15 : decode cX6_needKind 15 = .ok (.iload_n 1, 1) := by decide +kernel
theorem dX6_needKind_16 : decode cX6_needKind 16 = .ok (.bipush 10, 2) := by decide +kernel
theorem dX6_needKind_18 : decode cX6_needKind 18 = .ok (.if_icmp .lt 14, 3) := by decide +kernel
theorem dX6_needKind_21 : decode cX6_needKind 21 = .ok (.new 73, 3) := by decide +kernel
theorem dX6_needKind_24 : decode cX6_needKind 24 = .ok (.dup, 1) := by decide +kernel
theorem dX6_needKind_25 : decode cX6_needKind 25 = .ok (.ldc_w 442, 3) := by decide +kernel
theorem dX6_needKind_28 : decode cX6_needKind 28 = .ok (.invokespecial 77, 3) := by decide +kernel
theorem dX6_needKind_31 : decode cX6_needKind 31 = .ok (.athrow, 1) := by decide +kernel
theorem dX6_needKind_32 : decode cX6_needKind 32 = .ok (.return_, 1) := by decide +kernel
theorem dX6_needIndex_0 : decode cX6_needIndex 0 = .ok (.iload_n 0, 1) := by decide +kernel
theorem dX6_needIndex_1 : decode cX6_needIndex 1 = .ok (.ifCond .lt 8, 3) := by decide +kernel
theorem dX6_needIndex_4 : decode cX6_needIndex 4 = .ok (.iload_n 0, 1) := by decide +kernel
theorem dX6_needIndex_5 : decode cX6_needIndex 5 = .ok (.iload_n 1, 1) := by decide +kernel
theorem dX6_needIndex_6 : decode cX6_needIndex 6 = .ok (.if_icmp .lt 14, 3) := by decide +kernel
theorem dX6_needIndex_9 : decode cX6_needIndex 9 = .ok (.new 73, 3) := by decide +kernel
theorem dX6_needIndex_12 : decode cX6_needIndex 12 = .ok (.dup, 1) := by decide +kernel
theorem dX6_needIndex_13 : decode cX6_needIndex 13 = .ok (.ldc_w 444, 3) := by decide +kernel
theorem dX6_needIndex_16 : decode cX6_needIndex 16 = .ok (.invokespecial 77, 3) := by decide +kernel
theorem dX6_needIndex_19 : decode cX6_needIndex 19 = .ok (.athrow, 1) := by decide +kernel
theorem dX6_needIndex_20 : decode cX6_needIndex 20 = .ok (.return_, 1) := by decide +kernel
theorem dX6_needBlockLength_0 : decode cX6_needBlockLength 0 = .ok (.iload_n 0, 1) := by decide +kernel
theorem dX6_needBlockLength_1 : decode cX6_needBlockLength 1 = .ok (.iconst 1, 1) := by decide +kernel
theorem dX6_needBlockLength_2 : decode cX6_needBlockLength 2 = .ok (.if_icmp .lt 10, 3) := by decide +kernel
theorem dX6_needBlockLength_5 : decode cX6_needBlockLength 5 = .ok (.iload_n 0, 1) := by decide +kernel
theorem dX6_needBlockLength_6 : decode cX6_needBlockLength 6 = .ok (.sipush 200, 3) := by decide +kernel
theorem dX6_needBlockLength_9 : decode cX6_needBlockLength 9 = .ok (.if_icmp .le 14, 3) := by decide +kernel
theorem dX6_needBlockLength_12 : decode cX6_needBlockLength 12 = .ok (.new 84, 3) := by decide +kernel
theorem dX6_needBlockLength_15 : decode cX6_needBlockLength 15 = .ok (.dup, 1) := by decide +kernel
theorem dX6_needBlockLength_16 : decode cX6_needBlockLength 16 = .ok (.ldc_w 446, 3) := by decide +kernel
theorem dX6_needBlockLength_19 : decode cX6_needBlockLength 19 = .ok (.invokespecial 88, 3) := by decide +kernel
theorem dX6_needBlockLength_22 : decode cX6_needBlockLength 22 = .ok (.athrow, 1) := by decide +kernel
theorem dX6_needBlockLength_23 : decode cX6_needBlockLength 23 = .ok (.return_, 1) := by decide +kernel
theorem dX6_needTurns_0 : decode cX6_needTurns 0 = .ok (.iload_n 0, 1) := by decide +kernel
theorem dX6_needTurns_1 : decode cX6_needTurns 1 = .ok (.iconst 1, 1) := by decide +kernel
theorem dX6_needTurns_2 : decode cX6_needTurns 2 = .ok (.if_icmp .lt 9, 3) := by decide +kernel
theorem dX6_needTurns_5 : decode cX6_needTurns 5 = .ok (.iload_n 0, 1) := by decide +kernel
theorem dX6_needTurns_6 : decode cX6_needTurns 6 = .ok (.bipush 100, 2) := by decide +kernel
theorem dX6_needTurns_8 : decode cX6_needTurns 8 = .ok (.if_icmp .le 14, 3) := by decide +kernel
theorem dX6_needTurns_11 : decode cX6_needTurns 11 = .ok (.new 84, 3) := by decide +kernel
theorem dX6_needTurns_14 : decode cX6_needTurns 14 = .ok (.dup, 1) := by decide +kernel
theorem dX6_needTurns_15 : decode cX6_needTurns 15 = .ok (.ldc_w 448, 3) := by decide +kernel
theorem dX6_needTurns_18 : decode cX6_needTurns 18 = .ok (.invokespecial 88, 3) := by decide +kernel
theorem dX6_needTurns_21 : decode cX6_needTurns 21 = .ok (.athrow, 1) := by decide +kernel
theorem dX6_needTurns_22 : decode cX6_needTurns 22 = .ok (.return_, 1) := by decide +kernel
theorem dX7_init_0 : decode cX7_init 0 = .ok (.aload_n 0, 1) := by decide +kernel
theorem dX7_init_1 : decode cX7_init 1 = .ok (.invokespecial 1, 3) := by decide +kernel
theorem dX7_init_4 : decode cX7_init 4 = .ok (.aload_n 0, 1) := by decide +kernel
theorem dX7_init_5 : decode cX7_init 5 = .ok (.bipush 10, 2) := by decide +kernel
theorem dX7_init_7 : decode cX7_init 7 = .ok (.newarray .boolean, 2) := by decide +kernel
theorem dX7_init_9 : decode cX7_init 9 = .ok (.putfield 7, 3) := by decide +kernel
theorem dX7_init_12 : decode cX7_init 12 = .ok (.aload_n 0, 1) := by decide +kernel
theorem dX7_init_13 : decode cX7_init 13 = .ok (.bipush 10, 2) := by decide +kernel
theorem dX7_init_15 : decode cX7_init 15 = .ok (.newarray .int, 2) := by decide +kernel
theorem dX7_init_17 : decode cX7_init 17 = .ok (.putfield 13, 3) := by decide +kernel
theorem dX7_init_20 : decode cX7_init 20 = .ok (.aload_n 0, 1) := by decide +kernel
theorem dX7_init_21 : decode cX7_init 21 = .ok (.sipush 4112, 3) := by decide +kernel
theorem dX7_init_24 : decode cX7_init 24 = .ok (.newarray .int, 2) := by decide +kernel
theorem dX7_init_26 : decode cX7_init 26 = .ok (.putfield 17, 3) := by decide +kernel
theorem dX7_init_29 : decode cX7_init 29 = .ok (.aload_n 0, 1) := by decide +kernel
theorem dX7_init_30 : decode cX7_init 30 = .ok (.sipush 4112, 3) := by decide +kernel
theorem dX7_init_33 : decode cX7_init 33 = .ok (.newarray .int, 2) := by decide +kernel
theorem dX7_init_35 : decode cX7_init 35 = .ok (.putfield 20, 3) := by decide +kernel
theorem dX7_init_38 : decode cX7_init 38 = .ok (.aload_n 0, 1) := by decide +kernel
theorem dX7_init_39 : decode cX7_init 39 = .ok (.ldc 23, 2) := by decide +kernel
theorem dX7_init_41 : decode cX7_init 41 = .ok (.newarray .int, 2) := by decide +kernel
theorem dX7_init_43 : decode cX7_init 43 = .ok (.putfield 24, 3) := by decide +kernel
theorem dX7_init_46 : decode cX7_init 46 = .ok (.aload_n 0, 1) := by decide +kernel
theorem dX7_init_47 : decode cX7_init 47 = .ok (.iconst 2, 1) := by decide +kernel
theorem dX7_init_48 : decode cX7_init 48 = .ok (.newarray .boolean, 2) := by decide +kernel
theorem dX7_init_50 : decode cX7_init 50 = .ok (.putfield 27, 3) := by decide +kernel
theorem dX7_init_53 : decode cX7_init 53 = .ok (.aload_n 0, 1) := by decide +kernel
theorem dX7_init_54 : decode cX7_init 54 = .ok (.sipush 500, 3) := by decide +kernel
theorem dX7_init_57 : decode cX7_init 57 = .ok (.newarray .int, 2) := by decide +kernel
theorem dX7_init_59 : decode cX7_init 59 = .ok (.putfield 30, 3) := by decide +kernel
theorem dX7_init_62 : decode cX7_init 62 = .ok (.aload_n 0, 1) := by decide +kernel
theorem dX7_init_63 : decode cX7_init 63 = .ok (.iconst (-1), 1) := by decide +kernel
theorem dX7_init_64 : decode cX7_init 64 = .ok (.putfield 33, 3) := by decide +kernel
theorem dX7_init_67 : decode cX7_init 67 = .ok (.aload_n 0, 1) := by decide +kernel
theorem dX7_init_68 : decode cX7_init 68 = .ok (.sipush 4112, 3) := by decide +kernel
theorem dX7_init_71 : decode cX7_init 71 = .ok (.newarray .int, 2) := by decide +kernel
theorem dX7_init_73 : decode cX7_init 73 = .ok (.putfield 37, 3) := by decide +kernel
theorem dX7_init_76 : decode cX7_init 76 = .ok (.aload_n 0, 1) := by decide +kernel
theorem dX7_init_77 : decode cX7_init 77 = .ok (.bipush 8, 2) := by decide +kernel
theorem dX7_init_79 : decode cX7_init 79 = .ok (.newarray .int, 2) := by decide +kernel
theorem dX7_init_81 : decode cX7_init 81 = .ok (.putfield 40, 3) := by decide +kernel
theorem dX7_init_84 : decode cX7_init 84 = .ok (.aload_n 0, 1) := by decide +kernel
theorem dX7_init_85 : decode cX7_init 85 = .ok (.bipush 10, 2) := by decide +kernel
theorem dX7_init_87 : decode cX7_init 87 = .ok (.newarray .int, 2) := by decide +kernel
theorem dX7_init_89 : decode cX7_init 89 = .ok (.putfield 43, 3) := by decide +kernel
theorem dX7_init_92 : decode cX7_init 92 = .ok (.aload_n 0, 1) := by decide +kernel
theorem dX7_init_93 : decode cX7_init 93 = .ok (.bipush 10, 2) := by decide +kernel
theorem dX7_init_95 : decode cX7_init 95 = .ok (.newarray .boolean, 2) := by decide +kernel
theorem dX7_init_97 : decode cX7_init 97 = .ok (.putfield 46, 3) := by decide +kernel
theorem dX7_init_100 : decode cX7_init 100 = .ok (.aload_n 0, 1) := by decide +kernel
theorem dX7_init_101 : decode cX7_init 101 = .ok (.bipush 10, 2) := by decide +kernel
theorem dX7_init_103 : decode cX7_init 103 = .ok (.newarray .int, 2) := by decide +kernel
theorem dX7_init_105 : decode cX7_init 105 = .ok (.putfield 49, 3) := by decide +kernel
theorem dX7_init_108 : decode cX7_init 108 = .ok (.aload_n 0, 1) := by decide +kernel
theorem dX7_init_109 : decode cX7_init 109 = .ok (.sipush 5511, 3) := by decide +kernel
theorem dX7_init_112 : decode cX7_init 112 = .ok (.newarray .int, 2) := by decide +kernel
theorem dX7_init_114 : decode cX7_init 114 = .ok (.putfield 52, 3) := by decide +kernel
theorem dX7_init_117 : decode cX7_init 117 = .ok (.aload_n 0, 1) := by decide +kernel
theorem dX7_init_118 : decode cX7_init 118 = .ok (.bipush 10, 2) := by decide +kernel
theorem dX7_init_120 : decode cX7_init 120 = .ok (.newarray .int, 2) := by decide +kernel
theorem dX7_init_122 : decode cX7_init 122 = .ok (.putfield 55, 3) := by decide +kernel
theorem dX7_init_125 : decode cX7_init 125 = .ok (.aload_n 0, 1) := by decide +kernel
theorem dX7_init_126 : decode cX7_init 126 = .ok (.iconst (-1), 1) := by decide +kernel
theorem dX7_init_127 : decode cX7_init 127 = .ok (.putfield 58, 3) := by decide +kernel
theorem dX7_init_130 : decode cX7_init 130 = .ok (.aload_n 0, 1) := by decide +kernel
theorem dX7_init_131 : decode cX7_init 131 = .ok (.sipush 501, 3) := by decide +kernel
theorem dX7_init_134 : decode cX7_init 134 = .ok (.newarray .int, 2) := by decide +kernel
theorem dX7_init_136 : decode cX7_init 136 = .ok (.putfield 61, 3) := by decide +kernel
theorem dX7_init_139 : decode cX7_init 139 = .ok (.aload_n 0, 1) := by decide +kernel
theorem dX7_init_140 : decode cX7_init 140 = .ok (.sipush 3000, 3) := by decide +kernel
theorem dX7_init_143 : decode cX7_init 143 = .ok (.newarray .int, 2) := by decide +kernel
theorem dX7_init_145 : decode cX7_init 145 = .ok (.putfield 64, 3) := by decide +kernel
theorem dX7_init_148 : decode cX7_init 148 = .ok (.return_, 1) := by decide +kernel
theorem dX7_thrown_0 : decode cX7_thrown 0 = .ok (.aload_n 0, 1) := by decide +kernel
theorem dX7_thrown_1 : decode cX7_thrown 1 = .ok (.getfield 67, 3) := by decide +kernel
theorem dX7_thrown_4 : decode cX7_thrown 4 = .ok (.ireturn, 1) := by decide +kernel
theorem dX7_in_0 : decode cX7_in 0 = .ok (.iload_n 0, 1) := by decide +kernel
theorem dX7_in_1 : decode cX7_in 1 = .ok (.iload_n 1, 1) := by decide +kernel
theorem dX7_in_2 : decode cX7_in 2 = .ok (.if_icmp .lt 12, 3) := by decide +kernel
theorem dX7_in_5 : decode cX7_in 5 = .ok (.iload_n 0, 1) := by decide +kernel
theorem dX7_in_6 : decode cX7_in 6 = .ok (.iload_n 2, 1) := by decide +kernel
theorem dX7_in_7 : decode cX7_in 7 = .ok (.if_icmp .gt 7, 3) := by decide +kernel
theorem dX7_in_10 : decode cX7_in 10 = .ok (.iconst 1, 1) := by decide +kernel
theorem dX7_in_11 : decode cX7_in 11 = .ok (.goto 4, 3) := by decide +kernel
theorem dX7_in_14 : decode cX7_in 14 = .ok (.iconst 0, 1) := by decide +kernel
theorem dX7_in_15 : decode cX7_in 15 = .ok (.ireturn, 1) := by decide +kernel
theorem dX7_flag_0 : decode cX7_flag 0 = .ok (.iload_n 0, 1) := by decide +kernel
theorem dX7_flag_1 : decode cX7_flag 1 = .ok (.ifCond .eq 7, 3) := by decide +kernel
theorem dX7_flag_4 : decode cX7_flag 4 = .ok (.iconst 1, 1) := by decide +kernel
theorem dX7_flag_5 : decode cX7_flag 5 = .ok (.goto 4, 3) := by decide +kernel
theorem dX7_flag_8 : decode cX7_flag 8 = .ok (.iconst 0, 1) := by decide +kernel
theorem dX7_flag_9 : decode cX7_flag 9 = .ok (.ireturn, 1) := by decide +kernel
theorem dX7_refuse_0 : decode cX7_refuse 0 = .ok (.aload_n 0, 1) := by decide +kernel
theorem dX7_refuse_1 : decode cX7_refuse 1 = .ok (.getfield 67, 3) := by decide +kernel
theorem dX7_refuse_4 : decode cX7_refuse 4 = .ok (.ifCond .ne 12, 3) := by decide +kernel
theorem dX7_refuse_7 : decode cX7_refuse 7 = .ok (.iload_n 1, 1) := by decide +kernel
theorem dX7_refuse_8 : decode cX7_refuse 8 = .ok (.ifCond .eq 8, 3) := by decide +kernel
theorem dX7_refuse_11 : decode cX7_refuse 11 = .ok (.aload_n 0, 1) := by decide +kernel
theorem dX7_refuse_12 : decode cX7_refuse 12 = .ok (.iload_n 2, 1) := by decide +kernel
theorem dX7_refuse_13 : decode cX7_refuse 13 = .ok (.putfield 67, 3) := by decide +kernel
theorem dX7_refuse_16 : decode cX7_refuse 16 = .ok (.aload_n 0, 1) := by decide +kernel
theorem dX7_refuse_17 : decode cX7_refuse 17 = .ok (.getfield 67, 3) := by decide +kernel
theorem dX7_refuse_20 : decode cX7_refuse 20 = .ok (.ifCond .eq 7, 3) := by decide +kernel
theorem dX7_refuse_23 : decode cX7_refuse 23 = .ok (.iconst 1, 1) := by decide +kernel
theorem dX7_refuse_24 : decode cX7_refuse 24 = .ok (.goto 4, 3) := by decide +kernel
theorem dX7_refuse_27 : decode cX7_refuse 27 = .ok (.iconst 0, 1) := by decide +kernel
theorem dX7_refuse_28 : decode cX7_refuse 28 = .ok (.ireturn, 1) := by decide +kernel
theorem dX7_notLoaded_0 : decode cX7_notLoaded 0 = .ok (.aload_n 0, 1) := by decide +kernel
theorem dX7_notLoaded_1 : decode cX7_notLoaded 1 = .ok (.iconst 0, 1) := by decide +kernel
theorem dX7_notLoaded_2 : decode cX7_notLoaded 2 = .ok (.putfield 67, 3) := by decide +kernel
theorem dX7_notLoaded_5 : decode cX7_notLoaded 5 = .ok (.aload_n 0, 1) := by decide +kernel
theorem dX7_notLoaded_6 : decode cX7_notLoaded 6 = .ok (.aload_n 0, 1) := by decide +kernel
theorem dX7_notLoaded_7 : decode cX7_notLoaded 7 = .ok (.getfield 70, 3) := by decide +kernel
theorem dX7_notLoaded_10 : decode cX7_notLoaded 10 = .ok (.ifCond .ne 7, 3) := by decide +kernel
theorem dX7_notLoaded_13 : decode cX7_notLoaded 13 = .ok (.iconst 1, 1) := by decide +kernel
theorem dX7_notLoaded_14 : decode cX7_notLoaded 14 = .ok (.goto 4, 3) := by decide +kernel
theorem dX7_notLoaded_17 : decode cX7_notLoaded 17 = .ok (.iconst 0, 1) := by decide +kernel
theorem dX7_notLoaded_18 : decode cX7_notLoaded 18 = .ok (.iconst 1, 1) := by decide +kernel
theorem dX7_notLoaded_19 : decode cX7_notLoaded 19 = .ok (.invokevirtual 74, 3) := by decide +kernel
theorem dX7_notLoaded_22 : decode cX7_notLoaded 22 = .ok (.ireturn, 1) := by decide +kernel
theorem dX7_append_0 : decode cX7_append 0 = .ok (.aload_n 0, 1) := by decide +kernel
theorem dX7_append_1 : decode cX7_append 1 = .ok (.iconst 0, 1) := by decide +kernel
theorem dX7_append_2 : decode cX7_append 2 = .ok (.putfield 67, 3) := by decide +kernel
theorem dX7_append_5 : decode cX7_append 5 = .ok (.aload_n 0, 1) := by decide +kernel
theorem dX7_append_6 : decode cX7_append 6 = .ok (.getfield 78, 3) := by decide +kernel
theorem dX7_append_9 : decode cX7_append 9 = .ok (.bipush 20, 2) := by decide +kernel
theorem dX7_append_11 : decode cX7_append 11 = .ok (.iadd, 1) := by decide +kernel
theorem dX7_append_12 : decode cX7_append 12 = .ok (.sipush 500, 3) := by decide +kernel
theorem dX7_append_15 : decode cX7_append 15 = .ok (.if_icmp .le 5, 3) := by decide +kernel
theorem dX7_append_18 : decode cX7_append 18 = .ok (.iconst (-1), 1) := by decide +kernel
theorem dX7_append_19 : decode cX7_append 19 = .ok (.ireturn, 1) := by decide +kernel
theorem dX7_append_20 : decode cX7_append 20 = .ok (.iconst 0, 1) := by decide +kernel
theorem dX7_append_21 : decode cX7_append 21 = .ok (.istore 6, 2) := by decide +kernel
theorem dX7_append_23 : decode cX7_append 23 = .ok (.iload 6, 2) := by decide +kernel
theorem dX7_append_25 : decode cX7_append 25 = .ok (.bipush 20, 2) := by decide +kernel
theorem dX7_append_27 : decode cX7_append 27 = .ok (.if_icmp .ge 86, 3) := by decide +kernel
theorem dX7_append_30 : decode cX7_append 30 = .ok (.iload 6, 2) := by decide +kernel
theorem dX7_append_32 : decode cX7_append 32 = .ok (.iconst 4, 1) := by decide +kernel
theorem dX7_append_33 : decode cX7_append 33 = .ok (.if_icmp .ge 7, 3) := by decide +kernel
theorem dX7_append_36 : decode cX7_append 36 = .ok (.iload_n 1, 1) := by decide +kernel
theorem dX7_append_37 : decode cX7_append 37 = .ok (.goto 39, 3) := by decide +kernel
theorem dX7_append_40 : decode cX7_append 40 = .ok (.iload 6, 2) := by decide +kernel
theorem dX7_append_42 : decode cX7_append 42 = .ok (.bipush 8, 2) := by decide +kernel
theorem dX7_append_44 : decode cX7_append 44 = .ok (.if_icmp .ge 7, 3) := by decide +kernel
theorem dX7_append_47 : decode cX7_append 47 = .ok (.iload_n 2, 1) := by decide +kernel
theorem dX7_append_48 : decode cX7_append 48 = .ok (.goto 28, 3) := by decide +kernel
theorem dX7_append_51 : decode cX7_append 51 = .ok (.iload 6, 2) := by decide +kernel
theorem dX7_append_53 : decode cX7_append 53 = .ok (.bipush 12, 2) := by decide +kernel
theorem dX7_append_55 : decode cX7_append 55 = .ok (.if_icmp .ge 7, 3) := by decide +kernel
theorem dX7_append_58 : decode cX7_append 58 = .ok (.iload_n 3, 1) := by decide +kernel
theorem dX7_append_59 : decode cX7_append 59 = .ok (.goto 17, 3) := by decide +kernel
theorem dX7_append_62 : decode cX7_append 62 = .ok (.iload 6, 2) := by decide +kernel
theorem dX7_append_64 : decode cX7_append 64 = .ok (.bipush 16, 2) := by decide +kernel
theorem dX7_append_66 : decode cX7_append 66 = .ok (.if_icmp .ge 8, 3) := by decide +kernel
theorem dX7_append_69 : decode cX7_append 69 = .ok (.iload 4, 2) := by decide +kernel
theorem dX7_append_71 : decode cX7_append 71 = .ok (.goto 5, 3) := by decide +kernel
theorem dX7_append_74 : decode cX7_append 74 = .ok (.iload 5, 2) := by decide +kernel
theorem dX7_append_76 : decode cX7_append 76 = .ok (.istore 7, 2) := by decide +kernel
theorem dX7_append_78 : decode cX7_append 78 = .ok (.aload_n 0, 1) := by decide +kernel
theorem dX7_append_79 : decode cX7_append 79 = .ok (.getfield 30, 3) := by decide +kernel
theorem dX7_append_82 : decode cX7_append 82 = .ok (.aload_n 0, 1) := by decide +kernel
theorem dX7_append_83 : decode cX7_append 83 = .ok (.getfield 78, 3) := by decide +kernel
theorem dX7_append_86 : decode cX7_append 86 = .ok (.iload 6, 2) := by decide +kernel
theorem dX7_append_88 : decode cX7_append 88 = .ok (.iadd, 1) := by decide +kernel
theorem dX7_append_89 : decode cX7_append 89 = .ok (.iload 7, 2) := by decide +kernel
theorem dX7_append_91 : decode cX7_append 91 = .ok (.bipush 24, 2) := by decide +kernel
theorem dX7_append_93 : decode cX7_append 93 = .ok (.bipush 8, 2) := by decide +kernel
theorem dX7_append_95 : decode cX7_append 95 = .ok (.iload 6, 2) := by decide +kernel
theorem dX7_append_97 : decode cX7_append 97 = .ok (.iconst 4, 1) := by decide +kernel
theorem dX7_append_98 : decode cX7_append 98 = .ok (.irem, 1) := by decide +kernel
theorem dX7_append_99 : decode cX7_append 99 = .ok (.imul, 1) := by decide +kernel
theorem dX7_append_100 : decode cX7_append 100 = .ok (.isub, 1) := by decide +kernel
theorem dX7_append_101 : decode cX7_append 101 = .ok (.ishr, 1) := by decide +kernel
theorem dX7_append_102 : decode cX7_append 102 = .ok (.sipush 255, 3) := by decide +kernel
theorem dX7_append_105 : decode cX7_append 105 = .ok (.iand, 1) := by decide +kernel
theorem dX7_append_106 : decode cX7_append 106 = .ok (.iastore, 1) := by decide +kernel
theorem dX7_append_107 : decode cX7_append 107 = .ok (.iinc 6 1, 3) := by decide +kernel
theorem dX7_append_110 : decode cX7_append 110 = .ok (.goto (-87), 3) := by decide +kernel
theorem dX7_append_113 : decode cX7_append 113 = .ok (.aload_n 0, 1) := by decide +kernel
theorem dX7_append_114 : decode cX7_append 114 = .ok (.dup, 1) := by decide +kernel
theorem dX7_append_115 : decode cX7_append 115 = .ok (.getfield 78, 3) := by decide +kernel
theorem dX7_append_118 : decode cX7_append 118 = .ok (.bipush 20, 2) := by decide +kernel
theorem dX7_append_120 : decode cX7_append 120 = .ok (.iadd, 1) := by decide +kernel
theorem dX7_append_121 : decode cX7_append 121 = .ok (.putfield 78, 3) := by decide +kernel
theorem dX7_append_124 : decode cX7_append 124 = .ok (.aload_n 0, 1) := by decide +kernel
theorem dX7_append_125 : decode cX7_append 125 = .ok (.getfield 78, 3) := by decide +kernel
theorem dX7_append_128 : decode cX7_append 128 = .ok (.ireturn, 1) := by decide +kernel
theorem dX7_buffered_0 : decode cX7_buffered 0 = .ok (.aload_n 0, 1) := by decide +kernel
theorem dX7_buffered_1 : decode cX7_buffered 1 = .ok (.iconst 0, 1) := by decide +kernel
theorem dX7_buffered_2 : decode cX7_buffered 2 = .ok (.putfield 67, 3) := by decide +kernel
theorem dX7_buffered_5 : decode cX7_buffered 5 = .ok (.aload_n 0, 1) := by decide +kernel
theorem dX7_buffered_6 : decode cX7_buffered 6 = .ok (.getfield 78, 3) := by decide +kernel
theorem dX7_buffered_9 : decode cX7_buffered 9 = .ok (.ireturn, 1) := by decide +kernel
theorem dX7_parseError_0 : decode cX7_parseError 0 = .ok (.aload_n 0, 1) := by decide +kernel
theorem dX7_parseError_1 : decode cX7_parseError 1 = .ok (.iconst 0, 1) := by decide +kernel
theorem dX7_parseError_2 : decode cX7_parseError 2 = .ok (.putfield 67, 3) := by decide +kernel
theorem dX7_parseError_5 : decode cX7_parseError 5 = .ok (.aload_n 0, 1) := by decide +kernel
theorem dX7_parseError_6 : decode cX7_parseError 6 = .ok (.getfield 81, 3) := by decide +kernel
theorem dX7_parseError_9 : decode cX7_parseError 9 = .ok (.ireturn, 1) := by decide +kernel
theorem dX7_errorPosition_0 : decode cX7_errorPosition 0 = .ok (.aload_n 0, 1) := by decide +kernel
theorem dX7_errorPosition_1 : decode cX7_errorPosition 1 = .ok (.iconst 0, 1) := by decide +kernel
theorem dX7_errorPosition_2 : decode cX7_errorPosition 2 = .ok (.putfield 67, 3) := by decide +kernel
theorem dX7_errorPosition_5 : decode cX7_errorPosition 5 = .ok (.aload_n 0, 1) := by decide +kernel
theorem dX7_errorPosition_6 : decode cX7_errorPosition 6 = .ok (.getfield 33, 3) := by decide +kernel
theorem dX7_errorPosition_9 : decode cX7_errorPosition 9 = .ok (.ireturn, 1) := by decide +kernel
theorem dX7_seen_0 : decode cX7_seen 0 = .ok (.iload_n 1, 1) := by decide +kernel
theorem dX7_seen_1 : decode cX7_seen 1 = .ok (.aload_n 0, 1) := by decide +kernel
theorem dX7_seen_2 : decode cX7_seen 2 = .ok (.getfield 84, 3) := by decide +kernel
theorem dX7_seen_5 : decode cX7_seen 5 = .ok (.if_icmp .ge 12, 3) := by decide +kernel
theorem dX7_seen_8 : decode cX7_seen 8 = .ok (.aload_n 0, 1) := by decide +kernel
theorem dX7_seen_9 : decode cX7_seen 9 = .ok (.getfield 30, 3) := by decide +kernel
theorem dX7_seen_12 : decode cX7_seen 12 = .ok (.iload_n 1, 1) := by decide +kernel
theorem dX7_seen_13 : decode cX7_seen 13 = .ok (.iaload, 1) := by decide +kernel
theorem dX7_seen_14 : decode cX7_seen 14 = .ok (.goto 4, 3) := by decide +kernel
theorem dX7_seen_17 : decode cX7_seen 17 = .ok (.iconst (-1), 1) := by decide +kernel
theorem dX7_seen_18 : decode cX7_seen 18 = .ok (.ireturn, 1) := by decide +kernel
theorem dX7_isSmall_0 : decode cX7_isSmall 0 = .ok (.iload_n 0, 1) := by decide +kernel
theorem dX7_isSmall_1 : decode cX7_isSmall 1 = .ok (.bipush 97, 2) := by decide +kernel
theorem dX7_isSmall_3 : decode cX7_isSmall 3 = .ok (.if_icmp .lt 13, 3) := by decide +kernel
theorem dX7_isSmall_6 : decode cX7_isSmall 6 = .ok (.iload_n 0, 1) := by decide +kernel
theorem dX7_isSmall_7 : decode cX7_isSmall 7 = .ok (.bipush 122, 2) := by decide +kernel
theorem dX7_isSmall_9 : decode cX7_isSmall 9 = .ok (.if_icmp .gt 7, 3) := by decide +kernel
theorem dX7_isSmall_12 : decode cX7_isSmall 12 = .ok (.iconst 1, 1) := by decide +kernel
theorem dX7_isSmall_13 : decode cX7_isSmall 13 = .ok (.goto 4, 3) := by decide +kernel
theorem dX7_isSmall_16 : decode cX7_isSmall 16 = .ok (.iconst 0, 1) := by decide +kernel
theorem dX7_isSmall_17 : decode cX7_isSmall 17 = .ok (.ireturn, 1) := by decide +kernel
theorem dX7_isDigit_0 : decode cX7_isDigit 0 = .ok (.iload_n 0, 1) := by decide +kernel
theorem dX7_isDigit_1 : decode cX7_isDigit 1 = .ok (.bipush 48, 2) := by decide +kernel
theorem dX7_isDigit_3 : decode cX7_isDigit 3 = .ok (.if_icmp .lt 13, 3) := by decide +kernel
theorem dX7_isDigit_6 : decode cX7_isDigit 6 = .ok (.iload_n 0, 1) := by decide +kernel
theorem dX7_isDigit_7 : decode cX7_isDigit 7 = .ok (.bipush 57, 2) := by decide +kernel
theorem dX7_isDigit_9 : decode cX7_isDigit 9 = .ok (.if_icmp .gt 7, 3) := by decide +kernel
theorem dX7_isDigit_12 : decode cX7_isDigit 12 = .ok (.iconst 1, 1) := by decide +kernel
theorem dX7_isDigit_13 : decode cX7_isDigit 13 = .ok (.goto 4, 3) := by decide +kernel
theorem dX7_isDigit_16 : decode cX7_isDigit 16 = .ok (.iconst 0, 1) := by decide +kernel
theorem dX7_isDigit_17 : decode cX7_isDigit 17 = .ok (.ireturn, 1) := by decide +kernel
theorem dX7_token_0 : decode cX7_token 0 = .ok (.aload_n 0, 1) := by decide +kernel
theorem dX7_token_1 : decode cX7_token 1 = .ok (.aload_n 0, 1) := by decide +kernel
theorem dX7_token_2 : decode cX7_token 2 = .ok (.getfield 87, 3) := by decide +kernel
theorem dX7_token_5 : decode cX7_token 5 = .ok (.invokevirtual 90, 3) := by decide +kernel
theorem dX7_token_8 : decode cX7_token 8 = .ok (.bipush 32, 2) := by decide +kernel
theorem dX7_token_10 : decode cX7_token 10 = .ok (.if_icmp .ne 16, 3) := by decide +kernel
theorem dX7_token_13 : decode cX7_token 13 = .ok (.aload_n 0, 1) := by decide +kernel
theorem dX7_token_14 : decode cX7_token 14 = .ok (.dup, 1) := by decide +kernel
theorem dX7_token_15 : decode cX7_token 15 = .ok (.getfield 87, 3) := by decide +kernel
theorem dX7_token_18 : decode cX7_token 18 = .ok (.iconst 1, 1) := by decide +kernel
theorem dX7_token_19 : decode cX7_token 19 = .ok (.iadd, 1) := by decide +kernel
theorem dX7_token_20 : decode cX7_token 20 = .ok (.putfield 87, 3) := by decide +kernel
theorem dX7_token_23 : decode cX7_token 23 = .ok (.goto (-23), 3) := by decide +kernel
theorem dX7_token_26 : decode cX7_token 26 = .ok (.aload_n 0, 1) := by decide +kernel
theorem dX7_token_27 : decode cX7_token 27 = .ok (.aload_n 0, 1) := by decide +kernel
theorem dX7_token_28 : decode cX7_token 28 = .ok (.getfield 87, 3) := by decide +kernel
theorem dX7_token_31 : decode cX7_token 31 = .ok (.putfield 94, 3) := by decide +kernel
theorem dX7_token_34 : decode cX7_token 34 = .ok (.aload_n 0, 1) := by decide +kernel
theorem dX7_token_35 : decode cX7_token 35 = .ok (.aload_n 0, 1) := by decide +kernel
theorem dX7_token_36 : decode cX7_token 36 = .ok (.getfield 87, 3) := by decide +kernel
theorem dX7_token_39 : decode cX7_token 39 = .ok (.invokevirtual 90, 3) := by decide +kernel
theorem dX7_token_42 : decode cX7_token 42 = .ok (.istore_n 1, 1) := by decide +kernel
theorem dX7_token_43 : decode cX7_token 43 = .ok (.iload_n 1, 1) := by decide +kernel
theorem dX7_token_44 : decode cX7_token 44 = .ok (.iconst (-1), 1) := by decide +kernel
theorem dX7_token_45 : decode cX7_token 45 = .ok (.if_icmp .ne 11, 3) := by decide +kernel
theorem dX7_token_48 : decode cX7_token 48 = .ok (.aload_n 0, 1) := by decide +kernel
theorem dX7_token_49 : decode cX7_token 49 = .ok (.iconst 0, 1) := by decide +kernel
theorem dX7_token_50 : decode cX7_token 50 = .ok (.putfield 97, 3) := by decide +kernel
theorem dX7_token_53 : decode cX7_token 53 = .ok (.goto 192, 3) := by decide +kernel
theorem dX7_token_56 : decode cX7_token 56 = .ok (.iload_n 1, 1) := by decide +kernel
theorem dX7_token_57 : decode cX7_token 57 = .ok (.invokestatic 100, 3) := by decide +kernel
theorem dX7_token_60 : decode cX7_token 60 = .ok (.ifCond .eq 56, 3) := by decide +kernel
theorem dX7_token_63 : decode cX7_token 63 = .ok (.aload_n 0, 1) := by decide +kernel
theorem dX7_token_64 : decode cX7_token 64 = .ok (.aload_n 0, 1) := by decide +kernel
theorem dX7_token_65 : decode cX7_token 65 = .ok (.getfield 87, 3) := by decide +kernel
theorem dX7_token_68 : decode cX7_token 68 = .ok (.invokevirtual 90, 3) := by decide +kernel
theorem dX7_token_71 : decode cX7_token 71 = .ok (.invokestatic 100, 3) := by decide +kernel
theorem dX7_token_74 : decode cX7_token 74 = .ok (.ifCond .eq 16, 3) := by decide +kernel
theorem dX7_token_77 : decode cX7_token 77 = .ok (.aload_n 0, 1) := by decide +kernel
theorem dX7_token_78 : decode cX7_token 78 = .ok (.dup, 1) := by decide +kernel
theorem dX7_token_79 : decode cX7_token 79 = .ok (.getfield 87, 3) := by decide +kernel
theorem dX7_token_82 : decode cX7_token 82 = .ok (.iconst 1, 1) := by decide +kernel
theorem dX7_token_83 : decode cX7_token 83 = .ok (.iadd, 1) := by decide +kernel
theorem dX7_token_84 : decode cX7_token 84 = .ok (.putfield 87, 3) := by decide +kernel
theorem dX7_token_87 : decode cX7_token 87 = .ok (.goto (-24), 3) := by decide +kernel
theorem dX7_token_90 : decode cX7_token 90 = .ok (.aload_n 0, 1) := by decide +kernel
theorem dX7_token_91 : decode cX7_token 91 = .ok (.aload_n 0, 1) := by decide +kernel
theorem dX7_token_92 : decode cX7_token 92 = .ok (.getfield 87, 3) := by decide +kernel
theorem dX7_token_95 : decode cX7_token 95 = .ok (.aload_n 0, 1) := by decide +kernel
theorem dX7_token_96 : decode cX7_token 96 = .ok (.getfield 94, 3) := by decide +kernel
theorem dX7_token_99 : decode cX7_token 99 = .ok (.isub, 1) := by decide +kernel
theorem dX7_token_100 : decode cX7_token 100 = .ok (.bipush 6, 2) := by decide +kernel
theorem dX7_token_102 : decode cX7_token 102 = .ok (.if_icmp .le 7, 3) := by decide +kernel
theorem dX7_token_105 : decode cX7_token 105 = .ok (.iconst 4, 1) := by decide +kernel
theorem dX7_token_106 : decode cX7_token 106 = .ok (.goto 4, 3) := by decide +kernel
theorem dX7_token_109 : decode cX7_token 109 = .ok (.iconst 1, 1) := by decide +kernel
theorem dX7_token_110 : decode cX7_token 110 = .ok (.putfield 97, 3) := by decide +kernel
theorem dX7_token_113 : decode cX7_token 113 = .ok (.goto 132, 3) := by decide +kernel
theorem dX7_token_116 : decode cX7_token 116 = .ok (.iload_n 1, 1) := by decide +kernel
theorem dX7_token_117 : decode cX7_token 117 = .ok (.invokestatic 104, 3) := by decide +kernel
theorem dX7_token_120 : decode cX7_token 120 = .ok (.ifCond .eq 100, 3) := by decide +kernel
theorem dX7_token_123 : decode cX7_token 123 = .ok (.aload_n 0, 1) := by decide +kernel
theorem dX7_token_124 : decode cX7_token 124 = .ok (.iconst 0, 1) := by decide +kernel
theorem dX7_token_125 : decode cX7_token 125 = .ok (.putfield 107, 3) := by decide +kernel
theorem dX7_token_128 : decode cX7_token 128 = .ok (.aload_n 0, 1) := by decide +kernel
theorem dX7_token_129 : decode cX7_token 129 = .ok (.aload_n 0, 1) := by decide +kernel
theorem dX7_token_130 : decode cX7_token 130 = .ok (.getfield 87, 3) := by decide +kernel
theorem dX7_token_133 : decode cX7_token 133 = .ok (.invokevirtual 90, 3) := by decide +kernel
theorem dX7_token_136 : decode cX7_token 136 = .ok (.invokestatic 104, 3) := by decide +kernel
theorem dX7_token_139 : decode cX7_token 139 = .ok (.ifCond .eq 56, 3) := by decide +kernel
theorem dX7_token_142 : decode cX7_token 142 = .ok (.aload_n 0, 1) := by decide +kernel
theorem dX7_token_143 : decode cX7_token 143 = .ok (.aload_n 0, 1) := by decide +kernel
theorem dX7_token_144 : decode cX7_token 144 = .ok (.getfield 87, 3) := by decide +kernel
theorem dX7_token_147 : decode cX7_token 147 = .ok (.aload_n 0, 1) := by decide +kernel
theorem dX7_token_148 : decode cX7_token 148 = .ok (.getfield 94, 3) := by decide +kernel
theorem dX7_token_151 : decode cX7_token 151 = .ok (.isub, 1) := by decide +kernel
theorem dX7_token_152 : decode cX7_token 152 = .ok (.iconst 3, 1) := by decide +kernel
theorem dX7_token_153 : decode cX7_token 153 = .ok (.if_icmp .ge 25, 3) := by decide +kernel
theorem dX7_token_156 : decode cX7_token 156 = .ok (.bipush 10, 2) := by decide +kernel
theorem dX7_token_158 : decode cX7_token 158 = .ok (.aload_n 0, 1) := by decide +kernel
theorem dX7_token_159 : decode cX7_token 159 = .ok (.getfield 107, 3) := by decide +kernel
theorem dX7_token_162 : decode cX7_token 162 = .ok (.imul, 1) := by decide +kernel
theorem dX7_token_163 : decode cX7_token 163 = .ok (.aload_n 0, 1) := by decide +kernel
theorem dX7_token_164 : decode cX7_token 164 = .ok (.aload_n 0, 1) := by decide +kernel
theorem dX7_token_165 : decode cX7_token 165 = .ok (.getfield 87, 3) := by decide +kernel
theorem dX7_token_168 : decode cX7_token 168 = .ok (.invokevirtual 90, 3) := by decide +kernel
theorem dX7_token_171 : decode cX7_token 171 = .ok (.iadd, 1) := by decide +kernel
theorem dX7_token_172 : decode cX7_token 172 = .ok (.bipush 48, 2) := by decide +kernel
theorem dX7_token_174 : decode cX7_token 174 = .ok (.isub, 1) := by decide +kernel
theorem dX7_token_175 : decode cX7_token 175 = .ok (.goto 4, 3) := by decide +kernel
theorem dX7_token_178 : decode cX7_token 178 = .ok (.iconst 0, 1) := by decide +kernel
theorem dX7_token_179 : decode cX7_token 179 = .ok (.putfield 107, 3) := by decide +kernel
theorem dX7_token_182 : decode cX7_token 182 = .ok (.aload_n 0, 1) := by decide +kernel
theorem dX7_token_183 : decode cX7_token 183 = .ok (.dup, 1) := by decide +kernel
theorem dX7_token_184 : decode cX7_token 184 = .ok (.getfield 87, 3) := by decide +kernel
theorem dX7_token_187 : decode cX7_token 187 = .ok (.iconst 1, 1) := by decide +kernel
theorem dX7_token_188 : decode cX7_token 188 = .ok (.iadd, 1) := by decide +kernel
theorem dX7_token_189 : decode cX7_token 189 = .ok (.putfield 87, 3) := by decide +kernel
theorem dX7_token_192 : decode cX7_token 192 = .ok (.goto (-64), 3) := by decide +kernel
theorem dX7_token_195 : decode cX7_token 195 = .ok (.aload_n 0, 1) := by decide +kernel
theorem dX7_token_196 : decode cX7_token 196 = .ok (.aload_n 0, 1) := by decide +kernel
theorem dX7_token_197 : decode cX7_token 197 = .ok (.getfield 87, 3) := by decide +kernel
theorem dX7_token_200 : decode cX7_token 200 = .ok (.aload_n 0, 1) := by decide +kernel
theorem dX7_token_201 : decode cX7_token 201 = .ok (.getfield 94, 3) := by decide +kernel
theorem dX7_token_204 : decode cX7_token 204 = .ok (.isub, 1) := by decide +kernel
theorem dX7_token_205 : decode cX7_token 205 = .ok (.iconst 3, 1) := by decide +kernel
theorem dX7_token_206 : decode cX7_token 206 = .ok (.if_icmp .le 7, 3) := by decide +kernel
theorem dX7_token_209 : decode cX7_token 209 = .ok (.iconst 4, 1) := by decide +kernel
theorem dX7_token_210 : decode cX7_token 210 = .ok (.goto 4, 3) := by decide +kernel
theorem dX7_token_213 : decode cX7_token 213 = .ok (.iconst 2, 1) := by decide +kernel
theorem dX7_token_214 : decode cX7_token 214 = .ok (.putfield 97, 3) := by decide +kernel
theorem dX7_token_217 : decode cX7_token 217 = .ok (.goto 28, 3) := by decide +kernel
theorem dX7_token_220 : decode cX7_token 220 = .ok (.aload_n 0, 1) := by decide +kernel
theorem dX7_token_221 : decode cX7_token 221 = .ok (.iload_n 1, 1) := by decide +kernel
theorem dX7_token_222 : decode cX7_token 222 = .ok (.bipush 59, 2) := by decide +kernel
theorem dX7_token_224 : decode cX7_token 224 = .ok (.if_icmp .ne 7, 3) := by decide +kernel
theorem dX7_token_227 : decode cX7_token 227 = .ok (.iconst 3, 1) := by decide +kernel
theorem dX7_token_228 : decode cX7_token 228 = .ok (.goto 4, 3) := by decide +kernel
theorem dX7_token_231 : decode cX7_token 231 = .ok (.iconst 4, 1) := by decide +kernel
theorem dX7_token_232 : decode cX7_token 232 = .ok (.putfield 97, 3) := by decide +kernel
theorem dX7_token_235 : decode cX7_token 235 = .ok (.aload_n 0, 1) := by decide +kernel
theorem dX7_token_236 : decode cX7_token 236 = .ok (.dup, 1) := by decide +kernel
theorem dX7_token_237 : decode cX7_token 237 = .ok (.getfield 87, 3) := by decide +kernel
theorem dX7_token_240 : decode cX7_token 240 = .ok (.iconst 1, 1) := by decide +kernel
theorem dX7_token_241 : decode cX7_token 241 = .ok (.iadd, 1) := by decide +kernel
theorem dX7_token_242 : decode cX7_token 242 = .ok (.putfield 87, 3) := by decide +kernel
theorem dX7_token_245 : decode cX7_token 245 = .ok (.return_, 1) := by decide +kernel
theorem dX7_fails_0 : decode cX7_fails 0 = .ok (.aload_n 0, 1) := by decide +kernel
theorem dX7_fails_1 : decode cX7_fails 1 = .ok (.getfield 110, 3) := by decide +kernel
theorem dX7_fails_4 : decode cX7_fails 4 = .ok (.ifCond .ne 16, 3) := by decide +kernel
theorem dX7_fails_7 : decode cX7_fails 7 = .ok (.aload_n 0, 1) := by decide +kernel
theorem dX7_fails_8 : decode cX7_fails 8 = .ok (.iload_n 1, 1) := by decide +kernel
theorem dX7_fails_9 : decode cX7_fails 9 = .ok (.putfield 110, 3) := by decide +kernel
theorem dX7_fails_12 : decode cX7_fails 12 = .ok (.aload_n 0, 1) := by decide +kernel
theorem dX7_fails_13 : decode cX7_fails 13 = .ok (.aload_n 0, 1) := by decide +kernel
theorem dX7_fails_14 : decode cX7_fails 14 = .ok (.getfield 94, 3) := by decide +kernel
theorem dX7_fails_17 : decode cX7_fails 17 = .ok (.putfield 113, 3) := by decide +kernel
theorem dX7_fails_20 : decode cX7_fails 20 = .ok (.return_, 1) := by decide +kernel
theorem dX7_failsIf_0 : decode cX7_failsIf 0 = .ok (.iload_n 1, 1) := by decide +kernel
theorem dX7_failsIf_1 : decode cX7_failsIf 1 = .ok (.ifCond .eq 8, 3) := by decide +kernel
theorem dX7_failsIf_4 : decode cX7_failsIf 4 = .ok (.aload_n 0, 1) := by decide +kernel
theorem dX7_failsIf_5 : decode cX7_failsIf 5 = .ok (.iload_n 2, 1) := by decide +kernel
theorem dX7_failsIf_6 : decode cX7_failsIf 6 = .ok (.invokevirtual 116, 3) := by decide +kernel
theorem dX7_failsIf_9 : decode cX7_failsIf 9 = .ok (.return_, 1) := by decide +kernel
theorem dX7_goesOn_0 : decode cX7_goesOn 0 = .ok (.aload_n 0, 1) := by decide +kernel
theorem dX7_goesOn_1 : decode cX7_goesOn 1 = .ok (.getfield 110, 3) := by decide +kernel
theorem dX7_goesOn_4 : decode cX7_goesOn 4 = .ok (.ifCond .ne 7, 3) := by decide +kernel
theorem dX7_goesOn_7 : decode cX7_goesOn 7 = .ok (.aload_n 0, 1) := by decide +kernel
theorem dX7_goesOn_8 : decode cX7_goesOn 8 = .ok (.invokevirtual 120, 3) := by decide +kernel
theorem dX7_goesOn_11 : decode cX7_goesOn 11 = .ok (.return_, 1) := by decide +kernel
theorem dX7_isWord_0 : decode cX7_isWord 0 = .ok (.aload_n 0, 1) := by decide +kernel
theorem dX7_isWord_1 : decode cX7_isWord 1 = .ok (.getfield 110, 3) := by decide +kernel
theorem dX7_isWord_4 : decode cX7_isWord 4 = .ok (.ifCond .ne 27, 3) := by decide +kernel
theorem dX7_isWord_7 : decode cX7_isWord 7 = .ok (.aload_n 0, 1) := by decide +kernel
theorem dX7_isWord_8 : decode cX7_isWord 8 = .ok (.getfield 97, 3) := by decide +kernel
theorem dX7_isWord_11 : decode cX7_isWord 11 = .ok (.iconst 1, 1) := by decide +kernel
theorem dX7_isWord_12 : decode cX7_isWord 12 = .ok (.if_icmp .ne 19, 3) := by decide +kernel
theorem dX7_isWord_15 : decode cX7_isWord 15 = .ok (.aload_n 0, 1) := by decide +kernel
theorem dX7_isWord_16 : decode cX7_isWord 16 = .ok (.getfield 87, 3) := by decide +kernel
theorem dX7_isWord_19 : decode cX7_isWord 19 = .ok (.aload_n 0, 1) := by decide +kernel
theorem dX7_isWord_20 : decode cX7_isWord 20 = .ok (.getfield 94, 3) := by decide +kernel
theorem dX7_isWord_23 : decode cX7_isWord 23 = .ok (.isub, 1) := by decide +kernel
theorem dX7_isWord_24 : decode cX7_isWord 24 = .ok (.aload_n 1, 1) := by decide +kernel
theorem dX7_isWord_25 : decode cX7_isWord 25 = .ok (.invokevirtual 123, 3) := by decide +kernel
theorem dX7_isWord_28 : decode cX7_isWord 28 = .ok (.if_icmp .eq 5, 3) := by decide +kernel
theorem dX7_isWord_31 : decode cX7_isWord 31 = .ok (.iconst 0, 1) := by decide +kernel
theorem dX7_isWord_32 : decode cX7_isWord 32 = .ok (.ireturn, 1) := by decide +kernel
theorem dX7_isWord_33 : decode cX7_isWord 33 = .ok (.iconst 0, 1) := by decide +kernel
theorem dX7_isWord_34 : decode cX7_isWord 34 = .ok (.istore_n 2, 1) := by decide +kernel
theorem dX7_isWord_35 : decode cX7_isWord 35 = .ok (.iload_n 2, 1) := by decide +kernel
theorem dX7_isWord_36 : decode cX7_isWord 36 = .ok (.aload_n 1, 1) := by decide +kernel
theorem dX7_isWord_37 : decode cX7_isWord 37 = .ok (.invokevirtual 123, 3) := by decide +kernel
theorem dX7_isWord_40 : decode cX7_isWord 40 = .ok (.if_icmp .ge 29, 3) := by decide +kernel
theorem dX7_isWord_43 : decode cX7_isWord 43 = .ok (.aload_n 0, 1) := by decide +kernel
theorem dX7_isWord_44 : decode cX7_isWord 44 = .ok (.aload_n 0, 1) := by decide +kernel
theorem dX7_isWord_45 : decode cX7_isWord 45 = .ok (.getfield 94, 3) := by decide +kernel
theorem dX7_isWord_48 : decode cX7_isWord 48 = .ok (.iload_n 2, 1) := by decide +kernel
theorem dX7_isWord_49 : decode cX7_isWord 49 = .ok (.iadd, 1) := by decide +kernel
theorem dX7_isWord_50 : decode cX7_isWord 50 = .ok (.invokevirtual 90, 3) := by decide +kernel
theorem dX7_isWord_53 : decode cX7_isWord 53 = .ok (.aload_n 1, 1) := by decide +kernel
theorem dX7_isWord_54 : decode cX7_isWord 54 = .ok (.iload_n 2, 1) := by decide +kernel
theorem dX7_isWord_55 : decode cX7_isWord 55 = .ok (.invokevirtual 128, 3) := by decide +kernel
theorem dX7_isWord_58 : decode cX7_isWord 58 = .ok (.if_icmp .eq 5, 3) := by decide +kernel
theorem dX7_isWord_61 : decode cX7_isWord 61 = .ok (.iconst 0, 1) := by decide +kernel
theorem dX7_isWord_62 : decode cX7_isWord 62 = .ok (.ireturn, 1) := by decide +kernel
theorem dX7_isWord_63 : decode cX7_isWord 63 = .ok (.iinc 2 1, 3) := by decide +kernel
theorem dX7_isWord_66 : decode cX7_isWord 66 = .ok (.goto (-31), 3) := by decide +kernel
theorem dX7_isWord_69 : decode cX7_isWord 69 = .ok (.iconst 1, 1) := by decide +kernel
theorem dX7_isWord_70 : decode cX7_isWord 70 = .ok (.ireturn, 1) := by decide +kernel
theorem dX7_word_0 : decode cX7_word 0 = .ok (.aload_n 0, 1) := by decide +kernel
theorem dX7_word_1 : decode cX7_word 1 = .ok (.aload_n 0, 1) := by decide +kernel
theorem dX7_word_2 : decode cX7_word 2 = .ok (.aload_n 1, 1) := by decide +kernel
theorem dX7_word_3 : decode cX7_word 3 = .ok (.invokevirtual 132, 3) := by decide +kernel
theorem dX7_word_6 : decode cX7_word 6 = .ok (.ifCond .ne 7, 3) := by decide +kernel
theorem dX7_word_9 : decode cX7_word 9 = .ok (.iconst 1, 1) := by decide +kernel
theorem dX7_word_10 : decode cX7_word 10 = .ok (.goto 4, 3) := by decide +kernel
theorem dX7_word_13 : decode cX7_word 13 = .ok (.iconst 0, 1) := by decide +kernel
theorem dX7_word_14 : decode cX7_word 14 = .ok (.iconst 1, 1) := by decide +kernel
theorem dX7_word_15 : decode cX7_word 15 = .ok (.invokevirtual 136, 3) := by decide +kernel
theorem dX7_word_18 : decode cX7_word 18 = .ok (.aload_n 0, 1) := by decide +kernel
theorem dX7_word_19 : decode cX7_word 19 = .ok (.invokevirtual 140, 3) := by decide +kernel
theorem dX7_word_22 : decode cX7_word 22 = .ok (.return_, 1) := by decide +kernel
theorem dX7_looks_0 : decode cX7_looks 0 = .ok (.aload_n 0, 1) := by decide +kernel
theorem dX7_looks_1 : decode cX7_looks 1 = .ok (.getfield 97, 3) := by decide +kernel
theorem dX7_looks_4 : decode cX7_looks 4 = .ok (.iconst 2, 1) := by decide +kernel
theorem dX7_looks_5 : decode cX7_looks 5 = .ok (.if_icmp .eq 11, 3) := by decide +kernel
theorem dX7_looks_8 : decode cX7_looks 8 = .ok (.aload_n 0, 1) := by decide +kernel
theorem dX7_looks_9 : decode cX7_looks 9 = .ok (.iconst 1, 1) := by decide +kernel
theorem dX7_looks_10 : decode cX7_looks 10 = .ok (.invokevirtual 116, 3) := by decide +kernel
theorem dX7_looks_13 : decode cX7_looks 13 = .ok (.goto 20, 3) := by decide +kernel
theorem dX7_looks_16 : decode cX7_looks 16 = .ok (.aload_n 0, 1) := by decide +kernel
theorem dX7_looks_17 : decode cX7_looks 17 = .ok (.getfield 107, 3) := by decide +kernel
theorem dX7_looks_20 : decode cX7_looks 20 = .ok (.iload_n 1, 1) := by decide +kernel
theorem dX7_looks_21 : decode cX7_looks 21 = .ok (.iload_n 2, 1) := by decide +kernel
theorem dX7_looks_22 : decode cX7_looks 22 = .ok (.invokestatic 143, 3) := by decide +kernel
theorem dX7_looks_25 : decode cX7_looks 25 = .ok (.ifCond .ne 8, 3) := by decide +kernel
theorem dX7_looks_28 : decode cX7_looks 28 = .ok (.aload_n 0, 1) := by decide +kernel
theorem dX7_looks_29 : decode cX7_looks 29 = .ok (.iconst 2, 1) := by decide +kernel
theorem dX7_looks_30 : decode cX7_looks 30 = .ok (.invokevirtual 116, 3) := by decide +kernel
theorem dX7_looks_33 : decode cX7_looks 33 = .ok (.aload_n 0, 1) := by decide +kernel
theorem dX7_looks_34 : decode cX7_looks 34 = .ok (.getfield 110, 3) := by decide +kernel
theorem dX7_looks_37 : decode cX7_looks 37 = .ok (.ifCond .eq 7, 3) := by decide +kernel
theorem dX7_looks_40 : decode cX7_looks 40 = .ok (.iload_n 1, 1) := by decide +kernel
theorem dX7_looks_41 : decode cX7_looks 41 = .ok (.goto 7, 3) := by decide +kernel
theorem dX7_looks_44 : decode cX7_looks 44 = .ok (.aload_n 0, 1) := by decide +kernel
theorem dX7_looks_45 : decode cX7_looks 45 = .ok (.getfield 107, 3) := by decide +kernel
theorem dX7_looks_48 : decode cX7_looks 48 = .ok (.ireturn, 1) := by decide +kernel
theorem dX7_takes_0 : decode cX7_takes 0 = .ok (.aload_n 0, 1) := by decide +kernel
theorem dX7_takes_1 : decode cX7_takes 1 = .ok (.iload_n 1, 1) := by decide +kernel
theorem dX7_takes_2 : decode cX7_takes 2 = .ok (.iload_n 2, 1) := by decide +kernel
theorem dX7_takes_3 : decode cX7_takes 3 = .ok (.invokevirtual 147, 3) := by decide +kernel
theorem dX7_takes_6 : decode cX7_takes 6 = .ok (.istore_n 3, 1) := by decide +kernel
theorem dX7_takes_7 : decode cX7_takes 7 = .ok (.aload_n 0, 1) := by decide +kernel
theorem dX7_takes_8 : decode cX7_takes 8 = .ok (.invokevirtual 140, 3) := by decide +kernel
theorem dX7_takes_11 : decode cX7_takes 11 = .ok (.iload_n 3, 1) := by decide +kernel
theorem dX7_takes_12 : decode cX7_takes 12 = .ok (.ireturn, 1) := by decide +kernel
theorem dX7_holds_0 : decode cX7_holds 0 = .ok (.iconst 0, 1) := by decide +kernel
theorem dX7_holds_1 : decode cX7_holds 1 = .ok (.istore_n 1, 1) := by decide +kernel
theorem dX7_holds_2 : decode cX7_holds 2 = .ok (.iload_n 1, 1) := by decide +kernel
theorem dX7_holds_3 : decode cX7_holds 3 = .ok (.sipush 4112, 3) := by decide +kernel
theorem dX7_holds_6 : decode cX7_holds 6 = .ok (.if_icmp .ge 21, 3) := by decide +kernel
theorem dX7_holds_9 : decode cX7_holds 9 = .ok (.aload_n 0, 1) := by decide +kernel
theorem dX7_holds_10 : decode cX7_holds 10 = .ok (.getfield 37, 3) := by decide +kernel
theorem dX7_holds_13 : decode cX7_holds 13 = .ok (.iload_n 1, 1) := by decide +kernel
theorem dX7_holds_14 : decode cX7_holds 14 = .ok (.aload_n 0, 1) := by decide +kernel
theorem dX7_holds_15 : decode cX7_holds 15 = .ok (.getfield 17, 3) := by decide +kernel
theorem dX7_holds_18 : decode cX7_holds 18 = .ok (.iload_n 1, 1) := by decide +kernel
theorem dX7_holds_19 : decode cX7_holds 19 = .ok (.iaload, 1) := by decide +kernel
theorem dX7_holds_20 : decode cX7_holds 20 = .ok (.iastore, 1) := by decide +kernel
theorem dX7_holds_21 : decode cX7_holds 21 = .ok (.iinc 1 1, 3) := by decide +kernel
theorem dX7_holds_24 : decode cX7_holds 24 = .ok (.goto (-22), 3) := by decide +kernel
theorem dX7_holds_27 : decode cX7_holds 27 = .ok (.iconst 0, 1) := by decide +kernel
theorem dX7_holds_28 : decode cX7_holds 28 = .ok (.istore_n 1, 1) := by decide +kernel
theorem dX7_holds_29 : decode cX7_holds 29 = .ok (.iload_n 1, 1) := by decide +kernel
theorem dX7_holds_30 : decode cX7_holds 30 = .ok (.bipush 10, 2) := by decide +kernel
theorem dX7_holds_32 : decode cX7_holds 32 = .ok (.if_icmp .ge 33, 3) := by decide +kernel
theorem dX7_holds_35 : decode cX7_holds 35 = .ok (.aload_n 0, 1) := by decide +kernel
theorem dX7_holds_36 : decode cX7_holds 36 = .ok (.getfield 43, 3) := by decide +kernel
theorem dX7_holds_39 : decode cX7_holds 39 = .ok (.iload_n 1, 1) := by decide +kernel
theorem dX7_holds_40 : decode cX7_holds 40 = .ok (.aload_n 0, 1) := by decide +kernel
theorem dX7_holds_41 : decode cX7_holds 41 = .ok (.getfield 13, 3) := by decide +kernel
theorem dX7_holds_44 : decode cX7_holds 44 = .ok (.iload_n 1, 1) := by decide +kernel
theorem dX7_holds_45 : decode cX7_holds 45 = .ok (.iaload, 1) := by decide +kernel
theorem dX7_holds_46 : decode cX7_holds 46 = .ok (.iastore, 1) := by decide +kernel
theorem dX7_holds_47 : decode cX7_holds 47 = .ok (.aload_n 0, 1) := by decide +kernel
theorem dX7_holds_48 : decode cX7_holds 48 = .ok (.getfield 46, 3) := by decide +kernel
theorem dX7_holds_51 : decode cX7_holds 51 = .ok (.iload_n 1, 1) := by decide +kernel
theorem dX7_holds_52 : decode cX7_holds 52 = .ok (.aload_n 0, 1) := by decide +kernel
theorem dX7_holds_53 : decode cX7_holds 53 = .ok (.getfield 7, 3) := by decide +kernel
theorem dX7_holds_56 : decode cX7_holds 56 = .ok (.iload_n 1, 1) := by decide +kernel
theorem dX7_holds_57 : decode cX7_holds 57 = .ok (.baload, 1) := by decide +kernel
theorem dX7_holds_58 : decode cX7_holds 58 = .ok (.bastore, 1) := by decide +kernel
theorem dX7_holds_59 : decode cX7_holds 59 = .ok (.iinc 1 1, 3) := by decide +kernel
theorem dX7_holds_62 : decode cX7_holds 62 = .ok (.goto (-33), 3) := by decide +kernel
theorem dX7_holds_65 : decode cX7_holds 65 = .ok (.aload_n 0, 1) := by decide +kernel
theorem dX7_holds_66 : decode cX7_holds 66 = .ok (.getfield 40, 3) := by decide +kernel
theorem dX7_holds_69 : decode cX7_holds 69 = .ok (.iconst 0, 1) := by decide +kernel
theorem dX7_holds_70 : decode cX7_holds 70 = .ok (.aload_n 0, 1) := by decide +kernel
theorem dX7_holds_71 : decode cX7_holds 71 = .ok (.getfield 151, 3) := by decide +kernel
theorem dX7_holds_74 : decode cX7_holds 74 = .ok (.iastore, 1) := by decide +kernel
theorem dX7_holds_75 : decode cX7_holds 75 = .ok (.aload_n 0, 1) := by decide +kernel
theorem dX7_holds_76 : decode cX7_holds 76 = .ok (.getfield 40, 3) := by decide +kernel
theorem dX7_holds_79 : decode cX7_holds 79 = .ok (.iconst 1, 1) := by decide +kernel
theorem dX7_holds_80 : decode cX7_holds 80 = .ok (.aload_n 0, 1) := by decide +kernel
theorem dX7_holds_81 : decode cX7_holds 81 = .ok (.getfield 154, 3) := by decide +kernel
theorem dX7_holds_84 : decode cX7_holds 84 = .ok (.iastore, 1) := by decide +kernel
theorem dX7_holds_85 : decode cX7_holds 85 = .ok (.aload_n 0, 1) := by decide +kernel
theorem dX7_holds_86 : decode cX7_holds 86 = .ok (.getfield 40, 3) := by decide +kernel
theorem dX7_holds_89 : decode cX7_holds 89 = .ok (.iconst 2, 1) := by decide +kernel
theorem dX7_holds_90 : decode cX7_holds 90 = .ok (.aload_n 0, 1) := by decide +kernel
theorem dX7_holds_91 : decode cX7_holds 91 = .ok (.getfield 157, 3) := by decide +kernel
theorem dX7_holds_94 : decode cX7_holds 94 = .ok (.iastore, 1) := by decide +kernel
theorem dX7_holds_95 : decode cX7_holds 95 = .ok (.aload_n 0, 1) := by decide +kernel
theorem dX7_holds_96 : decode cX7_holds 96 = .ok (.getfield 40, 3) := by decide +kernel
theorem dX7_holds_99 : decode cX7_holds 99 = .ok (.iconst 3, 1) := by decide +kernel
theorem dX7_holds_100 : decode cX7_holds 100 = .ok (.aload_n 0, 1) := by decide +kernel
theorem dX7_holds_101 : decode cX7_holds 101 = .ok (.getfield 160, 3) := by decide +kernel
theorem dX7_holds_104 : decode cX7_holds 104 = .ok (.iastore, 1) := by decide +kernel
theorem dX7_holds_105 : decode cX7_holds 105 = .ok (.aload_n 0, 1) := by decide +kernel
theorem dX7_holds_106 : decode cX7_holds 106 = .ok (.getfield 40, 3) := by decide +kernel
theorem dX7_holds_109 : decode cX7_holds 109 = .ok (.iconst 4, 1) := by decide +kernel
theorem dX7_holds_110 : decode cX7_holds 110 = .ok (.aload_n 0, 1) := by decide +kernel
theorem dX7_holds_111 : decode cX7_holds 111 = .ok (.getfield 163, 3) := by decide +kernel
theorem dX7_holds_114 : decode cX7_holds 114 = .ok (.iastore, 1) := by decide +kernel
theorem dX7_holds_115 : decode cX7_holds 115 = .ok (.aload_n 0, 1) := by decide +kernel
theorem dX7_holds_116 : decode cX7_holds 116 = .ok (.getfield 40, 3) := by decide +kernel
theorem dX7_holds_119 : decode cX7_holds 119 = .ok (.iconst 5, 1) := by decide +kernel
theorem dX7_holds_120 : decode cX7_holds 120 = .ok (.aload_n 0, 1) := by decide +kernel
theorem dX7_holds_121 : decode cX7_holds 121 = .ok (.getfield 166, 3) := by decide +kernel
theorem dX7_holds_124 : decode cX7_holds 124 = .ok (.iastore, 1) := by decide +kernel
theorem dX7_holds_125 : decode cX7_holds 125 = .ok (.aload_n 0, 1) := by decide +kernel
theorem dX7_holds_126 : decode cX7_holds 126 = .ok (.getfield 40, 3) := by decide +kernel
theorem dX7_holds_129 : decode cX7_holds 129 = .ok (.bipush 6, 2) := by decide +kernel
theorem dX7_holds_131 : decode cX7_holds 131 = .ok (.aload_n 0, 1) := by decide +kernel
theorem dX7_holds_132 : decode cX7_holds 132 = .ok (.getfield 169, 3) := by decide +kernel
theorem dX7_holds_135 : decode cX7_holds 135 = .ok (.iastore, 1) := by decide +kernel
theorem dX7_holds_136 : decode cX7_holds 136 = .ok (.aload_n 0, 1) := by decide +kernel
theorem dX7_holds_137 : decode cX7_holds 137 = .ok (.getfield 40, 3) := by decide +kernel
theorem dX7_holds_140 : decode cX7_holds 140 = .ok (.bipush 7, 2) := by decide +kernel
theorem dX7_holds_142 : decode cX7_holds 142 = .ok (.aload_n 0, 1) := by decide +kernel
theorem dX7_holds_143 : decode cX7_holds 143 = .ok (.getfield 172, 3) := by decide +kernel
theorem dX7_holds_146 : decode cX7_holds 146 = .ok (.iastore, 1) := by decide +kernel
theorem dX7_holds_147 : decode cX7_holds 147 = .ok (.return_, 1) := by decide +kernel
theorem dX7_laysBack_0 : decode cX7_laysBack 0 = .ok (.iconst 0, 1) := by decide +kernel
theorem dX7_laysBack_1 : decode cX7_laysBack 1 = .ok (.istore_n 1, 1) := by decide +kernel
theorem dX7_laysBack_2 : decode cX7_laysBack 2 = .ok (.iload_n 1, 1) := by decide +kernel
theorem dX7_laysBack_3 : decode cX7_laysBack 3 = .ok (.sipush 4112, 3) := by decide +kernel
theorem dX7_laysBack_6 : decode cX7_laysBack 6 = .ok (.if_icmp .ge 21, 3) := by decide +kernel
theorem dX7_laysBack_9 : decode cX7_laysBack 9 = .ok (.aload_n 0, 1) := by decide +kernel
theorem dX7_laysBack_10 : decode cX7_laysBack 10 = .ok (.getfield 17, 3) := by decide +kernel
theorem dX7_laysBack_13 : decode cX7_laysBack 13 = .ok (.iload_n 1, 1) := by decide +kernel
theorem dX7_laysBack_14 : decode cX7_laysBack 14 = .ok (.aload_n 0, 1) := by decide +kernel
theorem dX7_laysBack_15 : decode cX7_laysBack 15 = .ok (.getfield 37, 3) := by decide +kernel
theorem dX7_laysBack_18 : decode cX7_laysBack 18 = .ok (.iload_n 1, 1) := by decide +kernel
theorem dX7_laysBack_19 : decode cX7_laysBack 19 = .ok (.iaload, 1) := by decide +kernel
theorem dX7_laysBack_20 : decode cX7_laysBack 20 = .ok (.iastore, 1) := by decide +kernel
theorem dX7_laysBack_21 : decode cX7_laysBack 21 = .ok (.iinc 1 1, 3) := by decide +kernel
theorem dX7_laysBack_24 : decode cX7_laysBack 24 = .ok (.goto (-22), 3) := by decide +kernel
theorem dX7_laysBack_27 : decode cX7_laysBack 27 = .ok (.iconst 0, 1) := by decide +kernel
theorem dX7_laysBack_28 : decode cX7_laysBack 28 = .ok (.istore_n 1, 1) := by decide +kernel
theorem dX7_laysBack_29 : decode cX7_laysBack 29 = .ok (.iload_n 1, 1) := by decide +kernel
theorem dX7_laysBack_30 : decode cX7_laysBack 30 = .ok (.bipush 10, 2) := by decide +kernel
theorem dX7_laysBack_32 : decode cX7_laysBack 32 = .ok (.if_icmp .ge 33, 3) := by decide +kernel
theorem dX7_laysBack_35 : decode cX7_laysBack 35 = .ok (.aload_n 0, 1) := by decide +kernel
theorem dX7_laysBack_36 : decode cX7_laysBack 36 = .ok (.getfield 13, 3) := by decide +kernel
theorem dX7_laysBack_39 : decode cX7_laysBack 39 = .ok (.iload_n 1, 1) := by decide +kernel
theorem dX7_laysBack_40 : decode cX7_laysBack 40 = .ok (.aload_n 0, 1) := by decide +kernel
theorem dX7_laysBack_41 : decode cX7_laysBack 41 = .ok (.getfield 43, 3) := by decide +kernel
theorem dX7_laysBack_44 : decode cX7_laysBack 44 = .ok (.iload_n 1, 1) := by decide +kernel
theorem dX7_laysBack_45 : decode cX7_laysBack 45 = .ok (.iaload, 1) := by decide +kernel
theorem dX7_laysBack_46 : decode cX7_laysBack 46 = .ok (.iastore, 1) := by decide +kernel
theorem dX7_laysBack_47 : decode cX7_laysBack 47 = .ok (.aload_n 0, 1) := by decide +kernel
theorem dX7_laysBack_48 : decode cX7_laysBack 48 = .ok (.getfield 7, 3) := by decide +kernel
theorem dX7_laysBack_51 : decode cX7_laysBack 51 = .ok (.iload_n 1, 1) := by decide +kernel
theorem dX7_laysBack_52 : decode cX7_laysBack 52 = .ok (.aload_n 0, 1) := by decide +kernel
theorem dX7_laysBack_53 : decode cX7_laysBack 53 = .ok (.getfield 46, 3) := by decide +kernel
theorem dX7_laysBack_56 : decode cX7_laysBack 56 = .ok (.iload_n 1, 1) := by decide +kernel
theorem dX7_laysBack_57 : decode cX7_laysBack 57 = .ok (.baload, 1) := by decide +kernel
theorem dX7_laysBack_58 : decode cX7_laysBack 58 = .ok (.bastore, 1) := by decide +kernel
theorem dX7_laysBack_59 : decode cX7_laysBack 59 = .ok (.iinc 1 1, 3) := by decide +kernel
theorem dX7_laysBack_62 : decode cX7_laysBack 62 = .ok (.goto (-33), 3) := by decide +kernel
theorem dX7_laysBack_65 : decode cX7_laysBack 65 = .ok (.aload_n 0, 1) := by decide +kernel
theorem dX7_laysBack_66 : decode cX7_laysBack 66 = .ok (.aload_n 0, 1) := by decide +kernel
theorem dX7_laysBack_67 : decode cX7_laysBack 67 = .ok (.getfield 40, 3) := by decide +kernel
theorem dX7_laysBack_70 : decode cX7_laysBack 70 = .ok (.iconst 0, 1) := by decide +kernel
theorem dX7_laysBack_71 : decode cX7_laysBack 71 = .ok (.iaload, 1) := by decide +kernel
theorem dX7_laysBack_72 : decode cX7_laysBack 72 = .ok (.putfield 151, 3) := by decide +kernel
theorem dX7_laysBack_75 : decode cX7_laysBack 75 = .ok (.aload_n 0, 1) := by decide +kernel
theorem dX7_laysBack_76 : decode cX7_laysBack 76 = .ok (.aload_n 0, 1) := by decide +kernel
theorem dX7_laysBack_77 : decode cX7_laysBack 77 = .ok (.getfield 40, 3) := by decide +kernel
theorem dX7_laysBack_80 : decode cX7_laysBack 80 = .ok (.iconst 1, 1) := by decide +kernel
theorem dX7_laysBack_81 : decode cX7_laysBack 81 = .ok (.iaload, 1) := by decide +kernel
theorem dX7_laysBack_82 : decode cX7_laysBack 82 = .ok (.putfield 154, 3) := by decide +kernel
theorem dX7_laysBack_85 : decode cX7_laysBack 85 = .ok (.aload_n 0, 1) := by decide +kernel
theorem dX7_laysBack_86 : decode cX7_laysBack 86 = .ok (.aload_n 0, 1) := by decide +kernel
theorem dX7_laysBack_87 : decode cX7_laysBack 87 = .ok (.getfield 40, 3) := by decide +kernel
theorem dX7_laysBack_90 : decode cX7_laysBack 90 = .ok (.iconst 2, 1) := by decide +kernel
theorem dX7_laysBack_91 : decode cX7_laysBack 91 = .ok (.iaload, 1) := by decide +kernel
theorem dX7_laysBack_92 : decode cX7_laysBack 92 = .ok (.putfield 157, 3) := by decide +kernel
theorem dX7_laysBack_95 : decode cX7_laysBack 95 = .ok (.aload_n 0, 1) := by decide +kernel
theorem dX7_laysBack_96 : decode cX7_laysBack 96 = .ok (.aload_n 0, 1) := by decide +kernel
theorem dX7_laysBack_97 : decode cX7_laysBack 97 = .ok (.getfield 40, 3) := by decide +kernel
theorem dX7_laysBack_100 : decode cX7_laysBack 100 = .ok (.iconst 3, 1) := by decide +kernel
theorem dX7_laysBack_101 : decode cX7_laysBack 101 = .ok (.iaload, 1) := by decide +kernel
theorem dX7_laysBack_102 : decode cX7_laysBack 102 = .ok (.putfield 160, 3) := by decide +kernel
theorem dX7_laysBack_105 : decode cX7_laysBack 105 = .ok (.aload_n 0, 1) := by decide +kernel
theorem dX7_laysBack_106 : decode cX7_laysBack 106 = .ok (.aload_n 0, 1) := by decide +kernel
theorem dX7_laysBack_107 : decode cX7_laysBack 107 = .ok (.getfield 40, 3) := by decide +kernel
theorem dX7_laysBack_110 : decode cX7_laysBack 110 = .ok (.iconst 4, 1) := by decide +kernel
theorem dX7_laysBack_111 : decode cX7_laysBack 111 = .ok (.iaload, 1) := by decide +kernel
theorem dX7_laysBack_112 : decode cX7_laysBack 112 = .ok (.putfield 163, 3) := by decide +kernel
theorem dX7_laysBack_115 : decode cX7_laysBack 115 = .ok (.aload_n 0, 1) := by decide +kernel
theorem dX7_laysBack_116 : decode cX7_laysBack 116 = .ok (.aload_n 0, 1) := by decide +kernel
theorem dX7_laysBack_117 : decode cX7_laysBack 117 = .ok (.getfield 40, 3) := by decide +kernel
theorem dX7_laysBack_120 : decode cX7_laysBack 120 = .ok (.iconst 5, 1) := by decide +kernel
theorem dX7_laysBack_121 : decode cX7_laysBack 121 = .ok (.iaload, 1) := by decide +kernel
theorem dX7_laysBack_122 : decode cX7_laysBack 122 = .ok (.putfield 166, 3) := by decide +kernel
theorem dX7_laysBack_125 : decode cX7_laysBack 125 = .ok (.aload_n 0, 1) := by decide +kernel
theorem dX7_laysBack_126 : decode cX7_laysBack 126 = .ok (.aload_n 0, 1) := by decide +kernel
theorem dX7_laysBack_127 : decode cX7_laysBack 127 = .ok (.getfield 40, 3) := by decide +kernel
theorem dX7_laysBack_130 : decode cX7_laysBack 130 = .ok (.bipush 6, 2) := by decide +kernel
theorem dX7_laysBack_132 : decode cX7_laysBack 132 = .ok (.iaload, 1) := by decide +kernel
theorem dX7_laysBack_133 : decode cX7_laysBack 133 = .ok (.putfield 169, 3) := by decide +kernel
theorem dX7_laysBack_136 : decode cX7_laysBack 136 = .ok (.aload_n 0, 1) := by decide +kernel
theorem dX7_laysBack_137 : decode cX7_laysBack 137 = .ok (.aload_n 0, 1) := by decide +kernel
theorem dX7_laysBack_138 : decode cX7_laysBack 138 = .ok (.getfield 40, 3) := by decide +kernel
theorem dX7_laysBack_141 : decode cX7_laysBack 141 = .ok (.bipush 7, 2) := by decide +kernel
theorem dX7_laysBack_143 : decode cX7_laysBack 143 = .ok (.iaload, 1) := by decide +kernel
theorem dX7_laysBack_144 : decode cX7_laysBack 144 = .ok (.putfield 172, 3) := by decide +kernel
theorem dX7_laysBack_147 : decode cX7_laysBack 147 = .ok (.return_, 1) := by decide +kernel
theorem dX7_clears_0 : decode cX7_clears 0 = .ok (.aload_n 0, 1) := by decide +kernel
theorem dX7_clears_1 : decode cX7_clears 1 = .ok (.iconst 0, 1) := by decide +kernel
theorem dX7_clears_2 : decode cX7_clears 2 = .ok (.putfield 172, 3) := by decide +kernel
theorem dX7_clears_5 : decode cX7_clears 5 = .ok (.aload_n 0, 1) := by decide +kernel
theorem dX7_clears_6 : decode cX7_clears 6 = .ok (.iconst 0, 1) := by decide +kernel
theorem dX7_clears_7 : decode cX7_clears 7 = .ok (.putfield 175, 3) := by decide +kernel
theorem dX7_clears_10 : decode cX7_clears 10 = .ok (.iconst 0, 1) := by decide +kernel
theorem dX7_clears_11 : decode cX7_clears 11 = .ok (.istore_n 1, 1) := by decide +kernel
theorem dX7_clears_12 : decode cX7_clears 12 = .ok (.iload_n 1, 1) := by decide +kernel
theorem dX7_clears_13 : decode cX7_clears 13 = .ok (.sipush 4112, 3) := by decide +kernel
theorem dX7_clears_16 : decode cX7_clears 16 = .ok (.if_icmp .ge 16, 3) := by decide +kernel
theorem dX7_clears_19 : decode cX7_clears 19 = .ok (.aload_n 0, 1) := by decide +kernel
theorem dX7_clears_20 : decode cX7_clears 20 = .ok (.getfield 17, 3) := by decide +kernel
theorem dX7_clears_23 : decode cX7_clears 23 = .ok (.iload_n 1, 1) := by decide +kernel
theorem dX7_clears_24 : decode cX7_clears 24 = .ok (.iconst 0, 1) := by decide +kernel
theorem dX7_clears_25 : decode cX7_clears 25 = .ok (.iastore, 1) := by decide +kernel
theorem dX7_clears_26 : decode cX7_clears 26 = .ok (.iinc 1 1, 3) := by decide +kernel
theorem dX7_clears_29 : decode cX7_clears 29 = .ok (.goto (-17), 3) := by decide +kernel
theorem dX7_clears_32 : decode cX7_clears 32 = .ok (.iconst 0, 1) := by decide +kernel
theorem dX7_clears_33 : decode cX7_clears 33 = .ok (.istore_n 1, 1) := by decide +kernel
theorem dX7_clears_34 : decode cX7_clears 34 = .ok (.iload_n 1, 1) := by decide +kernel
theorem dX7_clears_35 : decode cX7_clears 35 = .ok (.bipush 8, 2) := by decide +kernel
theorem dX7_clears_37 : decode cX7_clears 37 = .ok (.if_icmp .ge 16, 3) := by decide +kernel
theorem dX7_clears_40 : decode cX7_clears 40 = .ok (.aload_n 0, 1) := by decide +kernel
theorem dX7_clears_41 : decode cX7_clears 41 = .ok (.iload_n 1, 1) := by decide +kernel
theorem dX7_clears_42 : decode cX7_clears 42 = .ok (.iconst 2, 1) := by decide +kernel
theorem dX7_clears_43 : decode cX7_clears 43 = .ok (.iconst (-1), 1) := by decide +kernel
theorem dX7_clears_44 : decode cX7_clears 44 = .ok (.invokevirtual 178, 3) := by decide +kernel
theorem dX7_clears_47 : decode cX7_clears 47 = .ok (.iinc 1 1, 3) := by decide +kernel
theorem dX7_clears_50 : decode cX7_clears 50 = .ok (.goto (-16), 3) := by decide +kernel
theorem dX7_clears_53 : decode cX7_clears 53 = .ok (.return_, 1) := by decide +kernel
theorem dX7_ofLength_0 : decode cX7_ofLength 0 = .ok (.iconst 0, 1) := by decide +kernel
theorem dX7_ofLength_1 : decode cX7_ofLength 1 = .ok (.istore_n 3, 1) := by decide +kernel
theorem dX7_ofLength_2 : decode cX7_ofLength 2 = .ok (.iload_n 3, 1) := by decide +kernel
theorem dX7_ofLength_3 : decode cX7_ofLength 3 = .ok (.aload_n 0, 1) := by decide +kernel
theorem dX7_ofLength_4 : decode cX7_ofLength 4 = .ok (.getfield 172, 3) := by decide +kernel
theorem dX7_ofLength_7 : decode cX7_ofLength 7 = .ok (.if_icmp .ge 31, 3) := by decide +kernel
theorem dX7_ofLength_10 : decode cX7_ofLength 10 = .ok (.aload_n 0, 1) := by decide +kernel
theorem dX7_ofLength_11 : decode cX7_ofLength 11 = .ok (.getfield 7, 3) := by decide +kernel
theorem dX7_ofLength_14 : decode cX7_ofLength 14 = .ok (.iload_n 3, 1) := by decide +kernel
theorem dX7_ofLength_15 : decode cX7_ofLength 15 = .ok (.baload, 1) := by decide +kernel
theorem dX7_ofLength_16 : decode cX7_ofLength 16 = .ok (.iload_n 1, 1) := by decide +kernel
theorem dX7_ofLength_17 : decode cX7_ofLength 17 = .ok (.if_icmp .ne 15, 3) := by decide +kernel
theorem dX7_ofLength_20 : decode cX7_ofLength 20 = .ok (.aload_n 0, 1) := by decide +kernel
theorem dX7_ofLength_21 : decode cX7_ofLength 21 = .ok (.getfield 13, 3) := by decide +kernel
theorem dX7_ofLength_24 : decode cX7_ofLength 24 = .ok (.iload_n 3, 1) := by decide +kernel
theorem dX7_ofLength_25 : decode cX7_ofLength 25 = .ok (.iaload, 1) := by decide +kernel
theorem dX7_ofLength_26 : decode cX7_ofLength 26 = .ok (.iload_n 2, 1) := by decide +kernel
theorem dX7_ofLength_27 : decode cX7_ofLength 27 = .ok (.if_icmp .ne 5, 3) := by decide +kernel
theorem dX7_ofLength_30 : decode cX7_ofLength 30 = .ok (.iload_n 3, 1) := by decide +kernel
theorem dX7_ofLength_31 : decode cX7_ofLength 31 = .ok (.ireturn, 1) := by decide +kernel
theorem dX7_ofLength_32 : decode cX7_ofLength 32 = .ok (.iinc 3 1, 3) := by decide +kernel
theorem dX7_ofLength_35 : decode cX7_ofLength 35 = .ok (.goto (-33), 3) := by decide +kernel
theorem dX7_ofLength_38 : decode cX7_ofLength 38 = .ok (.iconst (-1), 1) := by decide +kernel
theorem dX7_ofLength_39 : decode cX7_ofLength 39 = .ok (.ireturn, 1) := by decide +kernel
theorem dX7_kindLine_0 : decode cX7_kindLine 0 = .ok (.aload_n 0, 1) := by decide +kernel
theorem dX7_kindLine_1 : decode cX7_kindLine 1 = .ok (.aload_n 0, 1) := by decide +kernel
theorem dX7_kindLine_2 : decode cX7_kindLine 2 = .ok (.getfield 172, 3) := by decide +kernel
theorem dX7_kindLine_5 : decode cX7_kindLine 5 = .ok (.bipush 10, 2) := by decide +kernel
theorem dX7_kindLine_7 : decode cX7_kindLine 7 = .ok (.if_icmp .ne 7, 3) := by decide +kernel
theorem dX7_kindLine_10 : decode cX7_kindLine 10 = .ok (.iconst 1, 1) := by decide +kernel
theorem dX7_kindLine_11 : decode cX7_kindLine 11 = .ok (.goto 4, 3) := by decide +kernel
theorem dX7_kindLine_14 : decode cX7_kindLine 14 = .ok (.iconst 0, 1) := by decide +kernel
theorem dX7_kindLine_15 : decode cX7_kindLine 15 = .ok (.iconst 4, 1) := by decide +kernel
theorem dX7_kindLine_16 : decode cX7_kindLine 16 = .ok (.invokevirtual 136, 3) := by decide +kernel
theorem dX7_kindLine_19 : decode cX7_kindLine 19 = .ok (.aload_n 0, 1) := by decide +kernel
theorem dX7_kindLine_20 : decode cX7_kindLine 20 = .ok (.invokevirtual 140, 3) := by decide +kernel
theorem dX7_kindLine_23 : decode cX7_kindLine 23 = .ok (.aload_n 0, 1) := by decide +kernel
theorem dX7_kindLine_24 : decode cX7_kindLine 24 = .ok (.iconst 1, 1) := by decide +kernel
theorem dX7_kindLine_25 : decode cX7_kindLine 25 = .ok (.bipush 99, 2) := by decide +kernel
theorem dX7_kindLine_27 : decode cX7_kindLine 27 = .ok (.invokevirtual 147, 3) := by decide +kernel
theorem dX7_kindLine_30 : decode cX7_kindLine 30 = .ok (.istore_n 2, 1) := by decide +kernel
theorem dX7_kindLine_31 : decode cX7_kindLine 31 = .ok (.aload_n 0, 1) := by decide +kernel
theorem dX7_kindLine_32 : decode cX7_kindLine 32 = .ok (.aload_n 0, 1) := by decide +kernel
theorem dX7_kindLine_33 : decode cX7_kindLine 33 = .ok (.getfield 110, 3) := by decide +kernel
theorem dX7_kindLine_36 : decode cX7_kindLine 36 = .ok (.ifCond .ne 17, 3) := by decide +kernel
theorem dX7_kindLine_39 : decode cX7_kindLine 39 = .ok (.aload_n 0, 1) := by decide +kernel
theorem dX7_kindLine_40 : decode cX7_kindLine 40 = .ok (.iload_n 1, 1) := by decide +kernel
theorem dX7_kindLine_41 : decode cX7_kindLine 41 = .ok (.iload_n 2, 1) := by decide +kernel
theorem dX7_kindLine_42 : decode cX7_kindLine 42 = .ok (.invokevirtual 182, 3) := by decide +kernel
theorem dX7_kindLine_45 : decode cX7_kindLine 45 = .ok (.iconst (-1), 1) := by decide +kernel
theorem dX7_kindLine_46 : decode cX7_kindLine 46 = .ok (.if_icmp .eq 7, 3) := by decide +kernel
theorem dX7_kindLine_49 : decode cX7_kindLine 49 = .ok (.iconst 1, 1) := by decide +kernel
theorem dX7_kindLine_50 : decode cX7_kindLine 50 = .ok (.goto 4, 3) := by decide +kernel
theorem dX7_kindLine_53 : decode cX7_kindLine 53 = .ok (.iconst 0, 1) := by decide +kernel
theorem dX7_kindLine_54 : decode cX7_kindLine 54 = .ok (.iconst 3, 1) := by decide +kernel
theorem dX7_kindLine_55 : decode cX7_kindLine 55 = .ok (.invokevirtual 136, 3) := by decide +kernel
theorem dX7_kindLine_58 : decode cX7_kindLine 58 = .ok (.aload_n 0, 1) := by decide +kernel
theorem dX7_kindLine_59 : decode cX7_kindLine 59 = .ok (.invokevirtual 140, 3) := by decide +kernel
theorem dX7_kindLine_62 : decode cX7_kindLine 62 = .ok (.aload_n 0, 1) := by decide +kernel
theorem dX7_kindLine_63 : decode cX7_kindLine 63 = .ok (.iconst 0, 1) := by decide +kernel
theorem dX7_kindLine_64 : decode cX7_kindLine 64 = .ok (.bipush 99, 2) := by decide +kernel
theorem dX7_kindLine_66 : decode cX7_kindLine 66 = .ok (.invokevirtual 186, 3) := by decide +kernel
theorem dX7_kindLine_69 : decode cX7_kindLine 69 = .ok (.istore_n 3, 1) := by decide +kernel
theorem dX7_kindLine_70 : decode cX7_kindLine 70 = .ok (.aload_n 0, 1) := by decide +kernel
theorem dX7_kindLine_71 : decode cX7_kindLine 71 = .ok (.getfield 110, 3) := by decide +kernel
theorem dX7_kindLine_74 : decode cX7_kindLine 74 = .ok (.ifCond .ne 46, 3) := by decide +kernel
theorem dX7_kindLine_77 : decode cX7_kindLine 77 = .ok (.aload_n 0, 1) := by decide +kernel
theorem dX7_kindLine_78 : decode cX7_kindLine 78 = .ok (.getfield 7, 3) := by decide +kernel
theorem dX7_kindLine_81 : decode cX7_kindLine 81 = .ok (.aload_n 0, 1) := by decide +kernel
theorem dX7_kindLine_82 : decode cX7_kindLine 82 = .ok (.getfield 172, 3) := by decide +kernel
theorem dX7_kindLine_85 : decode cX7_kindLine 85 = .ok (.iload_n 1, 1) := by decide +kernel
theorem dX7_kindLine_86 : decode cX7_kindLine 86 = .ok (.bastore, 1) := by decide +kernel
theorem dX7_kindLine_87 : decode cX7_kindLine 87 = .ok (.aload_n 0, 1) := by decide +kernel
theorem dX7_kindLine_88 : decode cX7_kindLine 88 = .ok (.getfield 13, 3) := by decide +kernel
theorem dX7_kindLine_91 : decode cX7_kindLine 91 = .ok (.aload_n 0, 1) := by decide +kernel
theorem dX7_kindLine_92 : decode cX7_kindLine 92 = .ok (.getfield 172, 3) := by decide +kernel
theorem dX7_kindLine_95 : decode cX7_kindLine 95 = .ok (.iload_n 2, 1) := by decide +kernel
theorem dX7_kindLine_96 : decode cX7_kindLine 96 = .ok (.iastore, 1) := by decide +kernel
theorem dX7_kindLine_97 : decode cX7_kindLine 97 = .ok (.aload_n 0, 1) := by decide +kernel
theorem dX7_kindLine_98 : decode cX7_kindLine 98 = .ok (.getfield 17, 3) := by decide +kernel
theorem dX7_kindLine_101 : decode cX7_kindLine 101 = .ok (.bipush 6, 2) := by decide +kernel
theorem dX7_kindLine_103 : decode cX7_kindLine 103 = .ok (.aload_n 0, 1) := by decide +kernel
theorem dX7_kindLine_104 : decode cX7_kindLine 104 = .ok (.getfield 172, 3) := by decide +kernel
theorem dX7_kindLine_107 : decode cX7_kindLine 107 = .ok (.iadd, 1) := by decide +kernel
theorem dX7_kindLine_108 : decode cX7_kindLine 108 = .ok (.iload_n 3, 1) := by decide +kernel
theorem dX7_kindLine_109 : decode cX7_kindLine 109 = .ok (.iastore, 1) := by decide +kernel
theorem dX7_kindLine_110 : decode cX7_kindLine 110 = .ok (.aload_n 0, 1) := by decide +kernel
theorem dX7_kindLine_111 : decode cX7_kindLine 111 = .ok (.dup, 1) := by decide +kernel
theorem dX7_kindLine_112 : decode cX7_kindLine 112 = .ok (.getfield 172, 3) := by decide +kernel
theorem dX7_kindLine_115 : decode cX7_kindLine 115 = .ok (.iconst 1, 1) := by decide +kernel
theorem dX7_kindLine_116 : decode cX7_kindLine 116 = .ok (.iadd, 1) := by decide +kernel
theorem dX7_kindLine_117 : decode cX7_kindLine 117 = .ok (.putfield 172, 3) := by decide +kernel
theorem dX7_kindLine_120 : decode cX7_kindLine 120 = .ok (.return_, 1) := by decide +kernel
theorem dX7_rowLine_0 : decode cX7_rowLine 0 = .ok (.aload_n 0, 1) := by decide +kernel
theorem dX7_rowLine_1 : decode cX7_rowLine 1 = .ok (.invokevirtual 140, 3) := by decide +kernel
theorem dX7_rowLine_4 : decode cX7_rowLine 4 = .ok (.aload_n 0, 1) := by decide +kernel
theorem dX7_rowLine_5 : decode cX7_rowLine 5 = .ok (.iconst 0, 1) := by decide +kernel
theorem dX7_rowLine_6 : decode cX7_rowLine 6 = .ok (.aload_n 0, 1) := by decide +kernel
theorem dX7_rowLine_7 : decode cX7_rowLine 7 = .ok (.getfield 154, 3) := by decide +kernel
theorem dX7_rowLine_10 : decode cX7_rowLine 10 = .ok (.iconst 1, 1) := by decide +kernel
theorem dX7_rowLine_11 : decode cX7_rowLine 11 = .ok (.isub, 1) := by decide +kernel
theorem dX7_rowLine_12 : decode cX7_rowLine 12 = .ok (.invokevirtual 147, 3) := by decide +kernel
theorem dX7_rowLine_15 : decode cX7_rowLine 15 = .ok (.istore_n 1, 1) := by decide +kernel
theorem dX7_rowLine_16 : decode cX7_rowLine 16 = .ok (.aload_n 0, 1) := by decide +kernel
theorem dX7_rowLine_17 : decode cX7_rowLine 17 = .ok (.aload_n 0, 1) := by decide +kernel
theorem dX7_rowLine_18 : decode cX7_rowLine 18 = .ok (.getfield 110, 3) := by decide +kernel
theorem dX7_rowLine_21 : decode cX7_rowLine 21 = .ok (.ifCond .ne 19, 3) := by decide +kernel
theorem dX7_rowLine_24 : decode cX7_rowLine 24 = .ok (.aload_n 0, 1) := by decide +kernel
theorem dX7_rowLine_25 : decode cX7_rowLine 25 = .ok (.getfield 175, 3) := by decide +kernel
theorem dX7_rowLine_28 : decode cX7_rowLine 28 = .ok (.iload_n 1, 1) := by decide +kernel
theorem dX7_rowLine_29 : decode cX7_rowLine 29 = .ok (.ishr, 1) := by decide +kernel
theorem dX7_rowLine_30 : decode cX7_rowLine 30 = .ok (.iconst 1, 1) := by decide +kernel
theorem dX7_rowLine_31 : decode cX7_rowLine 31 = .ok (.iand, 1) := by decide +kernel
theorem dX7_rowLine_32 : decode cX7_rowLine 32 = .ok (.iconst 1, 1) := by decide +kernel
theorem dX7_rowLine_33 : decode cX7_rowLine 33 = .ok (.if_icmp .ne 7, 3) := by decide +kernel
theorem dX7_rowLine_36 : decode cX7_rowLine 36 = .ok (.iconst 1, 1) := by decide +kernel
theorem dX7_rowLine_37 : decode cX7_rowLine 37 = .ok (.goto 4, 3) := by decide +kernel
theorem dX7_rowLine_40 : decode cX7_rowLine 40 = .ok (.iconst 0, 1) := by decide +kernel
theorem dX7_rowLine_41 : decode cX7_rowLine 41 = .ok (.iconst 3, 1) := by decide +kernel
theorem dX7_rowLine_42 : decode cX7_rowLine 42 = .ok (.invokevirtual 136, 3) := by decide +kernel
theorem dX7_rowLine_45 : decode cX7_rowLine 45 = .ok (.aload_n 0, 1) := by decide +kernel
theorem dX7_rowLine_46 : decode cX7_rowLine 46 = .ok (.dup, 1) := by decide +kernel
theorem dX7_rowLine_47 : decode cX7_rowLine 47 = .ok (.getfield 175, 3) := by decide +kernel
theorem dX7_rowLine_50 : decode cX7_rowLine 50 = .ok (.iconst 1, 1) := by decide +kernel
theorem dX7_rowLine_51 : decode cX7_rowLine 51 = .ok (.iload_n 1, 1) := by decide +kernel
theorem dX7_rowLine_52 : decode cX7_rowLine 52 = .ok (.ishl, 1) := by decide +kernel
theorem dX7_rowLine_53 : decode cX7_rowLine 53 = .ok (.ior, 1) := by decide +kernel
theorem dX7_rowLine_54 : decode cX7_rowLine 54 = .ok (.putfield 175, 3) := by decide +kernel
theorem dX7_rowLine_57 : decode cX7_rowLine 57 = .ok (.aload_n 0, 1) := by decide +kernel
theorem dX7_rowLine_58 : decode cX7_rowLine 58 = .ok (.invokevirtual 140, 3) := by decide +kernel
theorem dX7_rowLine_61 : decode cX7_rowLine 61 = .ok (.aload_n 0, 1) := by decide +kernel
theorem dX7_rowLine_62 : decode cX7_rowLine 62 = .ok (.getfield 110, 3) := by decide +kernel
theorem dX7_rowLine_65 : decode cX7_rowLine 65 = .ok (.ifCond .ne 94, 3) := by decide +kernel
theorem dX7_rowLine_68 : decode cX7_rowLine 68 = .ok (.aload_n 0, 1) := by decide +kernel
theorem dX7_rowLine_69 : decode cX7_rowLine 69 = .ok (.getfield 97, 3) := by decide +kernel
theorem dX7_rowLine_72 : decode cX7_rowLine 72 = .ok (.iconst 2, 1) := by decide +kernel
theorem dX7_rowLine_73 : decode cX7_rowLine 73 = .ok (.if_icmp .ne 86, 3) := by decide +kernel
theorem dX7_rowLine_76 : decode cX7_rowLine 76 = .ok (.aload_n 0, 1) := by decide +kernel
theorem dX7_rowLine_77 : decode cX7_rowLine 77 = .ok (.iconst 1, 1) := by decide +kernel
theorem dX7_rowLine_78 : decode cX7_rowLine 78 = .ok (.sipush 200, 3) := by decide +kernel
theorem dX7_rowLine_81 : decode cX7_rowLine 81 = .ok (.invokevirtual 147, 3) := by decide +kernel
theorem dX7_rowLine_84 : decode cX7_rowLine 84 = .ok (.istore_n 2, 1) := by decide +kernel
theorem dX7_rowLine_85 : decode cX7_rowLine 85 = .ok (.aload_n 0, 1) := by decide +kernel
theorem dX7_rowLine_86 : decode cX7_rowLine 86 = .ok (.aload_n 0, 1) := by decide +kernel
theorem dX7_rowLine_87 : decode cX7_rowLine 87 = .ok (.getfield 110, 3) := by decide +kernel
theorem dX7_rowLine_90 : decode cX7_rowLine 90 = .ok (.ifCond .ne 18, 3) := by decide +kernel
theorem dX7_rowLine_93 : decode cX7_rowLine 93 = .ok (.aload_n 0, 1) := by decide +kernel
theorem dX7_rowLine_94 : decode cX7_rowLine 94 = .ok (.iload_n 1, 1) := by decide +kernel
theorem dX7_rowLine_95 : decode cX7_rowLine 95 = .ok (.iconst 0, 1) := by decide +kernel
theorem dX7_rowLine_96 : decode cX7_rowLine 96 = .ok (.invokevirtual 189, 3) := by decide +kernel
theorem dX7_rowLine_99 : decode cX7_rowLine 99 = .ok (.bipush 6, 2) := by decide +kernel
theorem dX7_rowLine_101 : decode cX7_rowLine 101 = .ok (.if_icmp .ne 7, 3) := by decide +kernel
theorem dX7_rowLine_104 : decode cX7_rowLine 104 = .ok (.iconst 1, 1) := by decide +kernel
theorem dX7_rowLine_105 : decode cX7_rowLine 105 = .ok (.goto 4, 3) := by decide +kernel
theorem dX7_rowLine_108 : decode cX7_rowLine 108 = .ok (.iconst 0, 1) := by decide +kernel
theorem dX7_rowLine_109 : decode cX7_rowLine 109 = .ok (.iconst 4, 1) := by decide +kernel
theorem dX7_rowLine_110 : decode cX7_rowLine 110 = .ok (.invokevirtual 136, 3) := by decide +kernel
theorem dX7_rowLine_113 : decode cX7_rowLine 113 = .ok (.aload_n 0, 1) := by decide +kernel
theorem dX7_rowLine_114 : decode cX7_rowLine 114 = .ok (.aload_n 0, 1) := by decide +kernel
theorem dX7_rowLine_115 : decode cX7_rowLine 115 = .ok (.getfield 110, 3) := by decide +kernel
theorem dX7_rowLine_118 : decode cX7_rowLine 118 = .ok (.ifCond .ne 16, 3) := by decide +kernel
theorem dX7_rowLine_121 : decode cX7_rowLine 121 = .ok (.aload_n 0, 1) := by decide +kernel
theorem dX7_rowLine_122 : decode cX7_rowLine 122 = .ok (.iload_n 1, 1) := by decide +kernel
theorem dX7_rowLine_123 : decode cX7_rowLine 123 = .ok (.invokevirtual 192, 3) := by decide +kernel
theorem dX7_rowLine_126 : decode cX7_rowLine 126 = .ok (.iload_n 2, 1) := by decide +kernel
theorem dX7_rowLine_127 : decode cX7_rowLine 127 = .ok (.if_icmp .ge 7, 3) := by decide +kernel
theorem dX7_rowLine_130 : decode cX7_rowLine 130 = .ok (.iconst 1, 1) := by decide +kernel
theorem dX7_rowLine_131 : decode cX7_rowLine 131 = .ok (.goto 4, 3) := by decide +kernel
theorem dX7_rowLine_134 : decode cX7_rowLine 134 = .ok (.iconst 0, 1) := by decide +kernel
theorem dX7_rowLine_135 : decode cX7_rowLine 135 = .ok (.iconst 5, 1) := by decide +kernel
theorem dX7_rowLine_136 : decode cX7_rowLine 136 = .ok (.invokevirtual 136, 3) := by decide +kernel
theorem dX7_rowLine_139 : decode cX7_rowLine 139 = .ok (.aload_n 0, 1) := by decide +kernel
theorem dX7_rowLine_140 : decode cX7_rowLine 140 = .ok (.getfield 110, 3) := by decide +kernel
theorem dX7_rowLine_143 : decode cX7_rowLine 143 = .ok (.ifCond .ne 9, 3) := by decide +kernel
theorem dX7_rowLine_146 : decode cX7_rowLine 146 = .ok (.aload_n 0, 1) := by decide +kernel
theorem dX7_rowLine_147 : decode cX7_rowLine 147 = .ok (.iload_n 1, 1) := by decide +kernel
theorem dX7_rowLine_148 : decode cX7_rowLine 148 = .ok (.iload_n 2, 1) := by decide +kernel
theorem dX7_rowLine_149 : decode cX7_rowLine 149 = .ok (.invokevirtual 195, 3) := by decide +kernel
theorem dX7_rowLine_152 : decode cX7_rowLine 152 = .ok (.aload_n 0, 1) := by decide +kernel
theorem dX7_rowLine_153 : decode cX7_rowLine 153 = .ok (.invokevirtual 140, 3) := by decide +kernel
theorem dX7_rowLine_156 : decode cX7_rowLine 156 = .ok (.goto (-95), 3) := by decide +kernel
theorem dX7_rowLine_159 : decode cX7_rowLine 159 = .ok (.return_, 1) := by decide +kernel
theorem dX7_line_0 : decode cX7_line 0 = .ok (.aload_n 0, 1) := by decide +kernel
theorem dX7_line_1 : decode cX7_line 1 = .ok (.ldc 199, 2) := by decide +kernel
theorem dX7_line_3 : decode cX7_line 3 = .ok (.invokevirtual 132, 3) := by decide +kernel
theorem dX7_line_6 : decode cX7_line 6 = .ok (.ifCond .ne 12, 3) := by decide +kernel
theorem dX7_line_9 : decode cX7_line 9 = .ok (.aload_n 0, 1) := by decide +kernel
theorem dX7_line_10 : decode cX7_line 10 = .ok (.ldc 201, 2) := by decide +kernel
theorem dX7_line_12 : decode cX7_line 12 = .ok (.invokevirtual 132, 3) := by decide +kernel
theorem dX7_line_15 : decode cX7_line 15 = .ok (.ifCond .eq 16, 3) := by decide +kernel
theorem dX7_line_18 : decode cX7_line 18 = .ok (.aload_n 0, 1) := by decide +kernel
theorem dX7_line_19 : decode cX7_line 19 = .ok (.aload_n 0, 1) := by decide +kernel
theorem dX7_line_20 : decode cX7_line 20 = .ok (.ldc 201, 2) := by decide +kernel
theorem dX7_line_22 : decode cX7_line 22 = .ok (.invokevirtual 132, 3) := by decide +kernel
theorem dX7_line_25 : decode cX7_line 25 = .ok (.invokevirtual 203, 3) := by decide +kernel
theorem dX7_line_28 : decode cX7_line 28 = .ok (.goto 24, 3) := by decide +kernel
theorem dX7_line_31 : decode cX7_line 31 = .ok (.aload_n 0, 1) := by decide +kernel
theorem dX7_line_32 : decode cX7_line 32 = .ok (.ldc 207, 2) := by decide +kernel
theorem dX7_line_34 : decode cX7_line 34 = .ok (.invokevirtual 132, 3) := by decide +kernel
theorem dX7_line_37 : decode cX7_line 37 = .ok (.ifCond .eq 10, 3) := by decide +kernel
theorem dX7_line_40 : decode cX7_line 40 = .ok (.aload_n 0, 1) := by decide +kernel
theorem dX7_line_41 : decode cX7_line 41 = .ok (.invokevirtual 209, 3) := by decide +kernel
theorem dX7_line_44 : decode cX7_line 44 = .ok (.goto 8, 3) := by decide +kernel
theorem dX7_line_47 : decode cX7_line 47 = .ok (.aload_n 0, 1) := by decide +kernel
theorem dX7_line_48 : decode cX7_line 48 = .ok (.iconst 1, 1) := by decide +kernel
theorem dX7_line_49 : decode cX7_line 49 = .ok (.invokevirtual 116, 3) := by decide +kernel
theorem dX7_line_52 : decode cX7_line 52 = .ok (.return_, 1) := by decide +kernel
theorem dX7_reads_0 : decode cX7_reads 0 = .ok (.aload_n 0, 1) := by decide +kernel
theorem dX7_reads_1 : decode cX7_reads 1 = .ok (.iload_n 1, 1) := by decide +kernel
theorem dX7_reads_2 : decode cX7_reads 2 = .ok (.putfield 84, 3) := by decide +kernel
theorem dX7_reads_5 : decode cX7_reads 5 = .ok (.aload_n 0, 1) := by decide +kernel
theorem dX7_reads_6 : decode cX7_reads 6 = .ok (.iconst 0, 1) := by decide +kernel
theorem dX7_reads_7 : decode cX7_reads 7 = .ok (.putfield 87, 3) := by decide +kernel
theorem dX7_reads_10 : decode cX7_reads 10 = .ok (.aload_n 0, 1) := by decide +kernel
theorem dX7_reads_11 : decode cX7_reads 11 = .ok (.iconst 0, 1) := by decide +kernel
theorem dX7_reads_12 : decode cX7_reads 12 = .ok (.putfield 110, 3) := by decide +kernel
theorem dX7_reads_15 : decode cX7_reads 15 = .ok (.aload_n 0, 1) := by decide +kernel
theorem dX7_reads_16 : decode cX7_reads 16 = .ok (.iconst (-1), 1) := by decide +kernel
theorem dX7_reads_17 : decode cX7_reads 17 = .ok (.putfield 113, 3) := by decide +kernel
theorem dX7_reads_20 : decode cX7_reads 20 = .ok (.aload_n 0, 1) := by decide +kernel
theorem dX7_reads_21 : decode cX7_reads 21 = .ok (.invokevirtual 212, 3) := by decide +kernel
theorem dX7_reads_24 : decode cX7_reads 24 = .ok (.aload_n 0, 1) := by decide +kernel
theorem dX7_reads_25 : decode cX7_reads 25 = .ok (.invokevirtual 120, 3) := by decide +kernel
theorem dX7_reads_28 : decode cX7_reads 28 = .ok (.aload_n 0, 1) := by decide +kernel
theorem dX7_reads_29 : decode cX7_reads 29 = .ok (.ldc 215, 2) := by decide +kernel
theorem dX7_reads_31 : decode cX7_reads 31 = .ok (.invokevirtual 217, 3) := by decide +kernel
theorem dX7_reads_34 : decode cX7_reads 34 = .ok (.aload_n 0, 1) := by decide +kernel
theorem dX7_reads_35 : decode cX7_reads 35 = .ok (.aload_n 0, 1) := by decide +kernel
theorem dX7_reads_36 : decode cX7_reads 36 = .ok (.bipush 10, 2) := by decide +kernel
theorem dX7_reads_38 : decode cX7_reads 38 = .ok (.sipush 500, 3) := by decide +kernel
theorem dX7_reads_41 : decode cX7_reads 41 = .ok (.invokevirtual 186, 3) := by decide +kernel
theorem dX7_reads_44 : decode cX7_reads 44 = .ok (.putfield 151, 3) := by decide +kernel
theorem dX7_reads_47 : decode cX7_reads 47 = .ok (.aload_n 0, 1) := by decide +kernel
theorem dX7_reads_48 : decode cX7_reads 48 = .ok (.aload_n 0, 1) := by decide +kernel
theorem dX7_reads_49 : decode cX7_reads 49 = .ok (.iconst 1, 1) := by decide +kernel
theorem dX7_reads_50 : decode cX7_reads 50 = .ok (.bipush 8, 2) := by decide +kernel
theorem dX7_reads_52 : decode cX7_reads 52 = .ok (.invokevirtual 186, 3) := by decide +kernel
theorem dX7_reads_55 : decode cX7_reads 55 = .ok (.putfield 154, 3) := by decide +kernel
theorem dX7_reads_58 : decode cX7_reads 58 = .ok (.aload_n 0, 1) := by decide +kernel
theorem dX7_reads_59 : decode cX7_reads 59 = .ok (.aload_n 0, 1) := by decide +kernel
theorem dX7_reads_60 : decode cX7_reads 60 = .ok (.iconst 1, 1) := by decide +kernel
theorem dX7_reads_61 : decode cX7_reads 61 = .ok (.bipush 50, 2) := by decide +kernel
theorem dX7_reads_63 : decode cX7_reads 63 = .ok (.invokevirtual 186, 3) := by decide +kernel
theorem dX7_reads_66 : decode cX7_reads 66 = .ok (.putfield 157, 3) := by decide +kernel
theorem dX7_reads_69 : decode cX7_reads 69 = .ok (.aload_n 0, 1) := by decide +kernel
theorem dX7_reads_70 : decode cX7_reads 70 = .ok (.aload_n 0, 1) := by decide +kernel
theorem dX7_reads_71 : decode cX7_reads 71 = .ok (.iconst 0, 1) := by decide +kernel
theorem dX7_reads_72 : decode cX7_reads 72 = .ok (.bipush 20, 2) := by decide +kernel
theorem dX7_reads_74 : decode cX7_reads 74 = .ok (.invokevirtual 186, 3) := by decide +kernel
theorem dX7_reads_77 : decode cX7_reads 77 = .ok (.putfield 160, 3) := by decide +kernel
theorem dX7_reads_80 : decode cX7_reads 80 = .ok (.aload_n 0, 1) := by decide +kernel
theorem dX7_reads_81 : decode cX7_reads 81 = .ok (.getfield 17, 3) := by decide +kernel
theorem dX7_reads_84 : decode cX7_reads 84 = .ok (.iconst 0, 1) := by decide +kernel
theorem dX7_reads_85 : decode cX7_reads 85 = .ok (.aload_n 0, 1) := by decide +kernel
theorem dX7_reads_86 : decode cX7_reads 86 = .ok (.iconst 0, 1) := by decide +kernel
theorem dX7_reads_87 : decode cX7_reads 87 = .ok (.bipush 20, 2) := by decide +kernel
theorem dX7_reads_89 : decode cX7_reads 89 = .ok (.invokevirtual 186, 3) := by decide +kernel
theorem dX7_reads_92 : decode cX7_reads 92 = .ok (.iastore, 1) := by decide +kernel
theorem dX7_reads_93 : decode cX7_reads 93 = .ok (.aload_n 0, 1) := by decide +kernel
theorem dX7_reads_94 : decode cX7_reads 94 = .ok (.aload_n 0, 1) := by decide +kernel
theorem dX7_reads_95 : decode cX7_reads 95 = .ok (.getfield 110, 3) := by decide +kernel
theorem dX7_reads_98 : decode cX7_reads 98 = .ok (.ifCond .ne 15, 3) := by decide +kernel
theorem dX7_reads_101 : decode cX7_reads 101 = .ok (.aload_n 0, 1) := by decide +kernel
theorem dX7_reads_102 : decode cX7_reads 102 = .ok (.getfield 97, 3) := by decide +kernel
theorem dX7_reads_105 : decode cX7_reads 105 = .ok (.iconst 3, 1) := by decide +kernel
theorem dX7_reads_106 : decode cX7_reads 106 = .ok (.if_icmp .eq 7, 3) := by decide +kernel
theorem dX7_reads_109 : decode cX7_reads 109 = .ok (.iconst 1, 1) := by decide +kernel
theorem dX7_reads_110 : decode cX7_reads 110 = .ok (.goto 4, 3) := by decide +kernel
theorem dX7_reads_113 : decode cX7_reads 113 = .ok (.iconst 0, 1) := by decide +kernel
theorem dX7_reads_114 : decode cX7_reads 114 = .ok (.iconst 1, 1) := by decide +kernel
theorem dX7_reads_115 : decode cX7_reads 115 = .ok (.invokevirtual 136, 3) := by decide +kernel
theorem dX7_reads_118 : decode cX7_reads 118 = .ok (.aload_n 0, 1) := by decide +kernel
theorem dX7_reads_119 : decode cX7_reads 119 = .ok (.invokevirtual 140, 3) := by decide +kernel
theorem dX7_reads_122 : decode cX7_reads 122 = .ok (.aload_n 0, 1) := by decide +kernel
theorem dX7_reads_123 : decode cX7_reads 123 = .ok (.ldc 221, 2) := by decide +kernel
theorem dX7_reads_125 : decode cX7_reads 125 = .ok (.invokevirtual 217, 3) := by decide +kernel
theorem dX7_reads_128 : decode cX7_reads 128 = .ok (.aload_n 0, 1) := by decide +kernel
theorem dX7_reads_129 : decode cX7_reads 129 = .ok (.aload_n 0, 1) := by decide +kernel
theorem dX7_reads_130 : decode cX7_reads 130 = .ok (.iconst 0, 1) := by decide +kernel
theorem dX7_reads_131 : decode cX7_reads 131 = .ok (.bipush 9, 2) := by decide +kernel
theorem dX7_reads_133 : decode cX7_reads 133 = .ok (.invokevirtual 186, 3) := by decide +kernel
theorem dX7_reads_136 : decode cX7_reads 136 = .ok (.putfield 163, 3) := by decide +kernel
theorem dX7_reads_139 : decode cX7_reads 139 = .ok (.aload_n 0, 1) := by decide +kernel
theorem dX7_reads_140 : decode cX7_reads 140 = .ok (.aload_n 0, 1) := by decide +kernel
theorem dX7_reads_141 : decode cX7_reads 141 = .ok (.iconst 0, 1) := by decide +kernel
theorem dX7_reads_142 : decode cX7_reads 142 = .ok (.bipush 9, 2) := by decide +kernel
theorem dX7_reads_144 : decode cX7_reads 144 = .ok (.invokevirtual 186, 3) := by decide +kernel
theorem dX7_reads_147 : decode cX7_reads 147 = .ok (.putfield 166, 3) := by decide +kernel
theorem dX7_reads_150 : decode cX7_reads 150 = .ok (.aload_n 0, 1) := by decide +kernel
theorem dX7_reads_151 : decode cX7_reads 151 = .ok (.aload_n 0, 1) := by decide +kernel
theorem dX7_reads_152 : decode cX7_reads 152 = .ok (.iconst 1, 1) := by decide +kernel
theorem dX7_reads_153 : decode cX7_reads 153 = .ok (.sipush 999, 3) := by decide +kernel
theorem dX7_reads_156 : decode cX7_reads 156 = .ok (.invokevirtual 186, 3) := by decide +kernel
theorem dX7_reads_159 : decode cX7_reads 159 = .ok (.putfield 169, 3) := by decide +kernel
theorem dX7_reads_162 : decode cX7_reads 162 = .ok (.aload_n 0, 1) := by decide +kernel
theorem dX7_reads_163 : decode cX7_reads 163 = .ok (.getfield 110, 3) := by decide +kernel
theorem dX7_reads_166 : decode cX7_reads 166 = .ok (.ifCond .ne 22, 3) := by decide +kernel
theorem dX7_reads_169 : decode cX7_reads 169 = .ok (.aload_n 0, 1) := by decide +kernel
theorem dX7_reads_170 : decode cX7_reads 170 = .ok (.getfield 97, 3) := by decide +kernel
theorem dX7_reads_173 : decode cX7_reads 173 = .ok (.iconst 3, 1) := by decide +kernel
theorem dX7_reads_174 : decode cX7_reads 174 = .ok (.if_icmp .ne 14, 3) := by decide +kernel
theorem dX7_reads_177 : decode cX7_reads 177 = .ok (.aload_n 0, 1) := by decide +kernel
theorem dX7_reads_178 : decode cX7_reads 178 = .ok (.invokevirtual 120, 3) := by decide +kernel
theorem dX7_reads_181 : decode cX7_reads 181 = .ok (.aload_n 0, 1) := by decide +kernel
theorem dX7_reads_182 : decode cX7_reads 182 = .ok (.invokevirtual 223, 3) := by decide +kernel
theorem dX7_reads_185 : decode cX7_reads 185 = .ok (.goto (-23), 3) := by decide +kernel
theorem dX7_reads_188 : decode cX7_reads 188 = .ok (.aload_n 0, 1) := by decide +kernel
theorem dX7_reads_189 : decode cX7_reads 189 = .ok (.aload_n 0, 1) := by decide +kernel
theorem dX7_reads_190 : decode cX7_reads 190 = .ok (.getfield 97, 3) := by decide +kernel
theorem dX7_reads_193 : decode cX7_reads 193 = .ok (.ifCond .eq 7, 3) := by decide +kernel
theorem dX7_reads_196 : decode cX7_reads 196 = .ok (.iconst 1, 1) := by decide +kernel
theorem dX7_reads_197 : decode cX7_reads 197 = .ok (.goto 4, 3) := by decide +kernel
theorem dX7_reads_200 : decode cX7_reads 200 = .ok (.iconst 0, 1) := by decide +kernel
theorem dX7_reads_201 : decode cX7_reads 201 = .ok (.iconst 1, 1) := by decide +kernel
theorem dX7_reads_202 : decode cX7_reads 202 = .ok (.invokevirtual 136, 3) := by decide +kernel
theorem dX7_reads_205 : decode cX7_reads 205 = .ok (.return_, 1) := by decide +kernel
theorem dX7_load_0 : decode cX7_load 0 = .ok (.aload_n 0, 1) := by decide +kernel
theorem dX7_load_1 : decode cX7_load 1 = .ok (.iconst 0, 1) := by decide +kernel
theorem dX7_load_2 : decode cX7_load 2 = .ok (.putfield 67, 3) := by decide +kernel
theorem dX7_load_5 : decode cX7_load 5 = .ok (.aload_n 0, 1) := by decide +kernel
theorem dX7_load_6 : decode cX7_load 6 = .ok (.iload_n 1, 1) := by decide +kernel
theorem dX7_load_7 : decode cX7_load 7 = .ok (.iconst 0, 1) := by decide +kernel
theorem dX7_load_8 : decode cX7_load 8 = .ok (.aload_n 0, 1) := by decide +kernel
theorem dX7_load_9 : decode cX7_load 9 = .ok (.getfield 78, 3) := by decide +kernel
theorem dX7_load_12 : decode cX7_load 12 = .ok (.invokestatic 143, 3) := by decide +kernel
theorem dX7_load_15 : decode cX7_load 15 = .ok (.ifCond .ne 7, 3) := by decide +kernel
theorem dX7_load_18 : decode cX7_load 18 = .ok (.iconst 1, 1) := by decide +kernel
theorem dX7_load_19 : decode cX7_load 19 = .ok (.goto 4, 3) := by decide +kernel
theorem dX7_load_22 : decode cX7_load 22 = .ok (.iconst 0, 1) := by decide +kernel
theorem dX7_load_23 : decode cX7_load 23 = .ok (.iconst 1, 1) := by decide +kernel
theorem dX7_load_24 : decode cX7_load 24 = .ok (.invokevirtual 74, 3) := by decide +kernel
theorem dX7_load_27 : decode cX7_load 27 = .ok (.ifCond .eq 5, 3) := by decide +kernel
theorem dX7_load_30 : decode cX7_load 30 = .ok (.iconst 0, 1) := by decide +kernel
theorem dX7_load_31 : decode cX7_load 31 = .ok (.ireturn, 1) := by decide +kernel
theorem dX7_load_32 : decode cX7_load 32 = .ok (.aload_n 0, 1) := by decide +kernel
theorem dX7_load_33 : decode cX7_load 33 = .ok (.iconst 0, 1) := by decide +kernel
theorem dX7_load_34 : decode cX7_load 34 = .ok (.putfield 78, 3) := by decide +kernel
theorem dX7_load_37 : decode cX7_load 37 = .ok (.aload_n 0, 1) := by decide +kernel
theorem dX7_load_38 : decode cX7_load 38 = .ok (.invokevirtual 226, 3) := by decide +kernel
theorem dX7_load_41 : decode cX7_load 41 = .ok (.aload_n 0, 1) := by decide +kernel
theorem dX7_load_42 : decode cX7_load 42 = .ok (.iload_n 1, 1) := by decide +kernel
theorem dX7_load_43 : decode cX7_load 43 = .ok (.invokevirtual 229, 3) := by decide +kernel
theorem dX7_load_46 : decode cX7_load 46 = .ok (.aload_n 0, 1) := by decide +kernel
theorem dX7_load_47 : decode cX7_load 47 = .ok (.aload_n 0, 1) := by decide +kernel
theorem dX7_load_48 : decode cX7_load 48 = .ok (.getfield 110, 3) := by decide +kernel
theorem dX7_load_51 : decode cX7_load 51 = .ok (.putfield 81, 3) := by decide +kernel
theorem dX7_load_54 : decode cX7_load 54 = .ok (.aload_n 0, 1) := by decide +kernel
theorem dX7_load_55 : decode cX7_load 55 = .ok (.aload_n 0, 1) := by decide +kernel
theorem dX7_load_56 : decode cX7_load 56 = .ok (.getfield 110, 3) := by decide +kernel
theorem dX7_load_59 : decode cX7_load 59 = .ok (.ifCond .ne 7, 3) := by decide +kernel
theorem dX7_load_62 : decode cX7_load 62 = .ok (.iconst (-1), 1) := by decide +kernel
theorem dX7_load_63 : decode cX7_load 63 = .ok (.goto 7, 3) := by decide +kernel
theorem dX7_load_66 : decode cX7_load 66 = .ok (.aload_n 0, 1) := by decide +kernel
theorem dX7_load_67 : decode cX7_load 67 = .ok (.getfield 113, 3) := by decide +kernel
theorem dX7_load_70 : decode cX7_load 70 = .ok (.putfield 33, 3) := by decide +kernel
theorem dX7_load_73 : decode cX7_load 73 = .ok (.aload_n 0, 1) := by decide +kernel
theorem dX7_load_74 : decode cX7_load 74 = .ok (.aload_n 0, 1) := by decide +kernel
theorem dX7_load_75 : decode cX7_load 75 = .ok (.getfield 110, 3) := by decide +kernel
theorem dX7_load_78 : decode cX7_load 78 = .ok (.ifCond .eq 7, 3) := by decide +kernel
theorem dX7_load_81 : decode cX7_load 81 = .ok (.iconst 1, 1) := by decide +kernel
theorem dX7_load_82 : decode cX7_load 82 = .ok (.goto 4, 3) := by decide +kernel
theorem dX7_load_85 : decode cX7_load 85 = .ok (.iconst 0, 1) := by decide +kernel
theorem dX7_load_86 : decode cX7_load 86 = .ok (.iconst 2, 1) := by decide +kernel
theorem dX7_load_87 : decode cX7_load 87 = .ok (.invokevirtual 74, 3) := by decide +kernel
theorem dX7_load_90 : decode cX7_load 90 = .ok (.ifCond .eq 9, 3) := by decide +kernel
theorem dX7_load_93 : decode cX7_load 93 = .ok (.aload_n 0, 1) := by decide +kernel
theorem dX7_load_94 : decode cX7_load 94 = .ok (.invokevirtual 232, 3) := by decide +kernel
theorem dX7_load_97 : decode cX7_load 97 = .ok (.iconst 0, 1) := by decide +kernel
theorem dX7_load_98 : decode cX7_load 98 = .ok (.ireturn, 1) := by decide +kernel
theorem dX7_load_99 : decode cX7_load 99 = .ok (.aload_n 0, 1) := by decide +kernel
theorem dX7_load_100 : decode cX7_load 100 = .ok (.iconst 1, 1) := by decide +kernel
theorem dX7_load_101 : decode cX7_load 101 = .ok (.putfield 70, 3) := by decide +kernel
theorem dX7_load_104 : decode cX7_load 104 = .ok (.aload_n 0, 1) := by decide +kernel
theorem dX7_load_105 : decode cX7_load 105 = .ok (.iconst 0, 1) := by decide +kernel
theorem dX7_load_106 : decode cX7_load 106 = .ok (.putfield 235, 3) := by decide +kernel
theorem dX7_load_109 : decode cX7_load 109 = .ok (.aload_n 0, 1) := by decide +kernel
theorem dX7_load_110 : decode cX7_load 110 = .ok (.getfield 27, 3) := by decide +kernel
theorem dX7_load_113 : decode cX7_load 113 = .ok (.iconst 0, 1) := by decide +kernel
theorem dX7_load_114 : decode cX7_load 114 = .ok (.iconst 0, 1) := by decide +kernel
theorem dX7_load_115 : decode cX7_load 115 = .ok (.bastore, 1) := by decide +kernel
theorem dX7_load_116 : decode cX7_load 116 = .ok (.aload_n 0, 1) := by decide +kernel
theorem dX7_load_117 : decode cX7_load 117 = .ok (.getfield 27, 3) := by decide +kernel
theorem dX7_load_120 : decode cX7_load 120 = .ok (.iconst 1, 1) := by decide +kernel
theorem dX7_load_121 : decode cX7_load 121 = .ok (.iconst 0, 1) := by decide +kernel
theorem dX7_load_122 : decode cX7_load 122 = .ok (.bastore, 1) := by decide +kernel
theorem dX7_load_123 : decode cX7_load 123 = .ok (.aload_n 0, 1) := by decide +kernel
theorem dX7_load_124 : decode cX7_load 124 = .ok (.getfield 172, 3) := by decide +kernel
theorem dX7_load_127 : decode cX7_load 127 = .ok (.ireturn, 1) := by decide +kernel
theorem dX7_of_0 : decode cX7_of 0 = .ok (.aload_n 0, 1) := by decide +kernel
theorem dX7_of_1 : decode cX7_of 1 = .ok (.getfield 17, 3) := by decide +kernel
theorem dX7_of_4 : decode cX7_of 4 = .ok (.bipush 16, 2) := by decide +kernel
theorem dX7_of_6 : decode cX7_of 6 = .ok (.sipush 512, 3) := by decide +kernel
theorem dX7_of_9 : decode cX7_of 9 = .ok (.iload_n 1, 1) := by decide +kernel
theorem dX7_of_10 : decode cX7_of 10 = .ok (.imul, 1) := by decide +kernel
theorem dX7_of_11 : decode cX7_of 11 = .ok (.iadd, 1) := by decide +kernel
theorem dX7_of_12 : decode cX7_of 12 = .ok (.iload_n 2, 1) := by decide +kernel
theorem dX7_of_13 : decode cX7_of 13 = .ok (.iadd, 1) := by decide +kernel
theorem dX7_of_14 : decode cX7_of 14 = .ok (.iaload, 1) := by decide +kernel
theorem dX7_of_15 : decode cX7_of 15 = .ok (.ireturn, 1) := by decide +kernel
theorem dX7_puts_0 : decode cX7_puts 0 = .ok (.aload_n 0, 1) := by decide +kernel
theorem dX7_puts_1 : decode cX7_puts 1 = .ok (.getfield 17, 3) := by decide +kernel
theorem dX7_puts_4 : decode cX7_puts 4 = .ok (.bipush 16, 2) := by decide +kernel
theorem dX7_puts_6 : decode cX7_puts 6 = .ok (.sipush 512, 3) := by decide +kernel
theorem dX7_puts_9 : decode cX7_puts 9 = .ok (.iload_n 1, 1) := by decide +kernel
theorem dX7_puts_10 : decode cX7_puts 10 = .ok (.imul, 1) := by decide +kernel
theorem dX7_puts_11 : decode cX7_puts 11 = .ok (.iadd, 1) := by decide +kernel
theorem dX7_puts_12 : decode cX7_puts 12 = .ok (.iload_n 2, 1) := by decide +kernel
theorem dX7_puts_13 : decode cX7_puts 13 = .ok (.iadd, 1) := by decide +kernel
theorem dX7_puts_14 : decode cX7_puts 14 = .ok (.iload_n 3, 1) := by decide +kernel
theorem dX7_puts_15 : decode cX7_puts 15 = .ok (.iastore, 1) := by decide +kernel
theorem dX7_puts_16 : decode cX7_puts 16 = .ok (.return_, 1) := by decide +kernel
theorem dX7_hasQuoin_0 : decode cX7_hasQuoin 0 = .ok (.aload_n 0, 1) := by decide +kernel
theorem dX7_hasQuoin_1 : decode cX7_hasQuoin 1 = .ok (.iload_n 1, 1) := by decide +kernel
theorem dX7_hasQuoin_2 : decode cX7_hasQuoin 2 = .ok (.iconst 2, 1) := by decide +kernel
theorem dX7_hasQuoin_3 : decode cX7_hasQuoin 3 = .ok (.invokevirtual 189, 3) := by decide +kernel
theorem dX7_hasQuoin_6 : decode cX7_hasQuoin 6 = .ok (.iconst (-1), 1) := by decide +kernel
theorem dX7_hasQuoin_7 : decode cX7_hasQuoin 7 = .ok (.if_icmp .eq 7, 3) := by decide +kernel
theorem dX7_hasQuoin_10 : decode cX7_hasQuoin 10 = .ok (.iconst 1, 1) := by decide +kernel
theorem dX7_hasQuoin_11 : decode cX7_hasQuoin 11 = .ok (.goto 4, 3) := by decide +kernel
theorem dX7_hasQuoin_14 : decode cX7_hasQuoin 14 = .ok (.iconst 0, 1) := by decide +kernel
theorem dX7_hasQuoin_15 : decode cX7_hasQuoin 15 = .ok (.ireturn, 1) := by decide +kernel
theorem dX7_blocksLong_0 : decode cX7_blocksLong 0 = .ok (.iconst 0, 1) := by decide +kernel
theorem dX7_blocksLong_1 : decode cX7_blocksLong 1 = .ok (.istore_n 2, 1) := by decide +kernel
theorem dX7_blocksLong_2 : decode cX7_blocksLong 2 = .ok (.iconst 0, 1) := by decide +kernel
theorem dX7_blocksLong_3 : decode cX7_blocksLong 3 = .ok (.istore_n 3, 1) := by decide +kernel
theorem dX7_blocksLong_4 : decode cX7_blocksLong 4 = .ok (.iload_n 3, 1) := by decide +kernel
theorem dX7_blocksLong_5 : decode cX7_blocksLong 5 = .ok (.aload_n 0, 1) := by decide +kernel
theorem dX7_blocksLong_6 : decode cX7_blocksLong 6 = .ok (.iload_n 1, 1) := by decide +kernel
theorem dX7_blocksLong_7 : decode cX7_blocksLong 7 = .ok (.iconst 0, 1) := by decide +kernel
theorem dX7_blocksLong_8 : decode cX7_blocksLong 8 = .ok (.invokevirtual 189, 3) := by decide +kernel
theorem dX7_blocksLong_11 : decode cX7_blocksLong 11 = .ok (.if_icmp .ge 20, 3) := by decide +kernel
theorem dX7_blocksLong_14 : decode cX7_blocksLong 14 = .ok (.iload_n 2, 1) := by decide +kernel
theorem dX7_blocksLong_15 : decode cX7_blocksLong 15 = .ok (.aload_n 0, 1) := by decide +kernel
theorem dX7_blocksLong_16 : decode cX7_blocksLong 16 = .ok (.iload_n 1, 1) := by decide +kernel
theorem dX7_blocksLong_17 : decode cX7_blocksLong 17 = .ok (.iconst 5, 1) := by decide +kernel
theorem dX7_blocksLong_18 : decode cX7_blocksLong 18 = .ok (.iload_n 3, 1) := by decide +kernel
theorem dX7_blocksLong_19 : decode cX7_blocksLong 19 = .ok (.iadd, 1) := by decide +kernel
theorem dX7_blocksLong_20 : decode cX7_blocksLong 20 = .ok (.invokevirtual 189, 3) := by decide +kernel
theorem dX7_blocksLong_23 : decode cX7_blocksLong 23 = .ok (.iadd, 1) := by decide +kernel
theorem dX7_blocksLong_24 : decode cX7_blocksLong 24 = .ok (.istore_n 2, 1) := by decide +kernel
theorem dX7_blocksLong_25 : decode cX7_blocksLong 25 = .ok (.iinc 3 1, 3) := by decide +kernel
theorem dX7_blocksLong_28 : decode cX7_blocksLong 28 = .ok (.goto (-24), 3) := by decide +kernel
theorem dX7_blocksLong_31 : decode cX7_blocksLong 31 = .ok (.iload_n 2, 1) := by decide +kernel
theorem dX7_blocksLong_32 : decode cX7_blocksLong 32 = .ok (.ireturn, 1) := by decide +kernel
theorem dX7_quoinLong_0 : decode cX7_quoinLong 0 = .ok (.aload_n 0, 1) := by decide +kernel
theorem dX7_quoinLong_1 : decode cX7_quoinLong 1 = .ok (.iload_n 1, 1) := by decide +kernel
theorem dX7_quoinLong_2 : decode cX7_quoinLong 2 = .ok (.invokevirtual 238, 3) := by decide +kernel
theorem dX7_quoinLong_5 : decode cX7_quoinLong 5 = .ok (.ifCond .eq 24, 3) := by decide +kernel
theorem dX7_quoinLong_8 : decode cX7_quoinLong 8 = .ok (.aload_n 0, 1) := by decide +kernel
theorem dX7_quoinLong_9 : decode cX7_quoinLong 9 = .ok (.getfield 157, 3) := by decide +kernel
theorem dX7_quoinLong_12 : decode cX7_quoinLong 12 = .ok (.aload_n 0, 1) := by decide +kernel
theorem dX7_quoinLong_13 : decode cX7_quoinLong 13 = .ok (.iload_n 1, 1) := by decide +kernel
theorem dX7_quoinLong_14 : decode cX7_quoinLong 14 = .ok (.iconst 2, 1) := by decide +kernel
theorem dX7_quoinLong_15 : decode cX7_quoinLong 15 = .ok (.invokevirtual 189, 3) := by decide +kernel
theorem dX7_quoinLong_18 : decode cX7_quoinLong 18 = .ok (.iadd, 1) := by decide +kernel
theorem dX7_quoinLong_19 : decode cX7_quoinLong 19 = .ok (.aload_n 0, 1) := by decide +kernel
theorem dX7_quoinLong_20 : decode cX7_quoinLong 20 = .ok (.iload_n 1, 1) := by decide +kernel
theorem dX7_quoinLong_21 : decode cX7_quoinLong 21 = .ok (.iconst 3, 1) := by decide +kernel
theorem dX7_quoinLong_22 : decode cX7_quoinLong 22 = .ok (.invokevirtual 189, 3) := by decide +kernel
theorem dX7_quoinLong_25 : decode cX7_quoinLong 25 = .ok (.isub, 1) := by decide +kernel
theorem dX7_quoinLong_26 : decode cX7_quoinLong 26 = .ok (.goto 4, 3) := by decide +kernel
theorem dX7_quoinLong_29 : decode cX7_quoinLong 29 = .ok (.iconst 0, 1) := by decide +kernel
theorem dX7_quoinLong_30 : decode cX7_quoinLong 30 = .ok (.ireturn, 1) := by decide +kernel
theorem dX7_filledLong_0 : decode cX7_filledLong 0 = .ok (.aload_n 0, 1) := by decide +kernel
theorem dX7_filledLong_1 : decode cX7_filledLong 1 = .ok (.iload_n 1, 1) := by decide +kernel
theorem dX7_filledLong_2 : decode cX7_filledLong 2 = .ok (.invokevirtual 241, 3) := by decide +kernel
theorem dX7_filledLong_5 : decode cX7_filledLong 5 = .ok (.aload_n 0, 1) := by decide +kernel
theorem dX7_filledLong_6 : decode cX7_filledLong 6 = .ok (.iload_n 1, 1) := by decide +kernel
theorem dX7_filledLong_7 : decode cX7_filledLong 7 = .ok (.invokevirtual 244, 3) := by decide +kernel
theorem dX7_filledLong_10 : decode cX7_filledLong 10 = .ok (.iadd, 1) := by decide +kernel
theorem dX7_filledLong_11 : decode cX7_filledLong 11 = .ok (.istore_n 2, 1) := by decide +kernel
theorem dX7_filledLong_12 : decode cX7_filledLong 12 = .ok (.iconst 0, 1) := by decide +kernel
theorem dX7_filledLong_13 : decode cX7_filledLong 13 = .ok (.istore_n 3, 1) := by decide +kernel
theorem dX7_filledLong_14 : decode cX7_filledLong 14 = .ok (.iload_n 3, 1) := by decide +kernel
theorem dX7_filledLong_15 : decode cX7_filledLong 15 = .ok (.aload_n 0, 1) := by decide +kernel
theorem dX7_filledLong_16 : decode cX7_filledLong 16 = .ok (.iload_n 1, 1) := by decide +kernel
theorem dX7_filledLong_17 : decode cX7_filledLong 17 = .ok (.iconst 1, 1) := by decide +kernel
theorem dX7_filledLong_18 : decode cX7_filledLong 18 = .ok (.invokevirtual 189, 3) := by decide +kernel
theorem dX7_filledLong_21 : decode cX7_filledLong 21 = .ok (.if_icmp .ge 26, 3) := by decide +kernel
theorem dX7_filledLong_24 : decode cX7_filledLong 24 = .ok (.iload_n 2, 1) := by decide +kernel
theorem dX7_filledLong_25 : decode cX7_filledLong 25 = .ok (.aload_n 0, 1) := by decide +kernel
theorem dX7_filledLong_26 : decode cX7_filledLong 26 = .ok (.getfield 13, 3) := by decide +kernel
theorem dX7_filledLong_29 : decode cX7_filledLong 29 = .ok (.aload_n 0, 1) := by decide +kernel
theorem dX7_filledLong_30 : decode cX7_filledLong 30 = .ok (.iload_n 1, 1) := by decide +kernel
theorem dX7_filledLong_31 : decode cX7_filledLong 31 = .ok (.bipush 11, 2) := by decide +kernel
theorem dX7_filledLong_33 : decode cX7_filledLong 33 = .ok (.iload_n 3, 1) := by decide +kernel
theorem dX7_filledLong_34 : decode cX7_filledLong 34 = .ok (.iadd, 1) := by decide +kernel
theorem dX7_filledLong_35 : decode cX7_filledLong 35 = .ok (.invokevirtual 189, 3) := by decide +kernel
theorem dX7_filledLong_38 : decode cX7_filledLong 38 = .ok (.iaload, 1) := by decide +kernel
theorem dX7_filledLong_39 : decode cX7_filledLong 39 = .ok (.iadd, 1) := by decide +kernel
theorem dX7_filledLong_40 : decode cX7_filledLong 40 = .ok (.istore_n 2, 1) := by decide +kernel
theorem dX7_filledLong_41 : decode cX7_filledLong 41 = .ok (.iinc 3 1, 3) := by decide +kernel
theorem dX7_filledLong_44 : decode cX7_filledLong 44 = .ok (.goto (-30), 3) := by decide +kernel
theorem dX7_filledLong_47 : decode cX7_filledLong 47 = .ok (.iload_n 2, 1) := by decide +kernel
theorem dX7_filledLong_48 : decode cX7_filledLong 48 = .ok (.ireturn, 1) := by decide +kernel
theorem dX7_gap_0 : decode cX7_gap 0 = .ok (.aload_n 0, 1) := by decide +kernel
theorem dX7_gap_1 : decode cX7_gap 1 = .ok (.getfield 151, 3) := by decide +kernel
theorem dX7_gap_4 : decode cX7_gap 4 = .ok (.aload_n 0, 1) := by decide +kernel
theorem dX7_gap_5 : decode cX7_gap 5 = .ok (.iload_n 1, 1) := by decide +kernel
theorem dX7_gap_6 : decode cX7_gap 6 = .ok (.invokevirtual 247, 3) := by decide +kernel
theorem dX7_gap_9 : decode cX7_gap 9 = .ok (.isub, 1) := by decide +kernel
theorem dX7_gap_10 : decode cX7_gap 10 = .ok (.ireturn, 1) := by decide +kernel
theorem dX7_woodIn_0 : decode cX7_woodIn 0 = .ok (.iconst 0, 1) := by decide +kernel
theorem dX7_woodIn_1 : decode cX7_woodIn 1 = .ok (.istore_n 2, 1) := by decide +kernel
theorem dX7_woodIn_2 : decode cX7_woodIn 2 = .ok (.iconst 0, 1) := by decide +kernel
theorem dX7_woodIn_3 : decode cX7_woodIn 3 = .ok (.istore_n 3, 1) := by decide +kernel
theorem dX7_woodIn_4 : decode cX7_woodIn 4 = .ok (.iload_n 3, 1) := by decide +kernel
theorem dX7_woodIn_5 : decode cX7_woodIn 5 = .ok (.aload_n 0, 1) := by decide +kernel
theorem dX7_woodIn_6 : decode cX7_woodIn 6 = .ok (.iload_n 1, 1) := by decide +kernel
theorem dX7_woodIn_7 : decode cX7_woodIn 7 = .ok (.iconst 1, 1) := by decide +kernel
theorem dX7_woodIn_8 : decode cX7_woodIn 8 = .ok (.invokevirtual 189, 3) := by decide +kernel
theorem dX7_woodIn_11 : decode cX7_woodIn 11 = .ok (.if_icmp .ge 37, 3) := by decide +kernel
theorem dX7_woodIn_14 : decode cX7_woodIn 14 = .ok (.iload_n 2, 1) := by decide +kernel
theorem dX7_woodIn_15 : decode cX7_woodIn 15 = .ok (.aload_n 0, 1) := by decide +kernel
theorem dX7_woodIn_16 : decode cX7_woodIn 16 = .ok (.getfield 7, 3) := by decide +kernel
theorem dX7_woodIn_19 : decode cX7_woodIn 19 = .ok (.aload_n 0, 1) := by decide +kernel
theorem dX7_woodIn_20 : decode cX7_woodIn 20 = .ok (.iload_n 1, 1) := by decide +kernel
theorem dX7_woodIn_21 : decode cX7_woodIn 21 = .ok (.bipush 11, 2) := by decide +kernel
theorem dX7_woodIn_23 : decode cX7_woodIn 23 = .ok (.iload_n 3, 1) := by decide +kernel
theorem dX7_woodIn_24 : decode cX7_woodIn 24 = .ok (.iadd, 1) := by decide +kernel
theorem dX7_woodIn_25 : decode cX7_woodIn 25 = .ok (.invokevirtual 189, 3) := by decide +kernel
theorem dX7_woodIn_28 : decode cX7_woodIn 28 = .ok (.baload, 1) := by decide +kernel
theorem dX7_woodIn_29 : decode cX7_woodIn 29 = .ok (.ifCond .ne 7, 3) := by decide +kernel
theorem dX7_woodIn_32 : decode cX7_woodIn 32 = .ok (.iconst 1, 1) := by decide +kernel
theorem dX7_woodIn_33 : decode cX7_woodIn 33 = .ok (.goto 4, 3) := by decide +kernel
theorem dX7_woodIn_36 : decode cX7_woodIn 36 = .ok (.iconst 0, 1) := by decide +kernel
theorem dX7_woodIn_37 : decode cX7_woodIn 37 = .ok (.invokestatic 250, 3) := by decide +kernel
theorem dX7_woodIn_40 : decode cX7_woodIn 40 = .ok (.iadd, 1) := by decide +kernel
theorem dX7_woodIn_41 : decode cX7_woodIn 41 = .ok (.istore_n 2, 1) := by decide +kernel
theorem dX7_woodIn_42 : decode cX7_woodIn 42 = .ok (.iinc 3 1, 3) := by decide +kernel
theorem dX7_woodIn_45 : decode cX7_woodIn 45 = .ok (.goto (-41), 3) := by decide +kernel
theorem dX7_woodIn_48 : decode cX7_woodIn 48 = .ok (.iload_n 2, 1) := by decide +kernel
theorem dX7_woodIn_49 : decode cX7_woodIn 49 = .ok (.ireturn, 1) := by decide +kernel
theorem dX7_isTightRow_0 : decode cX7_isTightRow 0 = .ok (.aload_n 0, 1) := by decide +kernel
theorem dX7_isTightRow_1 : decode cX7_isTightRow 1 = .ok (.iload_n 1, 1) := by decide +kernel
theorem dX7_isTightRow_2 : decode cX7_isTightRow 2 = .ok (.invokevirtual 192, 3) := by decide +kernel
theorem dX7_isTightRow_5 : decode cX7_isTightRow 5 = .ok (.ifCond .ne 16, 3) := by decide +kernel
theorem dX7_isTightRow_8 : decode cX7_isTightRow 8 = .ok (.aload_n 0, 1) := by decide +kernel
theorem dX7_isTightRow_9 : decode cX7_isTightRow 9 = .ok (.iload_n 1, 1) := by decide +kernel
theorem dX7_isTightRow_10 : decode cX7_isTightRow 10 = .ok (.iconst 4, 1) := by decide +kernel
theorem dX7_isTightRow_11 : decode cX7_isTightRow 11 = .ok (.invokevirtual 189, 3) := by decide +kernel
theorem dX7_isTightRow_14 : decode cX7_isTightRow 14 = .ok (.ifCond .ne 7, 3) := by decide +kernel
theorem dX7_isTightRow_17 : decode cX7_isTightRow 17 = .ok (.iconst 1, 1) := by decide +kernel
theorem dX7_isTightRow_18 : decode cX7_isTightRow 18 = .ok (.goto 4, 3) := by decide +kernel
theorem dX7_isTightRow_21 : decode cX7_isTightRow 21 = .ok (.iconst 0, 1) := by decide +kernel
theorem dX7_isTightRow_22 : decode cX7_isTightRow 22 = .ok (.ireturn, 1) := by decide +kernel
theorem dX7_adds_0 : decode cX7_adds 0 = .ok (.aload_n 0, 1) := by decide +kernel
theorem dX7_adds_1 : decode cX7_adds 1 = .ok (.iload_n 1, 1) := by decide +kernel
theorem dX7_adds_2 : decode cX7_adds 2 = .ok (.iconst 5, 1) := by decide +kernel
theorem dX7_adds_3 : decode cX7_adds 3 = .ok (.aload_n 0, 1) := by decide +kernel
theorem dX7_adds_4 : decode cX7_adds 4 = .ok (.iload_n 1, 1) := by decide +kernel
theorem dX7_adds_5 : decode cX7_adds 5 = .ok (.iconst 0, 1) := by decide +kernel
theorem dX7_adds_6 : decode cX7_adds 6 = .ok (.invokevirtual 189, 3) := by decide +kernel
theorem dX7_adds_9 : decode cX7_adds 9 = .ok (.iadd, 1) := by decide +kernel
theorem dX7_adds_10 : decode cX7_adds 10 = .ok (.iload_n 2, 1) := by decide +kernel
theorem dX7_adds_11 : decode cX7_adds 11 = .ok (.invokevirtual 178, 3) := by decide +kernel
theorem dX7_adds_14 : decode cX7_adds 14 = .ok (.aload_n 0, 1) := by decide +kernel
theorem dX7_adds_15 : decode cX7_adds 15 = .ok (.iload_n 1, 1) := by decide +kernel
theorem dX7_adds_16 : decode cX7_adds 16 = .ok (.iconst 0, 1) := by decide +kernel
theorem dX7_adds_17 : decode cX7_adds 17 = .ok (.aload_n 0, 1) := by decide +kernel
theorem dX7_adds_18 : decode cX7_adds 18 = .ok (.iload_n 1, 1) := by decide +kernel
theorem dX7_adds_19 : decode cX7_adds 19 = .ok (.iconst 0, 1) := by decide +kernel
theorem dX7_adds_20 : decode cX7_adds 20 = .ok (.invokevirtual 189, 3) := by decide +kernel
theorem dX7_adds_23 : decode cX7_adds 23 = .ok (.iconst 1, 1) := by decide +kernel
theorem dX7_adds_24 : decode cX7_adds 24 = .ok (.iadd, 1) := by decide +kernel
theorem dX7_adds_25 : decode cX7_adds 25 = .ok (.invokevirtual 178, 3) := by decide +kernel
theorem dX7_adds_28 : decode cX7_adds 28 = .ok (.return_, 1) := by decide +kernel
theorem dX7_putsPiece_0 : decode cX7_putsPiece 0 = .ok (.aload_n 0, 1) := by decide +kernel
theorem dX7_putsPiece_1 : decode cX7_putsPiece 1 = .ok (.iload_n 1, 1) := by decide +kernel
theorem dX7_putsPiece_2 : decode cX7_putsPiece 2 = .ok (.bipush 11, 2) := by decide +kernel
theorem dX7_putsPiece_4 : decode cX7_putsPiece 4 = .ok (.aload_n 0, 1) := by decide +kernel
theorem dX7_putsPiece_5 : decode cX7_putsPiece 5 = .ok (.iload_n 1, 1) := by decide +kernel
theorem dX7_putsPiece_6 : decode cX7_putsPiece 6 = .ok (.iconst 1, 1) := by decide +kernel
theorem dX7_putsPiece_7 : decode cX7_putsPiece 7 = .ok (.invokevirtual 189, 3) := by decide +kernel
theorem dX7_putsPiece_10 : decode cX7_putsPiece 10 = .ok (.iadd, 1) := by decide +kernel
theorem dX7_putsPiece_11 : decode cX7_putsPiece 11 = .ok (.iload_n 2, 1) := by decide +kernel
theorem dX7_putsPiece_12 : decode cX7_putsPiece 12 = .ok (.invokevirtual 178, 3) := by decide +kernel
theorem dX7_putsPiece_15 : decode cX7_putsPiece 15 = .ok (.aload_n 0, 1) := by decide +kernel
theorem dX7_putsPiece_16 : decode cX7_putsPiece 16 = .ok (.iload_n 1, 1) := by decide +kernel
theorem dX7_putsPiece_17 : decode cX7_putsPiece 17 = .ok (.iconst 1, 1) := by decide +kernel
theorem dX7_putsPiece_18 : decode cX7_putsPiece 18 = .ok (.aload_n 0, 1) := by decide +kernel
theorem dX7_putsPiece_19 : decode cX7_putsPiece 19 = .ok (.iload_n 1, 1) := by decide +kernel
theorem dX7_putsPiece_20 : decode cX7_putsPiece 20 = .ok (.iconst 1, 1) := by decide +kernel
theorem dX7_putsPiece_21 : decode cX7_putsPiece 21 = .ok (.invokevirtual 189, 3) := by decide +kernel
theorem dX7_putsPiece_24 : decode cX7_putsPiece 24 = .ok (.iconst 1, 1) := by decide +kernel
theorem dX7_putsPiece_25 : decode cX7_putsPiece 25 = .ok (.iadd, 1) := by decide +kernel
theorem dX7_putsPiece_26 : decode cX7_putsPiece 26 = .ok (.invokevirtual 178, 3) := by decide +kernel
theorem dX7_putsPiece_29 : decode cX7_putsPiece 29 = .ok (.aload_n 0, 1) := by decide +kernel
theorem dX7_putsPiece_30 : decode cX7_putsPiece 30 = .ok (.getfield 17, 3) := by decide +kernel
theorem dX7_putsPiece_33 : decode cX7_putsPiece 33 = .ok (.bipush 6, 2) := by decide +kernel
theorem dX7_putsPiece_35 : decode cX7_putsPiece 35 = .ok (.iload_n 2, 1) := by decide +kernel
theorem dX7_putsPiece_36 : decode cX7_putsPiece 36 = .ok (.iadd, 1) := by decide +kernel
theorem dX7_putsPiece_37 : decode cX7_putsPiece 37 = .ok (.dup2, 1) := by decide +kernel
theorem dX7_putsPiece_38 : decode cX7_putsPiece 38 = .ok (.iaload, 1) := by decide +kernel
theorem dX7_putsPiece_39 : decode cX7_putsPiece 39 = .ok (.iconst 1, 1) := by decide +kernel
theorem dX7_putsPiece_40 : decode cX7_putsPiece 40 = .ok (.isub, 1) := by decide +kernel
theorem dX7_putsPiece_41 : decode cX7_putsPiece 41 = .ok (.iastore, 1) := by decide +kernel
theorem dX7_putsPiece_42 : decode cX7_putsPiece 42 = .ok (.return_, 1) := by decide +kernel
theorem dX7_takesQuoin_0 : decode cX7_takesQuoin 0 = .ok (.aload_n 0, 1) := by decide +kernel
theorem dX7_takesQuoin_1 : decode cX7_takesQuoin 1 = .ok (.iload_n 1, 1) := by decide +kernel
theorem dX7_takesQuoin_2 : decode cX7_takesQuoin 2 = .ok (.invokevirtual 238, 3) := by decide +kernel
theorem dX7_takesQuoin_5 : decode cX7_takesQuoin 5 = .ok (.ifCond .eq 27, 3) := by decide +kernel
theorem dX7_takesQuoin_8 : decode cX7_takesQuoin 8 = .ok (.aload_n 0, 1) := by decide +kernel
theorem dX7_takesQuoin_9 : decode cX7_takesQuoin 9 = .ok (.iload_n 1, 1) := by decide +kernel
theorem dX7_takesQuoin_10 : decode cX7_takesQuoin 10 = .ok (.iconst 2, 1) := by decide +kernel
theorem dX7_takesQuoin_11 : decode cX7_takesQuoin 11 = .ok (.iconst (-1), 1) := by decide +kernel
theorem dX7_takesQuoin_12 : decode cX7_takesQuoin 12 = .ok (.invokevirtual 178, 3) := by decide +kernel
theorem dX7_takesQuoin_15 : decode cX7_takesQuoin 15 = .ok (.aload_n 0, 1) := by decide +kernel
theorem dX7_takesQuoin_16 : decode cX7_takesQuoin 16 = .ok (.iload_n 1, 1) := by decide +kernel
theorem dX7_takesQuoin_17 : decode cX7_takesQuoin 17 = .ok (.iconst 3, 1) := by decide +kernel
theorem dX7_takesQuoin_18 : decode cX7_takesQuoin 18 = .ok (.iconst 0, 1) := by decide +kernel
theorem dX7_takesQuoin_19 : decode cX7_takesQuoin 19 = .ok (.invokevirtual 178, 3) := by decide +kernel
theorem dX7_takesQuoin_22 : decode cX7_takesQuoin 22 = .ok (.aload_n 0, 1) := by decide +kernel
theorem dX7_takesQuoin_23 : decode cX7_takesQuoin 23 = .ok (.getfield 17, 3) := by decide +kernel
theorem dX7_takesQuoin_26 : decode cX7_takesQuoin 26 = .ok (.iconst 0, 1) := by decide +kernel
theorem dX7_takesQuoin_27 : decode cX7_takesQuoin 27 = .ok (.dup2, 1) := by decide +kernel
theorem dX7_takesQuoin_28 : decode cX7_takesQuoin 28 = .ok (.iaload, 1) := by decide +kernel
theorem dX7_takesQuoin_29 : decode cX7_takesQuoin 29 = .ok (.iconst 1, 1) := by decide +kernel
theorem dX7_takesQuoin_30 : decode cX7_takesQuoin 30 = .ok (.iadd, 1) := by decide +kernel
theorem dX7_takesQuoin_31 : decode cX7_takesQuoin 31 = .ok (.iastore, 1) := by decide +kernel
theorem dX7_takesQuoin_32 : decode cX7_takesQuoin 32 = .ok (.return_, 1) := by decide +kernel
theorem dX7_empties_0 : decode cX7_empties 0 = .ok (.aload_n 0, 1) := by decide +kernel
theorem dX7_empties_1 : decode cX7_empties 1 = .ok (.iload_n 1, 1) := by decide +kernel
theorem dX7_empties_2 : decode cX7_empties 2 = .ok (.iconst 1, 1) := by decide +kernel
theorem dX7_empties_3 : decode cX7_empties 3 = .ok (.invokevirtual 189, 3) := by decide +kernel
theorem dX7_empties_6 : decode cX7_empties 6 = .ok (.istore_n 2, 1) := by decide +kernel
theorem dX7_empties_7 : decode cX7_empties 7 = .ok (.iconst 0, 1) := by decide +kernel
theorem dX7_empties_8 : decode cX7_empties 8 = .ok (.istore_n 3, 1) := by decide +kernel
theorem dX7_empties_9 : decode cX7_empties 9 = .ok (.iload_n 3, 1) := by decide +kernel
theorem dX7_empties_10 : decode cX7_empties 10 = .ok (.iload_n 2, 1) := by decide +kernel
theorem dX7_empties_11 : decode cX7_empties 11 = .ok (.if_icmp .ge 30, 3) := by decide +kernel
theorem dX7_empties_14 : decode cX7_empties 14 = .ok (.aload_n 0, 1) := by decide +kernel
theorem dX7_empties_15 : decode cX7_empties 15 = .ok (.getfield 17, 3) := by decide +kernel
theorem dX7_empties_18 : decode cX7_empties 18 = .ok (.bipush 6, 2) := by decide +kernel
theorem dX7_empties_20 : decode cX7_empties 20 = .ok (.aload_n 0, 1) := by decide +kernel
theorem dX7_empties_21 : decode cX7_empties 21 = .ok (.iload_n 1, 1) := by decide +kernel
theorem dX7_empties_22 : decode cX7_empties 22 = .ok (.bipush 11, 2) := by decide +kernel
theorem dX7_empties_24 : decode cX7_empties 24 = .ok (.iload_n 3, 1) := by decide +kernel
theorem dX7_empties_25 : decode cX7_empties 25 = .ok (.iadd, 1) := by decide +kernel
theorem dX7_empties_26 : decode cX7_empties 26 = .ok (.invokevirtual 189, 3) := by decide +kernel
theorem dX7_empties_29 : decode cX7_empties 29 = .ok (.iadd, 1) := by decide +kernel
theorem dX7_empties_30 : decode cX7_empties 30 = .ok (.dup2, 1) := by decide +kernel
theorem dX7_empties_31 : decode cX7_empties 31 = .ok (.iaload, 1) := by decide +kernel
theorem dX7_empties_32 : decode cX7_empties 32 = .ok (.iconst 1, 1) := by decide +kernel
theorem dX7_empties_33 : decode cX7_empties 33 = .ok (.iadd, 1) := by decide +kernel
theorem dX7_empties_34 : decode cX7_empties 34 = .ok (.iastore, 1) := by decide +kernel
theorem dX7_empties_35 : decode cX7_empties 35 = .ok (.iinc 3 1, 3) := by decide +kernel
theorem dX7_empties_38 : decode cX7_empties 38 = .ok (.goto (-29), 3) := by decide +kernel
theorem dX7_empties_41 : decode cX7_empties 41 = .ok (.aload_n 0, 1) := by decide +kernel
theorem dX7_empties_42 : decode cX7_empties 42 = .ok (.iload_n 1, 1) := by decide +kernel
theorem dX7_empties_43 : decode cX7_empties 43 = .ok (.iconst 1, 1) := by decide +kernel
theorem dX7_empties_44 : decode cX7_empties 44 = .ok (.iconst 0, 1) := by decide +kernel
theorem dX7_empties_45 : decode cX7_empties 45 = .ok (.invokevirtual 178, 3) := by decide +kernel
theorem dX7_empties_48 : decode cX7_empties 48 = .ok (.aload_n 0, 1) := by decide +kernel
theorem dX7_empties_49 : decode cX7_empties 49 = .ok (.iload_n 1, 1) := by decide +kernel
theorem dX7_empties_50 : decode cX7_empties 50 = .ok (.iconst 4, 1) := by decide +kernel
theorem dX7_empties_51 : decode cX7_empties 51 = .ok (.iconst 0, 1) := by decide +kernel
theorem dX7_empties_52 : decode cX7_empties 52 = .ok (.invokevirtual 178, 3) := by decide +kernel
theorem dX7_empties_55 : decode cX7_empties 55 = .ok (.aload_n 0, 1) := by decide +kernel
theorem dX7_empties_56 : decode cX7_empties 56 = .ok (.iload_n 1, 1) := by decide +kernel
theorem dX7_empties_57 : decode cX7_empties 57 = .ok (.invokevirtual 254, 3) := by decide +kernel
theorem dX7_empties_60 : decode cX7_empties 60 = .ok (.iload_n 2, 1) := by decide +kernel
theorem dX7_empties_61 : decode cX7_empties 61 = .ok (.ireturn, 1) := by decide +kernel
theorem dX7_looseness_0 : decode cX7_looseness 0 = .ok (.aload_n 0, 1) := by decide +kernel
theorem dX7_looseness_1 : decode cX7_looseness 1 = .ok (.iload_n 1, 1) := by decide +kernel
theorem dX7_looseness_2 : decode cX7_looseness 2 = .ok (.iconst 4, 1) := by decide +kernel
theorem dX7_looseness_3 : decode cX7_looseness 3 = .ok (.invokevirtual 189, 3) := by decide +kernel
theorem dX7_looseness_6 : decode cX7_looseness 6 = .ok (.bipush 10, 2) := by decide +kernel
theorem dX7_looseness_8 : decode cX7_looseness 8 = .ok (.aload_n 0, 1) := by decide +kernel
theorem dX7_looseness_9 : decode cX7_looseness 9 = .ok (.iload_n 1, 1) := by decide +kernel
theorem dX7_looseness_10 : decode cX7_looseness 10 = .ok (.invokevirtual 192, 3) := by decide +kernel
theorem dX7_looseness_13 : decode cX7_looseness 13 = .ok (.imul, 1) := by decide +kernel
theorem dX7_looseness_14 : decode cX7_looseness 14 = .ok (.iadd, 1) := by decide +kernel
theorem dX7_looseness_15 : decode cX7_looseness 15 = .ok (.ireturn, 1) := by decide +kernel
theorem dX7_looksAtRows_0 : decode cX7_looksAtRows 0 = .ok (.iconst 0, 1) := by decide +kernel
theorem dX7_looksAtRows_1 : decode cX7_looksAtRows 1 = .ok (.istore_n 1, 1) := by decide +kernel
theorem dX7_looksAtRows_2 : decode cX7_looksAtRows 2 = .ok (.iconst 0, 1) := by decide +kernel
theorem dX7_looksAtRows_3 : decode cX7_looksAtRows 3 = .ok (.istore_n 2, 1) := by decide +kernel
theorem dX7_looksAtRows_4 : decode cX7_looksAtRows 4 = .ok (.iload_n 2, 1) := by decide +kernel
theorem dX7_looksAtRows_5 : decode cX7_looksAtRows 5 = .ok (.aload_n 0, 1) := by decide +kernel
theorem dX7_looksAtRows_6 : decode cX7_looksAtRows 6 = .ok (.getfield 154, 3) := by decide +kernel
theorem dX7_looksAtRows_9 : decode cX7_looksAtRows 9 = .ok (.if_icmp .ge 74, 3) := by decide +kernel
theorem dX7_looksAtRows_12 : decode cX7_looksAtRows 12 = .ok (.aload_n 0, 1) := by decide +kernel
theorem dX7_looksAtRows_13 : decode cX7_looksAtRows 13 = .ok (.iload_n 2, 1) := by decide +kernel
theorem dX7_looksAtRows_14 : decode cX7_looksAtRows 14 = .ok (.iconst 0, 1) := by decide +kernel
theorem dX7_looksAtRows_15 : decode cX7_looksAtRows 15 = .ok (.invokevirtual 189, 3) := by decide +kernel
theorem dX7_looksAtRows_18 : decode cX7_looksAtRows 18 = .ok (.ifCond .le 59, 3) := by decide +kernel
theorem dX7_looksAtRows_21 : decode cX7_looksAtRows 21 = .ok (.aload_n 0, 1) := by decide +kernel
theorem dX7_looksAtRows_22 : decode cX7_looksAtRows 22 = .ok (.iload_n 2, 1) := by decide +kernel
theorem dX7_looksAtRows_23 : decode cX7_looksAtRows 23 = .ok (.invokevirtual 257, 3) := by decide +kernel
theorem dX7_looksAtRows_26 : decode cX7_looksAtRows 26 = .ok (.aload_n 0, 1) := by decide +kernel
theorem dX7_looksAtRows_27 : decode cX7_looksAtRows 27 = .ok (.getfield 169, 3) := by decide +kernel
theorem dX7_looksAtRows_30 : decode cX7_looksAtRows 30 = .ok (.if_icmp .le 47, 3) := by decide +kernel
theorem dX7_looksAtRows_33 : decode cX7_looksAtRows 33 = .ok (.iload_n 1, 1) := by decide +kernel
theorem dX7_looksAtRows_34 : decode cX7_looksAtRows 34 = .ok (.iconst 1, 1) := by decide +kernel
theorem dX7_looksAtRows_35 : decode cX7_looksAtRows 35 = .ok (.iload_n 2, 1) := by decide +kernel
theorem dX7_looksAtRows_36 : decode cX7_looksAtRows 36 = .ok (.ishl, 1) := by decide +kernel
theorem dX7_looksAtRows_37 : decode cX7_looksAtRows 37 = .ok (.ior, 1) := by decide +kernel
theorem dX7_looksAtRows_38 : decode cX7_looksAtRows 38 = .ok (.istore_n 1, 1) := by decide +kernel
theorem dX7_looksAtRows_39 : decode cX7_looksAtRows 39 = .ok (.aload_n 0, 1) := by decide +kernel
theorem dX7_looksAtRows_40 : decode cX7_looksAtRows 40 = .ok (.getfield 17, 3) := by decide +kernel
theorem dX7_looksAtRows_43 : decode cX7_looksAtRows 43 = .ok (.iconst 4, 1) := by decide +kernel
theorem dX7_looksAtRows_44 : decode cX7_looksAtRows 44 = .ok (.dup2, 1) := by decide +kernel
theorem dX7_looksAtRows_45 : decode cX7_looksAtRows 45 = .ok (.iaload, 1) := by decide +kernel
theorem dX7_looksAtRows_46 : decode cX7_looksAtRows 46 = .ok (.aload_n 0, 1) := by decide +kernel
theorem dX7_looksAtRows_47 : decode cX7_looksAtRows 47 = .ok (.iload_n 2, 1) := by decide +kernel
theorem dX7_looksAtRows_48 : decode cX7_looksAtRows 48 = .ok (.iconst 0, 1) := by decide +kernel
theorem dX7_looksAtRows_49 : decode cX7_looksAtRows 49 = .ok (.invokevirtual 189, 3) := by decide +kernel
theorem dX7_looksAtRows_52 : decode cX7_looksAtRows 52 = .ok (.iadd, 1) := by decide +kernel
theorem dX7_looksAtRows_53 : decode cX7_looksAtRows 53 = .ok (.iastore, 1) := by decide +kernel
theorem dX7_looksAtRows_54 : decode cX7_looksAtRows 54 = .ok (.aload_n 0, 1) := by decide +kernel
theorem dX7_looksAtRows_55 : decode cX7_looksAtRows 55 = .ok (.getfield 17, 3) := by decide +kernel
theorem dX7_looksAtRows_58 : decode cX7_looksAtRows 58 = .ok (.iconst 5, 1) := by decide +kernel
theorem dX7_looksAtRows_59 : decode cX7_looksAtRows 59 = .ok (.dup2, 1) := by decide +kernel
theorem dX7_looksAtRows_60 : decode cX7_looksAtRows 60 = .ok (.iaload, 1) := by decide +kernel
theorem dX7_looksAtRows_61 : decode cX7_looksAtRows 61 = .ok (.iconst 1, 1) := by decide +kernel
theorem dX7_looksAtRows_62 : decode cX7_looksAtRows 62 = .ok (.iadd, 1) := by decide +kernel
theorem dX7_looksAtRows_63 : decode cX7_looksAtRows 63 = .ok (.iastore, 1) := by decide +kernel
theorem dX7_looksAtRows_64 : decode cX7_looksAtRows 64 = .ok (.aload_n 0, 1) := by decide +kernel
theorem dX7_looksAtRows_65 : decode cX7_looksAtRows 65 = .ok (.iload_n 2, 1) := by decide +kernel
theorem dX7_looksAtRows_66 : decode cX7_looksAtRows 66 = .ok (.iconst 0, 1) := by decide +kernel
theorem dX7_looksAtRows_67 : decode cX7_looksAtRows 67 = .ok (.iconst 0, 1) := by decide +kernel
theorem dX7_looksAtRows_68 : decode cX7_looksAtRows 68 = .ok (.invokevirtual 178, 3) := by decide +kernel
theorem dX7_looksAtRows_71 : decode cX7_looksAtRows 71 = .ok (.aload_n 0, 1) := by decide +kernel
theorem dX7_looksAtRows_72 : decode cX7_looksAtRows 72 = .ok (.iload_n 2, 1) := by decide +kernel
theorem dX7_looksAtRows_73 : decode cX7_looksAtRows 73 = .ok (.invokevirtual 260, 3) := by decide +kernel
theorem dX7_looksAtRows_76 : decode cX7_looksAtRows 76 = .ok (.istore_n 3, 1) := by decide +kernel
theorem dX7_looksAtRows_77 : decode cX7_looksAtRows 77 = .ok (.iinc 2 1, 3) := by decide +kernel
theorem dX7_looksAtRows_80 : decode cX7_looksAtRows 80 = .ok (.goto (-76), 3) := by decide +kernel
theorem dX7_looksAtRows_83 : decode cX7_looksAtRows 83 = .ok (.iload_n 1, 1) := by decide +kernel
theorem dX7_looksAtRows_84 : decode cX7_looksAtRows 84 = .ok (.ireturn, 1) := by decide +kernel
theorem dX7_areGood_0 : decode cX7_areGood 0 = .ok (.iconst 1, 1) := by decide +kernel
theorem dX7_areGood_1 : decode cX7_areGood 1 = .ok (.istore_n 1, 1) := by decide +kernel
theorem dX7_areGood_2 : decode cX7_areGood 2 = .ok (.iconst 0, 1) := by decide +kernel
theorem dX7_areGood_3 : decode cX7_areGood 3 = .ok (.istore_n 2, 1) := by decide +kernel
theorem dX7_areGood_4 : decode cX7_areGood 4 = .ok (.iload_n 2, 1) := by decide +kernel
theorem dX7_areGood_5 : decode cX7_areGood 5 = .ok (.aload_n 0, 1) := by decide +kernel
theorem dX7_areGood_6 : decode cX7_areGood 6 = .ok (.getfield 154, 3) := by decide +kernel
theorem dX7_areGood_9 : decode cX7_areGood 9 = .ok (.if_icmp .ge 47, 3) := by decide +kernel
theorem dX7_areGood_12 : decode cX7_areGood 12 = .ok (.iload_n 1, 1) := by decide +kernel
theorem dX7_areGood_13 : decode cX7_areGood 13 = .ok (.ifCond .eq 35, 3) := by decide +kernel
theorem dX7_areGood_16 : decode cX7_areGood 16 = .ok (.aload_n 0, 1) := by decide +kernel
theorem dX7_areGood_17 : decode cX7_areGood 17 = .ok (.iload_n 2, 1) := by decide +kernel
theorem dX7_areGood_18 : decode cX7_areGood 18 = .ok (.iconst 0, 1) := by decide +kernel
theorem dX7_areGood_19 : decode cX7_areGood 19 = .ok (.invokevirtual 189, 3) := by decide +kernel
theorem dX7_areGood_22 : decode cX7_areGood 22 = .ok (.ifCond .eq 22, 3) := by decide +kernel
theorem dX7_areGood_25 : decode cX7_areGood 25 = .ok (.aload_n 0, 1) := by decide +kernel
theorem dX7_areGood_26 : decode cX7_areGood 26 = .ok (.iload_n 2, 1) := by decide +kernel
theorem dX7_areGood_27 : decode cX7_areGood 27 = .ok (.invokevirtual 192, 3) := by decide +kernel
theorem dX7_areGood_30 : decode cX7_areGood 30 = .ok (.ifCond .ne 18, 3) := by decide +kernel
theorem dX7_areGood_33 : decode cX7_areGood 33 = .ok (.aload_n 0, 1) := by decide +kernel
theorem dX7_areGood_34 : decode cX7_areGood 34 = .ok (.iload_n 2, 1) := by decide +kernel
theorem dX7_areGood_35 : decode cX7_areGood 35 = .ok (.iconst 4, 1) := by decide +kernel
theorem dX7_areGood_36 : decode cX7_areGood 36 = .ok (.invokevirtual 189, 3) := by decide +kernel
theorem dX7_areGood_39 : decode cX7_areGood 39 = .ok (.bipush 10, 2) := by decide +kernel
theorem dX7_areGood_41 : decode cX7_areGood 41 = .ok (.if_icmp .ge 7, 3) := by decide +kernel
theorem dX7_areGood_44 : decode cX7_areGood 44 = .ok (.iconst 1, 1) := by decide +kernel
theorem dX7_areGood_45 : decode cX7_areGood 45 = .ok (.goto 4, 3) := by decide +kernel
theorem dX7_areGood_48 : decode cX7_areGood 48 = .ok (.iconst 0, 1) := by decide +kernel
theorem dX7_areGood_49 : decode cX7_areGood 49 = .ok (.istore_n 1, 1) := by decide +kernel
theorem dX7_areGood_50 : decode cX7_areGood 50 = .ok (.iinc 2 1, 3) := by decide +kernel
theorem dX7_areGood_53 : decode cX7_areGood 53 = .ok (.goto (-49), 3) := by decide +kernel
theorem dX7_areGood_56 : decode cX7_areGood 56 = .ok (.iload_n 1, 1) := by decide +kernel
theorem dX7_areGood_57 : decode cX7_areGood 57 = .ok (.ireturn, 1) := by decide +kernel
theorem dX7_prints_0 : decode cX7_prints 0 = .ok (.iconst 0, 1) := by decide +kernel
theorem dX7_prints_1 : decode cX7_prints 1 = .ok (.istore_n 1, 1) := by decide +kernel
theorem dX7_prints_2 : decode cX7_prints 2 = .ok (.iload_n 1, 1) := by decide +kernel
theorem dX7_prints_3 : decode cX7_prints 3 = .ok (.aload_n 0, 1) := by decide +kernel
theorem dX7_prints_4 : decode cX7_prints 4 = .ok (.getfield 154, 3) := by decide +kernel
theorem dX7_prints_7 : decode cX7_prints 7 = .ok (.if_icmp .ge 33, 3) := by decide +kernel
theorem dX7_prints_10 : decode cX7_prints 10 = .ok (.aload_n 0, 1) := by decide +kernel
theorem dX7_prints_11 : decode cX7_prints 11 = .ok (.iload_n 1, 1) := by decide +kernel
theorem dX7_prints_12 : decode cX7_prints 12 = .ok (.iconst 4, 1) := by decide +kernel
theorem dX7_prints_13 : decode cX7_prints 13 = .ok (.aload_n 0, 1) := by decide +kernel
theorem dX7_prints_14 : decode cX7_prints 14 = .ok (.iload_n 1, 1) := by decide +kernel
theorem dX7_prints_15 : decode cX7_prints 15 = .ok (.iconst 4, 1) := by decide +kernel
theorem dX7_prints_16 : decode cX7_prints 16 = .ok (.invokevirtual 189, 3) := by decide +kernel
theorem dX7_prints_19 : decode cX7_prints 19 = .ok (.aload_n 0, 1) := by decide +kernel
theorem dX7_prints_20 : decode cX7_prints 20 = .ok (.getfield 163, 3) := by decide +kernel
theorem dX7_prints_23 : decode cX7_prints 23 = .ok (.aload_n 0, 1) := by decide +kernel
theorem dX7_prints_24 : decode cX7_prints 24 = .ok (.iload_n 1, 1) := by decide +kernel
theorem dX7_prints_25 : decode cX7_prints 25 = .ok (.iconst 0, 1) := by decide +kernel
theorem dX7_prints_26 : decode cX7_prints 26 = .ok (.invokevirtual 189, 3) := by decide +kernel
theorem dX7_prints_29 : decode cX7_prints 29 = .ok (.imul, 1) := by decide +kernel
theorem dX7_prints_30 : decode cX7_prints 30 = .ok (.iadd, 1) := by decide +kernel
theorem dX7_prints_31 : decode cX7_prints 31 = .ok (.invokevirtual 178, 3) := by decide +kernel
theorem dX7_prints_34 : decode cX7_prints 34 = .ok (.iinc 1 1, 3) := by decide +kernel
theorem dX7_prints_37 : decode cX7_prints 37 = .ok (.goto (-35), 3) := by decide +kernel
theorem dX7_prints_40 : decode cX7_prints 40 = .ok (.aload_n 0, 1) := by decide +kernel
theorem dX7_prints_41 : decode cX7_prints 41 = .ok (.invokevirtual 263, 3) := by decide +kernel
theorem dX7_prints_44 : decode cX7_prints 44 = .ok (.istore_n 1, 1) := by decide +kernel
theorem dX7_prints_45 : decode cX7_prints 45 = .ok (.aload_n 0, 1) := by decide +kernel
theorem dX7_prints_46 : decode cX7_prints 46 = .ok (.getfield 17, 3) := by decide +kernel
theorem dX7_prints_49 : decode cX7_prints 49 = .ok (.iconst 1, 1) := by decide +kernel
theorem dX7_prints_50 : decode cX7_prints 50 = .ok (.dup2, 1) := by decide +kernel
theorem dX7_prints_51 : decode cX7_prints 51 = .ok (.iaload, 1) := by decide +kernel
theorem dX7_prints_52 : decode cX7_prints 52 = .ok (.iconst 1, 1) := by decide +kernel
theorem dX7_prints_53 : decode cX7_prints 53 = .ok (.iadd, 1) := by decide +kernel
theorem dX7_prints_54 : decode cX7_prints 54 = .ok (.iastore, 1) := by decide +kernel
theorem dX7_prints_55 : decode cX7_prints 55 = .ok (.aload_n 0, 1) := by decide +kernel
theorem dX7_prints_56 : decode cX7_prints 56 = .ok (.getfield 17, 3) := by decide +kernel
theorem dX7_prints_59 : decode cX7_prints 59 = .ok (.iconst 2, 1) := by decide +kernel
theorem dX7_prints_60 : decode cX7_prints 60 = .ok (.dup2, 1) := by decide +kernel
theorem dX7_prints_61 : decode cX7_prints 61 = .ok (.iaload, 1) := by decide +kernel
theorem dX7_prints_62 : decode cX7_prints 62 = .ok (.iload_n 1, 1) := by decide +kernel
theorem dX7_prints_63 : decode cX7_prints 63 = .ok (.ifCond .ne 14, 3) := by decide +kernel
theorem dX7_prints_66 : decode cX7_prints 66 = .ok (.aload_n 0, 1) := by decide +kernel
theorem dX7_prints_67 : decode cX7_prints 67 = .ok (.invokevirtual 266, 3) := by decide +kernel
theorem dX7_prints_70 : decode cX7_prints 70 = .ok (.ifCond .eq 7, 3) := by decide +kernel
theorem dX7_prints_73 : decode cX7_prints 73 = .ok (.iconst 1, 1) := by decide +kernel
theorem dX7_prints_74 : decode cX7_prints 74 = .ok (.goto 4, 3) := by decide +kernel
theorem dX7_prints_77 : decode cX7_prints 77 = .ok (.iconst 0, 1) := by decide +kernel
theorem dX7_prints_78 : decode cX7_prints 78 = .ok (.invokestatic 250, 3) := by decide +kernel
theorem dX7_prints_81 : decode cX7_prints 81 = .ok (.iadd, 1) := by decide +kernel
theorem dX7_prints_82 : decode cX7_prints 82 = .ok (.iastore, 1) := by decide +kernel
theorem dX7_prints_83 : decode cX7_prints 83 = .ok (.iload_n 1, 1) := by decide +kernel
theorem dX7_prints_84 : decode cX7_prints 84 = .ok (.ireturn, 1) := by decide +kernel
theorem dX7_passes_0 : decode cX7_passes 0 = .ok (.iconst 0, 1) := by decide +kernel
theorem dX7_passes_1 : decode cX7_passes 1 = .ok (.istore_n 1, 1) := by decide +kernel
theorem dX7_passes_2 : decode cX7_passes 2 = .ok (.iload_n 1, 1) := by decide +kernel
theorem dX7_passes_3 : decode cX7_passes 3 = .ok (.aload_n 0, 1) := by decide +kernel
theorem dX7_passes_4 : decode cX7_passes 4 = .ok (.getfield 154, 3) := by decide +kernel
theorem dX7_passes_7 : decode cX7_passes 7 = .ok (.if_icmp .ge 32, 3) := by decide +kernel
theorem dX7_passes_10 : decode cX7_passes 10 = .ok (.aload_n 0, 1) := by decide +kernel
theorem dX7_passes_11 : decode cX7_passes 11 = .ok (.iload_n 1, 1) := by decide +kernel
theorem dX7_passes_12 : decode cX7_passes 12 = .ok (.iconst 4, 1) := by decide +kernel
theorem dX7_passes_13 : decode cX7_passes 13 = .ok (.aload_n 0, 1) := by decide +kernel
theorem dX7_passes_14 : decode cX7_passes 14 = .ok (.iload_n 1, 1) := by decide +kernel
theorem dX7_passes_15 : decode cX7_passes 15 = .ok (.iconst 4, 1) := by decide +kernel
theorem dX7_passes_16 : decode cX7_passes 16 = .ok (.invokevirtual 189, 3) := by decide +kernel
theorem dX7_passes_19 : decode cX7_passes 19 = .ok (.aload_n 0, 1) := by decide +kernel
theorem dX7_passes_20 : decode cX7_passes 20 = .ok (.getfield 166, 3) := by decide +kernel
theorem dX7_passes_23 : decode cX7_passes 23 = .ok (.aload_n 0, 1) := by decide +kernel
theorem dX7_passes_24 : decode cX7_passes 24 = .ok (.iload_n 1, 1) := by decide +kernel
theorem dX7_passes_25 : decode cX7_passes 25 = .ok (.invokevirtual 270, 3) := by decide +kernel
theorem dX7_passes_28 : decode cX7_passes 28 = .ok (.imul, 1) := by decide +kernel
theorem dX7_passes_29 : decode cX7_passes 29 = .ok (.iadd, 1) := by decide +kernel
theorem dX7_passes_30 : decode cX7_passes 30 = .ok (.invokevirtual 178, 3) := by decide +kernel
theorem dX7_passes_33 : decode cX7_passes 33 = .ok (.iinc 1 1, 3) := by decide +kernel
theorem dX7_passes_36 : decode cX7_passes 36 = .ok (.goto (-34), 3) := by decide +kernel
theorem dX7_passes_39 : decode cX7_passes 39 = .ok (.aload_n 0, 1) := by decide +kernel
theorem dX7_passes_40 : decode cX7_passes 40 = .ok (.getfield 17, 3) := by decide +kernel
theorem dX7_passes_43 : decode cX7_passes 43 = .ok (.iconst 3, 1) := by decide +kernel
theorem dX7_passes_44 : decode cX7_passes 44 = .ok (.dup2, 1) := by decide +kernel
theorem dX7_passes_45 : decode cX7_passes 45 = .ok (.iaload, 1) := by decide +kernel
theorem dX7_passes_46 : decode cX7_passes 46 = .ok (.iconst 1, 1) := by decide +kernel
theorem dX7_passes_47 : decode cX7_passes 47 = .ok (.iadd, 1) := by decide +kernel
theorem dX7_passes_48 : decode cX7_passes 48 = .ok (.iastore, 1) := by decide +kernel
theorem dX7_passes_49 : decode cX7_passes 49 = .ok (.aload_n 0, 1) := by decide +kernel
theorem dX7_passes_50 : decode cX7_passes 50 = .ok (.invokevirtual 263, 3) := by decide +kernel
theorem dX7_passes_53 : decode cX7_passes 53 = .ok (.ireturn, 1) := by decide +kernel
theorem dX7_ones_0 : decode cX7_ones 0 = .ok (.iconst 0, 1) := by decide +kernel
theorem dX7_ones_1 : decode cX7_ones 1 = .ok (.istore_n 1, 1) := by decide +kernel
theorem dX7_ones_2 : decode cX7_ones 2 = .ok (.iconst 0, 1) := by decide +kernel
theorem dX7_ones_3 : decode cX7_ones 3 = .ok (.istore_n 2, 1) := by decide +kernel
theorem dX7_ones_4 : decode cX7_ones 4 = .ok (.iload_n 2, 1) := by decide +kernel
theorem dX7_ones_5 : decode cX7_ones 5 = .ok (.bipush 8, 2) := by decide +kernel
theorem dX7_ones_7 : decode cX7_ones 7 = .ok (.if_icmp .ge 17, 3) := by decide +kernel
theorem dX7_ones_10 : decode cX7_ones 10 = .ok (.iload_n 1, 1) := by decide +kernel
theorem dX7_ones_11 : decode cX7_ones 11 = .ok (.iload_n 0, 1) := by decide +kernel
theorem dX7_ones_12 : decode cX7_ones 12 = .ok (.iload_n 2, 1) := by decide +kernel
theorem dX7_ones_13 : decode cX7_ones 13 = .ok (.ishr, 1) := by decide +kernel
theorem dX7_ones_14 : decode cX7_ones 14 = .ok (.iconst 1, 1) := by decide +kernel
theorem dX7_ones_15 : decode cX7_ones 15 = .ok (.iand, 1) := by decide +kernel
theorem dX7_ones_16 : decode cX7_ones 16 = .ok (.iadd, 1) := by decide +kernel
theorem dX7_ones_17 : decode cX7_ones 17 = .ok (.istore_n 1, 1) := by decide +kernel
theorem dX7_ones_18 : decode cX7_ones 18 = .ok (.iinc 2 1, 3) := by decide +kernel
theorem dX7_ones_21 : decode cX7_ones 21 = .ok (.goto (-17), 3) := by decide +kernel
theorem dX7_ones_24 : decode cX7_ones 24 = .ok (.iload_n 1, 1) := by decide +kernel
theorem dX7_ones_25 : decode cX7_ones 25 = .ok (.ireturn, 1) := by decide +kernel
theorem dX7_isAhead_0 : decode cX7_isAhead 0 = .ok (.aload_n 0, 1) := by decide +kernel
theorem dX7_isAhead_1 : decode cX7_isAhead 1 = .ok (.getfield 13, 3) := by decide +kernel
theorem dX7_isAhead_4 : decode cX7_isAhead 4 = .ok (.iload_n 1, 1) := by decide +kernel
theorem dX7_isAhead_5 : decode cX7_isAhead 5 = .ok (.iaload, 1) := by decide +kernel
theorem dX7_isAhead_6 : decode cX7_isAhead 6 = .ok (.aload_n 0, 1) := by decide +kernel
theorem dX7_isAhead_7 : decode cX7_isAhead 7 = .ok (.getfield 13, 3) := by decide +kernel
theorem dX7_isAhead_10 : decode cX7_isAhead 10 = .ok (.iload_n 2, 1) := by decide +kernel
theorem dX7_isAhead_11 : decode cX7_isAhead 11 = .ok (.iaload, 1) := by decide +kernel
theorem dX7_isAhead_12 : decode cX7_isAhead 12 = .ok (.if_icmp .gt 36, 3) := by decide +kernel
theorem dX7_isAhead_15 : decode cX7_isAhead 15 = .ok (.aload_n 0, 1) := by decide +kernel
theorem dX7_isAhead_16 : decode cX7_isAhead 16 = .ok (.getfield 13, 3) := by decide +kernel
theorem dX7_isAhead_19 : decode cX7_isAhead 19 = .ok (.iload_n 1, 1) := by decide +kernel
theorem dX7_isAhead_20 : decode cX7_isAhead 20 = .ok (.iaload, 1) := by decide +kernel
theorem dX7_isAhead_21 : decode cX7_isAhead 21 = .ok (.aload_n 0, 1) := by decide +kernel
theorem dX7_isAhead_22 : decode cX7_isAhead 22 = .ok (.getfield 13, 3) := by decide +kernel
theorem dX7_isAhead_25 : decode cX7_isAhead 25 = .ok (.iload_n 2, 1) := by decide +kernel
theorem dX7_isAhead_26 : decode cX7_isAhead 26 = .ok (.iaload, 1) := by decide +kernel
theorem dX7_isAhead_27 : decode cX7_isAhead 27 = .ok (.if_icmp .ne 25, 3) := by decide +kernel
theorem dX7_isAhead_30 : decode cX7_isAhead 30 = .ok (.aload_n 0, 1) := by decide +kernel
theorem dX7_isAhead_31 : decode cX7_isAhead 31 = .ok (.getfield 7, 3) := by decide +kernel
theorem dX7_isAhead_34 : decode cX7_isAhead 34 = .ok (.iload_n 1, 1) := by decide +kernel
theorem dX7_isAhead_35 : decode cX7_isAhead 35 = .ok (.baload, 1) := by decide +kernel
theorem dX7_isAhead_36 : decode cX7_isAhead 36 = .ok (.ifCond .eq 16, 3) := by decide +kernel
theorem dX7_isAhead_39 : decode cX7_isAhead 39 = .ok (.aload_n 0, 1) := by decide +kernel
theorem dX7_isAhead_40 : decode cX7_isAhead 40 = .ok (.getfield 7, 3) := by decide +kernel
theorem dX7_isAhead_43 : decode cX7_isAhead 43 = .ok (.iload_n 2, 1) := by decide +kernel
theorem dX7_isAhead_44 : decode cX7_isAhead 44 = .ok (.baload, 1) := by decide +kernel
theorem dX7_isAhead_45 : decode cX7_isAhead 45 = .ok (.ifCond .ne 7, 3) := by decide +kernel
theorem dX7_isAhead_48 : decode cX7_isAhead 48 = .ok (.iconst 1, 1) := by decide +kernel
theorem dX7_isAhead_49 : decode cX7_isAhead 49 = .ok (.goto 4, 3) := by decide +kernel
theorem dX7_isAhead_52 : decode cX7_isAhead 52 = .ok (.iconst 0, 1) := by decide +kernel
theorem dX7_isAhead_53 : decode cX7_isAhead 53 = .ok (.ireturn, 1) := by decide +kernel
theorem dX7_laysOrder_0 : decode cX7_laysOrder 0 = .ok (.iconst 0, 1) := by decide +kernel
theorem dX7_laysOrder_1 : decode cX7_laysOrder 1 = .ok (.istore_n 1, 1) := by decide +kernel
theorem dX7_laysOrder_2 : decode cX7_laysOrder 2 = .ok (.iload_n 1, 1) := by decide +kernel
theorem dX7_laysOrder_3 : decode cX7_laysOrder 3 = .ok (.aload_n 0, 1) := by decide +kernel
theorem dX7_laysOrder_4 : decode cX7_laysOrder 4 = .ok (.getfield 172, 3) := by decide +kernel
theorem dX7_laysOrder_7 : decode cX7_laysOrder 7 = .ok (.if_icmp .ge 59, 3) := by decide +kernel
theorem dX7_laysOrder_10 : decode cX7_laysOrder 10 = .ok (.iconst 0, 1) := by decide +kernel
theorem dX7_laysOrder_11 : decode cX7_laysOrder 11 = .ok (.istore_n 2, 1) := by decide +kernel
theorem dX7_laysOrder_12 : decode cX7_laysOrder 12 = .ok (.iconst 0, 1) := by decide +kernel
theorem dX7_laysOrder_13 : decode cX7_laysOrder 13 = .ok (.istore_n 3, 1) := by decide +kernel
theorem dX7_laysOrder_14 : decode cX7_laysOrder 14 = .ok (.iload_n 3, 1) := by decide +kernel
theorem dX7_laysOrder_15 : decode cX7_laysOrder 15 = .ok (.aload_n 0, 1) := by decide +kernel
theorem dX7_laysOrder_16 : decode cX7_laysOrder 16 = .ok (.getfield 172, 3) := by decide +kernel
theorem dX7_laysOrder_19 : decode cX7_laysOrder 19 = .ok (.if_icmp .ge 34, 3) := by decide +kernel
theorem dX7_laysOrder_22 : decode cX7_laysOrder 22 = .ok (.iload_n 2, 1) := by decide +kernel
theorem dX7_laysOrder_23 : decode cX7_laysOrder 23 = .ok (.iload_n 3, 1) := by decide +kernel
theorem dX7_laysOrder_24 : decode cX7_laysOrder 24 = .ok (.iload_n 1, 1) := by decide +kernel
theorem dX7_laysOrder_25 : decode cX7_laysOrder 25 = .ok (.if_icmp .eq 16, 3) := by decide +kernel
theorem dX7_laysOrder_28 : decode cX7_laysOrder 28 = .ok (.aload_n 0, 1) := by decide +kernel
theorem dX7_laysOrder_29 : decode cX7_laysOrder 29 = .ok (.iload_n 3, 1) := by decide +kernel
theorem dX7_laysOrder_30 : decode cX7_laysOrder 30 = .ok (.iload_n 1, 1) := by decide +kernel
theorem dX7_laysOrder_31 : decode cX7_laysOrder 31 = .ok (.invokevirtual 273, 3) := by decide +kernel
theorem dX7_laysOrder_34 : decode cX7_laysOrder 34 = .ok (.ifCond .eq 7, 3) := by decide +kernel
theorem dX7_laysOrder_37 : decode cX7_laysOrder 37 = .ok (.iconst 1, 1) := by decide +kernel
theorem dX7_laysOrder_38 : decode cX7_laysOrder 38 = .ok (.goto 4, 3) := by decide +kernel
theorem dX7_laysOrder_41 : decode cX7_laysOrder 41 = .ok (.iconst 0, 1) := by decide +kernel
theorem dX7_laysOrder_42 : decode cX7_laysOrder 42 = .ok (.invokestatic 250, 3) := by decide +kernel
theorem dX7_laysOrder_45 : decode cX7_laysOrder 45 = .ok (.iadd, 1) := by decide +kernel
theorem dX7_laysOrder_46 : decode cX7_laysOrder 46 = .ok (.istore_n 2, 1) := by decide +kernel
theorem dX7_laysOrder_47 : decode cX7_laysOrder 47 = .ok (.iinc 3 1, 3) := by decide +kernel
theorem dX7_laysOrder_50 : decode cX7_laysOrder 50 = .ok (.goto (-36), 3) := by decide +kernel
theorem dX7_laysOrder_53 : decode cX7_laysOrder 53 = .ok (.aload_n 0, 1) := by decide +kernel
theorem dX7_laysOrder_54 : decode cX7_laysOrder 54 = .ok (.getfield 49, 3) := by decide +kernel
theorem dX7_laysOrder_57 : decode cX7_laysOrder 57 = .ok (.iload_n 2, 1) := by decide +kernel
theorem dX7_laysOrder_58 : decode cX7_laysOrder 58 = .ok (.iload_n 1, 1) := by decide +kernel
theorem dX7_laysOrder_59 : decode cX7_laysOrder 59 = .ok (.iastore, 1) := by decide +kernel
theorem dX7_laysOrder_60 : decode cX7_laysOrder 60 = .ok (.iinc 1 1, 3) := by decide +kernel
theorem dX7_laysOrder_63 : decode cX7_laysOrder 63 = .ok (.goto (-61), 3) := by decide +kernel
theorem dX7_laysOrder_66 : decode cX7_laysOrder 66 = .ok (.return_, 1) := by decide +kernel
theorem dX7_leftOf_0 : decode cX7_leftOf 0 = .ok (.aload_n 0, 1) := by decide +kernel
theorem dX7_leftOf_1 : decode cX7_leftOf 1 = .ok (.getfield 17, 3) := by decide +kernel
theorem dX7_leftOf_4 : decode cX7_leftOf 4 = .ok (.bipush 6, 2) := by decide +kernel
theorem dX7_leftOf_6 : decode cX7_leftOf 6 = .ok (.iload_n 1, 1) := by decide +kernel
theorem dX7_leftOf_7 : decode cX7_leftOf 7 = .ok (.iadd, 1) := by decide +kernel
theorem dX7_leftOf_8 : decode cX7_leftOf 8 = .ok (.iaload, 1) := by decide +kernel
theorem dX7_leftOf_9 : decode cX7_leftOf 9 = .ok (.iload_n 1, 1) := by decide +kernel
theorem dX7_leftOf_10 : decode cX7_leftOf 10 = .ok (.aload_n 0, 1) := by decide +kernel
theorem dX7_leftOf_11 : decode cX7_leftOf 11 = .ok (.getfield 58, 3) := by decide +kernel
theorem dX7_leftOf_14 : decode cX7_leftOf 14 = .ok (.if_icmp .ne 7, 3) := by decide +kernel
theorem dX7_leftOf_17 : decode cX7_leftOf 17 = .ok (.iconst 1, 1) := by decide +kernel
theorem dX7_leftOf_18 : decode cX7_leftOf 18 = .ok (.goto 4, 3) := by decide +kernel
theorem dX7_leftOf_21 : decode cX7_leftOf 21 = .ok (.iconst 0, 1) := by decide +kernel
theorem dX7_leftOf_22 : decode cX7_leftOf 22 = .ok (.invokestatic 250, 3) := by decide +kernel
theorem dX7_leftOf_25 : decode cX7_leftOf 25 = .ok (.iadd, 1) := by decide +kernel
theorem dX7_leftOf_26 : decode cX7_leftOf 26 = .ok (.ireturn, 1) := by decide +kernel
theorem dX7_laysFewest_0 : decode cX7_laysFewest 0 = .ok (.aload_n 0, 1) := by decide +kernel
theorem dX7_laysFewest_1 : decode cX7_laysFewest 1 = .ok (.invokevirtual 277, 3) := by decide +kernel
theorem dX7_laysFewest_4 : decode cX7_laysFewest 4 = .ok (.iconst 0, 1) := by decide +kernel
theorem dX7_laysFewest_5 : decode cX7_laysFewest 5 = .ok (.istore_n 2, 1) := by decide +kernel
theorem dX7_laysFewest_6 : decode cX7_laysFewest 6 = .ok (.iload_n 2, 1) := by decide +kernel
theorem dX7_laysFewest_7 : decode cX7_laysFewest 7 = .ok (.iload_n 1, 1) := by decide +kernel
theorem dX7_laysFewest_8 : decode cX7_laysFewest 8 = .ok (.if_icmp .gt 35, 3) := by decide +kernel
theorem dX7_laysFewest_11 : decode cX7_laysFewest 11 = .ok (.aload_n 0, 1) := by decide +kernel
theorem dX7_laysFewest_12 : decode cX7_laysFewest 12 = .ok (.getfield 52, 3) := by decide +kernel
theorem dX7_laysFewest_15 : decode cX7_laysFewest 15 = .ok (.sipush 501, 3) := by decide +kernel
theorem dX7_laysFewest_18 : decode cX7_laysFewest 18 = .ok (.aload_n 0, 1) := by decide +kernel
theorem dX7_laysFewest_19 : decode cX7_laysFewest 19 = .ok (.getfield 172, 3) := by decide +kernel
theorem dX7_laysFewest_22 : decode cX7_laysFewest 22 = .ok (.imul, 1) := by decide +kernel
theorem dX7_laysFewest_23 : decode cX7_laysFewest 23 = .ok (.iload_n 2, 1) := by decide +kernel
theorem dX7_laysFewest_24 : decode cX7_laysFewest 24 = .ok (.iadd, 1) := by decide +kernel
theorem dX7_laysFewest_25 : decode cX7_laysFewest 25 = .ok (.iload_n 2, 1) := by decide +kernel
theorem dX7_laysFewest_26 : decode cX7_laysFewest 26 = .ok (.ifCond .ne 7, 3) := by decide +kernel
theorem dX7_laysFewest_29 : decode cX7_laysFewest 29 = .ok (.iconst 0, 1) := by decide +kernel
theorem dX7_laysFewest_30 : decode cX7_laysFewest 30 = .ok (.goto 6, 3) := by decide +kernel
theorem dX7_laysFewest_33 : decode cX7_laysFewest 33 = .ok (.ldc_w 280, 3) := by decide +kernel
theorem dX7_laysFewest_36 : decode cX7_laysFewest 36 = .ok (.iastore, 1) := by decide +kernel
theorem dX7_laysFewest_37 : decode cX7_laysFewest 37 = .ok (.iinc 2 1, 3) := by decide +kernel
theorem dX7_laysFewest_40 : decode cX7_laysFewest 40 = .ok (.goto (-34), 3) := by decide +kernel
theorem dX7_laysFewest_43 : decode cX7_laysFewest 43 = .ok (.aload_n 0, 1) := by decide +kernel
theorem dX7_laysFewest_44 : decode cX7_laysFewest 44 = .ok (.getfield 172, 3) := by decide +kernel
theorem dX7_laysFewest_47 : decode cX7_laysFewest 47 = .ok (.iconst 1, 1) := by decide +kernel
theorem dX7_laysFewest_48 : decode cX7_laysFewest 48 = .ok (.isub, 1) := by decide +kernel
theorem dX7_laysFewest_49 : decode cX7_laysFewest 49 = .ok (.istore_n 2, 1) := by decide +kernel
theorem dX7_laysFewest_50 : decode cX7_laysFewest 50 = .ok (.iload_n 2, 1) := by decide +kernel
theorem dX7_laysFewest_51 : decode cX7_laysFewest 51 = .ok (.ifCond .lt 40, 3) := by decide +kernel
theorem dX7_laysFewest_54 : decode cX7_laysFewest 54 = .ok (.iconst 0, 1) := by decide +kernel
theorem dX7_laysFewest_55 : decode cX7_laysFewest 55 = .ok (.istore_n 3, 1) := by decide +kernel
theorem dX7_laysFewest_56 : decode cX7_laysFewest 56 = .ok (.iload_n 3, 1) := by decide +kernel
theorem dX7_laysFewest_57 : decode cX7_laysFewest 57 = .ok (.iload_n 1, 1) := by decide +kernel
theorem dX7_laysFewest_58 : decode cX7_laysFewest 58 = .ok (.if_icmp .gt 27, 3) := by decide +kernel
theorem dX7_laysFewest_61 : decode cX7_laysFewest 61 = .ok (.aload_n 0, 1) := by decide +kernel
theorem dX7_laysFewest_62 : decode cX7_laysFewest 62 = .ok (.getfield 52, 3) := by decide +kernel
theorem dX7_laysFewest_65 : decode cX7_laysFewest 65 = .ok (.sipush 501, 3) := by decide +kernel
theorem dX7_laysFewest_68 : decode cX7_laysFewest 68 = .ok (.iload_n 2, 1) := by decide +kernel
theorem dX7_laysFewest_69 : decode cX7_laysFewest 69 = .ok (.imul, 1) := by decide +kernel
theorem dX7_laysFewest_70 : decode cX7_laysFewest 70 = .ok (.iload_n 3, 1) := by decide +kernel
theorem dX7_laysFewest_71 : decode cX7_laysFewest 71 = .ok (.iadd, 1) := by decide +kernel
theorem dX7_laysFewest_72 : decode cX7_laysFewest 72 = .ok (.aload_n 0, 1) := by decide +kernel
theorem dX7_laysFewest_73 : decode cX7_laysFewest 73 = .ok (.iload_n 2, 1) := by decide +kernel
theorem dX7_laysFewest_74 : decode cX7_laysFewest 74 = .ok (.iload_n 3, 1) := by decide +kernel
theorem dX7_laysFewest_75 : decode cX7_laysFewest 75 = .ok (.invokevirtual 281, 3) := by decide +kernel
theorem dX7_laysFewest_78 : decode cX7_laysFewest 78 = .ok (.iastore, 1) := by decide +kernel
theorem dX7_laysFewest_79 : decode cX7_laysFewest 79 = .ok (.iinc 3 1, 3) := by decide +kernel
theorem dX7_laysFewest_82 : decode cX7_laysFewest 82 = .ok (.goto (-26), 3) := by decide +kernel
theorem dX7_laysFewest_85 : decode cX7_laysFewest 85 = .ok (.iinc 2 (-1), 3) := by decide +kernel
theorem dX7_laysFewest_88 : decode cX7_laysFewest 88 = .ok (.goto (-38), 3) := by decide +kernel
theorem dX7_laysFewest_91 : decode cX7_laysFewest 91 = .ok (.return_, 1) := by decide +kernel
theorem dX7_fewestWith_0 : decode cX7_fewestWith 0 = .ok (.aload_n 0, 1) := by decide +kernel
theorem dX7_fewestWith_1 : decode cX7_fewestWith 1 = .ok (.getfield 49, 3) := by decide +kernel
theorem dX7_fewestWith_4 : decode cX7_fewestWith 4 = .ok (.iload_n 1, 1) := by decide +kernel
theorem dX7_fewestWith_5 : decode cX7_fewestWith 5 = .ok (.iaload, 1) := by decide +kernel
theorem dX7_fewestWith_6 : decode cX7_fewestWith 6 = .ok (.istore_n 3, 1) := by decide +kernel
theorem dX7_fewestWith_7 : decode cX7_fewestWith 7 = .ok (.ldc_w 280, 3) := by decide +kernel
theorem dX7_fewestWith_10 : decode cX7_fewestWith 10 = .ok (.istore 4, 2) := by decide +kernel
theorem dX7_fewestWith_12 : decode cX7_fewestWith 12 = .ok (.iconst 0, 1) := by decide +kernel
theorem dX7_fewestWith_13 : decode cX7_fewestWith 13 = .ok (.istore 5, 2) := by decide +kernel
theorem dX7_fewestWith_15 : decode cX7_fewestWith 15 = .ok (.iload 5, 2) := by decide +kernel
theorem dX7_fewestWith_17 : decode cX7_fewestWith 17 = .ok (.aload_n 0, 1) := by decide +kernel
theorem dX7_fewestWith_18 : decode cX7_fewestWith 18 = .ok (.iload_n 3, 1) := by decide +kernel
theorem dX7_fewestWith_19 : decode cX7_fewestWith 19 = .ok (.invokevirtual 284, 3) := by decide +kernel
theorem dX7_fewestWith_22 : decode cX7_fewestWith 22 = .ok (.if_icmp .gt 56, 3) := by decide +kernel
theorem dX7_fewestWith_25 : decode cX7_fewestWith 25 = .ok (.iload 5, 2) := by decide +kernel
theorem dX7_fewestWith_27 : decode cX7_fewestWith 27 = .ok (.aload_n 0, 1) := by decide +kernel
theorem dX7_fewestWith_28 : decode cX7_fewestWith 28 = .ok (.getfield 13, 3) := by decide +kernel
theorem dX7_fewestWith_31 : decode cX7_fewestWith 31 = .ok (.iload_n 3, 1) := by decide +kernel
theorem dX7_fewestWith_32 : decode cX7_fewestWith 32 = .ok (.iaload, 1) := by decide +kernel
theorem dX7_fewestWith_33 : decode cX7_fewestWith 33 = .ok (.imul, 1) := by decide +kernel
theorem dX7_fewestWith_34 : decode cX7_fewestWith 34 = .ok (.iload_n 2, 1) := by decide +kernel
theorem dX7_fewestWith_35 : decode cX7_fewestWith 35 = .ok (.if_icmp .gt 43, 3) := by decide +kernel
theorem dX7_fewestWith_38 : decode cX7_fewestWith 38 = .ok (.iload 4, 2) := by decide +kernel
theorem dX7_fewestWith_40 : decode cX7_fewestWith 40 = .ok (.iload 5, 2) := by decide +kernel
theorem dX7_fewestWith_42 : decode cX7_fewestWith 42 = .ok (.aload_n 0, 1) := by decide +kernel
theorem dX7_fewestWith_43 : decode cX7_fewestWith 43 = .ok (.getfield 52, 3) := by decide +kernel
theorem dX7_fewestWith_46 : decode cX7_fewestWith 46 = .ok (.sipush 501, 3) := by decide +kernel
theorem dX7_fewestWith_49 : decode cX7_fewestWith 49 = .ok (.iload_n 1, 1) := by decide +kernel
theorem dX7_fewestWith_50 : decode cX7_fewestWith 50 = .ok (.iconst 1, 1) := by decide +kernel
theorem dX7_fewestWith_51 : decode cX7_fewestWith 51 = .ok (.iadd, 1) := by decide +kernel
theorem dX7_fewestWith_52 : decode cX7_fewestWith 52 = .ok (.imul, 1) := by decide +kernel
theorem dX7_fewestWith_53 : decode cX7_fewestWith 53 = .ok (.iload_n 2, 1) := by decide +kernel
theorem dX7_fewestWith_54 : decode cX7_fewestWith 54 = .ok (.iadd, 1) := by decide +kernel
theorem dX7_fewestWith_55 : decode cX7_fewestWith 55 = .ok (.iload 5, 2) := by decide +kernel
theorem dX7_fewestWith_57 : decode cX7_fewestWith 57 = .ok (.aload_n 0, 1) := by decide +kernel
theorem dX7_fewestWith_58 : decode cX7_fewestWith 58 = .ok (.getfield 13, 3) := by decide +kernel
theorem dX7_fewestWith_61 : decode cX7_fewestWith 61 = .ok (.iload_n 3, 1) := by decide +kernel
theorem dX7_fewestWith_62 : decode cX7_fewestWith 62 = .ok (.iaload, 1) := by decide +kernel
theorem dX7_fewestWith_63 : decode cX7_fewestWith 63 = .ok (.imul, 1) := by decide +kernel
theorem dX7_fewestWith_64 : decode cX7_fewestWith 64 = .ok (.isub, 1) := by decide +kernel
theorem dX7_fewestWith_65 : decode cX7_fewestWith 65 = .ok (.iaload, 1) := by decide +kernel
theorem dX7_fewestWith_66 : decode cX7_fewestWith 66 = .ok (.iadd, 1) := by decide +kernel
theorem dX7_fewestWith_67 : decode cX7_fewestWith 67 = .ok (.invokestatic 287, 3) := by decide +kernel
theorem dX7_fewestWith_70 : decode cX7_fewestWith 70 = .ok (.istore 4, 2) := by decide +kernel
theorem dX7_fewestWith_72 : decode cX7_fewestWith 72 = .ok (.iinc 5 1, 3) := by decide +kernel
theorem dX7_fewestWith_75 : decode cX7_fewestWith 75 = .ok (.goto (-60), 3) := by decide +kernel
theorem dX7_fewestWith_78 : decode cX7_fewestWith 78 = .ok (.iload 4, 2) := by decide +kernel
theorem dX7_fewestWith_80 : decode cX7_fewestWith 80 = .ok (.ireturn, 1) := by decide +kernel
theorem dX7_need_0 : decode cX7_need 0 = .ok (.aload_n 0, 1) := by decide +kernel
theorem dX7_need_1 : decode cX7_need 1 = .ok (.iload_n 1, 1) := by decide +kernel
theorem dX7_need_2 : decode cX7_need 2 = .ok (.invokevirtual 192, 3) := by decide +kernel
theorem dX7_need_5 : decode cX7_need 5 = .ok (.aload_n 0, 1) := by decide +kernel
theorem dX7_need_6 : decode cX7_need 6 = .ok (.iload_n 1, 1) := by decide +kernel
theorem dX7_need_7 : decode cX7_need 7 = .ok (.invokevirtual 244, 3) := by decide +kernel
theorem dX7_need_10 : decode cX7_need 10 = .ok (.iadd, 1) := by decide +kernel
theorem dX7_need_11 : decode cX7_need 11 = .ok (.ireturn, 1) := by decide +kernel
theorem dX7_canOpen_0 : decode cX7_canOpen 0 = .ok (.aload_n 0, 1) := by decide +kernel
theorem dX7_canOpen_1 : decode cX7_canOpen 1 = .ok (.iload_n 1, 1) := by decide +kernel
theorem dX7_canOpen_2 : decode cX7_canOpen 2 = .ok (.invokevirtual 238, 3) := by decide +kernel
theorem dX7_canOpen_5 : decode cX7_canOpen 5 = .ok (.ifCond .ne 12, 3) := by decide +kernel
theorem dX7_canOpen_8 : decode cX7_canOpen 8 = .ok (.aload_n 0, 1) := by decide +kernel
theorem dX7_canOpen_9 : decode cX7_canOpen 9 = .ok (.getfield 17, 3) := by decide +kernel
theorem dX7_canOpen_12 : decode cX7_canOpen 12 = .ok (.iconst 0, 1) := by decide +kernel
theorem dX7_canOpen_13 : decode cX7_canOpen 13 = .ok (.iaload, 1) := by decide +kernel
theorem dX7_canOpen_14 : decode cX7_canOpen 14 = .ok (.ifCond .le 7, 3) := by decide +kernel
theorem dX7_canOpen_17 : decode cX7_canOpen 17 = .ok (.iconst 1, 1) := by decide +kernel
theorem dX7_canOpen_18 : decode cX7_canOpen 18 = .ok (.goto 4, 3) := by decide +kernel
theorem dX7_canOpen_21 : decode cX7_canOpen 21 = .ok (.iconst 0, 1) := by decide +kernel
theorem dX7_canOpen_22 : decode cX7_canOpen 22 = .ok (.ireturn, 1) := by decide +kernel
theorem dX7_sumFor_0 : decode cX7_sumFor 0 = .ok (.iload_n 2, 1) := by decide +kernel
theorem dX7_sumFor_1 : decode cX7_sumFor 1 = .ok (.iconst (-1), 1) := by decide +kernel
theorem dX7_sumFor_2 : decode cX7_sumFor 2 = .ok (.if_icmp .ne 11, 3) := by decide +kernel
theorem dX7_sumFor_5 : decode cX7_sumFor 5 = .ok (.aload_n 0, 1) := by decide +kernel
theorem dX7_sumFor_6 : decode cX7_sumFor 6 = .ok (.iload_n 1, 1) := by decide +kernel
theorem dX7_sumFor_7 : decode cX7_sumFor 7 = .ok (.invokevirtual 292, 3) := by decide +kernel
theorem dX7_sumFor_10 : decode cX7_sumFor 10 = .ok (.goto 15, 3) := by decide +kernel
theorem dX7_sumFor_13 : decode cX7_sumFor 13 = .ok (.aload_n 0, 1) := by decide +kernel
theorem dX7_sumFor_14 : decode cX7_sumFor 14 = .ok (.iload_n 1, 1) := by decide +kernel
theorem dX7_sumFor_15 : decode cX7_sumFor 15 = .ok (.invokevirtual 292, 3) := by decide +kernel
theorem dX7_sumFor_18 : decode cX7_sumFor 18 = .ok (.aload_n 0, 1) := by decide +kernel
theorem dX7_sumFor_19 : decode cX7_sumFor 19 = .ok (.getfield 157, 3) := by decide +kernel
theorem dX7_sumFor_22 : decode cX7_sumFor 22 = .ok (.isub, 1) := by decide +kernel
theorem dX7_sumFor_23 : decode cX7_sumFor 23 = .ok (.iload_n 2, 1) := by decide +kernel
theorem dX7_sumFor_24 : decode cX7_sumFor 24 = .ok (.isub, 1) := by decide +kernel
theorem dX7_sumFor_25 : decode cX7_sumFor 25 = .ok (.ireturn, 1) := by decide +kernel
theorem dX7_chooses_0 : decode cX7_chooses 0 = .ok (.aload_n 0, 1) := by decide +kernel
theorem dX7_chooses_1 : decode cX7_chooses 1 = .ok (.iload_n 1, 1) := by decide +kernel
theorem dX7_chooses_2 : decode cX7_chooses 2 = .ok (.invokevirtual 292, 3) := by decide +kernel
theorem dX7_chooses_5 : decode cX7_chooses 5 = .ok (.istore_n 2, 1) := by decide +kernel
theorem dX7_chooses_6 : decode cX7_chooses 6 = .ok (.aload_n 0, 1) := by decide +kernel
theorem dX7_chooses_7 : decode cX7_chooses 7 = .ok (.iload_n 2, 1) := by decide +kernel
theorem dX7_chooses_8 : decode cX7_chooses 8 = .ok (.invokevirtual 295, 3) := by decide +kernel
theorem dX7_chooses_11 : decode cX7_chooses 11 = .ok (.ldc_w 280, 3) := by decide +kernel
theorem dX7_chooses_14 : decode cX7_chooses 14 = .ok (.istore_n 3, 1) := by decide +kernel
theorem dX7_chooses_15 : decode cX7_chooses 15 = .ok (.aload_n 0, 1) := by decide +kernel
theorem dX7_chooses_16 : decode cX7_chooses 16 = .ok (.iconst (-1), 1) := by decide +kernel
theorem dX7_chooses_17 : decode cX7_chooses 17 = .ok (.putfield 298, 3) := by decide +kernel
theorem dX7_chooses_20 : decode cX7_chooses 20 = .ok (.aload_n 0, 1) := by decide +kernel
theorem dX7_chooses_21 : decode cX7_chooses 21 = .ok (.iload_n 1, 1) := by decide +kernel
theorem dX7_chooses_22 : decode cX7_chooses 22 = .ok (.invokevirtual 301, 3) := by decide +kernel
theorem dX7_chooses_25 : decode cX7_chooses 25 = .ok (.ifCond .eq 7, 3) := by decide +kernel
theorem dX7_chooses_28 : decode cX7_chooses 28 = .ok (.iconst 0, 1) := by decide +kernel
theorem dX7_chooses_29 : decode cX7_chooses 29 = .ok (.goto 4, 3) := by decide +kernel
theorem dX7_chooses_32 : decode cX7_chooses 32 = .ok (.iconst (-1), 1) := by decide +kernel
theorem dX7_chooses_33 : decode cX7_chooses 33 = .ok (.istore 4, 2) := by decide +kernel
theorem dX7_chooses_35 : decode cX7_chooses 35 = .ok (.aload_n 0, 1) := by decide +kernel
theorem dX7_chooses_36 : decode cX7_chooses 36 = .ok (.iload_n 1, 1) := by decide +kernel
theorem dX7_chooses_37 : decode cX7_chooses 37 = .ok (.invokevirtual 301, 3) := by decide +kernel
theorem dX7_chooses_40 : decode cX7_chooses 40 = .ok (.ifCond .eq 10, 3) := by decide +kernel
theorem dX7_chooses_43 : decode cX7_chooses 43 = .ok (.aload_n 0, 1) := by decide +kernel
theorem dX7_chooses_44 : decode cX7_chooses 44 = .ok (.getfield 160, 3) := by decide +kernel
theorem dX7_chooses_47 : decode cX7_chooses 47 = .ok (.goto 4, 3) := by decide +kernel
theorem dX7_chooses_50 : decode cX7_chooses 50 = .ok (.iconst (-1), 1) := by decide +kernel
theorem dX7_chooses_51 : decode cX7_chooses 51 = .ok (.istore 5, 2) := by decide +kernel
theorem dX7_chooses_53 : decode cX7_chooses 53 = .ok (.iload 4, 2) := by decide +kernel
theorem dX7_chooses_55 : decode cX7_chooses 55 = .ok (.istore 6, 2) := by decide +kernel
theorem dX7_chooses_57 : decode cX7_chooses 57 = .ok (.iload 6, 2) := by decide +kernel
theorem dX7_chooses_59 : decode cX7_chooses 59 = .ok (.iload 5, 2) := by decide +kernel
theorem dX7_chooses_61 : decode cX7_chooses 61 = .ok (.if_icmp .gt 48, 3) := by decide +kernel
theorem dX7_chooses_64 : decode cX7_chooses 64 = .ok (.aload_n 0, 1) := by decide +kernel
theorem dX7_chooses_65 : decode cX7_chooses 65 = .ok (.iload_n 1, 1) := by decide +kernel
theorem dX7_chooses_66 : decode cX7_chooses 66 = .ok (.iload 6, 2) := by decide +kernel
theorem dX7_chooses_68 : decode cX7_chooses 68 = .ok (.invokevirtual 304, 3) := by decide +kernel
theorem dX7_chooses_71 : decode cX7_chooses 71 = .ok (.istore 7, 2) := by decide +kernel
theorem dX7_chooses_73 : decode cX7_chooses 73 = .ok (.iload 7, 2) := by decide +kernel
theorem dX7_chooses_75 : decode cX7_chooses 75 = .ok (.ifCond .lt 28, 3) := by decide +kernel
theorem dX7_chooses_78 : decode cX7_chooses 78 = .ok (.aload_n 0, 1) := by decide +kernel
theorem dX7_chooses_79 : decode cX7_chooses 79 = .ok (.getfield 52, 3) := by decide +kernel
theorem dX7_chooses_82 : decode cX7_chooses 82 = .ok (.iload 7, 2) := by decide +kernel
theorem dX7_chooses_84 : decode cX7_chooses 84 = .ok (.iaload, 1) := by decide +kernel
theorem dX7_chooses_85 : decode cX7_chooses 85 = .ok (.iload_n 3, 1) := by decide +kernel
theorem dX7_chooses_86 : decode cX7_chooses 86 = .ok (.if_icmp .ge 17, 3) := by decide +kernel
theorem dX7_chooses_89 : decode cX7_chooses 89 = .ok (.aload_n 0, 1) := by decide +kernel
theorem dX7_chooses_90 : decode cX7_chooses 90 = .ok (.getfield 52, 3) := by decide +kernel
theorem dX7_chooses_93 : decode cX7_chooses 93 = .ok (.iload 7, 2) := by decide +kernel
theorem dX7_chooses_95 : decode cX7_chooses 95 = .ok (.iaload, 1) := by decide +kernel
theorem dX7_chooses_96 : decode cX7_chooses 96 = .ok (.istore_n 3, 1) := by decide +kernel
theorem dX7_chooses_97 : decode cX7_chooses 97 = .ok (.aload_n 0, 1) := by decide +kernel
theorem dX7_chooses_98 : decode cX7_chooses 98 = .ok (.iload 6, 2) := by decide +kernel
theorem dX7_chooses_100 : decode cX7_chooses 100 = .ok (.putfield 298, 3) := by decide +kernel
theorem dX7_chooses_103 : decode cX7_chooses 103 = .ok (.iinc 6 1, 3) := by decide +kernel
theorem dX7_chooses_106 : decode cX7_chooses 106 = .ok (.goto (-49), 3) := by decide +kernel
theorem dX7_chooses_109 : decode cX7_chooses 109 = .ok (.iload_n 3, 1) := by decide +kernel
theorem dX7_chooses_110 : decode cX7_chooses 110 = .ok (.ldc_w 280, 3) := by decide +kernel
theorem dX7_chooses_113 : decode cX7_chooses 113 = .ok (.if_icmp .lt 5, 3) := by decide +kernel
theorem dX7_chooses_116 : decode cX7_chooses 116 = .ok (.iconst 0, 1) := by decide +kernel
theorem dX7_chooses_117 : decode cX7_chooses 117 = .ok (.ireturn, 1) := by decide +kernel
theorem dX7_chooses_118 : decode cX7_chooses 118 = .ok (.aload_n 0, 1) := by decide +kernel
theorem dX7_chooses_119 : decode cX7_chooses 119 = .ok (.aload_n 0, 1) := by decide +kernel
theorem dX7_chooses_120 : decode cX7_chooses 120 = .ok (.iload_n 1, 1) := by decide +kernel
theorem dX7_chooses_121 : decode cX7_chooses 121 = .ok (.aload_n 0, 1) := by decide +kernel
theorem dX7_chooses_122 : decode cX7_chooses 122 = .ok (.getfield 298, 3) := by decide +kernel
theorem dX7_chooses_125 : decode cX7_chooses 125 = .ok (.invokevirtual 304, 3) := by decide +kernel
theorem dX7_chooses_128 : decode cX7_chooses 128 = .ok (.invokevirtual 307, 3) := by decide +kernel
theorem dX7_chooses_131 : decode cX7_chooses 131 = .ok (.iconst 1, 1) := by decide +kernel
theorem dX7_chooses_132 : decode cX7_chooses 132 = .ok (.ireturn, 1) := by decide +kernel
theorem dX7_laysChosen_0 : decode cX7_laysChosen 0 = .ok (.iload_n 1, 1) := by decide +kernel
theorem dX7_laysChosen_1 : decode cX7_laysChosen 1 = .ok (.istore_n 2, 1) := by decide +kernel
theorem dX7_laysChosen_2 : decode cX7_laysChosen 2 = .ok (.iconst 0, 1) := by decide +kernel
theorem dX7_laysChosen_3 : decode cX7_laysChosen 3 = .ok (.istore_n 3, 1) := by decide +kernel
theorem dX7_laysChosen_4 : decode cX7_laysChosen 4 = .ok (.iload_n 3, 1) := by decide +kernel
theorem dX7_laysChosen_5 : decode cX7_laysChosen 5 = .ok (.aload_n 0, 1) := by decide +kernel
theorem dX7_laysChosen_6 : decode cX7_laysChosen 6 = .ok (.getfield 172, 3) := by decide +kernel
theorem dX7_laysChosen_9 : decode cX7_laysChosen 9 = .ok (.if_icmp .ge 140, 3) := by decide +kernel
theorem dX7_laysChosen_12 : decode cX7_laysChosen 12 = .ok (.aload_n 0, 1) := by decide +kernel
theorem dX7_laysChosen_13 : decode cX7_laysChosen 13 = .ok (.getfield 49, 3) := by decide +kernel
theorem dX7_laysChosen_16 : decode cX7_laysChosen 16 = .ok (.iload_n 3, 1) := by decide +kernel
theorem dX7_laysChosen_17 : decode cX7_laysChosen 17 = .ok (.iaload, 1) := by decide +kernel
theorem dX7_laysChosen_18 : decode cX7_laysChosen 18 = .ok (.istore 4, 2) := by decide +kernel
theorem dX7_laysChosen_20 : decode cX7_laysChosen 20 = .ok (.iconst 0, 1) := by decide +kernel
theorem dX7_laysChosen_21 : decode cX7_laysChosen 21 = .ok (.istore 5, 2) := by decide +kernel
theorem dX7_laysChosen_23 : decode cX7_laysChosen 23 = .ok (.iconst 0, 1) := by decide +kernel
theorem dX7_laysChosen_24 : decode cX7_laysChosen 24 = .ok (.istore 6, 2) := by decide +kernel
theorem dX7_laysChosen_26 : decode cX7_laysChosen 26 = .ok (.iload 6, 2) := by decide +kernel
theorem dX7_laysChosen_28 : decode cX7_laysChosen 28 = .ok (.aload_n 0, 1) := by decide +kernel
theorem dX7_laysChosen_29 : decode cX7_laysChosen 29 = .ok (.iload 4, 2) := by decide +kernel
theorem dX7_laysChosen_31 : decode cX7_laysChosen 31 = .ok (.invokevirtual 284, 3) := by decide +kernel
theorem dX7_laysChosen_34 : decode cX7_laysChosen 34 = .ok (.if_icmp .gt 87, 3) := by decide +kernel
theorem dX7_laysChosen_37 : decode cX7_laysChosen 37 = .ok (.iload 6, 2) := by decide +kernel
theorem dX7_laysChosen_39 : decode cX7_laysChosen 39 = .ok (.aload_n 0, 1) := by decide +kernel
theorem dX7_laysChosen_40 : decode cX7_laysChosen 40 = .ok (.getfield 13, 3) := by decide +kernel
theorem dX7_laysChosen_43 : decode cX7_laysChosen 43 = .ok (.iload 4, 2) := by decide +kernel
theorem dX7_laysChosen_45 : decode cX7_laysChosen 45 = .ok (.iaload, 1) := by decide +kernel
theorem dX7_laysChosen_46 : decode cX7_laysChosen 46 = .ok (.imul, 1) := by decide +kernel
theorem dX7_laysChosen_47 : decode cX7_laysChosen 47 = .ok (.iload_n 2, 1) := by decide +kernel
theorem dX7_laysChosen_48 : decode cX7_laysChosen 48 = .ok (.if_icmp .gt 73, 3) := by decide +kernel
theorem dX7_laysChosen_51 : decode cX7_laysChosen 51 = .ok (.iload 6, 2) := by decide +kernel
theorem dX7_laysChosen_53 : decode cX7_laysChosen 53 = .ok (.aload_n 0, 1) := by decide +kernel
theorem dX7_laysChosen_54 : decode cX7_laysChosen 54 = .ok (.getfield 52, 3) := by decide +kernel
theorem dX7_laysChosen_57 : decode cX7_laysChosen 57 = .ok (.sipush 501, 3) := by decide +kernel
theorem dX7_laysChosen_60 : decode cX7_laysChosen 60 = .ok (.iload_n 3, 1) := by decide +kernel
theorem dX7_laysChosen_61 : decode cX7_laysChosen 61 = .ok (.iconst 1, 1) := by decide +kernel
theorem dX7_laysChosen_62 : decode cX7_laysChosen 62 = .ok (.iadd, 1) := by decide +kernel
theorem dX7_laysChosen_63 : decode cX7_laysChosen 63 = .ok (.imul, 1) := by decide +kernel
theorem dX7_laysChosen_64 : decode cX7_laysChosen 64 = .ok (.iload_n 2, 1) := by decide +kernel
theorem dX7_laysChosen_65 : decode cX7_laysChosen 65 = .ok (.iadd, 1) := by decide +kernel
theorem dX7_laysChosen_66 : decode cX7_laysChosen 66 = .ok (.iload 6, 2) := by decide +kernel
theorem dX7_laysChosen_68 : decode cX7_laysChosen 68 = .ok (.aload_n 0, 1) := by decide +kernel
theorem dX7_laysChosen_69 : decode cX7_laysChosen 69 = .ok (.getfield 13, 3) := by decide +kernel
theorem dX7_laysChosen_72 : decode cX7_laysChosen 72 = .ok (.iload 4, 2) := by decide +kernel
theorem dX7_laysChosen_74 : decode cX7_laysChosen 74 = .ok (.iaload, 1) := by decide +kernel
theorem dX7_laysChosen_75 : decode cX7_laysChosen 75 = .ok (.imul, 1) := by decide +kernel
theorem dX7_laysChosen_76 : decode cX7_laysChosen 76 = .ok (.isub, 1) := by decide +kernel
theorem dX7_laysChosen_77 : decode cX7_laysChosen 77 = .ok (.iaload, 1) := by decide +kernel
theorem dX7_laysChosen_78 : decode cX7_laysChosen 78 = .ok (.iadd, 1) := by decide +kernel
theorem dX7_laysChosen_79 : decode cX7_laysChosen 79 = .ok (.aload_n 0, 1) := by decide +kernel
theorem dX7_laysChosen_80 : decode cX7_laysChosen 80 = .ok (.getfield 52, 3) := by decide +kernel
theorem dX7_laysChosen_83 : decode cX7_laysChosen 83 = .ok (.sipush 501, 3) := by decide +kernel
theorem dX7_laysChosen_86 : decode cX7_laysChosen 86 = .ok (.iload_n 3, 1) := by decide +kernel
theorem dX7_laysChosen_87 : decode cX7_laysChosen 87 = .ok (.imul, 1) := by decide +kernel
theorem dX7_laysChosen_88 : decode cX7_laysChosen 88 = .ok (.iload_n 2, 1) := by decide +kernel
theorem dX7_laysChosen_89 : decode cX7_laysChosen 89 = .ok (.iadd, 1) := by decide +kernel
theorem dX7_laysChosen_90 : decode cX7_laysChosen 90 = .ok (.iaload, 1) := by decide +kernel
theorem dX7_laysChosen_91 : decode cX7_laysChosen 91 = .ok (.if_icmp .ne 7, 3) := by decide +kernel
theorem dX7_laysChosen_94 : decode cX7_laysChosen 94 = .ok (.iconst 1, 1) := by decide +kernel
theorem dX7_laysChosen_95 : decode cX7_laysChosen 95 = .ok (.goto 4, 3) := by decide +kernel
theorem dX7_laysChosen_98 : decode cX7_laysChosen 98 = .ok (.iconst 0, 1) := by decide +kernel
theorem dX7_laysChosen_99 : decode cX7_laysChosen 99 = .ok (.istore 7, 2) := by decide +kernel
theorem dX7_laysChosen_101 : decode cX7_laysChosen 101 = .ok (.iload 7, 2) := by decide +kernel
theorem dX7_laysChosen_103 : decode cX7_laysChosen 103 = .ok (.ifCond .eq 8, 3) := by decide +kernel
theorem dX7_laysChosen_106 : decode cX7_laysChosen 106 = .ok (.iload 6, 2) := by decide +kernel
theorem dX7_laysChosen_108 : decode cX7_laysChosen 108 = .ok (.goto 5, 3) := by decide +kernel
theorem dX7_laysChosen_111 : decode cX7_laysChosen 111 = .ok (.iload 5, 2) := by decide +kernel
theorem dX7_laysChosen_113 : decode cX7_laysChosen 113 = .ok (.istore 5, 2) := by decide +kernel
theorem dX7_laysChosen_115 : decode cX7_laysChosen 115 = .ok (.iinc 6 1, 3) := by decide +kernel
theorem dX7_laysChosen_118 : decode cX7_laysChosen 118 = .ok (.goto (-92), 3) := by decide +kernel
theorem dX7_laysChosen_121 : decode cX7_laysChosen 121 = .ok (.aload_n 0, 1) := by decide +kernel
theorem dX7_laysChosen_122 : decode cX7_laysChosen 122 = .ok (.getfield 55, 3) := by decide +kernel
theorem dX7_laysChosen_125 : decode cX7_laysChosen 125 = .ok (.iload 4, 2) := by decide +kernel
theorem dX7_laysChosen_127 : decode cX7_laysChosen 127 = .ok (.iload 5, 2) := by decide +kernel
theorem dX7_laysChosen_129 : decode cX7_laysChosen 129 = .ok (.iastore, 1) := by decide +kernel
theorem dX7_laysChosen_130 : decode cX7_laysChosen 130 = .ok (.iload_n 2, 1) := by decide +kernel
theorem dX7_laysChosen_131 : decode cX7_laysChosen 131 = .ok (.iload 5, 2) := by decide +kernel
theorem dX7_laysChosen_133 : decode cX7_laysChosen 133 = .ok (.aload_n 0, 1) := by decide +kernel
theorem dX7_laysChosen_134 : decode cX7_laysChosen 134 = .ok (.getfield 13, 3) := by decide +kernel
theorem dX7_laysChosen_137 : decode cX7_laysChosen 137 = .ok (.iload 4, 2) := by decide +kernel
theorem dX7_laysChosen_139 : decode cX7_laysChosen 139 = .ok (.iaload, 1) := by decide +kernel
theorem dX7_laysChosen_140 : decode cX7_laysChosen 140 = .ok (.imul, 1) := by decide +kernel
theorem dX7_laysChosen_141 : decode cX7_laysChosen 141 = .ok (.isub, 1) := by decide +kernel
theorem dX7_laysChosen_142 : decode cX7_laysChosen 142 = .ok (.istore_n 2, 1) := by decide +kernel
theorem dX7_laysChosen_143 : decode cX7_laysChosen 143 = .ok (.iinc 3 1, 3) := by decide +kernel
theorem dX7_laysChosen_146 : decode cX7_laysChosen 146 = .ok (.goto (-142), 3) := by decide +kernel
theorem dX7_laysChosen_149 : decode cX7_laysChosen 149 = .ok (.return_, 1) := by decide +kernel
theorem dX7_chosenMany_0 : decode cX7_chosenMany 0 = .ok (.iconst 0, 1) := by decide +kernel
theorem dX7_chosenMany_1 : decode cX7_chosenMany 1 = .ok (.istore_n 2, 1) := by decide +kernel
theorem dX7_chosenMany_2 : decode cX7_chosenMany 2 = .ok (.iconst 0, 1) := by decide +kernel
theorem dX7_chosenMany_3 : decode cX7_chosenMany 3 = .ok (.istore_n 3, 1) := by decide +kernel
theorem dX7_chosenMany_4 : decode cX7_chosenMany 4 = .ok (.iload_n 3, 1) := by decide +kernel
theorem dX7_chosenMany_5 : decode cX7_chosenMany 5 = .ok (.aload_n 0, 1) := by decide +kernel
theorem dX7_chosenMany_6 : decode cX7_chosenMany 6 = .ok (.getfield 172, 3) := by decide +kernel
theorem dX7_chosenMany_9 : decode cX7_chosenMany 9 = .ok (.if_icmp .ge 35, 3) := by decide +kernel
theorem dX7_chosenMany_12 : decode cX7_chosenMany 12 = .ok (.iload_n 2, 1) := by decide +kernel
theorem dX7_chosenMany_13 : decode cX7_chosenMany 13 = .ok (.iload_n 1, 1) := by decide +kernel
theorem dX7_chosenMany_14 : decode cX7_chosenMany 14 = .ok (.ifCond .eq 16, 3) := by decide +kernel
theorem dX7_chosenMany_17 : decode cX7_chosenMany 17 = .ok (.aload_n 0, 1) := by decide +kernel
theorem dX7_chosenMany_18 : decode cX7_chosenMany 18 = .ok (.getfield 7, 3) := by decide +kernel
theorem dX7_chosenMany_21 : decode cX7_chosenMany 21 = .ok (.iload_n 3, 1) := by decide +kernel
theorem dX7_chosenMany_22 : decode cX7_chosenMany 22 = .ok (.baload, 1) := by decide +kernel
theorem dX7_chosenMany_23 : decode cX7_chosenMany 23 = .ok (.ifCond .eq 7, 3) := by decide +kernel
theorem dX7_chosenMany_26 : decode cX7_chosenMany 26 = .ok (.iconst 0, 1) := by decide +kernel
theorem dX7_chosenMany_27 : decode cX7_chosenMany 27 = .ok (.goto 9, 3) := by decide +kernel
theorem dX7_chosenMany_30 : decode cX7_chosenMany 30 = .ok (.aload_n 0, 1) := by decide +kernel
theorem dX7_chosenMany_31 : decode cX7_chosenMany 31 = .ok (.getfield 55, 3) := by decide +kernel
theorem dX7_chosenMany_34 : decode cX7_chosenMany 34 = .ok (.iload_n 3, 1) := by decide +kernel
theorem dX7_chosenMany_35 : decode cX7_chosenMany 35 = .ok (.iaload, 1) := by decide +kernel
theorem dX7_chosenMany_36 : decode cX7_chosenMany 36 = .ok (.iadd, 1) := by decide +kernel
theorem dX7_chosenMany_37 : decode cX7_chosenMany 37 = .ok (.istore_n 2, 1) := by decide +kernel
theorem dX7_chosenMany_38 : decode cX7_chosenMany 38 = .ok (.iinc 3 1, 3) := by decide +kernel
theorem dX7_chosenMany_41 : decode cX7_chosenMany 41 = .ok (.goto (-37), 3) := by decide +kernel
theorem dX7_chosenMany_44 : decode cX7_chosenMany 44 = .ok (.iload_n 2, 1) := by decide +kernel
theorem dX7_chosenMany_45 : decode cX7_chosenMany 45 = .ok (.ireturn, 1) := by decide +kernel
theorem dX7_chosenLong_0 : decode cX7_chosenLong 0 = .ok (.iconst 0, 1) := by decide +kernel
theorem dX7_chosenLong_1 : decode cX7_chosenLong 1 = .ok (.istore_n 1, 1) := by decide +kernel
theorem dX7_chosenLong_2 : decode cX7_chosenLong 2 = .ok (.iconst 0, 1) := by decide +kernel
theorem dX7_chosenLong_3 : decode cX7_chosenLong 3 = .ok (.istore_n 2, 1) := by decide +kernel
theorem dX7_chosenLong_4 : decode cX7_chosenLong 4 = .ok (.iload_n 2, 1) := by decide +kernel
theorem dX7_chosenLong_5 : decode cX7_chosenLong 5 = .ok (.aload_n 0, 1) := by decide +kernel
theorem dX7_chosenLong_6 : decode cX7_chosenLong 6 = .ok (.getfield 172, 3) := by decide +kernel
theorem dX7_chosenLong_9 : decode cX7_chosenLong 9 = .ok (.if_icmp .ge 25, 3) := by decide +kernel
theorem dX7_chosenLong_12 : decode cX7_chosenLong 12 = .ok (.iload_n 1, 1) := by decide +kernel
theorem dX7_chosenLong_13 : decode cX7_chosenLong 13 = .ok (.aload_n 0, 1) := by decide +kernel
theorem dX7_chosenLong_14 : decode cX7_chosenLong 14 = .ok (.getfield 55, 3) := by decide +kernel
theorem dX7_chosenLong_17 : decode cX7_chosenLong 17 = .ok (.iload_n 2, 1) := by decide +kernel
theorem dX7_chosenLong_18 : decode cX7_chosenLong 18 = .ok (.iaload, 1) := by decide +kernel
theorem dX7_chosenLong_19 : decode cX7_chosenLong 19 = .ok (.aload_n 0, 1) := by decide +kernel
theorem dX7_chosenLong_20 : decode cX7_chosenLong 20 = .ok (.getfield 13, 3) := by decide +kernel
theorem dX7_chosenLong_23 : decode cX7_chosenLong 23 = .ok (.iload_n 2, 1) := by decide +kernel
theorem dX7_chosenLong_24 : decode cX7_chosenLong 24 = .ok (.iaload, 1) := by decide +kernel
theorem dX7_chosenLong_25 : decode cX7_chosenLong 25 = .ok (.imul, 1) := by decide +kernel
theorem dX7_chosenLong_26 : decode cX7_chosenLong 26 = .ok (.iadd, 1) := by decide +kernel
theorem dX7_chosenLong_27 : decode cX7_chosenLong 27 = .ok (.istore_n 1, 1) := by decide +kernel
theorem dX7_chosenLong_28 : decode cX7_chosenLong 28 = .ok (.iinc 2 1, 3) := by decide +kernel
theorem dX7_chosenLong_31 : decode cX7_chosenLong 31 = .ok (.goto (-27), 3) := by decide +kernel
theorem dX7_chosenLong_34 : decode cX7_chosenLong 34 = .ok (.iload_n 1, 1) := by decide +kernel
theorem dX7_chosenLong_35 : decode cX7_chosenLong 35 = .ok (.ireturn, 1) := by decide +kernel
theorem dX7_laysWays_0 : decode cX7_laysWays 0 = .ok (.iconst 0, 1) := by decide +kernel
theorem dX7_laysWays_1 : decode cX7_laysWays 1 = .ok (.istore_n 2, 1) := by decide +kernel
theorem dX7_laysWays_2 : decode cX7_laysWays 2 = .ok (.iload_n 2, 1) := by decide +kernel
theorem dX7_laysWays_3 : decode cX7_laysWays 3 = .ok (.iload_n 1, 1) := by decide +kernel
theorem dX7_laysWays_4 : decode cX7_laysWays 4 = .ok (.if_icmp .gt 27, 3) := by decide +kernel
theorem dX7_laysWays_7 : decode cX7_laysWays 7 = .ok (.aload_n 0, 1) := by decide +kernel
theorem dX7_laysWays_8 : decode cX7_laysWays 8 = .ok (.getfield 61, 3) := by decide +kernel
theorem dX7_laysWays_11 : decode cX7_laysWays 11 = .ok (.iload_n 2, 1) := by decide +kernel
theorem dX7_laysWays_12 : decode cX7_laysWays 12 = .ok (.iload_n 2, 1) := by decide +kernel
theorem dX7_laysWays_13 : decode cX7_laysWays 13 = .ok (.ifCond .ne 7, 3) := by decide +kernel
theorem dX7_laysWays_16 : decode cX7_laysWays 16 = .ok (.iconst 1, 1) := by decide +kernel
theorem dX7_laysWays_17 : decode cX7_laysWays 17 = .ok (.goto 4, 3) := by decide +kernel
theorem dX7_laysWays_20 : decode cX7_laysWays 20 = .ok (.iconst 0, 1) := by decide +kernel
theorem dX7_laysWays_21 : decode cX7_laysWays 21 = .ok (.invokestatic 250, 3) := by decide +kernel
theorem dX7_laysWays_24 : decode cX7_laysWays 24 = .ok (.iastore, 1) := by decide +kernel
theorem dX7_laysWays_25 : decode cX7_laysWays 25 = .ok (.iinc 2 1, 3) := by decide +kernel
theorem dX7_laysWays_28 : decode cX7_laysWays 28 = .ok (.goto (-26), 3) := by decide +kernel
theorem dX7_laysWays_31 : decode cX7_laysWays 31 = .ok (.iconst 0, 1) := by decide +kernel
theorem dX7_laysWays_32 : decode cX7_laysWays 32 = .ok (.istore_n 2, 1) := by decide +kernel
theorem dX7_laysWays_33 : decode cX7_laysWays 33 = .ok (.iload_n 2, 1) := by decide +kernel
theorem dX7_laysWays_34 : decode cX7_laysWays 34 = .ok (.aload_n 0, 1) := by decide +kernel
theorem dX7_laysWays_35 : decode cX7_laysWays 35 = .ok (.getfield 172, 3) := by decide +kernel
theorem dX7_laysWays_38 : decode cX7_laysWays 38 = .ok (.if_icmp .ge 89, 3) := by decide +kernel
theorem dX7_laysWays_41 : decode cX7_laysWays 41 = .ok (.iload_n 1, 1) := by decide +kernel
theorem dX7_laysWays_42 : decode cX7_laysWays 42 = .ok (.istore_n 3, 1) := by decide +kernel
theorem dX7_laysWays_43 : decode cX7_laysWays 43 = .ok (.iload_n 3, 1) := by decide +kernel
theorem dX7_laysWays_44 : decode cX7_laysWays 44 = .ok (.ifCond .lt 77, 3) := by decide +kernel
theorem dX7_laysWays_47 : decode cX7_laysWays 47 = .ok (.iconst 0, 1) := by decide +kernel
theorem dX7_laysWays_48 : decode cX7_laysWays 48 = .ok (.istore 4, 2) := by decide +kernel
theorem dX7_laysWays_50 : decode cX7_laysWays 50 = .ok (.iconst 0, 1) := by decide +kernel
theorem dX7_laysWays_51 : decode cX7_laysWays 51 = .ok (.istore 5, 2) := by decide +kernel
theorem dX7_laysWays_53 : decode cX7_laysWays 53 = .ok (.iload 5, 2) := by decide +kernel
theorem dX7_laysWays_55 : decode cX7_laysWays 55 = .ok (.aload_n 0, 1) := by decide +kernel
theorem dX7_laysWays_56 : decode cX7_laysWays 56 = .ok (.iload_n 2, 1) := by decide +kernel
theorem dX7_laysWays_57 : decode cX7_laysWays 57 = .ok (.invokevirtual 284, 3) := by decide +kernel
theorem dX7_laysWays_60 : decode cX7_laysWays 60 = .ok (.if_icmp .gt 47, 3) := by decide +kernel
theorem dX7_laysWays_63 : decode cX7_laysWays 63 = .ok (.iload 5, 2) := by decide +kernel
theorem dX7_laysWays_65 : decode cX7_laysWays 65 = .ok (.aload_n 0, 1) := by decide +kernel
theorem dX7_laysWays_66 : decode cX7_laysWays 66 = .ok (.getfield 13, 3) := by decide +kernel
theorem dX7_laysWays_69 : decode cX7_laysWays 69 = .ok (.iload_n 2, 1) := by decide +kernel
theorem dX7_laysWays_70 : decode cX7_laysWays 70 = .ok (.iaload, 1) := by decide +kernel
theorem dX7_laysWays_71 : decode cX7_laysWays 71 = .ok (.imul, 1) := by decide +kernel
theorem dX7_laysWays_72 : decode cX7_laysWays 72 = .ok (.iload_n 3, 1) := by decide +kernel
theorem dX7_laysWays_73 : decode cX7_laysWays 73 = .ok (.if_icmp .gt 34, 3) := by decide +kernel
theorem dX7_laysWays_76 : decode cX7_laysWays 76 = .ok (.iload 4, 2) := by decide +kernel
theorem dX7_laysWays_78 : decode cX7_laysWays 78 = .ok (.aload_n 0, 1) := by decide +kernel
theorem dX7_laysWays_79 : decode cX7_laysWays 79 = .ok (.getfield 61, 3) := by decide +kernel
theorem dX7_laysWays_82 : decode cX7_laysWays 82 = .ok (.iload_n 3, 1) := by decide +kernel
theorem dX7_laysWays_83 : decode cX7_laysWays 83 = .ok (.iload 5, 2) := by decide +kernel
theorem dX7_laysWays_85 : decode cX7_laysWays 85 = .ok (.aload_n 0, 1) := by decide +kernel
theorem dX7_laysWays_86 : decode cX7_laysWays 86 = .ok (.getfield 13, 3) := by decide +kernel
theorem dX7_laysWays_89 : decode cX7_laysWays 89 = .ok (.iload_n 2, 1) := by decide +kernel
theorem dX7_laysWays_90 : decode cX7_laysWays 90 = .ok (.iaload, 1) := by decide +kernel
theorem dX7_laysWays_91 : decode cX7_laysWays 91 = .ok (.imul, 1) := by decide +kernel
theorem dX7_laysWays_92 : decode cX7_laysWays 92 = .ok (.isub, 1) := by decide +kernel
theorem dX7_laysWays_93 : decode cX7_laysWays 93 = .ok (.iaload, 1) := by decide +kernel
theorem dX7_laysWays_94 : decode cX7_laysWays 94 = .ok (.iadd, 1) := by decide +kernel
theorem dX7_laysWays_95 : decode cX7_laysWays 95 = .ok (.ldc_w 310, 3) := by decide +kernel
theorem dX7_laysWays_98 : decode cX7_laysWays 98 = .ok (.irem, 1) := by decide +kernel
theorem dX7_laysWays_99 : decode cX7_laysWays 99 = .ok (.istore 4, 2) := by decide +kernel
theorem dX7_laysWays_101 : decode cX7_laysWays 101 = .ok (.iinc 5 1, 3) := by decide +kernel
theorem dX7_laysWays_104 : decode cX7_laysWays 104 = .ok (.goto (-51), 3) := by decide +kernel
theorem dX7_laysWays_107 : decode cX7_laysWays 107 = .ok (.aload_n 0, 1) := by decide +kernel
theorem dX7_laysWays_108 : decode cX7_laysWays 108 = .ok (.getfield 61, 3) := by decide +kernel
theorem dX7_laysWays_111 : decode cX7_laysWays 111 = .ok (.iload_n 3, 1) := by decide +kernel
theorem dX7_laysWays_112 : decode cX7_laysWays 112 = .ok (.iload 4, 2) := by decide +kernel
theorem dX7_laysWays_114 : decode cX7_laysWays 114 = .ok (.iastore, 1) := by decide +kernel
theorem dX7_laysWays_115 : decode cX7_laysWays 115 = .ok (.iinc 3 (-1), 3) := by decide +kernel
theorem dX7_laysWays_118 : decode cX7_laysWays 118 = .ok (.goto (-75), 3) := by decide +kernel
theorem dX7_laysWays_121 : decode cX7_laysWays 121 = .ok (.iinc 2 1, 3) := by decide +kernel
theorem dX7_laysWays_124 : decode cX7_laysWays 124 = .ok (.goto (-91), 3) := by decide +kernel
theorem dX7_laysWays_127 : decode cX7_laysWays 127 = .ok (.return_, 1) := by decide +kernel
theorem dX7_locks_0 : decode cX7_locks 0 = .ok (.aload_n 0, 1) := by decide +kernel
theorem dX7_locks_1 : decode cX7_locks 1 = .ok (.iload_n 1, 1) := by decide +kernel
theorem dX7_locks_2 : decode cX7_locks 2 = .ok (.invokevirtual 311, 3) := by decide +kernel
theorem dX7_locks_5 : decode cX7_locks 5 = .ok (.ifCond .ne 5, 3) := by decide +kernel
theorem dX7_locks_8 : decode cX7_locks 8 = .ok (.iconst 0, 1) := by decide +kernel
theorem dX7_locks_9 : decode cX7_locks 9 = .ok (.ireturn, 1) := by decide +kernel
theorem dX7_locks_10 : decode cX7_locks 10 = .ok (.aload_n 0, 1) := by decide +kernel
theorem dX7_locks_11 : decode cX7_locks 11 = .ok (.getfield 298, 3) := by decide +kernel
theorem dX7_locks_14 : decode cX7_locks 14 = .ok (.iconst (-1), 1) := by decide +kernel
theorem dX7_locks_15 : decode cX7_locks 15 = .ok (.if_icmp .eq 45, 3) := by decide +kernel
theorem dX7_locks_18 : decode cX7_locks 18 = .ok (.aload_n 0, 1) := by decide +kernel
theorem dX7_locks_19 : decode cX7_locks 19 = .ok (.getfield 17, 3) := by decide +kernel
theorem dX7_locks_22 : decode cX7_locks 22 = .ok (.iconst 0, 1) := by decide +kernel
theorem dX7_locks_23 : decode cX7_locks 23 = .ok (.dup2, 1) := by decide +kernel
theorem dX7_locks_24 : decode cX7_locks 24 = .ok (.iaload, 1) := by decide +kernel
theorem dX7_locks_25 : decode cX7_locks 25 = .ok (.aload_n 0, 1) := by decide +kernel
theorem dX7_locks_26 : decode cX7_locks 26 = .ok (.iload_n 1, 1) := by decide +kernel
theorem dX7_locks_27 : decode cX7_locks 27 = .ok (.invokevirtual 238, 3) := by decide +kernel
theorem dX7_locks_30 : decode cX7_locks 30 = .ok (.ifCond .ne 7, 3) := by decide +kernel
