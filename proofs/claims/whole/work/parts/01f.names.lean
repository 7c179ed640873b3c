theorem dJ2_putCharsAt_cd4e5_66 : decode cJ2_putCharsAt_cd4e5 66 = .ok (.invokespecial 66, 3) := by decide +kernel
theorem dJ2_putCharsAt_cd4e5_69 : decode cJ2_putCharsAt_cd4e5 69 = .ok (.athrow, 1) := by decide +kernel
theorem dJ2_putCharsAt_cd4e5_70 : decode cJ2_putCharsAt_cd4e5 70 = .ok (.iload 6, 2) := by decide +kernel
theorem dJ2_putCharsAt_cd4e5_72 : decode cJ2_putCharsAt_cd4e5 72 = .ok (.ireturn, 1) := by decide +kernel
set_option maxRecDepth 20000 in
theorem ggJ2_charAt_3b067_J2_checkIndex_2214a : GoodIn wsJ2_charAt_3b067 wsJ2_checkIndex_2214a := goodIn_r _ [4, 5, 6, 3, 7, 8, 9, 10, 11, 12, 13, 14, 15, 16] (by decide +kernel) (by decide +kernel)
set_option maxRecDepth 20000 in
theorem gJ2_charAt_3b067_J2_checkIndex_2214a : GoodIn wsJ2_charAt_3b067 (va_wsS RJ2 67 yJ2_checkIndex_2214a wsJ2_checkIndex_2214a) := goodIn_app (goodIn_of _ (by decide +kernel)) ggJ2_charAt_3b067_J2_checkIndex_2214a
set_option maxRecDepth 20000 in
theorem ggJ2_charAt_3b067_J2_getChar_3b067 : GoodIn wsJ2_charAt_3b067 wsJ2_getChar_3b067 := goodIn_r _ [19, 20, 21, 22, 5, 6, 3, 7] (by decide +kernel) (by decide +kernel)
set_option maxRecDepth 20000 in
theorem gJ2_charAt_3b067_J2_getChar_3b067 : GoodIn wsJ2_charAt_3b067 (va_wsS RJ2 71 yJ2_getChar_3b067 wsJ2_getChar_3b067) := goodIn_app (goodIn_of _ (by decide +kernel)) ggJ2_charAt_3b067_J2_getChar_3b067
theorem dJ2_charAt_3b067_0 : decode cJ2_charAt_3b067 0 = .ok (.iload_n 1, 1) := by decide +kernel
theorem dJ2_charAt_3b067_1 : decode cJ2_charAt_3b067 1 = .ok (.aload_n 0, 1) := by decide +kernel
theorem dJ2_charAt_3b067_2 : decode cJ2_charAt_3b067 2 = .ok (.invokestatic 67, 3) := by decide +kernel
theorem dJ2_charAt_3b067_5 : decode cJ2_charAt_3b067 5 = .ok (.aload_n 0, 1) := by decide +kernel
theorem dJ2_charAt_3b067_6 : decode cJ2_charAt_3b067 6 = .ok (.iload_n 1, 1) := by decide +kernel
theorem dJ2_charAt_3b067_7 : decode cJ2_charAt_3b067 7 = .ok (.invokestatic 71, 3) := by decide +kernel
theorem dJ2_charAt_3b067_10 : decode cJ2_charAt_3b067 10 = .ok (.ireturn, 1) := by decide +kernel
set_option maxRecDepth 20000 in
theorem ggJ2_inflate_0e8fd_J2_checkBoundsOffCount_d044e : GoodIn wsJ2_inflate_0e8fd wsJ2_checkBoundsOffCount_d044e := goodIn_r _ [4, 5, 6, 3, 7, 8, 9, 10, 11, 12, 13, 14, 15, 16] (by decide +kernel) (by decide +kernel)
set_option maxRecDepth 20000 in
theorem gJ2_inflate_0e8fd_J2_checkBoundsOffCount_d044e : GoodIn wsJ2_inflate_0e8fd (va_wsS RJ2 173 yJ2_checkBoundsOffCount_d044e wsJ2_checkBoundsOffCount_d044e) := goodIn_app (goodIn_of _ (by decide +kernel)) ggJ2_inflate_0e8fd_J2_checkBoundsOffCount_d044e
set_option maxRecDepth 20000 in
theorem ggJ2_inflate_0e8fd_J2_putChar_b72d1 : GoodIn wsJ2_inflate_0e8fd wsJ2_putChar_b72d1 := goodIn_r _ [19, 20, 21, 22, 5, 6, 3, 7] (by decide +kernel) (by decide +kernel)
set_option maxRecDepth 20000 in
theorem gJ2_inflate_0e8fd_J2_putChar_b72d1 : GoodIn wsJ2_inflate_0e8fd (va_wsS RJ2 111 yJ2_putChar_b72d1 wsJ2_putChar_b72d1) := goodIn_app (goodIn_of _ (by decide +kernel)) ggJ2_inflate_0e8fd_J2_putChar_b72d1
theorem dJ2_inflate_0e8fd_0 : decode cJ2_inflate_0e8fd 0 = .ok (.iload_n 3, 1) := by decide +kernel
theorem dJ2_inflate_0e8fd_1 : decode cJ2_inflate_0e8fd 1 = .ok (.iload 4, 2) := by decide +kernel
theorem dJ2_inflate_0e8fd_3 : decode cJ2_inflate_0e8fd 3 = .ok (.aload_n 2, 1) := by decide +kernel
theorem dJ2_inflate_0e8fd_4 : decode cJ2_inflate_0e8fd 4 = .ok (.invokestatic 173, 3) := by decide +kernel
theorem dJ2_inflate_0e8fd_7 : decode cJ2_inflate_0e8fd 7 = .ok (.iconst 0, 1) := by decide +kernel
theorem dJ2_inflate_0e8fd_8 : decode cJ2_inflate_0e8fd 8 = .ok (.istore 5, 2) := by decide +kernel
theorem dJ2_inflate_0e8fd_10 : decode cJ2_inflate_0e8fd 10 = .ok (.iload 5, 2) := by decide +kernel
theorem dJ2_inflate_0e8fd_12 : decode cJ2_inflate_0e8fd 12 = .ok (.iload 4, 2) := by decide +kernel
theorem dJ2_inflate_0e8fd_14 : decode cJ2_inflate_0e8fd 14 = .ok (.if_icmp .ge 27, 3) := by decide +kernel
theorem dJ2_inflate_0e8fd_17 : decode cJ2_inflate_0e8fd 17 = .ok (.aload_n 2, 1) := by decide +kernel
theorem dJ2_inflate_0e8fd_18 : decode cJ2_inflate_0e8fd 18 = .ok (.iload_n 3, 1) := by decide +kernel
theorem dJ2_inflate_0e8fd_19 : decode cJ2_inflate_0e8fd 19 = .ok (.iinc 3 1, 3) := by decide +kernel
theorem dJ2_inflate_0e8fd_22 : decode cJ2_inflate_0e8fd 22 = .ok (.aload_n 0, 1) := by decide +kernel
theorem dJ2_inflate_0e8fd_23 : decode cJ2_inflate_0e8fd 23 = .ok (.iload_n 1, 1) := by decide +kernel
theorem dJ2_inflate_0e8fd_24 : decode cJ2_inflate_0e8fd 24 = .ok (.iinc 1 1, 3) := by decide +kernel
theorem dJ2_inflate_0e8fd_27 : decode cJ2_inflate_0e8fd 27 = .ok (.baload, 1) := by decide +kernel
theorem dJ2_inflate_0e8fd_28 : decode cJ2_inflate_0e8fd 28 = .ok (.sipush 255, 3) := by decide +kernel
theorem dJ2_inflate_0e8fd_31 : decode cJ2_inflate_0e8fd 31 = .ok (.iand, 1) := by decide +kernel
theorem dJ2_inflate_0e8fd_32 : decode cJ2_inflate_0e8fd 32 = .ok (.invokestatic 111, 3) := by decide +kernel
theorem dJ2_inflate_0e8fd_35 : decode cJ2_inflate_0e8fd 35 = .ok (.iinc 5 1, 3) := by decide +kernel
theorem dJ2_inflate_0e8fd_38 : decode cJ2_inflate_0e8fd 38 = .ok (.goto (-28), 3) := by decide +kernel
theorem dJ2_inflate_0e8fd_41 : decode cJ2_inflate_0e8fd 41 = .ok (.return_, 1) := by decide +kernel
set_option maxRecDepth 20000 in
theorem ggJ2_getChars_ba4f3_J2_putChar_b72d1 : GoodIn wsJ2_getChars_ba4f3 wsJ2_putChar_b72d1 := goodIn_r _ [6, 7, 8, 9, 10, 11, 5, 12] (by decide +kernel) (by decide +kernel)
set_option maxRecDepth 20000 in
theorem gJ2_getChars_ba4f3_J2_putChar_b72d1 : GoodIn wsJ2_getChars_ba4f3 (va_wsS RJ2 111 yJ2_putChar_b72d1 wsJ2_putChar_b72d1) := goodIn_app (goodIn_of _ (by decide +kernel)) ggJ2_getChars_ba4f3_J2_putChar_b72d1
theorem dJ2_getChars_ba4f3_0 : decode cJ2_getChars_ba4f3 0 = .ok (.iload_n 1, 1) := by decide +kernel
theorem dJ2_getChars_ba4f3_1 : decode cJ2_getChars_ba4f3 1 = .ok (.istore 5, 2) := by decide +kernel
theorem dJ2_getChars_ba4f3_3 : decode cJ2_getChars_ba4f3 3 = .ok (.iload_n 0, 1) := by decide +kernel
theorem dJ2_getChars_ba4f3_4 : decode cJ2_getChars_ba4f3 4 = .ok (.ifCond .ge 7, 3) := by decide +kernel
theorem dJ2_getChars_ba4f3_7 : decode cJ2_getChars_ba4f3 7 = .ok (.iconst 1, 1) := by decide +kernel
theorem dJ2_getChars_ba4f3_8 : decode cJ2_getChars_ba4f3 8 = .ok (.goto 4, 3) := by decide +kernel
theorem dJ2_getChars_ba4f3_11 : decode cJ2_getChars_ba4f3 11 = .ok (.iconst 0, 1) := by decide +kernel
theorem dJ2_getChars_ba4f3_12 : decode cJ2_getChars_ba4f3 12 = .ok (.istore 6, 2) := by decide +kernel
theorem dJ2_getChars_ba4f3_14 : decode cJ2_getChars_ba4f3 14 = .ok (.iload 6, 2) := by decide +kernel
theorem dJ2_getChars_ba4f3_16 : decode cJ2_getChars_ba4f3 16 = .ok (.ifCond .ne 6, 3) := by decide +kernel
theorem dJ2_getChars_ba4f3_19 : decode cJ2_getChars_ba4f3 19 = .ok (.iload_n 0, 1) := by decide +kernel
theorem dJ2_getChars_ba4f3_20 : decode cJ2_getChars_ba4f3 20 = .ok (.ineg, 1) := by decide +kernel
theorem dJ2_getChars_ba4f3_21 : decode cJ2_getChars_ba4f3 21 = .ok (.istore_n 0, 1) := by decide +kernel
theorem dJ2_getChars_ba4f3_22 : decode cJ2_getChars_ba4f3 22 = .ok (.iload_n 0, 1) := by decide +kernel
theorem dJ2_getChars_ba4f3_23 : decode cJ2_getChars_ba4f3 23 = .ok (.bipush (-100), 2) := by decide +kernel
theorem dJ2_getChars_ba4f3_25 : decode cJ2_getChars_ba4f3 25 = .ok (.if_icmp .gt 51, 3) := by decide +kernel
theorem dJ2_getChars_ba4f3_28 : decode cJ2_getChars_ba4f3 28 = .ok (.iload_n 0, 1) := by decide +kernel
theorem dJ2_getChars_ba4f3_29 : decode cJ2_getChars_ba4f3 29 = .ok (.bipush 100, 2) := by decide +kernel
theorem dJ2_getChars_ba4f3_31 : decode cJ2_getChars_ba4f3 31 = .ok (.idiv, 1) := by decide +kernel
theorem dJ2_getChars_ba4f3_32 : decode cJ2_getChars_ba4f3 32 = .ok (.istore_n 3, 1) := by decide +kernel
theorem dJ2_getChars_ba4f3_33 : decode cJ2_getChars_ba4f3 33 = .ok (.iload_n 3, 1) := by decide +kernel
theorem dJ2_getChars_ba4f3_34 : decode cJ2_getChars_ba4f3 34 = .ok (.bipush 100, 2) := by decide +kernel
theorem dJ2_getChars_ba4f3_36 : decode cJ2_getChars_ba4f3 36 = .ok (.imul, 1) := by decide +kernel
theorem dJ2_getChars_ba4f3_37 : decode cJ2_getChars_ba4f3 37 = .ok (.iload_n 0, 1) := by decide +kernel
theorem dJ2_getChars_ba4f3_38 : decode cJ2_getChars_ba4f3 38 = .ok (.isub, 1) := by decide +kernel
theorem dJ2_getChars_ba4f3_39 : decode cJ2_getChars_ba4f3 39 = .ok (.istore 4, 2) := by decide +kernel
theorem dJ2_getChars_ba4f3_41 : decode cJ2_getChars_ba4f3 41 = .ok (.iload_n 3, 1) := by decide +kernel
theorem dJ2_getChars_ba4f3_42 : decode cJ2_getChars_ba4f3 42 = .ok (.istore_n 0, 1) := by decide +kernel
theorem dJ2_getChars_ba4f3_43 : decode cJ2_getChars_ba4f3 43 = .ok (.aload_n 2, 1) := by decide +kernel
theorem dJ2_getChars_ba4f3_44 : decode cJ2_getChars_ba4f3 44 = .ok (.iinc 5 (-1), 3) := by decide +kernel
theorem dJ2_getChars_ba4f3_47 : decode cJ2_getChars_ba4f3 47 = .ok (.iload 5, 2) := by decide +kernel
theorem dJ2_getChars_ba4f3_49 : decode cJ2_getChars_ba4f3 49 = .ok (.getstatic 403, 3) := by decide +kernel
theorem dJ2_getChars_ba4f3_52 : decode cJ2_getChars_ba4f3 52 = .ok (.iload 4, 2) := by decide +kernel
theorem dJ2_getChars_ba4f3_54 : decode cJ2_getChars_ba4f3 54 = .ok (.baload, 1) := by decide +kernel
theorem dJ2_getChars_ba4f3_55 : decode cJ2_getChars_ba4f3 55 = .ok (.invokestatic 111, 3) := by decide +kernel
theorem dJ2_getChars_ba4f3_58 : decode cJ2_getChars_ba4f3 58 = .ok (.aload_n 2, 1) := by decide +kernel
theorem dJ2_getChars_ba4f3_59 : decode cJ2_getChars_ba4f3 59 = .ok (.iinc 5 (-1), 3) := by decide +kernel
theorem dJ2_getChars_ba4f3_62 : decode cJ2_getChars_ba4f3 62 = .ok (.iload 5, 2) := by decide +kernel
theorem dJ2_getChars_ba4f3_64 : decode cJ2_getChars_ba4f3 64 = .ok (.getstatic 407, 3) := by decide +kernel
theorem dJ2_getChars_ba4f3_67 : decode cJ2_getChars_ba4f3 67 = .ok (.iload 4, 2) := by decide +kernel
theorem dJ2_getChars_ba4f3_69 : decode cJ2_getChars_ba4f3 69 = .ok (.baload, 1) := by decide +kernel
theorem dJ2_getChars_ba4f3_70 : decode cJ2_getChars_ba4f3 70 = .ok (.invokestatic 111, 3) := by decide +kernel
theorem dJ2_getChars_ba4f3_73 : decode cJ2_getChars_ba4f3 73 = .ok (.goto (-51), 3) := by decide +kernel
theorem dJ2_getChars_ba4f3_76 : decode cJ2_getChars_ba4f3 76 = .ok (.aload_n 2, 1) := by decide +kernel
theorem dJ2_getChars_ba4f3_77 : decode cJ2_getChars_ba4f3 77 = .ok (.iinc 5 (-1), 3) := by decide +kernel
theorem dJ2_getChars_ba4f3_80 : decode cJ2_getChars_ba4f3 80 = .ok (.iload 5, 2) := by decide +kernel
theorem dJ2_getChars_ba4f3_82 : decode cJ2_getChars_ba4f3 82 = .ok (.getstatic 403, 3) := by decide +kernel
theorem dJ2_getChars_ba4f3_85 : decode cJ2_getChars_ba4f3 85 = .ok (.iload_n 0, 1) := by decide +kernel
theorem dJ2_getChars_ba4f3_86 : decode cJ2_getChars_ba4f3 86 = .ok (.ineg, 1) := by decide +kernel
theorem dJ2_getChars_ba4f3_87 : decode cJ2_getChars_ba4f3 87 = .ok (.baload, 1) := by decide +kernel
theorem dJ2_getChars_ba4f3_88 : decode cJ2_getChars_ba4f3 88 = .ok (.invokestatic 111, 3) := by decide +kernel
theorem dJ2_getChars_ba4f3_91 : decode cJ2_getChars_ba4f3 91 = .ok (.iload_n 0, 1) := by decide +kernel
theorem dJ2_getChars_ba4f3_92 : decode cJ2_getChars_ba4f3 92 = .ok (.bipush (-9), 2) := by decide +kernel
theorem dJ2_getChars_ba4f3_94 : decode cJ2_getChars_ba4f3 94 = .ok (.if_icmp .ge 18, 3) := by decide +kernel
theorem dJ2_getChars_ba4f3_97 : decode cJ2_getChars_ba4f3 97 = .ok (.aload_n 2, 1) := by decide +kernel
theorem dJ2_getChars_ba4f3_98 : decode cJ2_getChars_ba4f3 98 = .ok (.iinc 5 (-1), 3) := by decide +kernel
theorem dJ2_getChars_ba4f3_101 : decode cJ2_getChars_ba4f3 101 = .ok (.iload 5, 2) := by decide +kernel
theorem dJ2_getChars_ba4f3_103 : decode cJ2_getChars_ba4f3 103 = .ok (.getstatic 407, 3) := by decide +kernel
theorem dJ2_getChars_ba4f3_106 : decode cJ2_getChars_ba4f3 106 = .ok (.iload_n 0, 1) := by decide +kernel
theorem dJ2_getChars_ba4f3_107 : decode cJ2_getChars_ba4f3 107 = .ok (.ineg, 1) := by decide +kernel
theorem dJ2_getChars_ba4f3_108 : decode cJ2_getChars_ba4f3 108 = .ok (.baload, 1) := by decide +kernel
theorem dJ2_getChars_ba4f3_109 : decode cJ2_getChars_ba4f3 109 = .ok (.invokestatic 111, 3) := by decide +kernel
theorem dJ2_getChars_ba4f3_112 : decode cJ2_getChars_ba4f3 112 = .ok (.iload 6, 2) := by decide +kernel
theorem dJ2_getChars_ba4f3_114 : decode cJ2_getChars_ba4f3 114 = .ok (.ifCond .eq 14, 3) := by decide +kernel
theorem dJ2_getChars_ba4f3_117 : decode cJ2_getChars_ba4f3 117 = .ok (.aload_n 2, 1) := by decide +kernel
theorem dJ2_getChars_ba4f3_118 : decode cJ2_getChars_ba4f3 118 = .ok (.iinc 5 (-1), 3) := by decide +kernel
theorem dJ2_getChars_ba4f3_121 : decode cJ2_getChars_ba4f3 121 = .ok (.iload 5, 2) := by decide +kernel
theorem dJ2_getChars_ba4f3_123 : decode cJ2_getChars_ba4f3 123 = .ok (.bipush 45, 2) := by decide +kernel
theorem dJ2_getChars_ba4f3_125 : decode cJ2_getChars_ba4f3 125 = .ok (.invokestatic 111, 3) := by decide +kernel
theorem dJ2_getChars_ba4f3_128 : decode cJ2_getChars_ba4f3 128 = .ok (.iload 5, 2) := by decide +kernel
theorem dJ2_getChars_ba4f3_130 : decode cJ2_getChars_ba4f3 130 = .ok (.ireturn, 1) := by decide +kernel
set_option maxRecDepth 20000 in
theorem ggJ2_checkIndex_2214a_J2_length_9d52b : GoodIn wsJ2_checkIndex_2214a wsJ2_length_9d52b := goodIn_r _ [4] (by decide +kernel) (by decide +kernel)
set_option maxRecDepth 20000 in
theorem gJ2_checkIndex_2214a_J2_length_9d52b : GoodIn wsJ2_checkIndex_2214a (va_wsS RJ2 48 yJ2_length_9d52b wsJ2_length_9d52b) := goodIn_app (goodIn_of _ (by decide +kernel)) ggJ2_checkIndex_2214a_J2_length_9d52b
set_option maxRecDepth 20000 in
theorem ggJ2_checkIndex_2214a_J0_checkIndex_df160 : GoodIn wsJ2_checkIndex_2214a wsJ0_checkIndex_df160 := goodIn_r _ [8, 9, 10, 11, 12, 13] (by decide +kernel) (by decide +kernel)
set_option maxRecDepth 20000 in
theorem gJ2_checkIndex_2214a_J0_checkIndex_df160 : GoodIn wsJ2_checkIndex_2214a (va_wsS RJ2 414 yJ0_checkIndex_df160 wsJ0_checkIndex_df160) := goodIn_app (goodIn_of _ (by decide +kernel)) ggJ2_checkIndex_2214a_J0_checkIndex_df160
theorem dJ2_checkIndex_2214a_0 : decode cJ2_checkIndex_2214a 0 = .ok (.iload_n 0, 1) := by decide +kernel
theorem dJ2_checkIndex_2214a_1 : decode cJ2_checkIndex_2214a 1 = .ok (.aload_n 1, 1) := by decide +kernel
theorem dJ2_checkIndex_2214a_2 : decode cJ2_checkIndex_2214a 2 = .ok (.invokestatic 48, 3) := by decide +kernel
theorem dJ2_checkIndex_2214a_5 : decode cJ2_checkIndex_2214a 5 = .ok (.invokestatic 414, 3) := by decide +kernel
theorem dJ2_checkIndex_2214a_8 : decode cJ2_checkIndex_2214a 8 = .ok (.return_, 1) := by decide +kernel
set_option maxRecDepth 20000 in
theorem ggJ2_checkBoundsBeginEnd_d044e_J2_length_9d52b : GoodIn wsJ2_checkBoundsBeginEnd_d044e wsJ2_length_9d52b := goodIn_r _ [4] (by decide +kernel) (by decide +kernel)
set_option maxRecDepth 20000 in
theorem gJ2_checkBoundsBeginEnd_d044e_J2_length_9d52b : GoodIn wsJ2_checkBoundsBeginEnd_d044e (va_wsS RJ2 48 yJ2_length_9d52b wsJ2_length_9d52b) := goodIn_app (goodIn_of _ (by decide +kernel)) ggJ2_checkBoundsBeginEnd_d044e_J2_length_9d52b
set_option maxRecDepth 20000 in
theorem ggJ2_checkBoundsBeginEnd_d044e_J0_checkBoundsBeginEnd_23922 : GoodIn wsJ2_checkBoundsBeginEnd_d044e wsJ0_checkBoundsBeginEnd_23922 := goodIn_r _ [8, 9, 10, 11, 12, 13] (by decide +kernel) (by decide +kernel)
set_option maxRecDepth 20000 in
theorem gJ2_checkBoundsBeginEnd_d044e_J0_checkBoundsBeginEnd_23922 : GoodIn wsJ2_checkBoundsBeginEnd_d044e (va_wsS RJ2 241 yJ0_checkBoundsBeginEnd_23922 wsJ0_checkBoundsBeginEnd_23922) := goodIn_app (goodIn_of _ (by decide +kernel)) ggJ2_checkBoundsBeginEnd_d044e_J0_checkBoundsBeginEnd_23922
theorem dJ2_checkBoundsBeginEnd_d044e_0 : decode cJ2_checkBoundsBeginEnd_d044e 0 = .ok (.iload_n 0, 1) := by decide +kernel
theorem dJ2_checkBoundsBeginEnd_d044e_1 : decode cJ2_checkBoundsBeginEnd_d044e 1 = .ok (.iload_n 1, 1) := by decide +kernel
theorem dJ2_checkBoundsBeginEnd_d044e_2 : decode cJ2_checkBoundsBeginEnd_d044e 2 = .ok (.aload_n 2, 1) := by decide +kernel
theorem dJ2_checkBoundsBeginEnd_d044e_3 : decode cJ2_checkBoundsBeginEnd_d044e 3 = .ok (.invokestatic 48, 3) := by decide +kernel
theorem dJ2_checkBoundsBeginEnd_d044e_6 : decode cJ2_checkBoundsBeginEnd_d044e 6 = .ok (.invokestatic 241, 3) := by decide +kernel
theorem dJ2_checkBoundsBeginEnd_d044e_9 : decode cJ2_checkBoundsBeginEnd_d044e 9 = .ok (.return_, 1) := by decide +kernel
set_option maxRecDepth 20000 in
theorem ggJ2_checkBoundsOffCount_d044e_J2_length_9d52b : GoodIn wsJ2_checkBoundsOffCount_d044e wsJ2_length_9d52b := goodIn_r _ [4] (by decide +kernel) (by decide +kernel)
set_option maxRecDepth 20000 in
theorem gJ2_checkBoundsOffCount_d044e_J2_length_9d52b : GoodIn wsJ2_checkBoundsOffCount_d044e (va_wsS RJ2 48 yJ2_length_9d52b wsJ2_length_9d52b) := goodIn_app (goodIn_of _ (by decide +kernel)) ggJ2_checkBoundsOffCount_d044e_J2_length_9d52b
set_option maxRecDepth 20000 in
theorem ggJ2_checkBoundsOffCount_d044e_J0_checkBoundsOffCount_cabcc : GoodIn wsJ2_checkBoundsOffCount_d044e wsJ0_checkBoundsOffCount_cabcc := goodIn_r _ [8, 9, 10, 11, 12, 13] (by decide +kernel) (by decide +kernel)
set_option maxRecDepth 20000 in
theorem gJ2_checkBoundsOffCount_d044e_J0_checkBoundsOffCount_cabcc : GoodIn wsJ2_checkBoundsOffCount_d044e (va_wsS RJ2 419 yJ0_checkBoundsOffCount_cabcc wsJ0_checkBoundsOffCount_cabcc) := goodIn_app (goodIn_of _ (by decide +kernel)) ggJ2_checkBoundsOffCount_d044e_J0_checkBoundsOffCount_cabcc
theorem dJ2_checkBoundsOffCount_d044e_0 : decode cJ2_checkBoundsOffCount_d044e 0 = .ok (.iload_n 0, 1) := by decide +kernel
theorem dJ2_checkBoundsOffCount_d044e_1 : decode cJ2_checkBoundsOffCount_d044e 1 = .ok (.iload_n 1, 1) := by decide +kernel
theorem dJ2_checkBoundsOffCount_d044e_2 : decode cJ2_checkBoundsOffCount_d044e 2 = .ok (.aload_n 2, 1) := by decide +kernel
theorem dJ2_checkBoundsOffCount_d044e_3 : decode cJ2_checkBoundsOffCount_d044e 3 = .ok (.invokestatic 48, 3) := by decide +kernel
theorem dJ2_checkBoundsOffCount_d044e_6 : decode cJ2_checkBoundsOffCount_d044e 6 = .ok (.invokestatic 419, 3) := by decide +kernel
theorem dJ2_checkBoundsOffCount_d044e_9 : decode cJ2_checkBoundsOffCount_d044e 9 = .ok (.pop, 1) := by decide +kernel
theorem dJ2_checkBoundsOffCount_d044e_10 : decode cJ2_checkBoundsOffCount_d044e 10 = .ok (.return_, 1) := by decide +kernel
theorem dJ7_rangeCheck_23922_0 : decode cJ7_rangeCheck_23922 0 = .ok (.iload_n 1, 1) := by decide +kernel
theorem dJ7_rangeCheck_23922_1 : decode cJ7_rangeCheck_23922 1 = .ok (.iload_n 2, 1) := by decide +kernel
theorem dJ7_rangeCheck_23922_2 : decode cJ7_rangeCheck_23922 2 = .ok (.if_icmp .le 44, 3) := by decide +kernel
theorem dJ7_rangeCheck_23922_5 : decode cJ7_rangeCheck_23922 5 = .ok (.new 43, 3) := by decide +kernel
theorem dJ7_rangeCheck_23922_8 : decode cJ7_rangeCheck_23922 8 = .ok (.dup, 1) := by decide +kernel
theorem dJ7_rangeCheck_23922_9 : decode cJ7_rangeCheck_23922 9 = .ok (.new 45, 3) := by decide +kernel
theorem dJ7_rangeCheck_23922_12 : decode cJ7_rangeCheck_23922 12 = .ok (.dup, 1) := by decide +kernel
theorem dJ7_rangeCheck_23922_13 : decode cJ7_rangeCheck_23922 13 = .ok (.invokespecial 47, 3) := by decide +kernel
theorem dJ7_rangeCheck_23922_16 : decode cJ7_rangeCheck_23922 16 = .ok (.ldc 48, 2) := by decide +kernel
theorem dJ7_rangeCheck_23922_18 : decode cJ7_rangeCheck_23922 18 = .ok (.invokevirtual 50, 3) := by decide +kernel
theorem dJ7_rangeCheck_23922_21 : decode cJ7_rangeCheck_23922 21 = .ok (.iload_n 1, 1) := by decide +kernel
theorem dJ7_rangeCheck_23922_22 : decode cJ7_rangeCheck_23922 22 = .ok (.invokevirtual 54, 3) := by decide +kernel
theorem dJ7_rangeCheck_23922_25 : decode cJ7_rangeCheck_23922 25 = .ok (.ldc 57, 2) := by decide +kernel
theorem dJ7_rangeCheck_23922_27 : decode cJ7_rangeCheck_23922 27 = .ok (.invokevirtual 50, 3) := by decide +kernel
theorem dJ7_rangeCheck_23922_30 : decode cJ7_rangeCheck_23922 30 = .ok (.iload_n 2, 1) := by decide +kernel
theorem dJ7_rangeCheck_23922_31 : decode cJ7_rangeCheck_23922 31 = .ok (.invokevirtual 54, 3) := by decide +kernel
theorem dJ7_rangeCheck_23922_34 : decode cJ7_rangeCheck_23922 34 = .ok (.ldc 59, 2) := by decide +kernel
theorem dJ7_rangeCheck_23922_36 : decode cJ7_rangeCheck_23922 36 = .ok (.invokevirtual 50, 3) := by decide +kernel
theorem dJ7_rangeCheck_23922_39 : decode cJ7_rangeCheck_23922 39 = .ok (.invokevirtual 61, 3) := by decide +kernel
theorem dJ7_rangeCheck_23922_42 : decode cJ7_rangeCheck_23922 42 = .ok (.invokespecial 65, 3) := by decide +kernel
theorem dJ7_rangeCheck_23922_45 : decode cJ7_rangeCheck_23922 45 = .ok (.athrow, 1) := by decide +kernel
theorem dJ7_rangeCheck_23922_46 : decode cJ7_rangeCheck_23922 46 = .ok (.iload_n 1, 1) := by decide +kernel
theorem dJ7_rangeCheck_23922_47 : decode cJ7_rangeCheck_23922 47 = .ok (.ifCond .ge 12, 3) := by decide +kernel
theorem dJ7_rangeCheck_23922_50 : decode cJ7_rangeCheck_23922 50 = .ok (.new 68, 3) := by decide +kernel
theorem dJ7_rangeCheck_23922_53 : decode cJ7_rangeCheck_23922 53 = .ok (.dup, 1) := by decide +kernel
theorem dJ7_rangeCheck_23922_54 : decode cJ7_rangeCheck_23922 54 = .ok (.iload_n 1, 1) := by decide +kernel
theorem dJ7_rangeCheck_23922_55 : decode cJ7_rangeCheck_23922 55 = .ok (.invokespecial 70, 3) := by decide +kernel
theorem dJ7_rangeCheck_23922_58 : decode cJ7_rangeCheck_23922 58 = .ok (.athrow, 1) := by decide +kernel
theorem dJ7_rangeCheck_23922_59 : decode cJ7_rangeCheck_23922 59 = .ok (.iload_n 2, 1) := by decide +kernel
theorem dJ7_rangeCheck_23922_60 : decode cJ7_rangeCheck_23922 60 = .ok (.iload_n 0, 1) := by decide +kernel
theorem dJ7_rangeCheck_23922_61 : decode cJ7_rangeCheck_23922 61 = .ok (.if_icmp .le 12, 3) := by decide +kernel
theorem dJ7_rangeCheck_23922_64 : decode cJ7_rangeCheck_23922 64 = .ok (.new 68, 3) := by decide +kernel
theorem dJ7_rangeCheck_23922_67 : decode cJ7_rangeCheck_23922 67 = .ok (.dup, 1) := by decide +kernel
theorem dJ7_rangeCheck_23922_68 : decode cJ7_rangeCheck_23922 68 = .ok (.iload_n 2, 1) := by decide +kernel
theorem dJ7_rangeCheck_23922_69 : decode cJ7_rangeCheck_23922 69 = .ok (.invokespecial 70, 3) := by decide +kernel
theorem dJ7_rangeCheck_23922_72 : decode cJ7_rangeCheck_23922 72 = .ok (.athrow, 1) := by decide +kernel
theorem dJ7_rangeCheck_23922_73 : decode cJ7_rangeCheck_23922 73 = .ok (.return_, 1) := by decide +kernel
set_option maxRecDepth 20000 in
theorem ggJ7_fill_eb02e_J7_rangeCheck_23922 : GoodIn wsJ7_fill_eb02e wsJ7_rangeCheck_23922 := goodIn_r _ [4, 5, 6, 7, 8, 9, 10, 11, 12, 13, 14, 15, 16, 17, 18, 19, 20] (by decide +kernel) (by decide +kernel)
set_option maxRecDepth 20000 in
theorem gJ7_fill_eb02e_J7_rangeCheck_23922 : GoodIn wsJ7_fill_eb02e (va_wsS RJ7 13 yJ7_rangeCheck_23922 wsJ7_rangeCheck_23922) := goodIn_app (goodIn_of _ (by decide +kernel)) ggJ7_fill_eb02e_J7_rangeCheck_23922
theorem dJ7_fill_eb02e_0 : decode cJ7_fill_eb02e 0 = .ok (.aload_n 0, 1) := by decide +kernel
theorem dJ7_fill_eb02e_1 : decode cJ7_fill_eb02e 1 = .ok (.arraylength, 1) := by decide +kernel
theorem dJ7_fill_eb02e_2 : decode cJ7_fill_eb02e 2 = .ok (.iload_n 1, 1) := by decide +kernel
theorem dJ7_fill_eb02e_3 : decode cJ7_fill_eb02e 3 = .ok (.iload_n 2, 1) := by decide +kernel
theorem dJ7_fill_eb02e_4 : decode cJ7_fill_eb02e 4 = .ok (.invokestatic 13, 3) := by decide +kernel
theorem dJ7_fill_eb02e_7 : decode cJ7_fill_eb02e 7 = .ok (.iload_n 1, 1) := by decide +kernel
theorem dJ7_fill_eb02e_8 : decode cJ7_fill_eb02e 8 = .ok (.istore 4, 2) := by decide +kernel
theorem dJ7_fill_eb02e_10 : decode cJ7_fill_eb02e 10 = .ok (.iload 4, 2) := by decide +kernel
theorem dJ7_fill_eb02e_12 : decode cJ7_fill_eb02e 12 = .ok (.iload_n 2, 1) := by decide +kernel
theorem dJ7_fill_eb02e_13 : decode cJ7_fill_eb02e 13 = .ok (.if_icmp .ge 14, 3) := by decide +kernel
theorem dJ7_fill_eb02e_16 : decode cJ7_fill_eb02e 16 = .ok (.aload_n 0, 1) := by decide +kernel
theorem dJ7_fill_eb02e_17 : decode cJ7_fill_eb02e 17 = .ok (.iload 4, 2) := by decide +kernel
theorem dJ7_fill_eb02e_19 : decode cJ7_fill_eb02e 19 = .ok (.iload_n 3, 1) := by decide +kernel
theorem dJ7_fill_eb02e_20 : decode cJ7_fill_eb02e 20 = .ok (.bastore, 1) := by decide +kernel
theorem dJ7_fill_eb02e_21 : decode cJ7_fill_eb02e 21 = .ok (.iinc 4 1, 3) := by decide +kernel
theorem dJ7_fill_eb02e_24 : decode cJ7_fill_eb02e 24 = .ok (.goto (-14), 3) := by decide +kernel
theorem dJ7_fill_eb02e_27 : decode cJ7_fill_eb02e 27 = .ok (.return_, 1) := by decide +kernel
theorem dJ7_copyOf_9075b_0 : decode cJ7_copyOf_9075b 0 = .ok (.iload_n 1, 1) := by decide +kernel
theorem dJ7_copyOf_9075b_1 : decode cJ7_copyOf_9075b 1 = .ok (.aload_n 0, 1) := by decide +kernel
theorem dJ7_copyOf_9075b_2 : decode cJ7_copyOf_9075b 2 = .ok (.arraylength, 1) := by decide +kernel
theorem dJ7_copyOf_9075b_3 : decode cJ7_copyOf_9075b 3 = .ok (.if_icmp .ne 11, 3) := by decide +kernel
theorem dJ7_copyOf_9075b_6 : decode cJ7_copyOf_9075b 6 = .ok (.aload_n 0, 1) := by decide +kernel
theorem dJ7_copyOf_9075b_7 : decode cJ7_copyOf_9075b 7 = .ok (.invokevirtual 310, 3) := by decide +kernel
theorem dJ7_copyOf_9075b_10 : decode cJ7_copyOf_9075b 10 = .ok (.checkcast 311, 3) := by decide +kernel
theorem dJ7_copyOf_9075b_13 : decode cJ7_copyOf_9075b 13 = .ok (.areturn, 1) := by decide +kernel
theorem dJ7_copyOf_9075b_14 : decode cJ7_copyOf_9075b 14 = .ok (.iload_n 1, 1) := by decide +kernel
theorem dJ7_copyOf_9075b_15 : decode cJ7_copyOf_9075b 15 = .ok (.newarray .byte, 2) := by decide +kernel
theorem dJ7_copyOf_9075b_17 : decode cJ7_copyOf_9075b 17 = .ok (.astore_n 2, 1) := by decide +kernel
theorem dJ7_copyOf_9075b_18 : decode cJ7_copyOf_9075b 18 = .ok (.aload_n 0, 1) := by decide +kernel
theorem dJ7_copyOf_9075b_19 : decode cJ7_copyOf_9075b 19 = .ok (.iconst 0, 1) := by decide +kernel
theorem dJ7_copyOf_9075b_20 : decode cJ7_copyOf_9075b 20 = .ok (.aload_n 2, 1) := by decide +kernel
theorem dJ7_copyOf_9075b_21 : decode cJ7_copyOf_9075b 21 = .ok (.iconst 0, 1) := by decide +kernel
theorem dJ7_copyOf_9075b_22 : decode cJ7_copyOf_9075b 22 = .ok (.aload_n 0, 1) := by decide +kernel
theorem dJ7_copyOf_9075b_23 : decode cJ7_copyOf_9075b 23 = .ok (.arraylength, 1) := by decide +kernel
theorem dJ7_copyOf_9075b_24 : decode cJ7_copyOf_9075b 24 = .ok (.iload_n 1, 1) := by decide +kernel
theorem dJ7_copyOf_9075b_25 : decode cJ7_copyOf_9075b 25 = .ok (.invokestatic 304, 3) := by decide +kernel
theorem dJ7_copyOf_9075b_28 : decode cJ7_copyOf_9075b 28 = .ok (.invokestatic 150, 3) := by decide +kernel
theorem dJ7_copyOf_9075b_31 : decode cJ7_copyOf_9075b 31 = .ok (.aload_n 2, 1) := by decide +kernel
theorem dJ7_copyOf_9075b_32 : decode cJ7_copyOf_9075b 32 = .ok (.areturn, 1) := by decide +kernel
theorem dJ7_checkLength_df160_0 : decode cJ7_checkLength_df160 0 = .ok (.iload_n 1, 1) := by decide +kernel
theorem dJ7_checkLength_df160_1 : decode cJ7_checkLength_df160 1 = .ok (.iload_n 0, 1) := by decide +kernel
theorem dJ7_checkLength_df160_2 : decode cJ7_checkLength_df160 2 = .ok (.if_icmp .ge 35, 3) := by decide +kernel
theorem dJ7_checkLength_df160_5 : decode cJ7_checkLength_df160 5 = .ok (.new 43, 3) := by decide +kernel
theorem dJ7_checkLength_df160_8 : decode cJ7_checkLength_df160 8 = .ok (.dup, 1) := by decide +kernel
theorem dJ7_checkLength_df160_9 : decode cJ7_checkLength_df160 9 = .ok (.new 45, 3) := by decide +kernel
theorem dJ7_checkLength_df160_12 : decode cJ7_checkLength_df160 12 = .ok (.dup, 1) := by decide +kernel
theorem dJ7_checkLength_df160_13 : decode cJ7_checkLength_df160 13 = .ok (.invokespecial 47, 3) := by decide +kernel
theorem dJ7_checkLength_df160_16 : decode cJ7_checkLength_df160 16 = .ok (.iload_n 0, 1) := by decide +kernel
theorem dJ7_checkLength_df160_17 : decode cJ7_checkLength_df160 17 = .ok (.invokevirtual 54, 3) := by decide +kernel
theorem dJ7_checkLength_df160_20 : decode cJ7_checkLength_df160 20 = .ok (.ldc_w 337, 3) := by decide +kernel
theorem dJ7_checkLength_df160_23 : decode cJ7_checkLength_df160 23 = .ok (.invokevirtual 50, 3) := by decide +kernel
theorem dJ7_checkLength_df160_26 : decode cJ7_checkLength_df160 26 = .ok (.iload_n 1, 1) := by decide +kernel
theorem dJ7_checkLength_df160_27 : decode cJ7_checkLength_df160 27 = .ok (.invokevirtual 54, 3) := by decide +kernel
theorem dJ7_checkLength_df160_30 : decode cJ7_checkLength_df160 30 = .ok (.invokevirtual 61, 3) := by decide +kernel
theorem dJ7_checkLength_df160_33 : decode cJ7_checkLength_df160 33 = .ok (.invokespecial 65, 3) := by decide +kernel
theorem dJ7_checkLength_df160_36 : decode cJ7_checkLength_df160 36 = .ok (.athrow, 1) := by decide +kernel
theorem dJ7_checkLength_df160_37 : decode cJ7_checkLength_df160 37 = .ok (.return_, 1) := by decide +kernel
set_option maxRecDepth 20000 in
theorem ggJ7_copyOfRange_39247_J7_copyOfRangeByte_39247 : GoodIn wsJ7_copyOfRange_39247 wsJ7_copyOfRangeByte_39247 := goodIn_r _ [10, 11, 12, 13, 14, 15, 16, 17, 18, 19, 20, 21, 9, 22, 23, 24, 25, 26, 27, 28, 29] (by decide +kernel) (by decide +kernel)
set_option maxRecDepth 20000 in
theorem gJ7_copyOfRange_39247_J7_copyOfRangeByte_39247 : GoodIn wsJ7_copyOfRange_39247 (va_wsS RJ7 339 yJ7_copyOfRangeByte_39247 wsJ7_copyOfRangeByte_39247) := goodIn_app (goodIn_of _ (by decide +kernel)) ggJ7_copyOfRange_39247_J7_copyOfRangeByte_39247
theorem dJ7_copyOfRange_39247_0 : decode cJ7_copyOfRange_39247 0 = .ok (.iload_n 1, 1) := by decide +kernel
theorem dJ7_copyOfRange_39247_1 : decode cJ7_copyOfRange_39247 1 = .ok (.ifCond .ne 9, 3) := by decide +kernel
theorem dJ7_copyOfRange_39247_4 : decode cJ7_copyOfRange_39247 4 = .ok (.iload_n 2, 1) := by decide +kernel
theorem dJ7_copyOfRange_39247_5 : decode cJ7_copyOfRange_39247 5 = .ok (.aload_n 0, 1) := by decide +kernel
theorem dJ7_copyOfRange_39247_6 : decode cJ7_copyOfRange_39247 6 = .ok (.arraylength, 1) := by decide +kernel
theorem dJ7_copyOfRange_39247_7 : decode cJ7_copyOfRange_39247 7 = .ok (.if_icmp .eq 10, 3) := by decide +kernel
theorem dJ7_copyOfRange_39247_10 : decode cJ7_copyOfRange_39247 10 = .ok (.aload_n 0, 1) := by decide +kernel
theorem dJ7_copyOfRange_39247_11 : decode cJ7_copyOfRange_39247 11 = .ok (.iload_n 1, 1) := by decide +kernel
theorem dJ7_copyOfRange_39247_12 : decode cJ7_copyOfRange_39247 12 = .ok (.iload_n 2, 1) := by decide +kernel
theorem dJ7_copyOfRange_39247_13 : decode cJ7_copyOfRange_39247 13 = .ok (.invokestatic 339, 3) := by decide +kernel
theorem dJ7_copyOfRange_39247_16 : decode cJ7_copyOfRange_39247 16 = .ok (.areturn, 1) := by decide +kernel
theorem dJ7_copyOfRange_39247_17 : decode cJ7_copyOfRange_39247 17 = .ok (.aload_n 0, 1) := by decide +kernel
theorem dJ7_copyOfRange_39247_18 : decode cJ7_copyOfRange_39247 18 = .ok (.invokevirtual 310, 3) := by decide +kernel
theorem dJ7_copyOfRange_39247_21 : decode cJ7_copyOfRange_39247 21 = .ok (.checkcast 311, 3) := by decide +kernel
theorem dJ7_copyOfRange_39247_24 : decode cJ7_copyOfRange_39247 24 = .ok (.areturn, 1) := by decide +kernel
set_option maxRecDepth 20000 in
theorem ggJ7_copyOfRangeByte_39247_J7_checkLength_df160 : GoodIn wsJ7_copyOfRangeByte_39247 wsJ7_checkLength_df160 := goodIn_r _ [13, 14, 15, 16, 17, 18, 19, 20] (by decide +kernel) (by decide +kernel)
set_option maxRecDepth 20000 in
theorem gJ7_copyOfRangeByte_39247_J7_checkLength_df160 : GoodIn wsJ7_copyOfRangeByte_39247 (va_wsS RJ7 343 yJ7_checkLength_df160 wsJ7_checkLength_df160) := goodIn_app (goodIn_of _ (by decide +kernel)) ggJ7_copyOfRangeByte_39247_J7_checkLength_df160
theorem dJ7_copyOfRangeByte_39247_0 : decode cJ7_copyOfRangeByte_39247 0 = .ok (.iload_n 1, 1) := by decide +kernel
theorem dJ7_copyOfRangeByte_39247_1 : decode cJ7_copyOfRangeByte_39247 1 = .ok (.iload_n 2, 1) := by decide +kernel
theorem dJ7_copyOfRangeByte_39247_2 : decode cJ7_copyOfRangeByte_39247 2 = .ok (.invokestatic 343, 3) := by decide +kernel
theorem dJ7_copyOfRangeByte_39247_5 : decode cJ7_copyOfRangeByte_39247 5 = .ok (.iload_n 2, 1) := by decide +kernel
theorem dJ7_copyOfRangeByte_39247_6 : decode cJ7_copyOfRangeByte_39247 6 = .ok (.iload_n 1, 1) := by decide +kernel
theorem dJ7_copyOfRangeByte_39247_7 : decode cJ7_copyOfRangeByte_39247 7 = .ok (.isub, 1) := by decide +kernel
theorem dJ7_copyOfRangeByte_39247_8 : decode cJ7_copyOfRangeByte_39247 8 = .ok (.istore_n 3, 1) := by decide +kernel
theorem dJ7_copyOfRangeByte_39247_9 : decode cJ7_copyOfRangeByte_39247 9 = .ok (.iload_n 3, 1) := by decide +kernel
theorem dJ7_copyOfRangeByte_39247_10 : decode cJ7_copyOfRangeByte_39247 10 = .ok (.newarray .byte, 2) := by decide +kernel
theorem dJ7_copyOfRangeByte_39247_12 : decode cJ7_copyOfRangeByte_39247 12 = .ok (.astore 4, 2) := by decide +kernel
theorem dJ7_copyOfRangeByte_39247_14 : decode cJ7_copyOfRangeByte_39247 14 = .ok (.aload_n 0, 1) := by decide +kernel
theorem dJ7_copyOfRangeByte_39247_15 : decode cJ7_copyOfRangeByte_39247 15 = .ok (.iload_n 1, 1) := by decide +kernel
theorem dJ7_copyOfRangeByte_39247_16 : decode cJ7_copyOfRangeByte_39247 16 = .ok (.aload 4, 2) := by decide +kernel
theorem dJ7_copyOfRangeByte_39247_18 : decode cJ7_copyOfRangeByte_39247 18 = .ok (.iconst 0, 1) := by decide +kernel
theorem dJ7_copyOfRangeByte_39247_19 : decode cJ7_copyOfRangeByte_39247 19 = .ok (.aload_n 0, 1) := by decide +kernel
theorem dJ7_copyOfRangeByte_39247_20 : decode cJ7_copyOfRangeByte_39247 20 = .ok (.arraylength, 1) := by decide +kernel
theorem dJ7_copyOfRangeByte_39247_21 : decode cJ7_copyOfRangeByte_39247 21 = .ok (.iload_n 1, 1) := by decide +kernel
theorem dJ7_copyOfRangeByte_39247_22 : decode cJ7_copyOfRangeByte_39247 22 = .ok (.isub, 1) := by decide +kernel
theorem dJ7_copyOfRangeByte_39247_23 : decode cJ7_copyOfRangeByte_39247 23 = .ok (.iload_n 3, 1) := by decide +kernel
theorem dJ7_copyOfRangeByte_39247_24 : decode cJ7_copyOfRangeByte_39247 24 = .ok (.invokestatic 304, 3) := by decide +kernel
theorem dJ7_copyOfRangeByte_39247_27 : decode cJ7_copyOfRangeByte_39247 27 = .ok (.invokestatic 150, 3) := by decide +kernel
theorem dJ7_copyOfRangeByte_39247_30 : decode cJ7_copyOfRangeByte_39247 30 = .ok (.aload 4, 2) := by decide +kernel
theorem dJ7_copyOfRangeByte_39247_32 : decode cJ7_copyOfRangeByte_39247 32 = .ok (.areturn, 1) := by decide +kernel
set_option maxRecDepth 20000 in
theorem ggJ8_newLength_cabcc_J8_hugeLength_7cf53 : GoodIn wsJ8_newLength_cabcc wsJ8_hugeLength_7cf53 := goodIn_r _ [9, 5] (by decide +kernel) (by decide +kernel)
set_option maxRecDepth 20000 in
theorem gJ8_newLength_cabcc_J8_hugeLength_7cf53 : GoodIn wsJ8_newLength_cabcc (va_wsS RJ8 201 yJ8_hugeLength_7cf53 wsJ8_hugeLength_7cf53) := goodIn_app (goodIn_of _ (by decide +kernel)) ggJ8_newLength_cabcc_J8_hugeLength_7cf53
theorem dJ8_newLength_cabcc_0 : decode cJ8_newLength_cabcc 0 = .ok (.iload_n 0, 1) := by decide +kernel
theorem dJ8_newLength_cabcc_1 : decode cJ8_newLength_cabcc 1 = .ok (.iload_n 1, 1) := by decide +kernel
theorem dJ8_newLength_cabcc_2 : decode cJ8_newLength_cabcc 2 = .ok (.iload_n 2, 1) := by decide +kernel
theorem dJ8_newLength_cabcc_3 : decode cJ8_newLength_cabcc 3 = .ok (.invokestatic 194, 3) := by decide +kernel
theorem dJ8_newLength_cabcc_6 : decode cJ8_newLength_cabcc 6 = .ok (.iadd, 1) := by decide +kernel
theorem dJ8_newLength_cabcc_7 : decode cJ8_newLength_cabcc 7 = .ok (.istore_n 3, 1) := by decide +kernel
theorem dJ8_newLength_cabcc_8 : decode cJ8_newLength_cabcc 8 = .ok (.iconst 0, 1) := by decide +kernel
theorem dJ8_newLength_cabcc_9 : decode cJ8_newLength_cabcc 9 = .ok (.iload_n 3, 1) := by decide +kernel
theorem dJ8_newLength_cabcc_10 : decode cJ8_newLength_cabcc 10 = .ok (.if_icmp .ge 11, 3) := by decide +kernel
theorem dJ8_newLength_cabcc_13 : decode cJ8_newLength_cabcc 13 = .ok (.iload_n 3, 1) := by decide +kernel
theorem dJ8_newLength_cabcc_14 : decode cJ8_newLength_cabcc 14 = .ok (.ldc 200, 2) := by decide +kernel
theorem dJ8_newLength_cabcc_16 : decode cJ8_newLength_cabcc 16 = .ok (.if_icmp .gt 5, 3) := by decide +kernel
theorem dJ8_newLength_cabcc_19 : decode cJ8_newLength_cabcc 19 = .ok (.iload_n 3, 1) := by decide +kernel
theorem dJ8_newLength_cabcc_20 : decode cJ8_newLength_cabcc 20 = .ok (.ireturn, 1) := by decide +kernel
theorem dJ8_newLength_cabcc_21 : decode cJ8_newLength_cabcc 21 = .ok (.iload_n 0, 1) := by decide +kernel
theorem dJ8_newLength_cabcc_22 : decode cJ8_newLength_cabcc 22 = .ok (.iload_n 1, 1) := by decide +kernel
theorem dJ8_newLength_cabcc_23 : decode cJ8_newLength_cabcc 23 = .ok (.invokestatic 201, 3) := by decide +kernel
theorem dJ8_newLength_cabcc_26 : decode cJ8_newLength_cabcc 26 = .ok (.ireturn, 1) := by decide +kernel
theorem dJ8_hugeLength_7cf53_0 : decode cJ8_hugeLength_7cf53 0 = .ok (.iload_n 0, 1) := by decide +kernel
theorem dJ8_hugeLength_7cf53_1 : decode cJ8_hugeLength_7cf53 1 = .ok (.iload_n 1, 1) := by decide +kernel
theorem dJ8_hugeLength_7cf53_2 : decode cJ8_hugeLength_7cf53 2 = .ok (.iadd, 1) := by decide +kernel
theorem dJ8_hugeLength_7cf53_3 : decode cJ8_hugeLength_7cf53 3 = .ok (.istore_n 2, 1) := by decide +kernel
theorem dJ8_hugeLength_7cf53_4 : decode cJ8_hugeLength_7cf53 4 = .ok (.iload_n 2, 1) := by decide +kernel
theorem dJ8_hugeLength_7cf53_5 : decode cJ8_hugeLength_7cf53 5 = .ok (.ifCond .ge 44, 3) := by decide +kernel
theorem dJ8_hugeLength_7cf53_8 : decode cJ8_hugeLength_7cf53 8 = .ok (.new 204, 3) := by decide +kernel
theorem dJ8_hugeLength_7cf53_11 : decode cJ8_hugeLength_7cf53 11 = .ok (.dup, 1) := by decide +kernel
theorem dJ8_hugeLength_7cf53_12 : decode cJ8_hugeLength_7cf53 12 = .ok (.new 89, 3) := by decide +kernel
theorem dJ8_hugeLength_7cf53_15 : decode cJ8_hugeLength_7cf53 15 = .ok (.dup, 1) := by decide +kernel
theorem dJ8_hugeLength_7cf53_16 : decode cJ8_hugeLength_7cf53 16 = .ok (.invokespecial 91, 3) := by decide +kernel
theorem dJ8_hugeLength_7cf53_19 : decode cJ8_hugeLength_7cf53 19 = .ok (.ldc 206, 2) := by decide +kernel
theorem dJ8_hugeLength_7cf53_21 : decode cJ8_hugeLength_7cf53 21 = .ok (.invokevirtual 94, 3) := by decide +kernel
theorem dJ8_hugeLength_7cf53_24 : decode cJ8_hugeLength_7cf53 24 = .ok (.iload_n 0, 1) := by decide +kernel
theorem dJ8_hugeLength_7cf53_25 : decode cJ8_hugeLength_7cf53 25 = .ok (.invokevirtual 98, 3) := by decide +kernel
theorem dJ8_hugeLength_7cf53_28 : decode cJ8_hugeLength_7cf53 28 = .ok (.ldc 208, 2) := by decide +kernel
theorem dJ8_hugeLength_7cf53_30 : decode cJ8_hugeLength_7cf53 30 = .ok (.invokevirtual 94, 3) := by decide +kernel
theorem dJ8_hugeLength_7cf53_33 : decode cJ8_hugeLength_7cf53 33 = .ok (.iload_n 1, 1) := by decide +kernel
theorem dJ8_hugeLength_7cf53_34 : decode cJ8_hugeLength_7cf53 34 = .ok (.invokevirtual 98, 3) := by decide +kernel
theorem dJ8_hugeLength_7cf53_37 : decode cJ8_hugeLength_7cf53 37 = .ok (.ldc 210, 2) := by decide +kernel
theorem dJ8_hugeLength_7cf53_39 : decode cJ8_hugeLength_7cf53 39 = .ok (.invokevirtual 94, 3) := by decide +kernel
theorem dJ8_hugeLength_7cf53_42 : decode cJ8_hugeLength_7cf53 42 = .ok (.invokevirtual 101, 3) := by decide +kernel
theorem dJ8_hugeLength_7cf53_45 : decode cJ8_hugeLength_7cf53 45 = .ok (.invokespecial 212, 3) := by decide +kernel
theorem dJ8_hugeLength_7cf53_48 : decode cJ8_hugeLength_7cf53 48 = .ok (.athrow, 1) := by decide +kernel
theorem dJ8_hugeLength_7cf53_49 : decode cJ8_hugeLength_7cf53 49 = .ok (.iload_n 2, 1) := by decide +kernel
theorem dJ8_hugeLength_7cf53_50 : decode cJ8_hugeLength_7cf53 50 = .ok (.ldc 200, 2) := by decide +kernel
theorem dJ8_hugeLength_7cf53_52 : decode cJ8_hugeLength_7cf53 52 = .ok (.if_icmp .gt 6, 3) := by decide +kernel
theorem dJ8_hugeLength_7cf53_55 : decode cJ8_hugeLength_7cf53 55 = .ok (.ldc 200, 2) := by decide +kernel
theorem dJ8_hugeLength_7cf53_57 : decode cJ8_hugeLength_7cf53 57 = .ok (.ireturn, 1) := by decide +kernel
theorem dJ8_hugeLength_7cf53_58 : decode cJ8_hugeLength_7cf53 58 = .ok (.iload_n 2, 1) := by decide +kernel
theorem dJ8_hugeLength_7cf53_59 : decode cJ8_hugeLength_7cf53 59 = .ok (.ireturn, 1) := by decide +kernel
theorem dJ3_checkIndex_8e157_0 : decode cJ3_checkIndex_8e157 0 = .ok (.iload_n 0, 1) := by decide +kernel
theorem dJ3_checkIndex_8e157_1 : decode cJ3_checkIndex_8e157 1 = .ok (.ifCond .lt 8, 3) := by decide +kernel
theorem dJ3_checkIndex_8e157_4 : decode cJ3_checkIndex_8e157 4 = .ok (.iload_n 0, 1) := by decide +kernel
theorem dJ3_checkIndex_8e157_5 : decode cJ3_checkIndex_8e157 5 = .ok (.iload_n 1, 1) := by decide +kernel
theorem dJ3_checkIndex_8e157_6 : decode cJ3_checkIndex_8e157 6 = .ok (.if_icmp .lt 10, 3) := by decide +kernel
theorem dJ3_checkIndex_8e157_9 : decode cJ3_checkIndex_8e157 9 = .ok (.aload_n 2, 1) := by decide +kernel
theorem dJ3_checkIndex_8e157_10 : decode cJ3_checkIndex_8e157 10 = .ok (.iload_n 0, 1) := by decide +kernel
theorem dJ3_checkIndex_8e157_11 : decode cJ3_checkIndex_8e157 11 = .ok (.iload_n 1, 1) := by decide +kernel
theorem dJ3_checkIndex_8e157_12 : decode cJ3_checkIndex_8e157 12 = .ok (.invokestatic 95, 3) := by decide +kernel
theorem dJ3_checkIndex_8e157_15 : decode cJ3_checkIndex_8e157 15 = .ok (.athrow, 1) := by decide +kernel
theorem dJ3_checkIndex_8e157_16 : decode cJ3_checkIndex_8e157 16 = .ok (.iload_n 0, 1) := by decide +kernel
theorem dJ3_checkIndex_8e157_17 : decode cJ3_checkIndex_8e157 17 = .ok (.ireturn, 1) := by decide +kernel
theorem dJ3_checkFromToIndex_8c36e_0 : decode cJ3_checkFromToIndex_8c36e 0 = .ok (.iload_n 0, 1) := by decide +kernel
theorem dJ3_checkFromToIndex_8c36e_1 : decode cJ3_checkFromToIndex_8c36e 1 = .ok (.ifCond .lt 13, 3) := by decide +kernel
theorem dJ3_checkFromToIndex_8c36e_4 : decode cJ3_checkFromToIndex_8c36e 4 = .ok (.iload_n 0, 1) := by decide +kernel
theorem dJ3_checkFromToIndex_8c36e_5 : decode cJ3_checkFromToIndex_8c36e 5 = .ok (.iload_n 1, 1) := by decide +kernel
theorem dJ3_checkFromToIndex_8c36e_6 : decode cJ3_checkFromToIndex_8c36e 6 = .ok (.if_icmp .gt 8, 3) := by decide +kernel
theorem dJ3_checkFromToIndex_8c36e_9 : decode cJ3_checkFromToIndex_8c36e 9 = .ok (.iload_n 1, 1) := by decide +kernel
theorem dJ3_checkFromToIndex_8c36e_10 : decode cJ3_checkFromToIndex_8c36e 10 = .ok (.iload_n 2, 1) := by decide +kernel
theorem dJ3_checkFromToIndex_8c36e_11 : decode cJ3_checkFromToIndex_8c36e 11 = .ok (.if_icmp .le 11, 3) := by decide +kernel
theorem dJ3_checkFromToIndex_8c36e_14 : decode cJ3_checkFromToIndex_8c36e 14 = .ok (.aload_n 3, 1) := by decide +kernel
theorem dJ3_checkFromToIndex_8c36e_15 : decode cJ3_checkFromToIndex_8c36e 15 = .ok (.iload_n 0, 1) := by decide +kernel
theorem dJ3_checkFromToIndex_8c36e_16 : decode cJ3_checkFromToIndex_8c36e 16 = .ok (.iload_n 1, 1) := by decide +kernel
theorem dJ3_checkFromToIndex_8c36e_17 : decode cJ3_checkFromToIndex_8c36e 17 = .ok (.iload_n 2, 1) := by decide +kernel
theorem dJ3_checkFromToIndex_8c36e_18 : decode cJ3_checkFromToIndex_8c36e 18 = .ok (.invokestatic 99, 3) := by decide +kernel
theorem dJ3_checkFromToIndex_8c36e_21 : decode cJ3_checkFromToIndex_8c36e 21 = .ok (.athrow, 1) := by decide +kernel
theorem dJ3_checkFromToIndex_8c36e_22 : decode cJ3_checkFromToIndex_8c36e 22 = .ok (.iload_n 0, 1) := by decide +kernel
theorem dJ3_checkFromToIndex_8c36e_23 : decode cJ3_checkFromToIndex_8c36e 23 = .ok (.ireturn, 1) := by decide +kernel
theorem dJ3_checkFromIndexSize_8c36e_0 : decode cJ3_checkFromIndexSize_8c36e 0 = .ok (.iload_n 2, 1) := by decide +kernel
theorem dJ3_checkFromIndexSize_8c36e_1 : decode cJ3_checkFromIndexSize_8c36e 1 = .ok (.iload_n 0, 1) := by decide +kernel
theorem dJ3_checkFromIndexSize_8c36e_2 : decode cJ3_checkFromIndexSize_8c36e 2 = .ok (.ior, 1) := by decide +kernel
theorem dJ3_checkFromIndexSize_8c36e_3 : decode cJ3_checkFromIndexSize_8c36e 3 = .ok (.iload_n 1, 1) := by decide +kernel
theorem dJ3_checkFromIndexSize_8c36e_4 : decode cJ3_checkFromIndexSize_8c36e 4 = .ok (.ior, 1) := by decide +kernel
theorem dJ3_checkFromIndexSize_8c36e_5 : decode cJ3_checkFromIndexSize_8c36e 5 = .ok (.ifCond .lt 10, 3) := by decide +kernel
theorem dJ3_checkFromIndexSize_8c36e_8 : decode cJ3_checkFromIndexSize_8c36e 8 = .ok (.iload_n 1, 1) := by decide +kernel
theorem dJ3_checkFromIndexSize_8c36e_9 : decode cJ3_checkFromIndexSize_8c36e 9 = .ok (.iload_n 2, 1) := by decide +kernel
theorem dJ3_checkFromIndexSize_8c36e_10 : decode cJ3_checkFromIndexSize_8c36e 10 = .ok (.iload_n 0, 1) := by decide +kernel
theorem dJ3_checkFromIndexSize_8c36e_11 : decode cJ3_checkFromIndexSize_8c36e 11 = .ok (.isub, 1) := by decide +kernel
theorem dJ3_checkFromIndexSize_8c36e_12 : decode cJ3_checkFromIndexSize_8c36e 12 = .ok (.if_icmp .le 11, 3) := by decide +kernel
theorem dJ3_checkFromIndexSize_8c36e_15 : decode cJ3_checkFromIndexSize_8c36e 15 = .ok (.aload_n 3, 1) := by decide +kernel
theorem dJ3_checkFromIndexSize_8c36e_16 : decode cJ3_checkFromIndexSize_8c36e 16 = .ok (.iload_n 0, 1) := by decide +kernel
theorem dJ3_checkFromIndexSize_8c36e_17 : decode cJ3_checkFromIndexSize_8c36e 17 = .ok (.iload_n 1, 1) := by decide +kernel
theorem dJ3_checkFromIndexSize_8c36e_18 : decode cJ3_checkFromIndexSize_8c36e 18 = .ok (.iload_n 2, 1) := by decide +kernel
theorem dJ3_checkFromIndexSize_8c36e_19 : decode cJ3_checkFromIndexSize_8c36e 19 = .ok (.invokestatic 103, 3) := by decide +kernel
theorem dJ3_checkFromIndexSize_8c36e_22 : decode cJ3_checkFromIndexSize_8c36e 22 = .ok (.athrow, 1) := by decide +kernel
theorem dJ3_checkFromIndexSize_8c36e_23 : decode cJ3_checkFromIndexSize_8c36e 23 = .ok (.iload_n 0, 1) := by decide +kernel
theorem dJ3_checkFromIndexSize_8c36e_24 : decode cJ3_checkFromIndexSize_8c36e 24 = .ok (.ireturn, 1) := by decide +kernel
set_option maxRecDepth 20000 in
theorem ggL_load_X6_load : GoodIn wsL_load wsX6_load := goodIn_ca (goodIn_ca (goodIn_ca (goodIn_r _ [6, 7, 8, 9, 10, 11, 12, 13, 14, 15, 16, 17, 18, 19, 20, 21, 22, 23, 24, 25, 26, 27, 28, 29, 30, 31, 32, 33, 34, 35, 36, 37, 38, 39, 40, 41, 42, 43, 44, 45, 46, 47, 48, 49, 50, 51, 52, 53, 54, 55, 56, 57, 58, 59, 60, 61, 62, 63, 64, 65, 66, 67, 68, 69, 70, 71, 72, 73, 74, 75, 76, 77, 78, 79, 80, 81, 82, 83, 84, 85, 86, 87, 88, 89, 90, 91, 92, 93, 94, 95, 96, 97, 98, 99, 100, 101, 102, 103, 104, 105, 106, 107, 108, 109, 110, 111, 112, 113, 114, 115, 116, 117, 118, 119, 120, 121, 122, 123, 124, 125, 126, 127, 128, 129, 130, 131, 132, 133, 134, 135, 136, 137, 138, 139, 140, 141, 142, 143, 144, 145, 146, 147, 148, 149, 150, 151, 152, 153, 154, 155, 156, 157, 158, 159, 160, 161, 162, 163, 164, 165, 166, 167, 168, 169, 170, 171, 172, 173, 174, 175, 176, 177, 178, 179, 180, 181, 182, 183, 184, 185, 186, 187, 188, 189, 190, 191, 192, 193, 194, 195, 196, 197, 198, 199, 200, 201, 202, 203, 204, 205, 206, 207, 208, 209, 210, 211, 212, 213, 214, 215, 216, 217, 218, 219, 220, 221, 222, 223, 224, 5, 225, 226, 227, 228, 229, 230, 231, 232, 233, 234, 235, 236, 237, 238, 239, 240, 241, 242, 243, 244, 245, 246, 247, 248, 249, 250, 251, 252, 253, 254, 255, 256, 257, 258, 259, 260, 261, 262, 263, 264, 265, 266, 267, 268, 269, 270, 271, 272, 273, 274, 275, 276, 277, 278, 279, 280, 281, 282, 283, 284, 285, 286, 287, 288, 289, 290, 291, 292, 293, 294, 295, 296, 297, 298, 299, 300, 301, 302, 303, 304, 305] (by decide +kernel) (by decide +kernel)) (goodIn_sub (fun _ h => List.mem_cons_of_mem _ (List.mem_append_left _ (List.mem_append_right _ h))) (by decide +kernel))) (goodIn_sub (fun _ h => List.mem_cons_of_mem _ (List.mem_append_right _ h)) (by decide +kernel))) (goodIn_sub (fun _ h => List.mem_cons_of_mem _ (List.mem_append_left _ (List.mem_append_left _ (List.mem_append_right _ h)))) (by decide +kernel))
set_option maxRecDepth 20000 in
theorem gL_load_X6_load : GoodIn wsL_load (wsV RL 7 RX6 yX6_load wsX6_load) := goodIn_app (goodIn_of _ (by decide +kernel)) ggL_load_X6_load
theorem dL_load_0 : decode cL_load 0 = .ok (.aload_n 2, 1) := by decide +kernel
theorem dL_load_1 : decode cL_load 1 = .ok (.iconst 0, 1) := by decide +kernel
theorem dL_load_2 : decode cL_load 2 = .ok (.aload_n 0, 1) := by decide +kernel
theorem dL_load_3 : decode cL_load 3 = .ok (.iload_n 1, 1) := by decide +kernel
theorem dL_load_4 : decode cL_load 4 = .ok (.invokevirtual 7, 3) := by decide +kernel
theorem dL_load_7 : decode cL_load 7 = .ok (.i2l, 1) := by decide +kernel
theorem dL_load_8 : decode cL_load 8 = .ok (.lastore, 1) := by decide +kernel
theorem dL_load_9 : decode cL_load 9 = .ok (.goto 9, 3) := by decide +kernel
theorem dL_load_12 : decode cL_load 12 = .ok (.astore_n 3, 1) := by decide +kernel
theorem dL_load_13 : decode cL_load 13 = .ok (.iconst 1, 1) := by decide +kernel
theorem dL_load_14 : decode cL_load 14 = .ok (.ireturn, 1) := by decide +kernel
theorem dL_load_15 : decode cL_load 15 = .ok (.astore_n 3, 1) := by decide +kernel
theorem dL_load_16 : decode cL_load 16 = .ok (.iconst 2, 1) := by decide +kernel
theorem dL_load_17 : decode cL_load 17 = .ok (.ireturn, 1) := by decide +kernel
theorem dL_load_18 : decode cL_load 18 = .ok (.iconst 0, 1) := by decide +kernel
theorem dL_load_19 : decode cL_load 19 = .ok (.ireturn, 1) := by decide +kernel
set_option maxRecDepth 20000 in
theorem ggL_count_X6_count : GoodIn wsL_count wsX6_count := goodIn_ca (goodIn_ca (goodIn_ca (goodIn_r _ [6, 7, 8, 9, 10, 11, 12, 13, 14, 15, 16, 17, 18, 19, 20, 21, 5, 22, 23, 24, 25, 26, 27, 28, 29, 30, 31, 32, 33, 34, 35, 36, 37, 38, 39, 40, 41, 42, 43, 44, 45, 46, 47, 48, 49, 50, 51, 52, 53, 54, 55, 56, 57, 58, 59, 60, 61, 62, 63, 64, 65, 66, 67, 68, 69, 70, 71, 72, 73, 74, 75, 76, 77, 78, 79, 80, 81, 82, 83, 84, 85, 86, 87, 88, 89, 90, 91, 92, 93, 94, 95, 96, 97, 98, 99, 100, 101, 102, 103, 104, 105, 106, 107, 108, 109, 110] (by decide +kernel) (by decide +kernel)) (goodIn_sub (fun _ h => List.mem_cons_of_mem _ (List.mem_append_left _ (List.mem_append_right _ h))) (by decide +kernel))) (goodIn_sub (fun _ h => List.mem_cons_of_mem _ (List.mem_append_right _ h)) (by decide +kernel))) (goodIn_sub (fun _ h => List.mem_cons_of_mem _ (List.mem_append_left _ (List.mem_append_left _ (List.mem_append_right _ h)))) (by decide +kernel))
set_option maxRecDepth 20000 in
theorem gL_count_X6_count : GoodIn wsL_count (wsV RL 17 RX6 yX6_count wsX6_count) := goodIn_app (goodIn_of _ (by decide +kernel)) ggL_count_X6_count
theorem dL_count_0 : decode cL_count 0 = .ok (.aload_n 2, 1) := by decide +kernel
theorem dL_count_1 : decode cL_count 1 = .ok (.iconst 0, 1) := by decide +kernel
theorem dL_count_2 : decode cL_count 2 = .ok (.aload_n 0, 1) := by decide +kernel
theorem dL_count_3 : decode cL_count 3 = .ok (.iload_n 1, 1) := by decide +kernel
theorem dL_count_4 : decode cL_count 4 = .ok (.invokevirtual 17, 3) := by decide +kernel
theorem dL_count_7 : decode cL_count 7 = .ok (.i2l, 1) := by decide +kernel
theorem dL_count_8 : decode cL_count 8 = .ok (.lastore, 1) := by decide +kernel
theorem dL_count_9 : decode cL_count 9 = .ok (.goto 9, 3) := by decide +kernel
theorem dL_count_12 : decode cL_count 12 = .ok (.astore_n 3, 1) := by decide +kernel
theorem dL_count_13 : decode cL_count 13 = .ok (.iconst 1, 1) := by decide +kernel
theorem dL_count_14 : decode cL_count 14 = .ok (.ireturn, 1) := by decide +kernel
theorem dL_count_15 : decode cL_count 15 = .ok (.astore_n 3, 1) := by decide +kernel
theorem dL_count_16 : decode cL_count 16 = .ok (.iconst 2, 1) := by decide +kernel
theorem dL_count_17 : decode cL_count 17 = .ok (.ireturn, 1) := by decide +kernel
theorem dL_count_18 : decode cL_count 18 = .ok (.iconst 0, 1) := by decide +kernel
theorem dL_count_19 : decode cL_count 19 = .ok (.ireturn, 1) := by decide +kernel
set_option maxRecDepth 20000 in
theorem ggL_setting_X6_setting : GoodIn wsL_setting wsX6_setting := goodIn_ca (goodIn_ca (goodIn_r _ [6, 7, 8, 9, 10, 11, 12, 13, 14, 15, 16, 17, 18, 5, 19, 20, 21, 22, 23, 24, 25, 26, 27, 28, 29, 30, 31, 32, 33, 34, 35, 36, 37, 38, 39, 40, 41, 42, 43, 44] (by decide +kernel) (by decide +kernel)) (goodIn_sub (fun _ h => List.mem_cons_of_mem _ (List.mem_append_left _ (List.mem_append_right _ h))) (by decide +kernel))) (goodIn_sub (fun _ h => List.mem_cons_of_mem _ (List.mem_append_right _ h)) (by decide +kernel))
set_option maxRecDepth 20000 in
theorem gL_setting_X6_setting : GoodIn wsL_setting (wsV RL 22 RX6 yX6_setting wsX6_setting) := goodIn_app (goodIn_of _ (by decide +kernel)) ggL_setting_X6_setting
theorem dL_setting_0 : decode cL_setting 0 = .ok (.aload_n 2, 1) := by decide +kernel
theorem dL_setting_1 : decode cL_setting 1 = .ok (.iconst 0, 1) := by decide +kernel
theorem dL_setting_2 : decode cL_setting 2 = .ok (.aload_n 0, 1) := by decide +kernel
theorem dL_setting_3 : decode cL_setting 3 = .ok (.iload_n 1, 1) := by decide +kernel
theorem dL_setting_4 : decode cL_setting 4 = .ok (.invokevirtual 22, 3) := by decide +kernel
theorem dL_setting_7 : decode cL_setting 7 = .ok (.i2l, 1) := by decide +kernel
theorem dL_setting_8 : decode cL_setting 8 = .ok (.lastore, 1) := by decide +kernel
theorem dL_setting_9 : decode cL_setting 9 = .ok (.goto 9, 3) := by decide +kernel
theorem dL_setting_12 : decode cL_setting 12 = .ok (.astore_n 3, 1) := by decide +kernel
theorem dL_setting_13 : decode cL_setting 13 = .ok (.iconst 1, 1) := by decide +kernel
theorem dL_setting_14 : decode cL_setting 14 = .ok (.ireturn, 1) := by decide +kernel
theorem dL_setting_15 : decode cL_setting 15 = .ok (.astore_n 3, 1) := by decide +kernel
theorem dL_setting_16 : decode cL_setting 16 = .ok (.iconst 2, 1) := by decide +kernel
theorem dL_setting_17 : decode cL_setting 17 = .ok (.ireturn, 1) := by decide +kernel
theorem dL_setting_18 : decode cL_setting 18 = .ok (.iconst 0, 1) := by decide +kernel
theorem dL_setting_19 : decode cL_setting 19 = .ok (.ireturn, 1) := by decide +kernel
set_option maxRecDepth 20000 in
theorem ggL_row_X6_row : GoodIn wsL_row wsX6_row := goodIn_ca (goodIn_ca (goodIn_ca (goodIn_ca (goodIn_r _ [6, 7, 8, 9, 10, 11, 12, 13, 14, 15, 16, 17, 18, 19, 5, 20, 21, 22, 23, 24, 25, 26, 27, 28, 29, 30, 31, 32, 33, 34, 35, 36, 37, 38, 39, 40, 41, 42, 43, 44, 45, 46, 47, 48, 49, 50, 51, 52, 53, 54, 55, 56, 57, 58, 59, 60, 61, 62, 63, 64, 65, 66, 67, 68, 69, 70, 71, 72, 73, 74, 75, 76, 77, 78, 79, 80, 81, 82, 83, 84, 85, 86, 87, 88, 89, 90, 91, 92, 93, 94, 95, 96, 97, 98, 99] (by decide +kernel) (by decide +kernel)) (goodIn_sub (fun _ h => List.mem_cons_of_mem _ (List.mem_append_left _ (List.mem_append_left _ (List.mem_append_right _ h)))) (by decide +kernel))) (goodIn_sub (fun _ h => List.mem_cons_of_mem _ (List.mem_append_left _ (List.mem_append_right _ h))) (by decide +kernel))) (goodIn_sub (fun _ h => List.mem_cons_of_mem _ (List.mem_append_right _ h)) (by decide +kernel))) (goodIn_sub (fun _ h => List.mem_cons_of_mem _ (List.mem_append_left _ (List.mem_append_left _ (List.mem_append_left _ (List.mem_append_right _ h))))) (by decide +kernel))
set_option maxRecDepth 20000 in
theorem gL_row_X6_row : GoodIn wsL_row (wsV RL 25 RX6 yX6_row wsX6_row) := goodIn_app (goodIn_of _ (by decide +kernel)) ggL_row_X6_row
theorem dL_row_0 : decode cL_row 0 = .ok (.aload_n 3, 1) := by decide +kernel
theorem dL_row_1 : decode cL_row 1 = .ok (.iconst 0, 1) := by decide +kernel
theorem dL_row_2 : decode cL_row 2 = .ok (.aload_n 0, 1) := by decide +kernel
theorem dL_row_3 : decode cL_row 3 = .ok (.iload_n 1, 1) := by decide +kernel
theorem dL_row_4 : decode cL_row 4 = .ok (.iload_n 2, 1) := by decide +kernel
theorem dL_row_5 : decode cL_row 5 = .ok (.invokevirtual 25, 3) := by decide +kernel
theorem dL_row_8 : decode cL_row 8 = .ok (.i2l, 1) := by decide +kernel
theorem dL_row_9 : decode cL_row 9 = .ok (.lastore, 1) := by decide +kernel
theorem dL_row_10 : decode cL_row 10 = .ok (.goto 15, 3) := by decide +kernel
theorem dL_row_13 : decode cL_row 13 = .ok (.astore 4, 2) := by decide +kernel
theorem dL_row_15 : decode cL_row 15 = .ok (.iconst 1, 1) := by decide +kernel
theorem dL_row_16 : decode cL_row 16 = .ok (.ireturn, 1) := by decide +kernel
theorem dL_row_17 : decode cL_row 17 = .ok (.astore 4, 2) := by decide +kernel
theorem dL_row_19 : decode cL_row 19 = .ok (.iconst 2, 1) := by decide +kernel
theorem dL_row_20 : decode cL_row 20 = .ok (.ireturn, 1) := by decide +kernel
theorem dL_row_21 : decode cL_row 21 = .ok (.astore 4, 2) := by decide +kernel
theorem dL_row_23 : decode cL_row 23 = .ok (.iconst 3, 1) := by decide +kernel
theorem dL_row_24 : decode cL_row 24 = .ok (.ireturn, 1) := by decide +kernel
theorem dL_row_25 : decode cL_row 25 = .ok (.iconst 0, 1) := by decide +kernel
theorem dL_row_26 : decode cL_row 26 = .ok (.ireturn, 1) := by decide +kernel
set_option maxRecDepth 20000 in
theorem ggL_block_X6_block : GoodIn wsL_block wsX6_block := goodIn_ca (goodIn_ca (goodIn_ca (goodIn_r _ [6, 7, 8, 9, 10, 5, 11, 12, 13, 14, 15, 16, 17, 18, 19, 20, 21, 22, 23, 24, 25, 26, 27, 28, 29, 30, 31, 32, 33, 34, 35, 36, 37, 38, 39, 40, 41, 42, 43, 44, 45, 46, 47, 48, 49, 50, 51, 52, 53, 54, 55, 56, 57, 58, 59, 60, 61, 62, 63, 64, 65, 66, 67, 68, 69, 70, 71, 72, 73, 74] (by decide +kernel) (by decide +kernel)) (goodIn_sub (fun _ h => List.mem_cons_of_mem _ (List.mem_append_left _ (List.mem_append_right _ h))) (by decide +kernel))) (goodIn_sub (fun _ h => List.mem_cons_of_mem _ (List.mem_append_right _ h)) (by decide +kernel))) (goodIn_sub (fun _ h => List.mem_cons_of_mem _ (List.mem_append_left _ (List.mem_append_left _ (List.mem_append_right _ h)))) (by decide +kernel))
set_option maxRecDepth 20000 in
theorem gL_block_X6_block : GoodIn wsL_block (wsV RL 29 RX6 yX6_block wsX6_block) := goodIn_app (goodIn_of _ (by decide +kernel)) ggL_block_X6_block
theorem dL_block_0 : decode cL_block 0 = .ok (.aload_n 3, 1) := by decide +kernel
theorem dL_block_1 : decode cL_block 1 = .ok (.iconst 0, 1) := by decide +kernel
theorem dL_block_2 : decode cL_block 2 = .ok (.aload_n 0, 1) := by decide +kernel
theorem dL_block_3 : decode cL_block 3 = .ok (.iload_n 1, 1) := by decide +kernel
theorem dL_block_4 : decode cL_block 4 = .ok (.iload_n 2, 1) := by decide +kernel
theorem dL_block_5 : decode cL_block 5 = .ok (.invokevirtual 29, 3) := by decide +kernel
theorem dL_block_8 : decode cL_block 8 = .ok (.i2l, 1) := by decide +kernel
theorem dL_block_9 : decode cL_block 9 = .ok (.lastore, 1) := by decide +kernel
theorem dL_block_10 : decode cL_block 10 = .ok (.goto 11, 3) := by decide +kernel
theorem dL_block_13 : decode cL_block 13 = .ok (.astore 4, 2) := by decide +kernel
theorem dL_block_15 : decode cL_block 15 = .ok (.iconst 1, 1) := by decide +kernel
theorem dL_block_16 : decode cL_block 16 = .ok (.ireturn, 1) := by decide +kernel
theorem dL_block_17 : decode cL_block 17 = .ok (.astore 4, 2) := by decide +kernel
theorem dL_block_19 : decode cL_block 19 = .ok (.iconst 2, 1) := by decide +kernel
theorem dL_block_20 : decode cL_block 20 = .ok (.ireturn, 1) := by decide +kernel
theorem dL_block_21 : decode cL_block 21 = .ok (.iconst 0, 1) := by decide +kernel
theorem dL_block_22 : decode cL_block 22 = .ok (.ireturn, 1) := by decide +kernel
set_option maxRecDepth 20000 in
theorem ggL_piece_X6_piece : GoodIn wsL_piece wsX6_piece := goodIn_ca (goodIn_ca (goodIn_ca (goodIn_r _ [6, 7, 8, 9, 10, 5, 11, 12, 13, 14, 15, 16, 17, 18, 19, 20, 21, 22, 23, 24, 25, 26, 27, 28, 29, 30, 31, 32, 33, 34, 35, 36, 37, 38, 39, 40, 41, 42, 43, 44, 45, 46, 47, 48, 49, 50, 51, 52, 53, 54, 55, 56, 57, 58, 59, 60, 61, 62, 63, 64, 65, 66, 67, 68, 69, 70, 71, 72, 73, 74] (by decide +kernel) (by decide +kernel)) (goodIn_sub (fun _ h => List.mem_cons_of_mem _ (List.mem_append_left _ (List.mem_append_right _ h))) (by decide +kernel))) (goodIn_sub (fun _ h => List.mem_cons_of_mem _ (List.mem_append_right _ h)) (by decide +kernel))) (goodIn_sub (fun _ h => List.mem_cons_of_mem _ (List.mem_append_left _ (List.mem_append_left _ (List.mem_append_right _ h)))) (by decide +kernel))
set_option maxRecDepth 20000 in
theorem gL_piece_X6_piece : GoodIn wsL_piece (wsV RL 32 RX6 yX6_piece wsX6_piece) := goodIn_app (goodIn_of _ (by decide +kernel)) ggL_piece_X6_piece
theorem dL_piece_0 : decode cL_piece 0 = .ok (.aload_n 3, 1) := by decide +kernel
theorem dL_piece_1 : decode cL_piece 1 = .ok (.iconst 0, 1) := by decide +kernel
theorem dL_piece_2 : decode cL_piece 2 = .ok (.aload_n 0, 1) := by decide +kernel
theorem dL_piece_3 : decode cL_piece 3 = .ok (.iload_n 1, 1) := by decide +kernel
theorem dL_piece_4 : decode cL_piece 4 = .ok (.iload_n 2, 1) := by decide +kernel
theorem dL_piece_5 : decode cL_piece 5 = .ok (.invokevirtual 32, 3) := by decide +kernel
theorem dL_piece_8 : decode cL_piece 8 = .ok (.i2l, 1) := by decide +kernel
theorem dL_piece_9 : decode cL_piece 9 = .ok (.lastore, 1) := by decide +kernel
theorem dL_piece_10 : decode cL_piece 10 = .ok (.goto 11, 3) := by decide +kernel
theorem dL_piece_13 : decode cL_piece 13 = .ok (.astore 4, 2) := by decide +kernel
theorem dL_piece_15 : decode cL_piece 15 = .ok (.iconst 1, 1) := by decide +kernel
theorem dL_piece_16 : decode cL_piece 16 = .ok (.ireturn, 1) := by decide +kernel
theorem dL_piece_17 : decode cL_piece 17 = .ok (.astore 4, 2) := by decide +kernel
theorem dL_piece_19 : decode cL_piece 19 = .ok (.iconst 2, 1) := by decide +kernel
theorem dL_piece_20 : decode cL_piece 20 = .ok (.ireturn, 1) := by decide +kernel
theorem dL_piece_21 : decode cL_piece 21 = .ok (.iconst 0, 1) := by decide +kernel
theorem dL_piece_22 : decode cL_piece 22 = .ok (.ireturn, 1) := by decide +kernel
set_option maxRecDepth 20000 in
theorem ggL_kind_X6_kind : GoodIn wsL_kind wsX6_kind := goodIn_ca (goodIn_ca (goodIn_ca (goodIn_ca (goodIn_r _ [6, 7, 8, 9, 10, 11, 12, 13, 14, 15, 16, 5, 17, 18, 19, 20, 21, 22, 23, 24, 25, 26, 27, 28, 29, 30, 31, 32, 33, 34, 35, 36, 37, 38, 39, 40, 41, 42, 43, 44, 45, 46, 47, 48, 49, 50, 51, 52, 53, 54, 55, 56, 57, 58, 59, 60, 61, 62, 63, 64, 65, 66, 67, 68, 69, 70, 71, 72, 73, 74] (by decide +kernel) (by decide +kernel)) (goodIn_sub (fun _ h => List.mem_cons_of_mem _ (List.mem_append_left _ (List.mem_append_left _ (List.mem_append_left _ (List.mem_append_right _ h))))) (by decide +kernel))) (goodIn_sub (fun _ h => List.mem_cons_of_mem _ (List.mem_append_left _ (List.mem_append_left _ (List.mem_append_right _ h)))) (by decide +kernel))) (goodIn_sub (fun _ h => List.mem_cons_of_mem _ (List.mem_append_left _ (List.mem_append_right _ h))) (by decide +kernel))) (goodIn_sub (fun _ h => List.mem_cons_of_mem _ (List.mem_append_right _ h)) (by decide +kernel))
set_option maxRecDepth 20000 in
theorem gL_kind_X6_kind : GoodIn wsL_kind (wsV RL 35 RX6 yX6_kind wsX6_kind) := goodIn_app (goodIn_of _ (by decide +kernel)) ggL_kind_X6_kind
theorem dL_kind_0 : decode cL_kind 0 = .ok (.aload_n 3, 1) := by decide +kernel
theorem dL_kind_1 : decode cL_kind 1 = .ok (.iconst 0, 1) := by decide +kernel
theorem dL_kind_2 : decode cL_kind 2 = .ok (.aload_n 0, 1) := by decide +kernel
theorem dL_kind_3 : decode cL_kind 3 = .ok (.iload_n 1, 1) := by decide +kernel
theorem dL_kind_4 : decode cL_kind 4 = .ok (.iload_n 2, 1) := by decide +kernel
theorem dL_kind_5 : decode cL_kind 5 = .ok (.invokevirtual 35, 3) := by decide +kernel
theorem dL_kind_8 : decode cL_kind 8 = .ok (.i2l, 1) := by decide +kernel
theorem dL_kind_9 : decode cL_kind 9 = .ok (.lastore, 1) := by decide +kernel
theorem dL_kind_10 : decode cL_kind 10 = .ok (.goto 15, 3) := by decide +kernel
theorem dL_kind_13 : decode cL_kind 13 = .ok (.astore 4, 2) := by decide +kernel
theorem dL_kind_15 : decode cL_kind 15 = .ok (.iconst 1, 1) := by decide +kernel
theorem dL_kind_16 : decode cL_kind 16 = .ok (.ireturn, 1) := by decide +kernel
theorem dL_kind_17 : decode cL_kind 17 = .ok (.astore 4, 2) := by decide +kernel
theorem dL_kind_19 : decode cL_kind 19 = .ok (.iconst 2, 1) := by decide +kernel
theorem dL_kind_20 : decode cL_kind 20 = .ok (.ireturn, 1) := by decide +kernel
theorem dL_kind_21 : decode cL_kind 21 = .ok (.astore 4, 2) := by decide +kernel
theorem dL_kind_23 : decode cL_kind 23 = .ok (.iconst 3, 1) := by decide +kernel
theorem dL_kind_24 : decode cL_kind 24 = .ok (.ireturn, 1) := by decide +kernel
theorem dL_kind_25 : decode cL_kind 25 = .ok (.iconst 0, 1) := by decide +kernel
theorem dL_kind_26 : decode cL_kind 26 = .ok (.ireturn, 1) := by decide +kernel
set_option maxRecDepth 20000 in
theorem ggL_kindOf_X6_kindOf : GoodIn wsL_kindOf wsX6_kindOf := goodIn_ca (goodIn_ca (goodIn_r _ [6, 7, 8, 9, 10, 5, 11, 12, 13, 14, 15, 16, 17, 18, 19, 20, 21, 22, 23, 24, 25, 26, 27, 28, 29, 30, 31, 32, 33, 34, 35, 36, 37, 38, 39, 40, 41, 42, 43, 44] (by decide +kernel) (by decide +kernel)) (goodIn_sub (fun _ h => List.mem_cons_of_mem _ (List.mem_append_right _ h)) (by decide +kernel))) (goodIn_sub (fun _ h => List.mem_cons_of_mem _ (List.mem_append_left _ (List.mem_append_right _ h))) (by decide +kernel))
set_option maxRecDepth 20000 in
theorem gL_kindOf_X6_kindOf : GoodIn wsL_kindOf (wsV RL 38 RX6 yX6_kindOf wsX6_kindOf) := goodIn_app (goodIn_of _ (by decide +kernel)) ggL_kindOf_X6_kindOf
theorem dL_kindOf_0 : decode cL_kindOf 0 = .ok (.aload_n 3, 1) := by decide +kernel
theorem dL_kindOf_1 : decode cL_kindOf 1 = .ok (.iconst 0, 1) := by decide +kernel
theorem dL_kindOf_2 : decode cL_kindOf 2 = .ok (.aload_n 0, 1) := by decide +kernel
theorem dL_kindOf_3 : decode cL_kindOf 3 = .ok (.iload_n 1, 1) := by decide +kernel
theorem dL_kindOf_4 : decode cL_kindOf 4 = .ok (.iload_n 2, 1) := by decide +kernel
theorem dL_kindOf_5 : decode cL_kindOf 5 = .ok (.invokevirtual 38, 3) := by decide +kernel
theorem dL_kindOf_8 : decode cL_kindOf 8 = .ok (.i2l, 1) := by decide +kernel
theorem dL_kindOf_9 : decode cL_kindOf 9 = .ok (.lastore, 1) := by decide +kernel
theorem dL_kindOf_10 : decode cL_kindOf 10 = .ok (.goto 7, 3) := by decide +kernel
theorem dL_kindOf_13 : decode cL_kindOf 13 = .ok (.astore 4, 2) := by decide +kernel
theorem dL_kindOf_15 : decode cL_kindOf 15 = .ok (.iconst 1, 1) := by decide +kernel
theorem dL_kindOf_16 : decode cL_kindOf 16 = .ok (.ireturn, 1) := by decide +kernel
theorem dL_kindOf_17 : decode cL_kindOf 17 = .ok (.iconst 0, 1) := by decide +kernel
theorem dL_kindOf_18 : decode cL_kindOf 18 = .ok (.ireturn, 1) := by decide +kernel
set_option maxRecDepth 20000 in
theorem ggL_isTight_X6_isTight : GoodIn wsL_isTight wsX6_isTight := goodIn_ca (goodIn_ca (goodIn_r _ [6, 7, 8, 9, 10, 5, 11, 12, 13, 14, 15, 16, 17, 18, 19, 20, 21, 22, 23, 24, 25, 26, 27, 28, 29, 30, 31, 32, 33, 34, 35, 36, 37, 38, 39, 40, 41, 42, 43, 44, 45, 46, 47, 48, 49, 50, 51, 52, 53, 54, 55, 56, 57, 58, 59, 60, 61, 62, 63, 64, 65, 66, 67, 68, 69, 70, 71, 72, 73, 74, 75, 76, 77, 78, 79, 80, 81, 82, 83, 84, 85, 86, 87] (by decide +kernel) (by decide +kernel)) (goodIn_sub (fun _ h => List.mem_cons_of_mem _ (List.mem_append_left _ (List.mem_append_right _ h))) (by decide +kernel))) (goodIn_sub (fun _ h => List.mem_cons_of_mem _ (List.mem_append_right _ h)) (by decide +kernel))
set_option maxRecDepth 20000 in
theorem gL_isTight_X6_isTight : GoodIn wsL_isTight (wsV RL 42 RX6 yX6_isTight wsX6_isTight) := goodIn_app (goodIn_of _ (by decide +kernel)) ggL_isTight_X6_isTight
theorem dL_isTight_0 : decode cL_isTight 0 = .ok (.aload_n 2, 1) := by decide +kernel
theorem dL_isTight_1 : decode cL_isTight 1 = .ok (.iconst 0, 1) := by decide +kernel
theorem dL_isTight_2 : decode cL_isTight 2 = .ok (.aload_n 0, 1) := by decide +kernel
theorem dL_isTight_3 : decode cL_isTight 3 = .ok (.iload_n 1, 1) := by decide +kernel
theorem dL_isTight_4 : decode cL_isTight 4 = .ok (.invokevirtual 42, 3) := by decide +kernel
theorem dL_isTight_7 : decode cL_isTight 7 = .ok (.ifCond .eq 7, 3) := by decide +kernel
theorem dL_isTight_10 : decode cL_isTight 10 = .ok (.lconst 1, 1) := by decide +kernel
theorem dL_isTight_11 : decode cL_isTight 11 = .ok (.goto 4, 3) := by decide +kernel
theorem dL_isTight_14 : decode cL_isTight 14 = .ok (.lconst 0, 1) := by decide +kernel
theorem dL_isTight_15 : decode cL_isTight 15 = .ok (.lastore, 1) := by decide +kernel
theorem dL_isTight_16 : decode cL_isTight 16 = .ok (.goto 9, 3) := by decide +kernel
theorem dL_isTight_19 : decode cL_isTight 19 = .ok (.astore_n 3, 1) := by decide +kernel
theorem dL_isTight_20 : decode cL_isTight 20 = .ok (.iconst 1, 1) := by decide +kernel
theorem dL_isTight_21 : decode cL_isTight 21 = .ok (.ireturn, 1) := by decide +kernel
theorem dL_isTight_22 : decode cL_isTight 22 = .ok (.astore_n 3, 1) := by decide +kernel
theorem dL_isTight_23 : decode cL_isTight 23 = .ok (.iconst 2, 1) := by decide +kernel
theorem dL_isTight_24 : decode cL_isTight 24 = .ok (.ireturn, 1) := by decide +kernel
theorem dL_isTight_25 : decode cL_isTight 25 = .ok (.iconst 0, 1) := by decide +kernel
theorem dL_isTight_26 : decode cL_isTight 26 = .ok (.ireturn, 1) := by decide +kernel
set_option maxRecDepth 20000 in
theorem ggL_widestGap_X6_widestGap : GoodIn wsL_widestGap wsX6_widestGap := goodIn_ca (goodIn_r _ [6, 7, 8, 9, 10, 11, 12, 13, 5, 14, 15, 16, 17, 18, 19, 20, 21, 22, 23, 24, 25, 26, 27, 28, 29, 30, 31, 32, 33, 34, 35, 36, 37, 38, 39, 40, 41, 42, 43, 44, 45, 46, 47, 48, 49, 50, 51, 52, 53, 54, 55, 56, 57, 58, 59, 60, 61, 62, 63, 64, 65, 66, 67, 68, 69, 70, 71, 72, 73, 74, 75, 76] (by decide +kernel) (by decide +kernel)) (goodIn_sub (fun _ h => List.mem_cons_of_mem _ (List.mem_append_right _ h)) (by decide +kernel))
set_option maxRecDepth 20000 in
theorem gL_widestGap_X6_widestGap : GoodIn wsL_widestGap (wsV RL 46 RX6 yX6_widestGap wsX6_widestGap) := goodIn_app (goodIn_of _ (by decide +kernel)) ggL_widestGap_X6_widestGap
theorem dL_widestGap_0 : decode cL_widestGap 0 = .ok (.aload_n 1, 1) := by decide +kernel
theorem dL_widestGap_1 : decode cL_widestGap 1 = .ok (.iconst 0, 1) := by decide +kernel
theorem dL_widestGap_2 : decode cL_widestGap 2 = .ok (.aload_n 0, 1) := by decide +kernel
theorem dL_widestGap_3 : decode cL_widestGap 3 = .ok (.invokevirtual 46, 3) := by decide +kernel
theorem dL_widestGap_6 : decode cL_widestGap 6 = .ok (.i2l, 1) := by decide +kernel
theorem dL_widestGap_7 : decode cL_widestGap 7 = .ok (.lastore, 1) := by decide +kernel
theorem dL_widestGap_8 : decode cL_widestGap 8 = .ok (.goto 6, 3) := by decide +kernel
theorem dL_widestGap_11 : decode cL_widestGap 11 = .ok (.astore_n 2, 1) := by decide +kernel
theorem dL_widestGap_12 : decode cL_widestGap 12 = .ok (.iconst 1, 1) := by decide +kernel
theorem dL_widestGap_13 : decode cL_widestGap 13 = .ok (.ireturn, 1) := by decide +kernel
theorem dL_widestGap_14 : decode cL_widestGap 14 = .ok (.iconst 0, 1) := by decide +kernel
theorem dL_widestGap_15 : decode cL_widestGap 15 = .ok (.ireturn, 1) := by decide +kernel
set_option maxRecDepth 20000 in
theorem ggL_loosest_X6_loosest : GoodIn wsL_loosest wsX6_loosest := goodIn_ca (goodIn_r _ [6, 7, 8, 9, 10, 11, 12, 13, 14, 5, 15, 16, 17, 18, 19, 20, 21, 22, 23, 24, 25, 26, 27, 28, 29, 30, 31, 32, 33, 34, 35, 36, 37, 38, 39, 40, 41, 42, 43, 44, 45, 46, 47, 48, 49, 50, 51, 52, 53, 54, 55, 56, 57, 58, 59, 60, 61, 62, 63, 64, 65, 66, 67, 68, 69, 70, 71, 72, 73, 74, 75, 76, 77, 78, 79, 80, 81, 82] (by decide +kernel) (by decide +kernel)) (goodIn_sub (fun _ h => List.mem_cons_of_mem _ (List.mem_append_right _ h)) (by decide +kernel))
set_option maxRecDepth 20000 in
theorem gL_loosest_X6_loosest : GoodIn wsL_loosest (wsV RL 50 RX6 yX6_loosest wsX6_loosest) := goodIn_app (goodIn_of _ (by decide +kernel)) ggL_loosest_X6_loosest
theorem dL_loosest_0 : decode cL_loosest 0 = .ok (.aload_n 1, 1) := by decide +kernel
theorem dL_loosest_1 : decode cL_loosest 1 = .ok (.iconst 0, 1) := by decide +kernel
theorem dL_loosest_2 : decode cL_loosest 2 = .ok (.aload_n 0, 1) := by decide +kernel
theorem dL_loosest_3 : decode cL_loosest 3 = .ok (.invokevirtual 50, 3) := by decide +kernel
theorem dL_loosest_6 : decode cL_loosest 6 = .ok (.i2l, 1) := by decide +kernel
theorem dL_loosest_7 : decode cL_loosest 7 = .ok (.lastore, 1) := by decide +kernel
theorem dL_loosest_8 : decode cL_loosest 8 = .ok (.goto 6, 3) := by decide +kernel
theorem dL_loosest_11 : decode cL_loosest 11 = .ok (.astore_n 2, 1) := by decide +kernel
theorem dL_loosest_12 : decode cL_loosest 12 = .ok (.iconst 1, 1) := by decide +kernel
theorem dL_loosest_13 : decode cL_loosest 13 = .ok (.ireturn, 1) := by decide +kernel
theorem dL_loosest_14 : decode cL_loosest 14 = .ok (.iconst 0, 1) := by decide +kernel
theorem dL_loosest_15 : decode cL_loosest 15 = .ok (.ireturn, 1) := by decide +kernel
set_option maxRecDepth 20000 in
theorem ggL_longestLeft_X6_longestLeft : GoodIn wsL_longestLeft wsX6_longestLeft := goodIn_ca (goodIn_ca (goodIn_r _ [6, 7, 8, 9, 10, 11, 12, 13, 14, 5, 15, 16, 17, 18, 19, 20, 21, 22, 23, 24, 25, 26, 27, 28, 29, 30, 31, 32, 33, 34, 35, 36, 37, 38, 39, 40, 41, 42, 43, 44, 45, 46, 47, 48] (by decide +kernel) (by decide +kernel)) (goodIn_sub (fun _ h => List.mem_cons_of_mem _ (List.mem_append_left _ (List.mem_append_right _ h))) (by decide +kernel))) (goodIn_sub (fun _ h => List.mem_cons_of_mem _ (List.mem_append_right _ h)) (by decide +kernel))
set_option maxRecDepth 20000 in
theorem gL_longestLeft_X6_longestLeft : GoodIn wsL_longestLeft (wsV RL 53 RX6 yX6_longestLeft wsX6_longestLeft) := goodIn_app (goodIn_of _ (by decide +kernel)) ggL_longestLeft_X6_longestLeft
theorem dL_longestLeft_0 : decode cL_longestLeft 0 = .ok (.aload_n 1, 1) := by decide +kernel
theorem dL_longestLeft_1 : decode cL_longestLeft 1 = .ok (.iconst 0, 1) := by decide +kernel
theorem dL_longestLeft_2 : decode cL_longestLeft 2 = .ok (.aload_n 0, 1) := by decide +kernel
theorem dL_longestLeft_3 : decode cL_longestLeft 3 = .ok (.invokevirtual 53, 3) := by decide +kernel
theorem dL_longestLeft_6 : decode cL_longestLeft 6 = .ok (.i2l, 1) := by decide +kernel
theorem dL_longestLeft_7 : decode cL_longestLeft 7 = .ok (.lastore, 1) := by decide +kernel
theorem dL_longestLeft_8 : decode cL_longestLeft 8 = .ok (.goto 6, 3) := by decide +kernel
theorem dL_longestLeft_11 : decode cL_longestLeft 11 = .ok (.astore_n 2, 1) := by decide +kernel
theorem dL_longestLeft_12 : decode cL_longestLeft 12 = .ok (.iconst 1, 1) := by decide +kernel
theorem dL_longestLeft_13 : decode cL_longestLeft 13 = .ok (.ireturn, 1) := by decide +kernel
theorem dL_longestLeft_14 : decode cL_longestLeft 14 = .ok (.iconst 0, 1) := by decide +kernel
theorem dL_longestLeft_15 : decode cL_longestLeft 15 = .ok (.ireturn, 1) := by decide +kernel
set_option maxRecDepth 20000 in
theorem ggL_lengthLeft_X6_lengthLeft : GoodIn wsL_lengthLeft wsX6_lengthLeft := goodIn_ca (goodIn_ca (goodIn_r _ [6, 7, 8, 9, 10, 11, 12, 13, 14, 5, 15, 16, 17, 18, 19, 20, 21, 22, 23, 24, 25, 26, 27, 28, 29, 30, 31, 32, 33, 34, 35, 36, 37, 38, 39, 40, 41, 42, 43, 44, 45, 46, 47, 48] (by decide +kernel) (by decide +kernel)) (goodIn_sub (fun _ h => List.mem_cons_of_mem _ (List.mem_append_left _ (List.mem_append_right _ h))) (by decide +kernel))) (goodIn_sub (fun _ h => List.mem_cons_of_mem _ (List.mem_append_right _ h)) (by decide +kernel))
set_option maxRecDepth 20000 in
theorem gL_lengthLeft_X6_lengthLeft : GoodIn wsL_lengthLeft (wsV RL 56 RX6 yX6_lengthLeft wsX6_lengthLeft) := goodIn_app (goodIn_of _ (by decide +kernel)) ggL_lengthLeft_X6_lengthLeft
theorem dL_lengthLeft_0 : decode cL_lengthLeft 0 = .ok (.aload_n 1, 1) := by decide +kernel
theorem dL_lengthLeft_1 : decode cL_lengthLeft 1 = .ok (.iconst 0, 1) := by decide +kernel
theorem dL_lengthLeft_2 : decode cL_lengthLeft 2 = .ok (.aload_n 0, 1) := by decide +kernel
theorem dL_lengthLeft_3 : decode cL_lengthLeft 3 = .ok (.invokevirtual 56, 3) := by decide +kernel
theorem dL_lengthLeft_6 : decode cL_lengthLeft 6 = .ok (.i2l, 1) := by decide +kernel
theorem dL_lengthLeft_7 : decode cL_lengthLeft 7 = .ok (.lastore, 1) := by decide +kernel
theorem dL_lengthLeft_8 : decode cL_lengthLeft 8 = .ok (.goto 6, 3) := by decide +kernel
theorem dL_lengthLeft_11 : decode cL_lengthLeft 11 = .ok (.astore_n 2, 1) := by decide +kernel
theorem dL_lengthLeft_12 : decode cL_lengthLeft 12 = .ok (.iconst 1, 1) := by decide +kernel
theorem dL_lengthLeft_13 : decode cL_lengthLeft 13 = .ok (.ireturn, 1) := by decide +kernel
theorem dL_lengthLeft_14 : decode cL_lengthLeft 14 = .ok (.iconst 0, 1) := by decide +kernel
theorem dL_lengthLeft_15 : decode cL_lengthLeft 15 = .ok (.ireturn, 1) := by decide +kernel
set_option maxRecDepth 20000 in
theorem ggL_meanGap_X6_meanGap : GoodIn wsL_meanGap wsX6_meanGap := goodIn_ca (goodIn_r _ [6, 7, 8, 9, 10, 11, 12, 13, 5, 14, 15, 16, 17, 18, 19, 20, 21, 22, 23, 24, 25, 26, 27, 28, 29, 30, 31, 32, 33, 34, 35, 36, 37, 38, 39, 40, 41, 42, 43, 44, 45, 46, 47, 48, 49, 50, 51, 52, 53, 54, 55, 56, 57, 58, 59, 60, 61, 62, 63, 64, 65, 66, 67, 68, 69, 70, 71, 72, 73, 74, 75, 76] (by decide +kernel) (by decide +kernel)) (goodIn_sub (fun _ h => List.mem_cons_of_mem _ (List.mem_append_right _ h)) (by decide +kernel))
set_option maxRecDepth 20000 in
theorem gL_meanGap_X6_meanGap : GoodIn wsL_meanGap (wsV RL 59 RX6 yX6_meanGap wsX6_meanGap) := goodIn_app (goodIn_of _ (by decide +kernel)) ggL_meanGap_X6_meanGap
theorem dL_meanGap_0 : decode cL_meanGap 0 = .ok (.aload_n 1, 1) := by decide +kernel
theorem dL_meanGap_1 : decode cL_meanGap 1 = .ok (.iconst 0, 1) := by decide +kernel
theorem dL_meanGap_2 : decode cL_meanGap 2 = .ok (.aload_n 0, 1) := by decide +kernel
theorem dL_meanGap_3 : decode cL_meanGap 3 = .ok (.invokevirtual 59, 3) := by decide +kernel
theorem dL_meanGap_6 : decode cL_meanGap 6 = .ok (.dastore, 1) := by decide +kernel
theorem dL_meanGap_7 : decode cL_meanGap 7 = .ok (.goto 6, 3) := by decide +kernel
theorem dL_meanGap_10 : decode cL_meanGap 10 = .ok (.astore_n 2, 1) := by decide +kernel
theorem dL_meanGap_11 : decode cL_meanGap 11 = .ok (.iconst 1, 1) := by decide +kernel
theorem dL_meanGap_12 : decode cL_meanGap 12 = .ok (.ireturn, 1) := by decide +kernel
theorem dL_meanGap_13 : decode cL_meanGap 13 = .ok (.iconst 0, 1) := by decide +kernel
theorem dL_meanGap_14 : decode cL_meanGap 14 = .ok (.ireturn, 1) := by decide +kernel
set_option maxRecDepth 20000 in
theorem ggL_woodShare_X6_woodShare : GoodIn wsL_woodShare wsX6_woodShare := goodIn_ca (goodIn_ca (goodIn_r _ [6, 7, 8, 9, 10, 11, 12, 13, 5, 14, 15, 16, 17, 18, 19, 20, 21, 22, 23, 24, 25, 26, 27, 28, 29, 30, 31, 32, 33, 34, 35, 36, 37, 38, 39, 40, 41, 42, 43, 44, 45, 46, 47, 48, 49, 50, 51, 52, 53, 54, 55, 56, 57, 58, 59, 60, 61, 62, 63, 64, 65, 66, 67, 68, 69, 70, 71, 72, 73, 74, 75] (by decide +kernel) (by decide +kernel)) (goodIn_sub (fun _ h => List.mem_cons_of_mem _ (List.mem_append_right _ h)) (by decide +kernel))) (goodIn_sub (fun _ h => List.mem_cons_of_mem _ (List.mem_append_left _ (List.mem_append_right _ h))) (by decide +kernel))
set_option maxRecDepth 20000 in
theorem gL_woodShare_X6_woodShare : GoodIn wsL_woodShare (wsV RL 63 RX6 yX6_woodShare wsX6_woodShare) := goodIn_app (goodIn_of _ (by decide +kernel)) ggL_woodShare_X6_woodShare
theorem dL_woodShare_0 : decode cL_woodShare 0 = .ok (.aload_n 1, 1) := by decide +kernel
theorem dL_woodShare_1 : decode cL_woodShare 1 = .ok (.iconst 0, 1) := by decide +kernel
theorem dL_woodShare_2 : decode cL_woodShare 2 = .ok (.aload_n 0, 1) := by decide +kernel
theorem dL_woodShare_3 : decode cL_woodShare 3 = .ok (.invokevirtual 63, 3) := by decide +kernel
theorem dL_woodShare_6 : decode cL_woodShare 6 = .ok (.f2d, 1) := by decide +kernel
theorem dL_woodShare_7 : decode cL_woodShare 7 = .ok (.dastore, 1) := by decide +kernel
theorem dL_woodShare_8 : decode cL_woodShare 8 = .ok (.goto 6, 3) := by decide +kernel
theorem dL_woodShare_11 : decode cL_woodShare 11 = .ok (.astore_n 2, 1) := by decide +kernel
theorem dL_woodShare_12 : decode cL_woodShare 12 = .ok (.iconst 1, 1) := by decide +kernel
theorem dL_woodShare_13 : decode cL_woodShare 13 = .ok (.ireturn, 1) := by decide +kernel
theorem dL_woodShare_14 : decode cL_woodShare 14 = .ok (.iconst 0, 1) := by decide +kernel
theorem dL_woodShare_15 : decode cL_woodShare 15 = .ok (.ireturn, 1) := by decide +kernel
set_option maxRecDepth 20000 in
theorem ggL_goodShare_X6_goodShare : GoodIn wsL_goodShare wsX6_goodShare := goodIn_ca (goodIn_r _ [6, 7, 8, 9, 10, 11, 12, 5, 13, 14, 15, 16, 17, 18, 19, 20, 21, 22, 23, 24, 25, 26, 27, 28, 29, 30, 31, 32, 33, 34, 35, 36, 37, 38] (by decide +kernel) (by decide +kernel)) (goodIn_sub (fun _ h => List.mem_cons_of_mem _ (List.mem_append_right _ h)) (by decide +kernel))
set_option maxRecDepth 20000 in
theorem gL_goodShare_X6_goodShare : GoodIn wsL_goodShare (wsV RL 67 RX6 yX6_goodShare wsX6_goodShare) := goodIn_app (goodIn_of _ (by decide +kernel)) ggL_goodShare_X6_goodShare
theorem dL_goodShare_0 : decode cL_goodShare 0 = .ok (.aload_n 1, 1) := by decide +kernel
theorem dL_goodShare_1 : decode cL_goodShare 1 = .ok (.iconst 0, 1) := by decide +kernel
theorem dL_goodShare_2 : decode cL_goodShare 2 = .ok (.aload_n 0, 1) := by decide +kernel
theorem dL_goodShare_3 : decode cL_goodShare 3 = .ok (.invokevirtual 67, 3) := by decide +kernel
theorem dL_goodShare_6 : decode cL_goodShare 6 = .ok (.f2d, 1) := by decide +kernel
theorem dL_goodShare_7 : decode cL_goodShare 7 = .ok (.dastore, 1) := by decide +kernel
theorem dL_goodShare_8 : decode cL_goodShare 8 = .ok (.goto 6, 3) := by decide +kernel
theorem dL_goodShare_11 : decode cL_goodShare 11 = .ok (.astore_n 2, 1) := by decide +kernel
theorem dL_goodShare_12 : decode cL_goodShare 12 = .ok (.iconst 1, 1) := by decide +kernel
theorem dL_goodShare_13 : decode cL_goodShare 13 = .ok (.ireturn, 1) := by decide +kernel
theorem dL_goodShare_14 : decode cL_goodShare 14 = .ok (.iconst 0, 1) := by decide +kernel
theorem dL_goodShare_15 : decode cL_goodShare 15 = .ok (.ireturn, 1) := by decide +kernel
set_option maxRecDepth 20000 in
theorem ggL_choice_X6_choice : GoodIn wsL_choice wsX6_choice := goodIn_ca (goodIn_ca (goodIn_ca (goodIn_ca (goodIn_r _ [6, 7, 8, 9, 10, 11, 12, 13, 14, 15, 16, 17, 5, 18, 19, 20, 21, 22, 23, 24, 25, 26, 27, 28, 29, 30, 31, 32, 33, 34, 35, 36, 37, 38, 39, 40, 41, 42, 43, 44, 45, 46, 47, 48, 49, 50, 51, 52, 53, 54, 55, 56, 57, 58, 59, 60, 61, 62, 63, 64, 65, 66, 67, 68, 69, 70, 71, 72, 73, 74, 75, 76, 77, 78, 79, 80, 81, 82, 83, 84, 85, 86, 87, 88, 89, 90, 91, 92, 93, 94, 95, 96, 97, 98, 99, 100, 101, 102, 103, 104, 105, 106, 107, 108, 109, 110, 111, 112, 113, 114, 115, 116, 117, 118, 119, 120, 121, 122, 123, 124, 125, 126, 127, 128, 129, 130, 131, 132, 133, 134, 135, 136, 137, 138, 139, 140, 141, 142, 143, 144, 145, 146, 147, 148, 149, 150, 151, 152, 153, 154, 155, 156, 157, 158, 159, 160, 161, 162, 163, 164, 165, 166] (by decide +kernel) (by decide +kernel)) (goodIn_sub (fun _ h => List.mem_cons_of_mem _ (List.mem_append_left _ (List.mem_append_left _ (List.mem_append_right _ h)))) (by decide +kernel))) (goodIn_sub (fun _ h => List.mem_cons_of_mem _ (List.mem_append_left _ (List.mem_append_right _ h))) (by decide +kernel))) (goodIn_sub (fun _ h => List.mem_cons_of_mem _ (List.mem_append_right _ h)) (by decide +kernel))) (goodIn_sub (fun _ h => List.mem_cons_of_mem _ (List.mem_append_left _ (List.mem_append_left _ (List.mem_append_left _ (List.mem_append_right _ h))))) (by decide +kernel))
set_option maxRecDepth 20000 in
theorem gL_choice_X6_choice : GoodIn wsL_choice (wsV RL 70 RX6 yX6_choice wsX6_choice) := goodIn_app (goodIn_of _ (by decide +kernel)) ggL_choice_X6_choice
theorem dL_choice_0 : decode cL_choice 0 = .ok (.aload_n 3, 1) := by decide +kernel
theorem dL_choice_1 : decode cL_choice 1 = .ok (.iconst 0, 1) := by decide +kernel
theorem dL_choice_2 : decode cL_choice 2 = .ok (.aload_n 0, 1) := by decide +kernel
theorem dL_choice_3 : decode cL_choice 3 = .ok (.iload_n 1, 1) := by decide +kernel
theorem dL_choice_4 : decode cL_choice 4 = .ok (.iload_n 2, 1) := by decide +kernel
theorem dL_choice_5 : decode cL_choice 5 = .ok (.invokevirtual 70, 3) := by decide +kernel
theorem dL_choice_8 : decode cL_choice 8 = .ok (.i2l, 1) := by decide +kernel
theorem dL_choice_9 : decode cL_choice 9 = .ok (.lastore, 1) := by decide +kernel
theorem dL_choice_10 : decode cL_choice 10 = .ok (.goto 15, 3) := by decide +kernel
theorem dL_choice_13 : decode cL_choice 13 = .ok (.astore 4, 2) := by decide +kernel
theorem dL_choice_15 : decode cL_choice 15 = .ok (.iconst 1, 1) := by decide +kernel
theorem dL_choice_16 : decode cL_choice 16 = .ok (.ireturn, 1) := by decide +kernel
theorem dL_choice_17 : decode cL_choice 17 = .ok (.astore 4, 2) := by decide +kernel
theorem dL_choice_19 : decode cL_choice 19 = .ok (.iconst 2, 1) := by decide +kernel
theorem dL_choice_20 : decode cL_choice 20 = .ok (.ireturn, 1) := by decide +kernel
theorem dL_choice_21 : decode cL_choice 21 = .ok (.astore 4, 2) := by decide +kernel
theorem dL_choice_23 : decode cL_choice 23 = .ok (.iconst 3, 1) := by decide +kernel
theorem dL_choice_24 : decode cL_choice 24 = .ok (.ireturn, 1) := by decide +kernel
theorem dL_choice_25 : decode cL_choice 25 = .ok (.iconst 0, 1) := by decide +kernel
theorem dL_choice_26 : decode cL_choice 26 = .ok (.ireturn, 1) := by decide +kernel
set_option maxRecDepth 20000 in
theorem ggL_chosen_X6_chosen : GoodIn wsL_chosen wsX6_chosen := goodIn_ca (goodIn_ca (goodIn_ca (goodIn_r _ [6, 7, 8, 9, 10, 11, 12, 5, 13, 14, 15, 16, 17, 18, 19, 20, 21, 22, 23, 24, 25, 26, 27, 28, 29, 30, 31, 32, 33, 34, 35, 36, 37, 38, 39, 40, 41, 42, 43, 44, 45, 46, 47, 48, 49, 50, 51, 52, 53, 54, 55, 56, 57, 58, 59, 60, 61, 62, 63, 64, 65, 66, 67, 68, 69, 70, 71, 72, 73, 74, 75, 76, 77, 78, 79, 80, 81, 82, 83, 84, 85, 86, 87, 88, 89, 90, 91, 92, 93, 94, 95, 96, 97, 98, 99, 100, 101, 102, 103, 104, 105, 106, 107, 108, 109, 110, 111, 112, 113, 114, 115, 116, 117, 118, 119, 120, 121, 122, 123, 124, 125, 126, 127, 128, 129, 130, 131, 132, 133, 134, 135, 136, 137, 138, 139, 140, 141, 142, 143, 144, 145, 146, 147, 148, 149, 150, 151, 152, 153, 154, 155, 156, 157, 158, 159, 160, 161, 162] (by decide +kernel) (by decide +kernel)) (goodIn_sub (fun _ h => List.mem_cons_of_mem _ (List.mem_append_left _ (List.mem_append_left _ (List.mem_append_right _ h)))) (by decide +kernel))) (goodIn_sub (fun _ h => List.mem_cons_of_mem _ (List.mem_append_left _ (List.mem_append_right _ h))) (by decide +kernel))) (goodIn_sub (fun _ h => List.mem_cons_of_mem _ (List.mem_append_right _ h)) (by decide +kernel))
set_option maxRecDepth 20000 in
theorem gL_chosen_X6_chosen : GoodIn wsL_chosen (wsV RL 73 RX6 yX6_chosen wsX6_chosen) := goodIn_app (goodIn_of _ (by decide +kernel)) ggL_chosen_X6_chosen
theorem dL_chosen_0 : decode cL_chosen 0 = .ok (.aload_n 3, 1) := by decide +kernel
theorem dL_chosen_1 : decode cL_chosen 1 = .ok (.iconst 0, 1) := by decide +kernel
theorem dL_chosen_2 : decode cL_chosen 2 = .ok (.aload_n 0, 1) := by decide +kernel
theorem dL_chosen_3 : decode cL_chosen 3 = .ok (.iload_n 1, 1) := by decide +kernel
theorem dL_chosen_4 : decode cL_chosen 4 = .ok (.iload_n 2, 1) := by decide +kernel
theorem dL_chosen_5 : decode cL_chosen 5 = .ok (.invokevirtual 73, 3) := by decide +kernel
theorem dL_chosen_8 : decode cL_chosen 8 = .ok (.i2l, 1) := by decide +kernel
theorem dL_chosen_9 : decode cL_chosen 9 = .ok (.lastore, 1) := by decide +kernel
theorem dL_chosen_10 : decode cL_chosen 10 = .ok (.goto 11, 3) := by decide +kernel
theorem dL_chosen_13 : decode cL_chosen 13 = .ok (.astore 4, 2) := by decide +kernel
theorem dL_chosen_15 : decode cL_chosen 15 = .ok (.iconst 1, 1) := by decide +kernel
theorem dL_chosen_16 : decode cL_chosen 16 = .ok (.ireturn, 1) := by decide +kernel
theorem dL_chosen_17 : decode cL_chosen 17 = .ok (.astore 4, 2) := by decide +kernel
theorem dL_chosen_19 : decode cL_chosen 19 = .ok (.iconst 2, 1) := by decide +kernel
theorem dL_chosen_20 : decode cL_chosen 20 = .ok (.ireturn, 1) := by decide +kernel
theorem dL_chosen_21 : decode cL_chosen 21 = .ok (.iconst 0, 1) := by decide +kernel
theorem dL_chosen_22 : decode cL_chosen 22 = .ok (.ireturn, 1) := by decide +kernel
set_option maxRecDepth 20000 in
theorem ggL_ways_X6_ways : GoodIn wsL_ways wsX6_ways := goodIn_ca (goodIn_ca (goodIn_ca (goodIn_r _ [6, 7, 8, 9, 10, 11, 12, 5, 13, 14, 15, 16, 17, 18, 19, 20, 21, 22, 23, 24, 25, 26, 27, 28, 29, 30, 31, 32, 33, 34, 35, 36, 37, 38, 39, 40, 41, 42, 43, 44, 45, 46, 47, 48, 49, 50, 51, 52, 53, 54, 55, 56, 57, 58, 59, 60, 61, 62, 63, 64, 65, 66, 67, 68, 69, 70, 71, 72, 73, 74, 75, 76, 77, 78, 79, 80, 81, 82, 83, 84, 85, 86, 87, 88, 89, 90, 91, 92, 93, 94, 95, 96, 97, 98, 99, 100, 101, 102, 103, 104, 105, 106, 107, 108, 109, 110, 111, 112, 113, 114, 115, 116, 117, 118, 119, 120, 121, 122, 123, 124, 125] (by decide +kernel) (by decide +kernel)) (goodIn_sub (fun _ h => List.mem_cons_of_mem _ (List.mem_append_left _ (List.mem_append_right _ h))) (by decide +kernel))) (goodIn_sub (fun _ h => List.mem_cons_of_mem _ (List.mem_append_right _ h)) (by decide +kernel))) (goodIn_sub (fun _ h => List.mem_cons_of_mem _ (List.mem_append_left _ (List.mem_append_left _ (List.mem_append_right _ h)))) (by decide +kernel))
set_option maxRecDepth 20000 in
theorem gL_ways_X6_ways : GoodIn wsL_ways (wsV RL 76 RX6 yX6_ways wsX6_ways) := goodIn_app (goodIn_of _ (by decide +kernel)) ggL_ways_X6_ways
theorem dL_ways_0 : decode cL_ways 0 = .ok (.aload_n 2, 1) := by decide +kernel
theorem dL_ways_1 : decode cL_ways 1 = .ok (.iconst 0, 1) := by decide +kernel
theorem dL_ways_2 : decode cL_ways 2 = .ok (.aload_n 0, 1) := by decide +kernel
theorem dL_ways_3 : decode cL_ways 3 = .ok (.iload_n 1, 1) := by decide +kernel
theorem dL_ways_4 : decode cL_ways 4 = .ok (.invokevirtual 76, 3) := by decide +kernel
theorem dL_ways_7 : decode cL_ways 7 = .ok (.i2l, 1) := by decide +kernel
theorem dL_ways_8 : decode cL_ways 8 = .ok (.lastore, 1) := by decide +kernel
theorem dL_ways_9 : decode cL_ways 9 = .ok (.goto 9, 3) := by decide +kernel
theorem dL_ways_12 : decode cL_ways 12 = .ok (.astore_n 3, 1) := by decide +kernel
theorem dL_ways_13 : decode cL_ways 13 = .ok (.iconst 1, 1) := by decide +kernel
theorem dL_ways_14 : decode cL_ways 14 = .ok (.ireturn, 1) := by decide +kernel
theorem dL_ways_15 : decode cL_ways 15 = .ok (.astore_n 3, 1) := by decide +kernel
theorem dL_ways_16 : decode cL_ways 16 = .ok (.iconst 2, 1) := by decide +kernel
theorem dL_ways_17 : decode cL_ways 17 = .ok (.ireturn, 1) := by decide +kernel
theorem dL_ways_18 : decode cL_ways 18 = .ok (.iconst 0, 1) := by decide +kernel
theorem dL_ways_19 : decode cL_ways 19 = .ok (.ireturn, 1) := by decide +kernel
set_option maxRecDepth 20000 in
theorem ggL_nearest_X6_nearest : GoodIn wsL_nearest wsX6_nearest := goodIn_ca (goodIn_ca (goodIn_ca (goodIn_r _ [6, 7, 8, 9, 10, 11, 12, 13, 14, 15, 16, 17, 18, 5, 19, 20, 21, 22, 23, 24, 25, 26, 27, 28, 29, 30, 31, 32, 33, 34, 35, 36, 37, 38, 39, 40, 41, 42, 43, 44, 45, 46, 47, 48, 49, 50, 51, 52, 53, 54, 55, 56, 57, 58, 59, 60, 61, 62, 63, 64, 65, 66, 67, 68, 69, 70, 71, 72, 73, 74, 75, 76, 77, 78, 79, 80, 81, 82, 83, 84, 85, 86, 87, 88, 89, 90, 91, 92, 93, 94, 95, 96, 97, 98, 99, 100, 101, 102, 103, 104, 105, 106, 107, 108, 109, 110, 111, 112, 113, 114, 115, 116, 117, 118, 119, 120, 121, 122, 123, 124, 125, 126, 127, 128, 129] (by decide +kernel) (by decide +kernel)) (goodIn_sub (fun _ h => List.mem_cons_of_mem _ (List.mem_append_left _ (List.mem_append_right _ h))) (by decide +kernel))) (goodIn_sub (fun _ h => List.mem_cons_of_mem _ (List.mem_append_right _ h)) (by decide +kernel))) (goodIn_sub (fun _ h => List.mem_cons_of_mem _ (List.mem_append_left _ (List.mem_append_left _ (List.mem_append_right _ h)))) (by decide +kernel))
set_option maxRecDepth 20000 in
theorem gL_nearest_X6_nearest : GoodIn wsL_nearest (wsV RL 79 RX6 yX6_nearest wsX6_nearest) := goodIn_app (goodIn_of _ (by decide +kernel)) ggL_nearest_X6_nearest
theorem dL_nearest_0 : decode cL_nearest 0 = .ok (.aload_n 2, 1) := by decide +kernel
theorem dL_nearest_1 : decode cL_nearest 1 = .ok (.iconst 0, 1) := by decide +kernel
theorem dL_nearest_2 : decode cL_nearest 2 = .ok (.aload_n 0, 1) := by decide +kernel
theorem dL_nearest_3 : decode cL_nearest 3 = .ok (.iload_n 1, 1) := by decide +kernel
theorem dL_nearest_4 : decode cL_nearest 4 = .ok (.invokevirtual 79, 3) := by decide +kernel
theorem dL_nearest_7 : decode cL_nearest 7 = .ok (.i2l, 1) := by decide +kernel
theorem dL_nearest_8 : decode cL_nearest 8 = .ok (.lastore, 1) := by decide +kernel
theorem dL_nearest_9 : decode cL_nearest 9 = .ok (.goto 9, 3) := by decide +kernel
theorem dL_nearest_12 : decode cL_nearest 12 = .ok (.astore_n 3, 1) := by decide +kernel
theorem dL_nearest_13 : decode cL_nearest 13 = .ok (.iconst 1, 1) := by decide +kernel
theorem dL_nearest_14 : decode cL_nearest 14 = .ok (.ireturn, 1) := by decide +kernel
theorem dL_nearest_15 : decode cL_nearest 15 = .ok (.astore_n 3, 1) := by decide +kernel
theorem dL_nearest_16 : decode cL_nearest 16 = .ok (.iconst 2, 1) := by decide +kernel
theorem dL_nearest_17 : decode cL_nearest 17 = .ok (.ireturn, 1) := by decide +kernel
theorem dL_nearest_18 : decode cL_nearest 18 = .ok (.iconst 0, 1) := by decide +kernel
theorem dL_nearest_19 : decode cL_nearest 19 = .ok (.ireturn, 1) := by decide +kernel
set_option maxRecDepth 20000 in
theorem ggL_fewestAt_X6_fewestAt : GoodIn wsL_fewestAt wsX6_fewestAt := goodIn_ca (goodIn_ca (goodIn_ca (goodIn_ca (goodIn_r _ [6, 7, 8, 9, 10, 11, 12, 5, 13, 14, 15, 16, 17, 18, 19, 20, 21, 22, 23, 24, 25, 26, 27, 28, 29, 30, 31, 32, 33, 34, 35, 36, 37, 38, 39, 40, 41, 42, 43, 44, 45, 46, 47, 48, 49, 50, 51, 52, 53, 54, 55, 56, 57, 58, 59, 60, 61, 62, 63, 64, 65, 66, 67, 68, 69, 70, 71, 72, 73, 74, 75, 76, 77, 78, 79, 80, 81, 82, 83, 84, 85, 86, 87, 88, 89, 90, 91, 92, 93, 94, 95, 96, 97, 98, 99, 100, 101, 102, 103, 104, 105, 106, 107, 108, 109, 110, 111, 112, 113, 114, 115, 116, 117, 118, 119, 120, 121, 122, 123, 124, 125, 126, 127, 128, 129, 130, 131, 132, 133, 134, 135, 136, 137, 138, 139, 140, 141, 142, 143, 144, 145, 146, 147, 148, 149, 150, 151, 152, 153, 154, 155, 156, 157, 158, 159, 160, 161, 162, 163, 164, 165, 166, 167, 168, 169, 170, 171, 172, 173, 174, 175] (by decide +kernel) (by decide +kernel)) (goodIn_sub (fun _ h => List.mem_cons_of_mem _ (List.mem_append_left _ (List.mem_append_left _ (List.mem_append_right _ h)))) (by decide +kernel))) (goodIn_sub (fun _ h => List.mem_cons_of_mem _ (List.mem_append_left _ (List.mem_append_right _ h))) (by decide +kernel))) (goodIn_sub (fun _ h => List.mem_cons_of_mem _ (List.mem_append_right _ h)) (by decide +kernel))) (goodIn_sub (fun _ h => List.mem_cons_of_mem _ (List.mem_append_left _ (List.mem_append_left _ (List.mem_append_left _ (List.mem_append_right _ h))))) (by decide +kernel))
set_option maxRecDepth 20000 in
theorem gL_fewestAt_X6_fewestAt : GoodIn wsL_fewestAt (wsV RL 82 RX6 yX6_fewestAt wsX6_fewestAt) := goodIn_app (goodIn_of _ (by decide +kernel)) ggL_fewestAt_X6_fewestAt
theorem dL_fewestAt_0 : decode cL_fewestAt 0 = .ok (.aload_n 3, 1) := by decide +kernel
theorem dL_fewestAt_1 : decode cL_fewestAt 1 = .ok (.iconst 0, 1) := by decide +kernel
theorem dL_fewestAt_2 : decode cL_fewestAt 2 = .ok (.aload_n 0, 1) := by decide +kernel
theorem dL_fewestAt_3 : decode cL_fewestAt 3 = .ok (.iload_n 1, 1) := by decide +kernel
theorem dL_fewestAt_4 : decode cL_fewestAt 4 = .ok (.iload_n 2, 1) := by decide +kernel
theorem dL_fewestAt_5 : decode cL_fewestAt 5 = .ok (.invokevirtual 82, 3) := by decide +kernel
theorem dL_fewestAt_8 : decode cL_fewestAt 8 = .ok (.i2l, 1) := by decide +kernel
theorem dL_fewestAt_9 : decode cL_fewestAt 9 = .ok (.lastore, 1) := by decide +kernel
theorem dL_fewestAt_10 : decode cL_fewestAt 10 = .ok (.goto 15, 3) := by decide +kernel
theorem dL_fewestAt_13 : decode cL_fewestAt 13 = .ok (.astore 4, 2) := by decide +kernel
theorem dL_fewestAt_15 : decode cL_fewestAt 15 = .ok (.iconst 1, 1) := by decide +kernel
theorem dL_fewestAt_16 : decode cL_fewestAt 16 = .ok (.ireturn, 1) := by decide +kernel
theorem dL_fewestAt_17 : decode cL_fewestAt 17 = .ok (.astore 4, 2) := by decide +kernel
theorem dL_fewestAt_19 : decode cL_fewestAt 19 = .ok (.iconst 2, 1) := by decide +kernel
theorem dL_fewestAt_20 : decode cL_fewestAt 20 = .ok (.ireturn, 1) := by decide +kernel
theorem dL_fewestAt_21 : decode cL_fewestAt 21 = .ok (.astore 4, 2) := by decide +kernel
theorem dL_fewestAt_23 : decode cL_fewestAt 23 = .ok (.iconst 3, 1) := by decide +kernel
theorem dL_fewestAt_24 : decode cL_fewestAt 24 = .ok (.ireturn, 1) := by decide +kernel
theorem dL_fewestAt_25 : decode cL_fewestAt 25 = .ok (.iconst 0, 1) := by decide +kernel
theorem dL_fewestAt_26 : decode cL_fewestAt 26 = .ok (.ireturn, 1) := by decide +kernel
set_option maxRecDepth 20000 in
theorem ggL_rowFor_X6_rowFor : GoodIn wsL_rowFor wsX6_rowFor := goodIn_ca (goodIn_ca (goodIn_ca (goodIn_r _ [6, 7, 8, 9, 10, 11, 12, 13, 14, 15, 5, 16, 17, 18, 19, 20, 21, 22, 23, 24, 25, 26, 27, 28, 29, 30, 31, 32, 33, 34, 35, 36, 37, 38, 39, 40, 41, 42, 43, 44, 45, 46, 47, 48, 49, 50, 51, 52, 53, 54, 55, 56, 57, 58, 59, 60, 61, 62, 63, 64, 65, 66, 67, 68, 69, 70, 71, 72, 73, 74, 75, 76, 77, 78, 79, 80, 81, 82, 83, 84, 85, 86, 87, 88, 89, 90, 91, 92, 93, 94, 95, 96, 97, 98, 99, 100, 101, 102, 103, 104, 105, 106, 107, 108, 109, 110, 111, 112, 113, 114, 115, 116, 117, 118, 119, 120, 121, 122, 123, 124, 125, 126, 127, 128, 129, 130, 131, 132, 133, 134, 135, 136, 137, 138, 139, 140, 141, 142, 143, 144, 145, 146, 147, 148, 149, 150, 151, 152, 153, 154, 155, 156, 157, 158, 159, 160, 161, 162, 163, 164, 165, 166, 167, 168, 169, 170] (by decide +kernel) (by decide +kernel)) (goodIn_sub (fun _ h => List.mem_cons_of_mem _ (List.mem_append_left _ (List.mem_append_right _ h))) (by decide +kernel))) (goodIn_sub (fun _ h => List.mem_cons_of_mem _ (List.mem_append_right _ h)) (by decide +kernel))) (goodIn_sub (fun _ h => List.mem_cons_of_mem _ (List.mem_append_left _ (List.mem_append_left _ (List.mem_append_right _ h)))) (by decide +kernel))
set_option maxRecDepth 20000 in
theorem gL_rowFor_X6_rowFor : GoodIn wsL_rowFor (wsV RL 85 RX6 yX6_rowFor wsX6_rowFor) := goodIn_app (goodIn_of _ (by decide +kernel)) ggL_rowFor_X6_rowFor
theorem dL_rowFor_0 : decode cL_rowFor 0 = .ok (.aload_n 2, 1) := by decide +kernel
theorem dL_rowFor_1 : decode cL_rowFor 1 = .ok (.iconst 0, 1) := by decide +kernel
theorem dL_rowFor_2 : decode cL_rowFor 2 = .ok (.aload_n 0, 1) := by decide +kernel
theorem dL_rowFor_3 : decode cL_rowFor 3 = .ok (.iload_n 1, 1) := by decide +kernel
theorem dL_rowFor_4 : decode cL_rowFor 4 = .ok (.invokevirtual 85, 3) := by decide +kernel
theorem dL_rowFor_7 : decode cL_rowFor 7 = .ok (.i2l, 1) := by decide +kernel
theorem dL_rowFor_8 : decode cL_rowFor 8 = .ok (.lastore, 1) := by decide +kernel
theorem dL_rowFor_9 : decode cL_rowFor 9 = .ok (.goto 9, 3) := by decide +kernel
theorem dL_rowFor_12 : decode cL_rowFor 12 = .ok (.astore_n 3, 1) := by decide +kernel
theorem dL_rowFor_13 : decode cL_rowFor 13 = .ok (.iconst 1, 1) := by decide +kernel
theorem dL_rowFor_14 : decode cL_rowFor 14 = .ok (.ireturn, 1) := by decide +kernel
theorem dL_rowFor_15 : decode cL_rowFor 15 = .ok (.astore_n 3, 1) := by decide +kernel
theorem dL_rowFor_16 : decode cL_rowFor 16 = .ok (.iconst 2, 1) := by decide +kernel
theorem dL_rowFor_17 : decode cL_rowFor 17 = .ok (.ireturn, 1) := by decide +kernel
theorem dL_rowFor_18 : decode cL_rowFor 18 = .ok (.iconst 0, 1) := by decide +kernel
theorem dL_rowFor_19 : decode cL_rowFor 19 = .ok (.ireturn, 1) := by decide +kernel
set_option maxRecDepth 20000 in
theorem ggL_missing_X6_missing : GoodIn wsL_missing wsX6_missing := goodIn_ca (goodIn_ca (goodIn_ca (goodIn_r _ [6, 7, 8, 9, 10, 11, 12, 5, 13, 14, 15, 16, 17, 18, 19, 20, 21, 22, 23, 24, 25, 26, 27, 28, 29, 30, 31, 32, 33, 34, 35, 36, 37, 38, 39, 40, 41, 42, 43, 44, 45, 46, 47, 48, 49, 50, 51, 52, 53, 54, 55, 56, 57, 58, 59, 60, 61, 62, 63, 64, 65, 66, 67, 68, 69, 70, 71, 72, 73, 74, 75, 76, 77, 78, 79, 80, 81, 82, 83, 84, 85, 86, 87, 88, 89, 90, 91, 92, 93, 94, 95, 96, 97, 98, 99, 100, 101, 102, 103, 104, 105, 106, 107, 108, 109, 110, 111, 112, 113, 114, 115, 116, 117, 118, 119, 120, 121, 122, 123, 124, 125, 126, 127, 128, 129, 130, 131, 132, 133, 134, 135, 136, 137, 138, 139, 140, 141, 142, 143, 144, 145, 146, 147, 148, 149, 150, 151, 152, 153, 154, 155, 156, 157, 158, 159, 160, 161] (by decide +kernel) (by decide +kernel)) (goodIn_sub (fun _ h => List.mem_cons_of_mem _ (List.mem_append_left _ (List.mem_append_right _ h))) (by decide +kernel))) (goodIn_sub (fun _ h => List.mem_cons_of_mem _ (List.mem_append_right _ h)) (by decide +kernel))) (goodIn_sub (fun _ h => List.mem_cons_of_mem _ (List.mem_append_left _ (List.mem_append_left _ (List.mem_append_right _ h)))) (by decide +kernel))
set_option maxRecDepth 20000 in
theorem gL_missing_X6_missing : GoodIn wsL_missing (wsV RL 88 RX6 yX6_missing wsX6_missing) := goodIn_app (goodIn_of _ (by decide +kernel)) ggL_missing_X6_missing
theorem dL_missing_0 : decode cL_missing 0 = .ok (.aload_n 2, 1) := by decide +kernel
theorem dL_missing_1 : decode cL_missing 1 = .ok (.iconst 0, 1) := by decide +kernel
theorem dL_missing_2 : decode cL_missing 2 = .ok (.aload_n 0, 1) := by decide +kernel
theorem dL_missing_3 : decode cL_missing 3 = .ok (.iload_n 1, 1) := by decide +kernel
theorem dL_missing_4 : decode cL_missing 4 = .ok (.invokevirtual 88, 3) := by decide +kernel
theorem dL_missing_7 : decode cL_missing 7 = .ok (.i2l, 1) := by decide +kernel
theorem dL_missing_8 : decode cL_missing 8 = .ok (.lastore, 1) := by decide +kernel
theorem dL_missing_9 : decode cL_missing 9 = .ok (.goto 9, 3) := by decide +kernel
theorem dL_missing_12 : decode cL_missing 12 = .ok (.astore_n 3, 1) := by decide +kernel
theorem dL_missing_13 : decode cL_missing 13 = .ok (.iconst 1, 1) := by decide +kernel
theorem dL_missing_14 : decode cL_missing 14 = .ok (.ireturn, 1) := by decide +kernel
theorem dL_missing_15 : decode cL_missing 15 = .ok (.astore_n 3, 1) := by decide +kernel
theorem dL_missing_16 : decode cL_missing 16 = .ok (.iconst 2, 1) := by decide +kernel
theorem dL_missing_17 : decode cL_missing 17 = .ok (.ireturn, 1) := by decide +kernel
theorem dL_missing_18 : decode cL_missing 18 = .ok (.iconst 0, 1) := by decide +kernel
theorem dL_missing_19 : decode cL_missing 19 = .ok (.ireturn, 1) := by decide +kernel
set_option maxRecDepth 20000 in
theorem ggL_canPut_X6_canPut : GoodIn wsL_canPut wsX6_canPut := goodIn_ca (goodIn_ca (goodIn_ca (goodIn_r _ [6, 7, 8, 9, 5, 10, 11, 12, 13, 14, 15, 16, 17, 18, 19, 20, 21, 22, 23, 24, 25, 26, 27, 28, 29, 30, 31, 32, 33, 34, 35, 36, 37, 38, 39, 40, 41, 42, 43, 44, 45, 46, 47, 48, 49, 50, 51, 52, 53, 54, 55, 56, 57, 58, 59, 60, 61, 62, 63, 64, 65, 66, 67, 68, 69, 70, 71, 72, 73, 74, 75, 76, 77, 78, 79, 80, 81, 82, 83, 84, 85, 86, 87, 88, 89, 90, 91, 92, 93] (by decide +kernel) (by decide +kernel)) (goodIn_sub (fun _ h => List.mem_cons_of_mem _ (List.mem_append_left _ (List.mem_append_right _ h))) (by decide +kernel))) (goodIn_sub (fun _ h => List.mem_cons_of_mem _ (List.mem_append_right _ h)) (by decide +kernel))) (goodIn_sub (fun _ h => List.mem_cons_of_mem _ (List.mem_append_left _ (List.mem_append_left _ (List.mem_append_right _ h)))) (by decide +kernel))
set_option maxRecDepth 20000 in
theorem gL_canPut_X6_canPut : GoodIn wsL_canPut (wsV RL 91 RX6 yX6_canPut wsX6_canPut) := goodIn_app (goodIn_of _ (by decide +kernel)) ggL_canPut_X6_canPut
theorem dL_canPut_0 : decode cL_canPut 0 = .ok (.aload_n 3, 1) := by decide +kernel
theorem dL_canPut_1 : decode cL_canPut 1 = .ok (.iconst 0, 1) := by decide +kernel
theorem dL_canPut_2 : decode cL_canPut 2 = .ok (.aload_n 0, 1) := by decide +kernel
theorem dL_canPut_3 : decode cL_canPut 3 = .ok (.iload_n 1, 1) := by decide +kernel
theorem dL_canPut_4 : decode cL_canPut 4 = .ok (.iload_n 2, 1) := by decide +kernel
theorem dL_canPut_5 : decode cL_canPut 5 = .ok (.invokevirtual 91, 3) := by decide +kernel
theorem dL_canPut_8 : decode cL_canPut 8 = .ok (.ifCond .eq 7, 3) := by decide +kernel
theorem dL_canPut_11 : decode cL_canPut 11 = .ok (.lconst 1, 1) := by decide +kernel
theorem dL_canPut_12 : decode cL_canPut 12 = .ok (.goto 4, 3) := by decide +kernel
theorem dL_canPut_15 : decode cL_canPut 15 = .ok (.lconst 0, 1) := by decide +kernel
theorem dL_canPut_16 : decode cL_canPut 16 = .ok (.lastore, 1) := by decide +kernel
theorem dL_canPut_17 : decode cL_canPut 17 = .ok (.goto 11, 3) := by decide +kernel
theorem dL_canPut_20 : decode cL_canPut 20 = .ok (.astore 4, 2) := by decide +kernel
theorem dL_canPut_22 : decode cL_canPut 22 = .ok (.iconst 1, 1) := by decide +kernel
theorem dL_canPut_23 : decode cL_canPut 23 = .ok (.ireturn, 1) := by decide +kernel
theorem dL_canPut_24 : decode cL_canPut 24 = .ok (.astore 4, 2) := by decide +kernel
theorem dL_canPut_26 : decode cL_canPut 26 = .ok (.iconst 2, 1) := by decide +kernel
theorem dL_canPut_27 : decode cL_canPut 27 = .ok (.ireturn, 1) := by decide +kernel
theorem dL_canPut_28 : decode cL_canPut 28 = .ok (.iconst 0, 1) := by decide +kernel
theorem dL_canPut_29 : decode cL_canPut 29 = .ok (.ireturn, 1) := by decide +kernel
set_option maxRecDepth 20000 in
theorem ggL_freshChoice_X6_freshChoice : GoodIn wsL_freshChoice wsX6_freshChoice := goodIn_ca (goodIn_ca (goodIn_ca (goodIn_r _ [6, 7, 8, 9, 10, 11, 12, 13, 14, 5, 15, 16, 17, 18, 19, 20, 21, 22, 23, 24, 25, 26, 27, 28, 29, 30, 31, 32, 33, 34, 35, 36, 37, 38, 39, 40, 41, 42, 43, 44, 45, 46, 47, 48, 49, 50, 51, 52, 53, 54, 55, 56, 57, 58, 59, 60, 61, 62, 63, 64, 65, 66, 67, 68, 69, 70, 71, 72, 73, 74, 75, 76, 77, 78, 79, 80, 81, 82, 83, 84, 85, 86, 87, 88, 89, 90, 91, 92, 93, 94, 95, 96, 97, 98, 99, 100, 101, 102, 103, 104, 105, 106, 107, 108, 109, 110, 111, 112, 113, 114, 115, 116, 117, 118, 119, 120, 121, 122, 123, 124, 125, 126, 127, 128, 129, 130, 131, 132, 133, 134, 135, 136, 137, 138, 139, 140, 141, 142, 143, 144, 145, 146, 147, 148, 149, 150, 151, 152, 153, 154, 155, 156, 157, 158, 159, 160, 161, 162, 163, 164, 165, 166, 167, 168, 169, 170, 171, 172, 173, 174, 175, 176, 177, 178, 179, 180, 181, 182, 183, 184, 185, 186, 187, 188, 189, 190, 191, 192, 193, 194, 195, 196, 197, 198] (by decide +kernel) (by decide +kernel)) (goodIn_sub (fun _ h => List.mem_cons_of_mem _ (List.mem_append_left _ (List.mem_append_right _ h))) (by decide +kernel))) (goodIn_sub (fun _ h => List.mem_cons_of_mem _ (List.mem_append_right _ h)) (by decide +kernel))) (goodIn_sub (fun _ h => List.mem_cons_of_mem _ (List.mem_append_left _ (List.mem_append_left _ (List.mem_append_right _ h)))) (by decide +kernel))
set_option maxRecDepth 20000 in
theorem gL_freshChoice_X6_freshChoice : GoodIn wsL_freshChoice (wsV RL 95 RX6 yX6_freshChoice wsX6_freshChoice) := goodIn_app (goodIn_of _ (by decide +kernel)) ggL_freshChoice_X6_freshChoice
theorem dL_freshChoice_0 : decode cL_freshChoice 0 = .ok (.aload_n 2, 1) := by decide +kernel
theorem dL_freshChoice_1 : decode cL_freshChoice 1 = .ok (.iconst 0, 1) := by decide +kernel
theorem dL_freshChoice_2 : decode cL_freshChoice 2 = .ok (.aload_n 0, 1) := by decide +kernel
theorem dL_freshChoice_3 : decode cL_freshChoice 3 = .ok (.iload_n 1, 1) := by decide +kernel
theorem dL_freshChoice_4 : decode cL_freshChoice 4 = .ok (.invokevirtual 95, 3) := by decide +kernel
theorem dL_freshChoice_7 : decode cL_freshChoice 7 = .ok (.i2l, 1) := by decide +kernel
theorem dL_freshChoice_8 : decode cL_freshChoice 8 = .ok (.lastore, 1) := by decide +kernel
theorem dL_freshChoice_9 : decode cL_freshChoice 9 = .ok (.goto 9, 3) := by decide +kernel
theorem dL_freshChoice_12 : decode cL_freshChoice 12 = .ok (.astore_n 3, 1) := by decide +kernel
theorem dL_freshChoice_13 : decode cL_freshChoice 13 = .ok (.iconst 1, 1) := by decide +kernel
theorem dL_freshChoice_14 : decode cL_freshChoice 14 = .ok (.ireturn, 1) := by decide +kernel
theorem dL_freshChoice_15 : decode cL_freshChoice 15 = .ok (.astore_n 3, 1) := by decide +kernel
theorem dL_freshChoice_16 : decode cL_freshChoice 16 = .ok (.iconst 2, 1) := by decide +kernel
theorem dL_freshChoice_17 : decode cL_freshChoice 17 = .ok (.ireturn, 1) := by decide +kernel
theorem dL_freshChoice_18 : decode cL_freshChoice 18 = .ok (.iconst 0, 1) := by decide +kernel
theorem dL_freshChoice_19 : decode cL_freshChoice 19 = .ok (.ireturn, 1) := by decide +kernel
set_option maxRecDepth 20000 in
theorem ggL_fillable_X6_fillable : GoodIn wsL_fillable wsX6_fillable := goodIn_ca (goodIn_ca (goodIn_ca (goodIn_r _ [6, 7, 8, 9, 10, 11, 12, 13, 14, 15, 5, 16, 17, 18, 19, 20, 21, 22, 23, 24, 25, 26, 27, 28, 29, 30, 31, 32, 33, 34, 35, 36, 37, 38, 39, 40, 41, 42, 43, 44, 45, 46, 47, 48, 49, 50, 51, 52, 53, 54, 55, 56, 57, 58, 59, 60, 61, 62, 63, 64, 65, 66, 67, 68, 69, 70, 71, 72, 73, 74, 75, 76, 77, 78, 79, 80, 81, 82, 83, 84, 85, 86, 87, 88, 89, 90, 91, 92, 93, 94, 95, 96] (by decide +kernel) (by decide +kernel)) (goodIn_sub (fun _ h => List.mem_cons_of_mem _ (List.mem_append_left _ (List.mem_append_right _ h))) (by decide +kernel))) (goodIn_sub (fun _ h => List.mem_cons_of_mem _ (List.mem_append_right _ h)) (by decide +kernel))) (goodIn_sub (fun _ h => List.mem_cons_of_mem _ (List.mem_append_left _ (List.mem_append_left _ (List.mem_append_right _ h)))) (by decide +kernel))
set_option maxRecDepth 20000 in
theorem gL_fillable_X6_fillable : GoodIn wsL_fillable (wsV RL 98 RX6 yX6_fillable wsX6_fillable) := goodIn_app (goodIn_of _ (by decide +kernel)) ggL_fillable_X6_fillable
theorem dL_fillable_0 : decode cL_fillable 0 = .ok (.aload_n 2, 1) := by decide +kernel
theorem dL_fillable_1 : decode cL_fillable 1 = .ok (.iconst 0, 1) := by decide +kernel
theorem dL_fillable_2 : decode cL_fillable 2 = .ok (.aload_n 0, 1) := by decide +kernel
theorem dL_fillable_3 : decode cL_fillable 3 = .ok (.iload_n 1, 1) := by decide +kernel
theorem dL_fillable_4 : decode cL_fillable 4 = .ok (.invokevirtual 98, 3) := by decide +kernel
theorem dL_fillable_7 : decode cL_fillable 7 = .ok (.i2l, 1) := by decide +kernel
theorem dL_fillable_8 : decode cL_fillable 8 = .ok (.lastore, 1) := by decide +kernel
theorem dL_fillable_9 : decode cL_fillable 9 = .ok (.goto 9, 3) := by decide +kernel
theorem dL_fillable_12 : decode cL_fillable 12 = .ok (.astore_n 3, 1) := by decide +kernel
theorem dL_fillable_13 : decode cL_fillable 13 = .ok (.iconst 1, 1) := by decide +kernel
theorem dL_fillable_14 : decode cL_fillable 14 = .ok (.ireturn, 1) := by decide +kernel
theorem dL_fillable_15 : decode cL_fillable 15 = .ok (.astore_n 3, 1) := by decide +kernel
theorem dL_fillable_16 : decode cL_fillable 16 = .ok (.iconst 2, 1) := by decide +kernel
theorem dL_fillable_17 : decode cL_fillable 17 = .ok (.ireturn, 1) := by decide +kernel
theorem dL_fillable_18 : decode cL_fillable 18 = .ok (.iconst 0, 1) := by decide +kernel
theorem dL_fillable_19 : decode cL_fillable 19 = .ok (.ireturn, 1) := by decide +kernel
set_option maxRecDepth 20000 in
theorem ggL_fallsIn_X6_fallsIn : GoodIn wsL_fallsIn wsX6_fallsIn := goodIn_ca (goodIn_ca (goodIn_ca (goodIn_r _ [6, 7, 8, 9, 10, 11, 12, 5, 13, 14, 15, 16, 17, 18, 19, 20, 21, 22, 23, 24, 25, 26, 27, 28, 29, 30, 31, 32, 33, 34, 35, 36, 37, 38, 39, 40, 41, 42, 43, 44, 45, 46, 47, 48, 49, 50, 51, 52, 53, 54, 55, 56, 57, 58, 59, 60, 61, 62, 63, 64, 65, 66, 67, 68, 69, 70, 71, 72, 73, 74, 75, 76, 77, 78, 79, 80, 81, 82, 83, 84, 85, 86, 87, 88, 89, 90, 91, 92, 93, 94, 95, 96, 97, 98, 99, 100, 101, 102, 103, 104, 105, 106, 107] (by decide +kernel) (by decide +kernel)) (goodIn_sub (fun _ h => List.mem_cons_of_mem _ (List.mem_append_left _ (List.mem_append_right _ h))) (by decide +kernel))) (goodIn_sub (fun _ h => List.mem_cons_of_mem _ (List.mem_append_right _ h)) (by decide +kernel))) (goodIn_sub (fun _ h => List.mem_cons_of_mem _ (List.mem_append_left _ (List.mem_append_left _ (List.mem_append_right _ h)))) (by decide +kernel))
set_option maxRecDepth 20000 in
theorem gL_fallsIn_X6_fallsIn : GoodIn wsL_fallsIn (wsV RL 101 RX6 yX6_fallsIn wsX6_fallsIn) := goodIn_app (goodIn_of _ (by decide +kernel)) ggL_fallsIn_X6_fallsIn
theorem dL_fallsIn_0 : decode cL_fallsIn 0 = .ok (.aload_n 3, 1) := by decide +kernel
theorem dL_fallsIn_1 : decode cL_fallsIn 1 = .ok (.iconst 0, 1) := by decide +kernel
theorem dL_fallsIn_2 : decode cL_fallsIn 2 = .ok (.aload_n 0, 1) := by decide +kernel
theorem dL_fallsIn_3 : decode cL_fallsIn 3 = .ok (.iload_n 1, 1) := by decide +kernel
theorem dL_fallsIn_4 : decode cL_fallsIn 4 = .ok (.iload_n 2, 1) := by decide +kernel
theorem dL_fallsIn_5 : decode cL_fallsIn 5 = .ok (.invokevirtual 101, 3) := by decide +kernel
theorem dL_fallsIn_8 : decode cL_fallsIn 8 = .ok (.i2l, 1) := by decide +kernel
theorem dL_fallsIn_9 : decode cL_fallsIn 9 = .ok (.lastore, 1) := by decide +kernel
theorem dL_fallsIn_10 : decode cL_fallsIn 10 = .ok (.goto 11, 3) := by decide +kernel
theorem dL_fallsIn_13 : decode cL_fallsIn 13 = .ok (.astore 4, 2) := by decide +kernel
theorem dL_fallsIn_15 : decode cL_fallsIn 15 = .ok (.iconst 1, 1) := by decide +kernel
theorem dL_fallsIn_16 : decode cL_fallsIn 16 = .ok (.ireturn, 1) := by decide +kernel
theorem dL_fallsIn_17 : decode cL_fallsIn 17 = .ok (.astore 4, 2) := by decide +kernel
theorem dL_fallsIn_19 : decode cL_fallsIn 19 = .ok (.iconst 2, 1) := by decide +kernel
theorem dL_fallsIn_20 : decode cL_fallsIn 20 = .ok (.ireturn, 1) := by decide +kernel
theorem dL_fallsIn_21 : decode cL_fallsIn 21 = .ok (.iconst 0, 1) := by decide +kernel
theorem dL_fallsIn_22 : decode cL_fallsIn 22 = .ok (.ireturn, 1) := by decide +kernel
set_option maxRecDepth 20000 in
theorem ggL_goodIn_X6_goodIn : GoodIn wsL_goodIn wsX6_goodIn := goodIn_ca (goodIn_ca (goodIn_ca (goodIn_r _ [6, 7, 8, 9, 10, 11, 12, 13, 14, 5, 15, 16, 17, 18, 19, 20, 21, 22, 23, 24, 25, 26, 27, 28, 29, 30, 31, 32, 33, 34, 35, 36, 37, 38, 39, 40, 41, 42, 43, 44, 45, 46, 47, 48, 49, 50, 51, 52, 53, 54, 55, 56, 57, 58, 59, 60, 61, 62, 63, 64, 65, 66, 67, 68, 69, 70, 71, 72, 73, 74, 75, 76, 77, 78, 79, 80, 81, 82, 83, 84, 85, 86, 87, 88, 89, 90, 91, 92, 93, 94, 95, 96, 97, 98, 99, 100, 101, 102, 103, 104, 105, 106, 107, 108, 109, 110, 111, 112, 113, 114, 115, 116, 117, 118, 119, 120, 121, 122, 123, 124, 125, 126, 127, 128, 129, 130, 131, 132, 133, 134, 135, 136, 137, 138, 139, 140, 141, 142, 143, 144, 145, 146, 147, 148, 149, 150, 151, 152, 153, 154, 155, 156, 157] (by decide +kernel) (by decide +kernel)) (goodIn_sub (fun _ h => List.mem_cons_of_mem _ (List.mem_append_left _ (List.mem_append_right _ h))) (by decide +kernel))) (goodIn_sub (fun _ h => List.mem_cons_of_mem _ (List.mem_append_right _ h)) (by decide +kernel))) (goodIn_sub (fun _ h => List.mem_cons_of_mem _ (List.mem_append_left _ (List.mem_append_left _ (List.mem_append_right _ h)))) (by decide +kernel))
set_option maxRecDepth 20000 in
theorem gL_goodIn_X6_goodIn : GoodIn wsL_goodIn (wsV RL 105 RX6 yX6_goodIn wsX6_goodIn) := goodIn_app (goodIn_of _ (by decide +kernel)) ggL_goodIn_X6_goodIn
theorem dL_goodIn_0 : decode cL_goodIn 0 = .ok (.aload_n 2, 1) := by decide +kernel
theorem dL_goodIn_1 : decode cL_goodIn 1 = .ok (.iconst 0, 1) := by decide +kernel
theorem dL_goodIn_2 : decode cL_goodIn 2 = .ok (.aload_n 0, 1) := by decide +kernel
theorem dL_goodIn_3 : decode cL_goodIn 3 = .ok (.iload_n 1, 1) := by decide +kernel
theorem dL_goodIn_4 : decode cL_goodIn 4 = .ok (.invokevirtual 105, 3) := by decide +kernel
theorem dL_goodIn_7 : decode cL_goodIn 7 = .ok (.i2l, 1) := by decide +kernel
theorem dL_goodIn_8 : decode cL_goodIn 8 = .ok (.lastore, 1) := by decide +kernel
theorem dL_goodIn_9 : decode cL_goodIn 9 = .ok (.goto 9, 3) := by decide +kernel
theorem dL_goodIn_12 : decode cL_goodIn 12 = .ok (.astore_n 3, 1) := by decide +kernel
theorem dL_goodIn_13 : decode cL_goodIn 13 = .ok (.iconst 1, 1) := by decide +kernel
theorem dL_goodIn_14 : decode cL_goodIn 14 = .ok (.ireturn, 1) := by decide +kernel
theorem dL_goodIn_15 : decode cL_goodIn 15 = .ok (.astore_n 3, 1) := by decide +kernel
theorem dL_goodIn_16 : decode cL_goodIn 16 = .ok (.iconst 2, 1) := by decide +kernel
theorem dL_goodIn_17 : decode cL_goodIn 17 = .ok (.ireturn, 1) := by decide +kernel
theorem dL_goodIn_18 : decode cL_goodIn 18 = .ok (.iconst 0, 1) := by decide +kernel
theorem dL_goodIn_19 : decode cL_goodIn 19 = .ok (.ireturn, 1) := by decide +kernel
set_option maxRecDepth 20000 in
theorem ggL_lockable_X6_lockable : GoodIn wsL_lockable wsX6_lockable := goodIn_ca (goodIn_ca (goodIn_r _ [6, 7, 8, 9, 10, 11, 12, 13, 14, 5, 15, 16, 17, 18, 19, 20, 21, 22, 23, 24, 25, 26, 27, 28, 29, 30, 31, 32, 33, 34, 35, 36, 37, 38, 39, 40, 41, 42, 43, 44, 45, 46, 47, 48, 49, 50, 51, 52, 53, 54, 55, 56, 57, 58, 59, 60, 61, 62, 63, 64, 65, 66, 67, 68, 69, 70, 71, 72, 73, 74, 75, 76, 77, 78, 79, 80, 81, 82, 83, 84, 85, 86, 87, 88, 89, 90, 91, 92, 93, 94, 95, 96, 97, 98, 99, 100, 101, 102, 103, 104, 105, 106, 107, 108, 109, 110, 111, 112, 113, 114, 115, 116, 117, 118, 119, 120, 121, 122, 123, 124, 125, 126, 127, 128, 129, 130, 131, 132, 133, 134, 135, 136, 137, 138, 139, 140, 141, 142, 143, 144, 145, 146] (by decide +kernel) (by decide +kernel)) (goodIn_sub (fun _ h => List.mem_cons_of_mem _ (List.mem_append_right _ h)) (by decide +kernel))) (goodIn_sub (fun _ h => List.mem_cons_of_mem _ (List.mem_append_left _ (List.mem_append_right _ h))) (by decide +kernel))
set_option maxRecDepth 20000 in
theorem gL_lockable_X6_lockable : GoodIn wsL_lockable (wsV RL 108 RX6 yX6_lockable wsX6_lockable) := goodIn_app (goodIn_of _ (by decide +kernel)) ggL_lockable_X6_lockable
theorem dL_lockable_0 : decode cL_lockable 0 = .ok (.aload_n 1, 1) := by decide +kernel
theorem dL_lockable_1 : decode cL_lockable 1 = .ok (.iconst 0, 1) := by decide +kernel
theorem dL_lockable_2 : decode cL_lockable 2 = .ok (.aload_n 0, 1) := by decide +kernel
theorem dL_lockable_3 : decode cL_lockable 3 = .ok (.invokevirtual 108, 3) := by decide +kernel
theorem dL_lockable_6 : decode cL_lockable 6 = .ok (.i2l, 1) := by decide +kernel
theorem dL_lockable_7 : decode cL_lockable 7 = .ok (.lastore, 1) := by decide +kernel
theorem dL_lockable_8 : decode cL_lockable 8 = .ok (.goto 6, 3) := by decide +kernel
theorem dL_lockable_11 : decode cL_lockable 11 = .ok (.astore_n 2, 1) := by decide +kernel
theorem dL_lockable_12 : decode cL_lockable 12 = .ok (.iconst 1, 1) := by decide +kernel
theorem dL_lockable_13 : decode cL_lockable 13 = .ok (.ireturn, 1) := by decide +kernel
theorem dL_lockable_14 : decode cL_lockable 14 = .ok (.iconst 0, 1) := by decide +kernel
theorem dL_lockable_15 : decode cL_lockable 15 = .ok (.ireturn, 1) := by decide +kernel
set_option maxRecDepth 20000 in
theorem ggL_lockedAll_X6_lockedAll : GoodIn wsL_lockedAll wsX6_lockedAll := goodIn_ca (goodIn_ca (goodIn_r _ [6, 7, 8, 9, 10, 11, 12, 13, 14, 15, 5, 16, 17, 18, 19, 20, 21, 22, 23, 24, 25, 26, 27, 28, 29, 30, 31, 32, 33, 34, 35, 36, 37, 38, 39, 40, 41, 42, 43, 44, 45, 46, 47, 48, 49, 50, 51, 52, 53, 54, 55, 56, 57, 58, 59, 60, 61, 62, 63, 64, 65, 66, 67, 68, 69, 70, 71, 72, 73, 74, 75, 76, 77, 78, 79, 80, 81, 82, 83, 84, 85, 86, 87, 88, 89, 90, 91, 92, 93, 94, 95, 96, 97, 98, 99, 100, 101, 102, 103, 104, 105, 106, 107, 108, 109, 110, 111, 112, 113, 114, 115, 116, 117, 118, 119, 120, 121, 122, 123, 124, 125, 126, 127, 128, 129, 130, 131, 132, 133, 134, 135, 136, 137, 138, 139, 140, 141, 142, 143, 144, 145, 146, 147, 148, 149, 150, 151, 152, 153, 154, 155, 156, 157, 158, 159, 160, 161, 162, 163, 164, 165, 166, 167, 168, 169, 170, 171, 172, 173, 174, 175, 176, 177, 178, 179, 180, 181, 182, 183, 184, 185, 186, 187, 188, 189, 190, 191, 192, 193, 194, 195, 196, 197, 198, 199, 200, 201, 202, 203, 204, 205, 206, 207, 208, 209, 210, 211, 212, 213, 214, 215, 216, 217, 218, 219, 220] (by decide +kernel) (by decide +kernel)) (goodIn_sub (fun _ h => List.mem_cons_of_mem _ (List.mem_append_right _ h)) (by decide +kernel))) (goodIn_sub (fun _ h => List.mem_cons_of_mem _ (List.mem_append_left _ (List.mem_append_right _ h))) (by decide +kernel))
set_option maxRecDepth 20000 in
theorem gL_lockedAll_X6_lockedAll : GoodIn wsL_lockedAll (wsV RL 111 RX6 yX6_lockedAll wsX6_lockedAll) := goodIn_app (goodIn_of _ (by decide +kernel)) ggL_lockedAll_X6_lockedAll
theorem dL_lockedAll_0 : decode cL_lockedAll 0 = .ok (.aload_n 1, 1) := by decide +kernel
theorem dL_lockedAll_1 : decode cL_lockedAll 1 = .ok (.iconst 0, 1) := by decide +kernel
theorem dL_lockedAll_2 : decode cL_lockedAll 2 = .ok (.aload_n 0, 1) := by decide +kernel
theorem dL_lockedAll_3 : decode cL_lockedAll 3 = .ok (.invokevirtual 111, 3) := by decide +kernel
theorem dL_lockedAll_6 : decode cL_lockedAll 6 = .ok (.i2l, 1) := by decide +kernel
theorem dL_lockedAll_7 : decode cL_lockedAll 7 = .ok (.lastore, 1) := by decide +kernel
theorem dL_lockedAll_8 : decode cL_lockedAll 8 = .ok (.goto 6, 3) := by decide +kernel
theorem dL_lockedAll_11 : decode cL_lockedAll 11 = .ok (.astore_n 2, 1) := by decide +kernel
theorem dL_lockedAll_12 : decode cL_lockedAll 12 = .ok (.iconst 1, 1) := by decide +kernel
theorem dL_lockedAll_13 : decode cL_lockedAll 13 = .ok (.ireturn, 1) := by decide +kernel
theorem dL_lockedAll_14 : decode cL_lockedAll 14 = .ok (.iconst 0, 1) := by decide +kernel
theorem dL_lockedAll_15 : decode cL_lockedAll 15 = .ok (.ireturn, 1) := by decide +kernel
set_option maxRecDepth 20000 in
theorem ggL_writeRow_X6_writeRow : GoodIn wsL_writeRow wsX6_writeRow := goodIn_ca (goodIn_ca (goodIn_ca (goodIn_r _ [6, 7, 8, 9, 10, 11, 12, 13, 5, 14, 15, 16, 17, 18, 19, 20, 21, 22, 23, 24, 25, 26, 27, 28, 29, 30, 31, 32, 33, 34, 35, 36, 37, 38, 39, 40, 41, 42, 43, 44, 45, 46, 47, 48, 49, 50, 51, 52, 53, 54, 55, 56, 57, 58, 59, 60, 61, 62, 63, 64, 65, 66, 67, 68, 69, 70, 71, 72, 73, 74, 75, 76, 77, 78, 79, 80, 81, 82, 83, 84, 85, 86, 87, 88, 89, 90, 91, 92, 93, 94, 95, 96, 97, 98, 99, 100, 101, 102, 103, 104, 105, 106, 107, 108, 109, 110, 111, 112, 113, 114, 115, 116, 117, 118, 119, 120, 121, 122, 123, 124, 125, 126, 127, 128, 129, 130, 131, 132, 133, 134, 135, 136, 137, 138, 139, 140, 141, 142, 143, 144, 145, 146, 147, 148, 149, 150, 151, 152, 153, 154, 155, 156, 157, 158, 159, 160, 161, 162, 163, 164, 165, 166, 167, 168, 169, 170, 171, 172, 173, 174, 175, 176, 177, 178, 179, 180, 181, 182, 183, 184, 185, 186, 187, 188, 189, 190, 191, 192, 193, 194, 195, 196, 197, 198, 199, 200, 201, 202, 203, 204, 205, 206, 207, 208, 209, 210, 211, 212, 213, 214, 215, 216, 217, 218, 219, 220, 221, 222, 223, 224, 225, 226, 227, 228, 229, 230, 231, 232, 233, 234, 235, 236, 237, 238, 239, 240, 241, 242, 243, 244, 245, 246, 247, 248, 249, 250, 251, 252, 253, 254, 255, 256, 257, 258, 259, 260, 261, 262, 263, 264, 265, 266, 267, 268, 269, 270, 271, 272, 273, 274, 275, 276, 277, 278, 279, 280, 281, 282, 283, 284, 285, 286, 287, 288, 289, 290, 291, 292, 293, 294, 295, 296, 297, 298, 299, 300, 301, 302, 303, 304, 305] (by decide +kernel) (by decide +kernel)) (goodIn_sub (fun _ h => List.mem_cons_of_mem _ (List.mem_append_left _ (List.mem_append_right _ h))) (by decide +kernel))) (goodIn_sub (fun _ h => List.mem_cons_of_mem _ (List.mem_append_right _ h)) (by decide +kernel))) (goodIn_sub (fun _ h => List.mem_cons_of_mem _ (List.mem_append_left _ (List.mem_append_left _ (List.mem_append_right _ h)))) (by decide +kernel))
set_option maxRecDepth 20000 in
theorem gL_writeRow_X6_writeRow : GoodIn wsL_writeRow (wsV RL 114 RX6 yX6_writeRow wsX6_writeRow) := goodIn_app (goodIn_of _ (by decide +kernel)) ggL_writeRow_X6_writeRow
theorem dL_writeRow_0 : decode cL_writeRow 0 = .ok (.aload_n 2, 1) := by decide +kernel
theorem dL_writeRow_1 : decode cL_writeRow 1 = .ok (.iconst 0, 1) := by decide +kernel
theorem dL_writeRow_2 : decode cL_writeRow 2 = .ok (.aload_n 0, 1) := by decide +kernel
theorem dL_writeRow_3 : decode cL_writeRow 3 = .ok (.iload_n 1, 1) := by decide +kernel
theorem dL_writeRow_4 : decode cL_writeRow 4 = .ok (.invokevirtual 114, 3) := by decide +kernel
theorem dL_writeRow_7 : decode cL_writeRow 7 = .ok (.i2l, 1) := by decide +kernel
theorem dL_writeRow_8 : decode cL_writeRow 8 = .ok (.lastore, 1) := by decide +kernel
theorem dL_writeRow_9 : decode cL_writeRow 9 = .ok (.goto 9, 3) := by decide +kernel
theorem dL_writeRow_12 : decode cL_writeRow 12 = .ok (.astore_n 3, 1) := by decide +kernel
theorem dL_writeRow_13 : decode cL_writeRow 13 = .ok (.iconst 1, 1) := by decide +kernel
theorem dL_writeRow_14 : decode cL_writeRow 14 = .ok (.ireturn, 1) := by decide +kernel
theorem dL_writeRow_15 : decode cL_writeRow 15 = .ok (.astore_n 3, 1) := by decide +kernel
theorem dL_writeRow_16 : decode cL_writeRow 16 = .ok (.iconst 2, 1) := by decide +kernel
theorem dL_writeRow_17 : decode cL_writeRow 17 = .ok (.ireturn, 1) := by decide +kernel
theorem dL_writeRow_18 : decode cL_writeRow 18 = .ok (.iconst 0, 1) := by decide +kernel
theorem dL_writeRow_19 : decode cL_writeRow 19 = .ok (.ireturn, 1) := by decide +kernel
set_option maxRecDepth 20000 in
theorem ggL_writeChoice_X6_writeChoice : GoodIn wsL_writeChoice wsX6_writeChoice := goodIn_ca (goodIn_ca (goodIn_ca (goodIn_r _ [6, 7, 8, 9, 10, 11, 12, 13, 14, 15, 16, 17, 5, 18, 19, 20, 21, 22, 23, 24, 25, 26, 27, 28, 29, 30, 31, 32, 33, 34, 35, 36, 37, 38, 39, 40, 41, 42, 43, 44, 45, 46, 47, 48, 49, 50, 51, 52, 53, 54, 55, 56, 57, 58, 59, 60, 61, 62, 63, 64, 65, 66, 67, 68, 69, 70, 71, 72, 73, 74, 75, 76, 77, 78, 79, 80, 81, 82, 83, 84, 85, 86, 87, 88, 89, 90, 91, 92, 93, 94, 95, 96, 97, 98, 99, 100, 101, 102, 103, 104, 105, 106, 107, 108, 109, 110, 111, 112, 113, 114, 115, 116, 117, 118, 119, 120, 121, 122, 123, 124, 125, 126, 127, 128, 129, 130, 131, 132, 133, 134, 135, 136, 137, 138, 139, 140, 141, 142, 143, 144, 145, 146, 147, 148, 149, 150, 151, 152, 153, 154, 155, 156, 157, 158, 159, 160, 161, 162, 163, 164, 165, 166, 167, 168, 169, 170, 171, 172, 173, 174, 175, 176, 177, 178, 179, 180, 181, 182, 183, 184, 185, 186, 187, 188, 189, 190, 191, 192, 193, 194, 195, 196, 197, 198, 199, 200, 201, 202, 203, 204, 205, 206, 207, 208, 209, 210, 211, 212, 213, 214, 215, 216, 217, 218, 219, 220, 221, 222, 223, 224, 225, 226, 227, 228, 229, 230, 231, 232, 233, 234, 235, 236, 237, 238, 239, 240, 241, 242, 243, 244, 245, 246, 247, 248, 249, 250, 251, 252, 253, 254, 255, 256, 257, 258, 259, 260, 261, 262, 263, 264, 265, 266, 267, 268, 269, 270, 271, 272, 273, 274, 275, 276, 277, 278, 279, 280, 281, 282, 283, 284, 285, 286, 287, 288, 289, 290, 291, 292, 293, 294, 295, 296, 297, 298, 299, 300, 301, 302, 303, 304, 305, 306, 307, 308, 309, 310, 311, 312, 313, 314, 315, 316, 317, 318, 319, 320, 321, 322, 323, 324, 325, 326, 327, 328, 329, 330, 331, 332, 333, 334, 335, 336, 337, 338, 339, 340, 341, 342, 343, 344, 345, 346, 347, 348, 349, 350, 351, 352, 353, 354, 355, 356, 357, 358, 359, 360, 361, 362, 363, 364, 365, 366, 367, 368, 369, 370, 371, 372, 373, 374] (by decide +kernel) (by decide +kernel)) (goodIn_sub (fun _ h => List.mem_cons_of_mem _ (List.mem_append_left _ (List.mem_append_left _ (List.mem_append_right _ h)))) (by decide +kernel))) (goodIn_sub (fun _ h => List.mem_cons_of_mem _ (List.mem_append_left _ (List.mem_append_right _ h))) (by decide +kernel))) (goodIn_sub (fun _ h => List.mem_cons_of_mem _ (List.mem_append_right _ h)) (by decide +kernel))
set_option maxRecDepth 20000 in
theorem gL_writeChoice_X6_writeChoice : GoodIn wsL_writeChoice (wsV RL 117 RX6 yX6_writeChoice wsX6_writeChoice) := goodIn_app (goodIn_of _ (by decide +kernel)) ggL_writeChoice_X6_writeChoice
theorem dL_writeChoice_0 : decode cL_writeChoice 0 = .ok (.aload_n 2, 1) := by decide +kernel
theorem dL_writeChoice_1 : decode cL_writeChoice 1 = .ok (.iconst 0, 1) := by decide +kernel
theorem dL_writeChoice_2 : decode cL_writeChoice 2 = .ok (.aload_n 0, 1) := by decide +kernel
theorem dL_writeChoice_3 : decode cL_writeChoice 3 = .ok (.iload_n 1, 1) := by decide +kernel
theorem dL_writeChoice_4 : decode cL_writeChoice 4 = .ok (.invokevirtual 117, 3) := by decide +kernel
theorem dL_writeChoice_7 : decode cL_writeChoice 7 = .ok (.i2l, 1) := by decide +kernel
theorem dL_writeChoice_8 : decode cL_writeChoice 8 = .ok (.lastore, 1) := by decide +kernel
theorem dL_writeChoice_9 : decode cL_writeChoice 9 = .ok (.goto 9, 3) := by decide +kernel
theorem dL_writeChoice_12 : decode cL_writeChoice 12 = .ok (.astore_n 3, 1) := by decide +kernel
theorem dL_writeChoice_13 : decode cL_writeChoice 13 = .ok (.iconst 1, 1) := by decide +kernel
theorem dL_writeChoice_14 : decode cL_writeChoice 14 = .ok (.ireturn, 1) := by decide +kernel
theorem dL_writeChoice_15 : decode cL_writeChoice 15 = .ok (.astore_n 3, 1) := by decide +kernel
theorem dL_writeChoice_16 : decode cL_writeChoice 16 = .ok (.iconst 2, 1) := by decide +kernel
theorem dL_writeChoice_17 : decode cL_writeChoice 17 = .ok (.ireturn, 1) := by decide +kernel
theorem dL_writeChoice_18 : decode cL_writeChoice 18 = .ok (.iconst 0, 1) := by decide +kernel
theorem dL_writeChoice_19 : decode cL_writeChoice 19 = .ok (.ireturn, 1) := by decide +kernel
set_option maxRecDepth 20000 in
theorem ggL_writeStock_X6_writeStock : GoodIn wsL_writeStock wsX6_writeStock := goodIn_ca (goodIn_ca (goodIn_r _ [6, 7, 8, 9, 10, 11, 12, 13, 14, 5, 15, 16, 17, 18, 19, 20, 21, 22, 23, 24, 25, 26, 27, 28, 29, 30, 31, 32, 33, 34, 35, 36, 37, 38, 39, 40, 41, 42, 43, 44, 45, 46, 47, 48, 49, 50, 51, 52, 53, 54, 55, 56, 57, 58, 59, 60, 61, 62, 63, 64, 65, 66, 67, 68, 69, 70, 71, 72, 73, 74, 75, 76, 77, 78, 79, 80, 81, 82, 83, 84, 85, 86, 87, 88, 89, 90, 91, 92, 93, 94, 95, 96, 97, 98, 99, 100, 101, 102, 103, 104, 105, 106, 107, 108, 109, 110, 111, 112, 113, 114, 115, 116, 117, 118, 119, 120, 121, 122, 123, 124, 125, 126, 127, 128, 129, 130, 131, 132, 133, 134, 135, 136, 137, 138, 139, 140, 141, 142, 143, 144, 145, 146, 147, 148, 149, 150, 151, 152, 153, 154, 155, 156, 157, 158, 159, 160, 161, 162, 163, 164, 165, 166, 167, 168, 169, 170, 171, 172, 173, 174, 175, 176, 177, 178, 179, 180, 181, 182, 183, 184, 185, 186, 187, 188, 189, 190, 191, 192, 193, 194, 195, 196, 197, 198, 199, 200, 201, 202, 203, 204, 205, 206, 207, 208, 209, 210, 211, 212, 213, 214, 215, 216, 217, 218, 219, 220, 221, 222, 223, 224, 225, 226, 227, 228, 229, 230, 231, 232, 233, 234, 235, 236, 237, 238, 239, 240, 241, 242, 243, 244, 245, 246, 247, 248, 249, 250, 251, 252, 253, 254, 255, 256, 257, 258, 259] (by decide +kernel) (by decide +kernel)) (goodIn_sub (fun _ h => List.mem_cons_of_mem _ (List.mem_append_left _ (List.mem_append_right _ h))) (by decide +kernel))) (goodIn_sub (fun _ h => List.mem_cons_of_mem _ (List.mem_append_right _ h)) (by decide +kernel))
set_option maxRecDepth 20000 in
theorem gL_writeStock_X6_writeStock : GoodIn wsL_writeStock (wsV RL 120 RX6 yX6_writeStock wsX6_writeStock) := goodIn_app (goodIn_of _ (by decide +kernel)) ggL_writeStock_X6_writeStock
theorem dL_writeStock_0 : decode cL_writeStock 0 = .ok (.aload_n 1, 1) := by decide +kernel
theorem dL_writeStock_1 : decode cL_writeStock 1 = .ok (.iconst 0, 1) := by decide +kernel
theorem dL_writeStock_2 : decode cL_writeStock 2 = .ok (.aload_n 0, 1) := by decide +kernel
theorem dL_writeStock_3 : decode cL_writeStock 3 = .ok (.invokevirtual 120, 3) := by decide +kernel
theorem dL_writeStock_6 : decode cL_writeStock 6 = .ok (.i2l, 1) := by decide +kernel
theorem dL_writeStock_7 : decode cL_writeStock 7 = .ok (.lastore, 1) := by decide +kernel
theorem dL_writeStock_8 : decode cL_writeStock 8 = .ok (.goto 6, 3) := by decide +kernel
theorem dL_writeStock_11 : decode cL_writeStock 11 = .ok (.astore_n 2, 1) := by decide +kernel
theorem dL_writeStock_12 : decode cL_writeStock 12 = .ok (.iconst 1, 1) := by decide +kernel
theorem dL_writeStock_13 : decode cL_writeStock 13 = .ok (.ireturn, 1) := by decide +kernel
theorem dL_writeStock_14 : decode cL_writeStock 14 = .ok (.iconst 0, 1) := by decide +kernel
theorem dL_writeStock_15 : decode cL_writeStock 15 = .ok (.ireturn, 1) := by decide +kernel
set_option maxRecDepth 20000 in
theorem ggL_textByte_X6_textByte : GoodIn wsL_textByte wsX6_textByte := goodIn_ca (goodIn_r _ [6, 7, 8, 9, 10, 11, 12, 13, 14, 15, 16, 17, 18, 19, 20, 21, 5, 22, 23, 24, 25, 26, 27, 28, 29, 30, 31, 32, 33, 34, 35, 36, 37, 38, 39, 40, 41, 42, 43, 44, 45, 46, 47, 48, 49, 50, 51, 52, 53, 54, 55, 56, 57, 58, 59, 60, 61, 62, 63, 64, 65, 66, 67, 68, 69, 70, 71, 72] (by decide +kernel) (by decide +kernel)) (goodIn_sub (fun _ h => List.mem_cons_of_mem _ (List.mem_append_right _ h)) (by decide +kernel))
set_option maxRecDepth 20000 in
theorem gL_textByte_X6_textByte : GoodIn wsL_textByte (wsV RL 123 RX6 yX6_textByte wsX6_textByte) := goodIn_app (goodIn_of _ (by decide +kernel)) ggL_textByte_X6_textByte
theorem dL_textByte_0 : decode cL_textByte 0 = .ok (.aload_n 2, 1) := by decide +kernel
theorem dL_textByte_1 : decode cL_textByte 1 = .ok (.iconst 0, 1) := by decide +kernel
theorem dL_textByte_2 : decode cL_textByte 2 = .ok (.aload_n 0, 1) := by decide +kernel
theorem dL_textByte_3 : decode cL_textByte 3 = .ok (.iload_n 1, 1) := by decide +kernel
theorem dL_textByte_4 : decode cL_textByte 4 = .ok (.invokevirtual 123, 3) := by decide +kernel
theorem dL_textByte_7 : decode cL_textByte 7 = .ok (.i2l, 1) := by decide +kernel
theorem dL_textByte_8 : decode cL_textByte 8 = .ok (.lastore, 1) := by decide +kernel
theorem dL_textByte_9 : decode cL_textByte 9 = .ok (.goto 6, 3) := by decide +kernel
theorem dL_textByte_12 : decode cL_textByte 12 = .ok (.astore_n 3, 1) := by decide +kernel
theorem dL_textByte_13 : decode cL_textByte 13 = .ok (.iconst 1, 1) := by decide +kernel
theorem dL_textByte_14 : decode cL_textByte 14 = .ok (.ireturn, 1) := by decide +kernel
theorem dL_textByte_15 : decode cL_textByte 15 = .ok (.iconst 0, 1) := by decide +kernel
theorem dL_textByte_16 : decode cL_textByte 16 = .ok (.ireturn, 1) := by decide +kernel
set_option maxRecDepth 20000 in
theorem ggL_place_X6_place : GoodIn wsL_place wsX6_place := goodIn_ca (goodIn_ca (goodIn_ca (goodIn_ca (goodIn_r _ [6, 7, 8, 9, 10, 11, 12, 13, 14, 5, 15, 16, 17, 18, 19, 20, 21, 22, 23, 24, 25, 26, 27, 28, 29, 30, 31, 32, 33, 34, 35, 36, 37, 38, 39, 40, 41, 42, 43, 44, 45, 46, 47, 48, 49, 50, 51, 52, 53, 54, 55, 56, 57, 58, 59, 60, 61, 62, 63, 64, 65, 66, 67, 68, 69, 70, 71, 72, 73, 74, 75, 76, 77, 78, 79, 80, 81, 82, 83, 84, 85, 86, 87, 88, 89, 90, 91, 92, 93, 94, 95, 96, 97, 98, 99, 100, 101, 102, 103, 104, 105, 106, 107, 108, 109, 110, 111, 112, 113, 114, 115, 116, 117, 118, 119, 120, 121, 122, 123, 124, 125, 126, 127, 128, 129, 130, 131, 132, 133, 134, 135, 136, 137, 138, 139, 140] (by decide +kernel) (by decide +kernel)) (goodIn_sub (fun _ h => List.mem_cons_of_mem _ (List.mem_append_left _ (List.mem_append_left _ (List.mem_append_right _ h)))) (by decide +kernel))) (goodIn_sub (fun _ h => List.mem_cons_of_mem _ (List.mem_append_left _ (List.mem_append_right _ h))) (by decide +kernel))) (goodIn_sub (fun _ h => List.mem_cons_of_mem _ (List.mem_append_right _ h)) (by decide +kernel))) (goodIn_sub (fun _ h => List.mem_cons_of_mem _ (List.mem_append_left _ (List.mem_append_left _ (List.mem_append_left _ (List.mem_append_right _ h))))) (by decide +kernel))
set_option maxRecDepth 20000 in
theorem gL_place_X6_place : GoodIn wsL_place (wsV RL 126 RX6 yX6_place wsX6_place) := goodIn_app (goodIn_of _ (by decide +kernel)) ggL_place_X6_place
theorem dL_place_0 : decode cL_place 0 = .ok (.aload_n 3, 1) := by decide +kernel
theorem dL_place_1 : decode cL_place 1 = .ok (.iconst 0, 1) := by decide +kernel
theorem dL_place_2 : decode cL_place 2 = .ok (.aload_n 0, 1) := by decide +kernel
theorem dL_place_3 : decode cL_place 3 = .ok (.iload_n 1, 1) := by decide +kernel
theorem dL_place_4 : decode cL_place 4 = .ok (.iload_n 2, 1) := by decide +kernel
theorem dL_place_5 : decode cL_place 5 = .ok (.invokevirtual 126, 3) := by decide +kernel
theorem dL_place_8 : decode cL_place 8 = .ok (.i2l, 1) := by decide +kernel
theorem dL_place_9 : decode cL_place 9 = .ok (.lastore, 1) := by decide +kernel
theorem dL_place_10 : decode cL_place 10 = .ok (.goto 15, 3) := by decide +kernel
theorem dL_place_13 : decode cL_place 13 = .ok (.astore 4, 2) := by decide +kernel
theorem dL_place_15 : decode cL_place 15 = .ok (.iconst 1, 1) := by decide +kernel
theorem dL_place_16 : decode cL_place 16 = .ok (.ireturn, 1) := by decide +kernel
theorem dL_place_17 : decode cL_place 17 = .ok (.astore 4, 2) := by decide +kernel
theorem dL_place_19 : decode cL_place 19 = .ok (.iconst 2, 1) := by decide +kernel
theorem dL_place_20 : decode cL_place 20 = .ok (.ireturn, 1) := by decide +kernel
theorem dL_place_21 : decode cL_place 21 = .ok (.astore 4, 2) := by decide +kernel
theorem dL_place_23 : decode cL_place 23 = .ok (.iconst 3, 1) := by decide +kernel
theorem dL_place_24 : decode cL_place 24 = .ok (.ireturn, 1) := by decide +kernel
theorem dL_place_25 : decode cL_place 25 = .ok (.iconst 0, 1) := by decide +kernel
theorem dL_place_26 : decode cL_place 26 = .ok (.ireturn, 1) := by decide +kernel
set_option maxRecDepth 20000 in
theorem ggL_lift_X6_lift : GoodIn wsL_lift wsX6_lift := goodIn_ca (goodIn_ca (goodIn_ca (goodIn_r _ [6, 7, 8, 9, 10, 11, 12, 5, 13, 14, 15, 16, 17, 18, 19, 20, 21, 22, 23, 24, 25, 26, 27, 28, 29, 30, 31, 32, 33, 34, 35, 36, 37, 38, 39, 40, 41, 42, 43, 44, 45, 46, 47, 48, 49, 50, 51, 52, 53, 54, 55, 56, 57, 58, 59, 60, 61, 62, 63, 64, 65, 66, 67, 68, 69, 70, 71, 72, 73, 74, 75, 76, 77, 78, 79, 80, 81, 82, 83, 84, 85, 86, 87, 88, 89, 90, 91, 92, 93, 94, 95, 96, 97, 98, 99, 100, 101, 102, 103, 104, 105, 106, 107, 108, 109, 110, 111, 112, 113, 114, 115, 116, 117, 118, 119, 120, 121, 122, 123, 124] (by decide +kernel) (by decide +kernel)) (goodIn_sub (fun _ h => List.mem_cons_of_mem _ (List.mem_append_left _ (List.mem_append_right _ h))) (by decide +kernel))) (goodIn_sub (fun _ h => List.mem_cons_of_mem _ (List.mem_append_right _ h)) (by decide +kernel))) (goodIn_sub (fun _ h => List.mem_cons_of_mem _ (List.mem_append_left _ (List.mem_append_left _ (List.mem_append_right _ h)))) (by decide +kernel))
set_option maxRecDepth 20000 in
theorem gL_lift_X6_lift : GoodIn wsL_lift (wsV RL 129 RX6 yX6_lift wsX6_lift) := goodIn_app (goodIn_of _ (by decide +kernel)) ggL_lift_X6_lift
theorem dL_lift_0 : decode cL_lift 0 = .ok (.aload_n 3, 1) := by decide +kernel
theorem dL_lift_1 : decode cL_lift 1 = .ok (.iconst 0, 1) := by decide +kernel
theorem dL_lift_2 : decode cL_lift 2 = .ok (.aload_n 0, 1) := by decide +kernel
theorem dL_lift_3 : decode cL_lift 3 = .ok (.iload_n 1, 1) := by decide +kernel
theorem dL_lift_4 : decode cL_lift 4 = .ok (.iload_n 2, 1) := by decide +kernel
theorem dL_lift_5 : decode cL_lift 5 = .ok (.invokevirtual 129, 3) := by decide +kernel
theorem dL_lift_8 : decode cL_lift 8 = .ok (.i2l, 1) := by decide +kernel
theorem dL_lift_9 : decode cL_lift 9 = .ok (.lastore, 1) := by decide +kernel
theorem dL_lift_10 : decode cL_lift 10 = .ok (.goto 11, 3) := by decide +kernel
theorem dL_lift_13 : decode cL_lift 13 = .ok (.astore 4, 2) := by decide +kernel
theorem dL_lift_15 : decode cL_lift 15 = .ok (.iconst 1, 1) := by decide +kernel
theorem dL_lift_16 : decode cL_lift 16 = .ok (.ireturn, 1) := by decide +kernel
theorem dL_lift_17 : decode cL_lift 17 = .ok (.astore 4, 2) := by decide +kernel
theorem dL_lift_19 : decode cL_lift 19 = .ok (.iconst 2, 1) := by decide +kernel
theorem dL_lift_20 : decode cL_lift 20 = .ok (.ireturn, 1) := by decide +kernel
theorem dL_lift_21 : decode cL_lift 21 = .ok (.iconst 0, 1) := by decide +kernel
theorem dL_lift_22 : decode cL_lift 22 = .ok (.ireturn, 1) := by decide +kernel
set_option maxRecDepth 20000 in
theorem ggL_put_X6_put : GoodIn wsL_put wsX6_put := goodIn_ca (goodIn_ca (goodIn_ca (goodIn_ca (goodIn_r _ [6, 7, 8, 9, 10, 11, 12, 13, 14, 5, 15, 16, 17, 18, 19, 20, 21, 22, 23, 24, 25, 26, 27, 28, 29, 30, 31, 32, 33, 34, 35, 36, 37, 38, 39, 40, 41, 42, 43, 44, 45, 46, 47, 48, 49, 50, 51, 52, 53, 54, 55, 56, 57, 58, 59, 60, 61, 62, 63, 64, 65, 66, 67, 68, 69, 70, 71, 72, 73, 74, 75, 76, 77, 78, 79, 80, 81, 82, 83, 84, 85, 86, 87, 88, 89, 90, 91, 92, 93, 94, 95, 96, 97, 98, 99, 100, 101, 102, 103, 104, 105, 106, 107, 108, 109, 110, 111, 112, 113, 114, 115, 116, 117, 118, 119, 120, 121, 122, 123, 124, 125, 126, 127, 128, 129, 130, 131, 132, 133, 134, 135, 136, 137, 138, 139, 140, 141, 142, 143, 144, 145, 146, 147, 148, 149, 150, 151, 152, 153, 154] (by decide +kernel) (by decide +kernel)) (goodIn_sub (fun _ h => List.mem_cons_of_mem _ (List.mem_append_left _ (List.mem_append_left _ (List.mem_append_right _ h)))) (by decide +kernel))) (goodIn_sub (fun _ h => List.mem_cons_of_mem _ (List.mem_append_left _ (List.mem_append_right _ h))) (by decide +kernel))) (goodIn_sub (fun _ h => List.mem_cons_of_mem _ (List.mem_append_right _ h)) (by decide +kernel))) (goodIn_sub (fun _ h => List.mem_cons_of_mem _ (List.mem_append_left _ (List.mem_append_left _ (List.mem_append_left _ (List.mem_append_right _ h))))) (by decide +kernel))
set_option maxRecDepth 20000 in
theorem gL_put_X6_put : GoodIn wsL_put (wsV RL 132 RX6 yX6_put wsX6_put) := goodIn_app (goodIn_of _ (by decide +kernel)) ggL_put_X6_put
theorem dL_put_0 : decode cL_put 0 = .ok (.aload_n 3, 1) := by decide +kernel
theorem dL_put_1 : decode cL_put 1 = .ok (.iconst 0, 1) := by decide +kernel
theorem dL_put_2 : decode cL_put 2 = .ok (.aload_n 0, 1) := by decide +kernel
theorem dL_put_3 : decode cL_put 3 = .ok (.iload_n 1, 1) := by decide +kernel
theorem dL_put_4 : decode cL_put 4 = .ok (.iload_n 2, 1) := by decide +kernel
theorem dL_put_5 : decode cL_put 5 = .ok (.invokevirtual 132, 3) := by decide +kernel
theorem dL_put_8 : decode cL_put 8 = .ok (.i2l, 1) := by decide +kernel
theorem dL_put_9 : decode cL_put 9 = .ok (.lastore, 1) := by decide +kernel
theorem dL_put_10 : decode cL_put 10 = .ok (.goto 15, 3) := by decide +kernel
theorem dL_put_13 : decode cL_put 13 = .ok (.astore 4, 2) := by decide +kernel
theorem dL_put_15 : decode cL_put 15 = .ok (.iconst 1, 1) := by decide +kernel
theorem dL_put_16 : decode cL_put 16 = .ok (.ireturn, 1) := by decide +kernel
theorem dL_put_17 : decode cL_put 17 = .ok (.astore 4, 2) := by decide +kernel
theorem dL_put_19 : decode cL_put 19 = .ok (.iconst 2, 1) := by decide +kernel
theorem dL_put_20 : decode cL_put 20 = .ok (.ireturn, 1) := by decide +kernel
theorem dL_put_21 : decode cL_put 21 = .ok (.astore 4, 2) := by decide +kernel
theorem dL_put_23 : decode cL_put 23 = .ok (.iconst 3, 1) := by decide +kernel
theorem dL_put_24 : decode cL_put 24 = .ok (.ireturn, 1) := by decide +kernel
theorem dL_put_25 : decode cL_put 25 = .ok (.iconst 0, 1) := by decide +kernel
theorem dL_put_26 : decode cL_put 26 = .ok (.ireturn, 1) := by decide +kernel
set_option maxRecDepth 20000 in
theorem ggL_take_X6_take : GoodIn wsL_take wsX6_take := goodIn_ca (goodIn_ca (goodIn_ca (goodIn_r _ [6, 7, 8, 9, 10, 11, 12, 13, 5, 14, 15, 16, 17, 18, 19, 20, 21, 22, 23, 24, 25, 26, 27, 28, 29, 30, 31, 32, 33, 34, 35, 36, 37, 38, 39, 40, 41, 42, 43, 44, 45, 46, 47, 48, 49, 50, 51, 52, 53, 54, 55, 56, 57, 58, 59, 60, 61, 62, 63, 64, 65, 66, 67, 68, 69, 70, 71, 72, 73, 74, 75, 76, 77, 78, 79, 80, 81, 82, 83, 84, 85, 86, 87, 88, 89, 90, 91, 92, 93, 94, 95, 96, 97, 98, 99, 100, 101, 102, 103, 104, 105, 106, 107, 108, 109, 110, 111, 112, 113, 114, 115, 116, 117, 118, 119, 120, 121, 122, 123, 124, 125, 126, 127, 128, 129, 130, 131, 132, 133, 134, 135] (by decide +kernel) (by decide +kernel)) (goodIn_sub (fun _ h => List.mem_cons_of_mem _ (List.mem_append_left _ (List.mem_append_right _ h))) (by decide +kernel))) (goodIn_sub (fun _ h => List.mem_cons_of_mem _ (List.mem_append_right _ h)) (by decide +kernel))) (goodIn_sub (fun _ h => List.mem_cons_of_mem _ (List.mem_append_left _ (List.mem_append_left _ (List.mem_append_right _ h)))) (by decide +kernel))
set_option maxRecDepth 20000 in
theorem gL_take_X6_take : GoodIn wsL_take (wsV RL 135 RX6 yX6_take wsX6_take) := goodIn_app (goodIn_of _ (by decide +kernel)) ggL_take_X6_take
theorem dL_take_0 : decode cL_take 0 = .ok (.aload_n 3, 1) := by decide +kernel
theorem dL_take_1 : decode cL_take 1 = .ok (.iconst 0, 1) := by decide +kernel
theorem dL_take_2 : decode cL_take 2 = .ok (.aload_n 0, 1) := by decide +kernel
theorem dL_take_3 : decode cL_take 3 = .ok (.iload_n 1, 1) := by decide +kernel
theorem dL_take_4 : decode cL_take 4 = .ok (.iload_n 2, 1) := by decide +kernel
theorem dL_take_5 : decode cL_take 5 = .ok (.invokevirtual 135, 3) := by decide +kernel
theorem dL_take_8 : decode cL_take 8 = .ok (.i2l, 1) := by decide +kernel
theorem dL_take_9 : decode cL_take 9 = .ok (.lastore, 1) := by decide +kernel
theorem dL_take_10 : decode cL_take 10 = .ok (.goto 11, 3) := by decide +kernel
theorem dL_take_13 : decode cL_take 13 = .ok (.astore 4, 2) := by decide +kernel
theorem dL_take_15 : decode cL_take 15 = .ok (.iconst 1, 1) := by decide +kernel
theorem dL_take_16 : decode cL_take 16 = .ok (.ireturn, 1) := by decide +kernel
theorem dL_take_17 : decode cL_take 17 = .ok (.astore 4, 2) := by decide +kernel
theorem dL_take_19 : decode cL_take 19 = .ok (.iconst 2, 1) := by decide +kernel
theorem dL_take_20 : decode cL_take 20 = .ok (.ireturn, 1) := by decide +kernel
theorem dL_take_21 : decode cL_take 21 = .ok (.iconst 0, 1) := by decide +kernel
theorem dL_take_22 : decode cL_take 22 = .ok (.ireturn, 1) := by decide +kernel
set_option maxRecDepth 20000 in
theorem ggL_quoin_X6_quoin : GoodIn wsL_quoin wsX6_quoin := goodIn_ca (goodIn_ca (goodIn_ca (goodIn_r _ [6, 7, 8, 9, 10, 11, 12, 13, 14, 15, 16, 5, 17, 18, 19, 20, 21, 22, 23, 24, 25, 26, 27, 28, 29, 30, 31, 32, 33, 34, 35, 36, 37, 38, 39, 40, 41, 42, 43, 44, 45, 46, 47, 48, 49, 50, 51, 52, 53, 54, 55, 56, 57, 58, 59, 60, 61, 62, 63, 64, 65, 66, 67, 68, 69, 70, 71, 72, 73, 74, 75, 76, 77, 78, 79, 80, 81, 82, 83, 84, 85, 86, 87, 88, 89, 90, 91, 92, 93, 94, 95, 96, 97, 98, 99, 100, 101, 102, 103, 104, 105, 106, 107, 108, 109, 110, 111, 112, 113, 114, 115, 116, 117, 118, 119, 120, 121, 122, 123, 124, 125, 126, 127, 128, 129, 130, 131, 132, 133, 134, 135, 136, 137, 138, 139, 140, 141, 142] (by decide +kernel) (by decide +kernel)) (goodIn_sub (fun _ h => List.mem_cons_of_mem _ (List.mem_append_left _ (List.mem_append_left _ (List.mem_append_right _ h)))) (by decide +kernel))) (goodIn_sub (fun _ h => List.mem_cons_of_mem _ (List.mem_append_left _ (List.mem_append_right _ h))) (by decide +kernel))) (goodIn_sub (fun _ h => List.mem_cons_of_mem _ (List.mem_append_right _ h)) (by decide +kernel))
set_option maxRecDepth 20000 in
theorem gL_quoin_X6_quoin : GoodIn wsL_quoin (wsV RL 138 RX6 yX6_quoin wsX6_quoin) := goodIn_app (goodIn_of _ (by decide +kernel)) ggL_quoin_X6_quoin
theorem dL_quoin_0 : decode cL_quoin 0 = .ok (.aload_n 3, 1) := by decide +kernel
theorem dL_quoin_1 : decode cL_quoin 1 = .ok (.iconst 0, 1) := by decide +kernel
theorem dL_quoin_2 : decode cL_quoin 2 = .ok (.aload_n 0, 1) := by decide +kernel
theorem dL_quoin_3 : decode cL_quoin 3 = .ok (.iload_n 1, 1) := by decide +kernel
theorem dL_quoin_4 : decode cL_quoin 4 = .ok (.iload_n 2, 1) := by decide +kernel
theorem dL_quoin_5 : decode cL_quoin 5 = .ok (.invokevirtual 138, 3) := by decide +kernel
theorem dL_quoin_8 : decode cL_quoin 8 = .ok (.i2l, 1) := by decide +kernel
theorem dL_quoin_9 : decode cL_quoin 9 = .ok (.lastore, 1) := by decide +kernel
theorem dL_quoin_10 : decode cL_quoin 10 = .ok (.goto 15, 3) := by decide +kernel
theorem dL_quoin_13 : decode cL_quoin 13 = .ok (.astore 4, 2) := by decide +kernel
theorem dL_quoin_15 : decode cL_quoin 15 = .ok (.iconst 1, 1) := by decide +kernel
theorem dL_quoin_16 : decode cL_quoin 16 = .ok (.ireturn, 1) := by decide +kernel
theorem dL_quoin_17 : decode cL_quoin 17 = .ok (.astore 4, 2) := by decide +kernel
theorem dL_quoin_19 : decode cL_quoin 19 = .ok (.iconst 2, 1) := by decide +kernel
theorem dL_quoin_20 : decode cL_quoin 20 = .ok (.ireturn, 1) := by decide +kernel
theorem dL_quoin_21 : decode cL_quoin 21 = .ok (.astore 4, 2) := by decide +kernel
theorem dL_quoin_23 : decode cL_quoin 23 = .ok (.iconst 3, 1) := by decide +kernel
theorem dL_quoin_24 : decode cL_quoin 24 = .ok (.ireturn, 1) := by decide +kernel
theorem dL_quoin_25 : decode cL_quoin 25 = .ok (.iconst 0, 1) := by decide +kernel
theorem dL_quoin_26 : decode cL_quoin 26 = .ok (.ireturn, 1) := by decide +kernel
set_option maxRecDepth 20000 in
theorem ggL_open_X6_open : GoodIn wsL_open wsX6_open := goodIn_ca (goodIn_ca (goodIn_ca (goodIn_r _ [6, 7, 8, 9, 10, 11, 12, 13, 14, 15, 16, 5, 17, 18, 19, 20, 21, 22, 23, 24, 25, 26, 27, 28, 29, 30, 31, 32, 33, 34, 35, 36, 37, 38, 39, 40, 41, 42, 43, 44, 45, 46, 47, 48, 49, 50, 51, 52, 53, 54, 55, 56, 57, 58, 59, 60, 61, 62, 63, 64, 65, 66, 67, 68, 69, 70, 71, 72, 73, 74, 75, 76, 77, 78, 79, 80, 81, 82, 83, 84, 85, 86, 87, 88, 89, 90, 91, 92, 93, 94, 95, 96, 97, 98, 99, 100, 101, 102, 103, 104, 105, 106, 107, 108, 109, 110, 111, 112, 113, 114, 115, 116, 117, 118, 119, 120, 121, 122, 123, 124, 125, 126, 127, 128, 129, 130, 131, 132, 133, 134, 135, 136, 137, 138, 139] (by decide +kernel) (by decide +kernel)) (goodIn_sub (fun _ h => List.mem_cons_of_mem _ (List.mem_append_left _ (List.mem_append_left _ (List.mem_append_right _ h)))) (by decide +kernel))) (goodIn_sub (fun _ h => List.mem_cons_of_mem _ (List.mem_append_left _ (List.mem_append_right _ h))) (by decide +kernel))) (goodIn_sub (fun _ h => List.mem_cons_of_mem _ (List.mem_append_right _ h)) (by decide +kernel))
set_option maxRecDepth 20000 in
theorem gL_open_X6_open : GoodIn wsL_open (wsV RL 141 RX6 yX6_open wsX6_open) := goodIn_app (goodIn_of _ (by decide +kernel)) ggL_open_X6_open
theorem dL_open_0 : decode cL_open 0 = .ok (.aload_n 3, 1) := by decide +kernel
theorem dL_open_1 : decode cL_open 1 = .ok (.iconst 0, 1) := by decide +kernel
theorem dL_open_2 : decode cL_open 2 = .ok (.aload_n 0, 1) := by decide +kernel
theorem dL_open_3 : decode cL_open 3 = .ok (.iload_n 1, 1) := by decide +kernel
theorem dL_open_4 : decode cL_open 4 = .ok (.iload_n 2, 1) := by decide +kernel
theorem dL_open_5 : decode cL_open 5 = .ok (.invokevirtual 141, 3) := by decide +kernel
theorem dL_open_8 : decode cL_open 8 = .ok (.i2l, 1) := by decide +kernel
theorem dL_open_9 : decode cL_open 9 = .ok (.lastore, 1) := by decide +kernel
theorem dL_open_10 : decode cL_open 10 = .ok (.goto 15, 3) := by decide +kernel
theorem dL_open_13 : decode cL_open 13 = .ok (.astore 4, 2) := by decide +kernel
theorem dL_open_15 : decode cL_open 15 = .ok (.iconst 1, 1) := by decide +kernel
theorem dL_open_16 : decode cL_open 16 = .ok (.ireturn, 1) := by decide +kernel
theorem dL_open_17 : decode cL_open 17 = .ok (.astore 4, 2) := by decide +kernel
theorem dL_open_19 : decode cL_open 19 = .ok (.iconst 2, 1) := by decide +kernel
theorem dL_open_20 : decode cL_open 20 = .ok (.ireturn, 1) := by decide +kernel
theorem dL_open_21 : decode cL_open 21 = .ok (.astore 4, 2) := by decide +kernel
theorem dL_open_23 : decode cL_open 23 = .ok (.iconst 3, 1) := by decide +kernel
theorem dL_open_24 : decode cL_open 24 = .ok (.ireturn, 1) := by decide +kernel
theorem dL_open_25 : decode cL_open 25 = .ok (.iconst 0, 1) := by decide +kernel
theorem dL_open_26 : decode cL_open 26 = .ok (.ireturn, 1) := by decide +kernel
set_option maxRecDepth 20000 in
theorem ggL_lock_X6_lock : GoodIn wsL_lock wsX6_lock := goodIn_ca (goodIn_ca (goodIn_ca (goodIn_ca (goodIn_r _ [6, 7, 8, 9, 10, 11, 12, 13, 14, 15, 16, 5, 17, 18, 19, 20, 21, 22, 23, 24, 25, 26, 27, 28, 29, 30, 31, 32, 33, 34, 35, 36, 37, 38, 39, 40, 41, 42, 43, 44, 45, 46, 47, 48, 49, 50, 51, 52, 53, 54, 55, 56, 57, 58, 59, 60, 61, 62, 63, 64, 65, 66, 67, 68, 69, 70, 71, 72, 73, 74, 75, 76, 77, 78, 79, 80, 81, 82, 83, 84, 85, 86, 87, 88, 89, 90, 91, 92, 93, 94, 95, 96, 97, 98, 99, 100, 101, 102, 103, 104, 105, 106, 107, 108, 109, 110, 111, 112, 113, 114, 115, 116, 117, 118, 119, 120, 121, 122, 123, 124, 125, 126, 127, 128, 129, 130, 131, 132, 133, 134, 135, 136, 137, 138, 139, 140, 141, 142, 143, 144, 145, 146, 147, 148, 149, 150, 151, 152, 153, 154, 155, 156, 157, 158, 159, 160, 161, 162, 163, 164, 165, 166, 167, 168, 169, 170, 171, 172, 173, 174, 175, 176, 177, 178, 179, 180, 181, 182, 183, 184, 185, 186, 187, 188, 189, 190, 191, 192, 193, 194, 195, 196, 197, 198, 199, 200, 201, 202, 203, 204, 205, 206, 207, 208, 209, 210, 211, 212, 213, 214, 215, 216, 217, 218, 219, 220, 221, 222, 223, 224, 225, 226] (by decide +kernel) (by decide +kernel)) (goodIn_sub (fun _ h => List.mem_cons_of_mem _ (List.mem_append_left _ (List.mem_append_left _ (List.mem_append_right _ h)))) (by decide +kernel))) (goodIn_sub (fun _ h => List.mem_cons_of_mem _ (List.mem_append_left _ (List.mem_append_right _ h))) (by decide +kernel))) (goodIn_sub (fun _ h => List.mem_cons_of_mem _ (List.mem_append_right _ h)) (by decide +kernel))) (goodIn_sub (fun _ h => List.mem_cons_of_mem _ (List.mem_append_left _ (List.mem_append_left _ (List.mem_append_left _ (List.mem_append_right _ h))))) (by decide +kernel))
set_option maxRecDepth 20000 in
theorem gL_lock_X6_lock : GoodIn wsL_lock (wsV RL 144 RX6 yX6_lock wsX6_lock) := goodIn_app (goodIn_of _ (by decide +kernel)) ggL_lock_X6_lock
theorem dL_lock_0 : decode cL_lock 0 = .ok (.aload_n 2, 1) := by decide +kernel
theorem dL_lock_1 : decode cL_lock 1 = .ok (.iconst 0, 1) := by decide +kernel
theorem dL_lock_2 : decode cL_lock 2 = .ok (.aload_n 0, 1) := by decide +kernel
theorem dL_lock_3 : decode cL_lock 3 = .ok (.iload_n 1, 1) := by decide +kernel
theorem dL_lock_4 : decode cL_lock 4 = .ok (.invokevirtual 144, 3) := by decide +kernel
theorem dL_lock_7 : decode cL_lock 7 = .ok (.i2l, 1) := by decide +kernel
theorem dL_lock_8 : decode cL_lock 8 = .ok (.lastore, 1) := by decide +kernel
theorem dL_lock_9 : decode cL_lock 9 = .ok (.goto 12, 3) := by decide +kernel
theorem dL_lock_12 : decode cL_lock 12 = .ok (.astore_n 3, 1) := by decide +kernel
theorem dL_lock_13 : decode cL_lock 13 = .ok (.iconst 1, 1) := by decide +kernel
theorem dL_lock_14 : decode cL_lock 14 = .ok (.ireturn, 1) := by decide +kernel
theorem dL_lock_15 : decode cL_lock 15 = .ok (.astore_n 3, 1) := by decide +kernel
theorem dL_lock_16 : decode cL_lock 16 = .ok (.iconst 2, 1) := by decide +kernel
theorem dL_lock_17 : decode cL_lock 17 = .ok (.ireturn, 1) := by decide +kernel
theorem dL_lock_18 : decode cL_lock 18 = .ok (.astore_n 3, 1) := by decide +kernel
theorem dL_lock_19 : decode cL_lock 19 = .ok (.iconst 3, 1) := by decide +kernel
theorem dL_lock_20 : decode cL_lock 20 = .ok (.ireturn, 1) := by decide +kernel
theorem dL_lock_21 : decode cL_lock 21 = .ok (.iconst 0, 1) := by decide +kernel
theorem dL_lock_22 : decode cL_lock 22 = .ok (.ireturn, 1) := by decide +kernel
set_option maxRecDepth 20000 in
theorem ggL_unlock_X6_unlock : GoodIn wsL_unlock wsX6_unlock := goodIn_ca (goodIn_ca (goodIn_ca (goodIn_r _ [6, 7, 8, 9, 10, 11, 12, 5, 13, 14, 15, 16, 17, 18, 19, 20, 21, 22, 23, 24, 25, 26, 27, 28, 29, 30, 31, 32, 33, 34, 35, 36, 37, 38, 39, 40, 41, 42, 43, 44, 45, 46, 47, 48, 49, 50, 51, 52, 53, 54, 55, 56, 57, 58, 59, 60, 61, 62, 63, 64, 65, 66, 67, 68, 69, 70, 71, 72, 73, 74, 75, 76, 77, 78, 79, 80, 81, 82, 83, 84, 85, 86, 87, 88, 89, 90, 91, 92, 93, 94, 95, 96, 97, 98, 99, 100, 101, 102, 103, 104, 105, 106, 107, 108, 109, 110, 111, 112, 113, 114, 115, 116, 117, 118, 119, 120, 121, 122, 123, 124, 125, 126, 127, 128, 129, 130, 131, 132, 133] (by decide +kernel) (by decide +kernel)) (goodIn_sub (fun _ h => List.mem_cons_of_mem _ (List.mem_append_left _ (List.mem_append_right _ h))) (by decide +kernel))) (goodIn_sub (fun _ h => List.mem_cons_of_mem _ (List.mem_append_right _ h)) (by decide +kernel))) (goodIn_sub (fun _ h => List.mem_cons_of_mem _ (List.mem_append_left _ (List.mem_append_left _ (List.mem_append_right _ h)))) (by decide +kernel))
set_option maxRecDepth 20000 in
theorem gL_unlock_X6_unlock : GoodIn wsL_unlock (wsV RL 147 RX6 yX6_unlock wsX6_unlock) := goodIn_app (goodIn_of _ (by decide +kernel)) ggL_unlock_X6_unlock
theorem dL_unlock_0 : decode cL_unlock 0 = .ok (.aload_n 2, 1) := by decide +kernel
theorem dL_unlock_1 : decode cL_unlock 1 = .ok (.iconst 0, 1) := by decide +kernel
theorem dL_unlock_2 : decode cL_unlock 2 = .ok (.aload_n 0, 1) := by decide +kernel
theorem dL_unlock_3 : decode cL_unlock 3 = .ok (.iload_n 1, 1) := by decide +kernel
theorem dL_unlock_4 : decode cL_unlock 4 = .ok (.invokevirtual 147, 3) := by decide +kernel
theorem dL_unlock_7 : decode cL_unlock 7 = .ok (.i2l, 1) := by decide +kernel
theorem dL_unlock_8 : decode cL_unlock 8 = .ok (.lastore, 1) := by decide +kernel
theorem dL_unlock_9 : decode cL_unlock 9 = .ok (.goto 9, 3) := by decide +kernel
theorem dL_unlock_12 : decode cL_unlock 12 = .ok (.astore_n 3, 1) := by decide +kernel
theorem dL_unlock_13 : decode cL_unlock 13 = .ok (.iconst 1, 1) := by decide +kernel
theorem dL_unlock_14 : decode cL_unlock 14 = .ok (.ireturn, 1) := by decide +kernel
theorem dL_unlock_15 : decode cL_unlock 15 = .ok (.astore_n 3, 1) := by decide +kernel
theorem dL_unlock_16 : decode cL_unlock 16 = .ok (.iconst 2, 1) := by decide +kernel
theorem dL_unlock_17 : decode cL_unlock 17 = .ok (.ireturn, 1) := by decide +kernel
theorem dL_unlock_18 : decode cL_unlock 18 = .ok (.iconst 0, 1) := by decide +kernel
theorem dL_unlock_19 : decode cL_unlock 19 = .ok (.ireturn, 1) := by decide +kernel
set_option maxRecDepth 20000 in
theorem ggL_relock_X6_relock : GoodIn wsL_relock wsX6_relock := goodIn_ca (goodIn_ca (goodIn_ca (goodIn_ca (goodIn_r _ [6, 7, 8, 9, 10, 11, 12, 13, 14, 15, 16, 17, 18, 5, 19, 20, 21, 22, 23, 24, 25, 26, 27, 28, 29, 30, 31, 32, 33, 34, 35, 36, 37, 38, 39, 40, 41, 42, 43, 44, 45, 46, 47, 48, 49, 50, 51, 52, 53, 54, 55, 56, 57, 58, 59, 60, 61, 62, 63, 64, 65, 66, 67, 68, 69, 70, 71, 72, 73, 74, 75, 76, 77, 78, 79, 80, 81, 82, 83, 84, 85, 86, 87, 88, 89, 90, 91, 92, 93, 94, 95, 96, 97, 98, 99, 100, 101, 102, 103, 104, 105, 106, 107, 108, 109, 110, 111, 112, 113, 114, 115, 116, 117, 118, 119, 120, 121, 122, 123, 124, 125, 126, 127, 128, 129, 130, 131, 132, 133, 134, 135, 136, 137, 138, 139, 140, 141, 142, 143, 144, 145, 146, 147, 148, 149, 150, 151, 152, 153, 154, 155, 156, 157, 158, 159, 160, 161, 162, 163, 164, 165, 166, 167, 168, 169, 170, 171, 172, 173, 174, 175, 176, 177, 178, 179, 180, 181, 182, 183, 184, 185, 186, 187, 188, 189, 190, 191, 192, 193, 194, 195, 196, 197, 198, 199, 200, 201, 202, 203, 204, 205, 206, 207, 208, 209, 210, 211, 212, 213, 214, 215, 216, 217, 218, 219, 220, 221, 222, 223, 224, 225, 226, 227, 228, 229, 230, 231, 232, 233, 234, 235, 236, 237, 238, 239, 240, 241] (by decide +kernel) (by decide +kernel)) (goodIn_sub (fun _ h => List.mem_cons_of_mem _ (List.mem_append_left _ (List.mem_append_left _ (List.mem_append_right _ h)))) (by decide +kernel))) (goodIn_sub (fun _ h => List.mem_cons_of_mem _ (List.mem_append_left _ (List.mem_append_right _ h))) (by decide +kernel))) (goodIn_sub (fun _ h => List.mem_cons_of_mem _ (List.mem_append_right _ h)) (by decide +kernel))) (goodIn_sub (fun _ h => List.mem_cons_of_mem _ (List.mem_append_left _ (List.mem_append_left _ (List.mem_append_left _ (List.mem_append_right _ h))))) (by decide +kernel))
set_option maxRecDepth 20000 in
theorem gL_relock_X6_relock : GoodIn wsL_relock (wsV RL 150 RX6 yX6_relock wsX6_relock) := goodIn_app (goodIn_of _ (by decide +kernel)) ggL_relock_X6_relock
theorem dL_relock_0 : decode cL_relock 0 = .ok (.aload_n 2, 1) := by decide +kernel
theorem dL_relock_1 : decode cL_relock 1 = .ok (.iconst 0, 1) := by decide +kernel
theorem dL_relock_2 : decode cL_relock 2 = .ok (.aload_n 0, 1) := by decide +kernel
theorem dL_relock_3 : decode cL_relock 3 = .ok (.iload_n 1, 1) := by decide +kernel
theorem dL_relock_4 : decode cL_relock 4 = .ok (.invokevirtual 150, 3) := by decide +kernel
theorem dL_relock_7 : decode cL_relock 7 = .ok (.i2l, 1) := by decide +kernel
theorem dL_relock_8 : decode cL_relock 8 = .ok (.lastore, 1) := by decide +kernel
theorem dL_relock_9 : decode cL_relock 9 = .ok (.goto 12, 3) := by decide +kernel
theorem dL_relock_12 : decode cL_relock 12 = .ok (.astore_n 3, 1) := by decide +kernel
theorem dL_relock_13 : decode cL_relock 13 = .ok (.iconst 1, 1) := by decide +kernel
theorem dL_relock_14 : decode cL_relock 14 = .ok (.ireturn, 1) := by decide +kernel
theorem dL_relock_15 : decode cL_relock 15 = .ok (.astore_n 3, 1) := by decide +kernel
theorem dL_relock_16 : decode cL_relock 16 = .ok (.iconst 2, 1) := by decide +kernel
theorem dL_relock_17 : decode cL_relock 17 = .ok (.ireturn, 1) := by decide +kernel
theorem dL_relock_18 : decode cL_relock 18 = .ok (.astore_n 3, 1) := by decide +kernel
theorem dL_relock_19 : decode cL_relock 19 = .ok (.iconst 3, 1) := by decide +kernel
theorem dL_relock_20 : decode cL_relock 20 = .ok (.ireturn, 1) := by decide +kernel
theorem dL_relock_21 : decode cL_relock 21 = .ok (.iconst 0, 1) := by decide +kernel
theorem dL_relock_22 : decode cL_relock 22 = .ok (.ireturn, 1) := by decide +kernel
set_option maxRecDepth 20000 in
theorem ggL_tighten_X6_tighten : GoodIn wsL_tighten wsX6_tighten := goodIn_ca (goodIn_ca (goodIn_ca (goodIn_r _ [6, 7, 8, 9, 10, 11, 12, 13, 14, 15, 16, 17, 18, 19, 20, 21, 22, 5, 23, 24, 25, 26, 27, 28, 29, 30, 31, 32, 33, 34, 35, 36, 37, 38, 39, 40, 41, 42, 43, 44, 45, 46, 47, 48, 49, 50, 51, 52, 53, 54, 55, 56, 57, 58, 59, 60, 61, 62, 63, 64, 65, 66, 67, 68, 69, 70, 71, 72, 73, 74, 75, 76, 77, 78, 79, 80, 81, 82, 83, 84, 85, 86, 87, 88, 89, 90, 91, 92, 93, 94, 95, 96, 97, 98, 99, 100, 101, 102, 103, 104, 105, 106, 107, 108, 109, 110, 111, 112, 113, 114, 115, 116, 117, 118, 119, 120, 121, 122, 123, 124, 125] (by decide +kernel) (by decide +kernel)) (goodIn_sub (fun _ h => List.mem_cons_of_mem _ (List.mem_append_left _ (List.mem_append_left _ (List.mem_append_right _ h)))) (by decide +kernel))) (goodIn_sub (fun _ h => List.mem_cons_of_mem _ (List.mem_append_left _ (List.mem_append_right _ h))) (by decide +kernel))) (goodIn_sub (fun _ h => List.mem_cons_of_mem _ (List.mem_append_right _ h)) (by decide +kernel))
set_option maxRecDepth 20000 in
theorem gL_tighten_X6_tighten : GoodIn wsL_tighten (wsV RL 153 RX6 yX6_tighten wsX6_tighten) := goodIn_app (goodIn_of _ (by decide +kernel)) ggL_tighten_X6_tighten
theorem dL_tighten_0 : decode cL_tighten 0 = .ok (.aload_n 2, 1) := by decide +kernel
theorem dL_tighten_1 : decode cL_tighten 1 = .ok (.iconst 0, 1) := by decide +kernel
theorem dL_tighten_2 : decode cL_tighten 2 = .ok (.aload_n 0, 1) := by decide +kernel
theorem dL_tighten_3 : decode cL_tighten 3 = .ok (.iload_n 1, 1) := by decide +kernel
theorem dL_tighten_4 : decode cL_tighten 4 = .ok (.invokevirtual 153, 3) := by decide +kernel
theorem dL_tighten_7 : decode cL_tighten 7 = .ok (.i2l, 1) := by decide +kernel
theorem dL_tighten_8 : decode cL_tighten 8 = .ok (.lastore, 1) := by decide +kernel
theorem dL_tighten_9 : decode cL_tighten 9 = .ok (.goto 12, 3) := by decide +kernel
theorem dL_tighten_12 : decode cL_tighten 12 = .ok (.astore_n 3, 1) := by decide +kernel
theorem dL_tighten_13 : decode cL_tighten 13 = .ok (.iconst 1, 1) := by decide +kernel
theorem dL_tighten_14 : decode cL_tighten 14 = .ok (.ireturn, 1) := by decide +kernel
theorem dL_tighten_15 : decode cL_tighten 15 = .ok (.astore_n 3, 1) := by decide +kernel
theorem dL_tighten_16 : decode cL_tighten 16 = .ok (.iconst 2, 1) := by decide +kernel
theorem dL_tighten_17 : decode cL_tighten 17 = .ok (.ireturn, 1) := by decide +kernel
theorem dL_tighten_18 : decode cL_tighten 18 = .ok (.astore_n 3, 1) := by decide +kernel
theorem dL_tighten_19 : decode cL_tighten 19 = .ok (.iconst 3, 1) := by decide +kernel
theorem dL_tighten_20 : decode cL_tighten 20 = .ok (.ireturn, 1) := by decide +kernel
theorem dL_tighten_21 : decode cL_tighten 21 = .ok (.iconst 0, 1) := by decide +kernel
theorem dL_tighten_22 : decode cL_tighten 22 = .ok (.ireturn, 1) := by decide +kernel
set_option maxRecDepth 20000 in
theorem ggL_print_X6_print : GoodIn wsL_print wsX6_print := goodIn_ca (goodIn_ca (goodIn_ca (goodIn_r _ [6, 7, 8, 9, 10, 11, 12, 5, 13, 14, 15, 16, 17, 18, 19, 20, 21, 22, 23, 24, 25, 26, 27, 28, 29, 30, 31, 32, 33, 34, 35, 36, 37, 38, 39, 40, 41, 42, 43, 44, 45, 46, 47, 48, 49, 50, 51, 52, 53, 54, 55, 56, 57, 58, 59, 60, 61, 62, 63, 64, 65, 66, 67, 68, 69, 70, 71, 72, 73, 74, 75, 76, 77, 78, 79, 80, 81, 82, 83, 84, 85, 86, 87, 88, 89, 90, 91, 92, 93, 94, 95, 96, 97, 98, 99, 100, 101, 102, 103, 104, 105, 106, 107, 108, 109, 110, 111, 112, 113, 114, 115, 116, 117, 118, 119, 120, 121, 122, 123, 124, 125, 126, 127, 128, 129, 130, 131, 132, 133, 134, 135, 136, 137, 138, 139, 140, 141, 142, 143, 144, 145, 146, 147, 148, 149, 150, 151, 152, 153, 154, 155, 156, 157, 158, 159, 160, 161, 162, 163, 164, 165, 166, 167, 168, 169, 170, 171, 172, 173, 174, 175] (by decide +kernel) (by decide +kernel)) (goodIn_sub (fun _ h => List.mem_cons_of_mem _ (List.mem_append_left _ (List.mem_append_right _ h))) (by decide +kernel))) (goodIn_sub (fun _ h => List.mem_cons_of_mem _ (List.mem_append_right _ h)) (by decide +kernel))) (goodIn_sub (fun _ h => List.mem_cons_of_mem _ (List.mem_append_left _ (List.mem_append_left _ (List.mem_append_right _ h)))) (by decide +kernel))
set_option maxRecDepth 20000 in
theorem gL_print_X6_print : GoodIn wsL_print (wsV RL 156 RX6 yX6_print wsX6_print) := goodIn_app (goodIn_of _ (by decide +kernel)) ggL_print_X6_print
theorem dL_print_0 : decode cL_print 0 = .ok (.aload_n 2, 1) := by decide +kernel
theorem dL_print_1 : decode cL_print 1 = .ok (.iconst 0, 1) := by decide +kernel
theorem dL_print_2 : decode cL_print 2 = .ok (.aload_n 0, 1) := by decide +kernel
theorem dL_print_3 : decode cL_print 3 = .ok (.iload_n 1, 1) := by decide +kernel
theorem dL_print_4 : decode cL_print 4 = .ok (.invokevirtual 156, 3) := by decide +kernel
theorem dL_print_7 : decode cL_print 7 = .ok (.i2l, 1) := by decide +kernel
theorem dL_print_8 : decode cL_print 8 = .ok (.lastore, 1) := by decide +kernel
theorem dL_print_9 : decode cL_print 9 = .ok (.goto 9, 3) := by decide +kernel
theorem dL_print_12 : decode cL_print 12 = .ok (.astore_n 3, 1) := by decide +kernel
theorem dL_print_13 : decode cL_print 13 = .ok (.iconst 1, 1) := by decide +kernel
theorem dL_print_14 : decode cL_print 14 = .ok (.ireturn, 1) := by decide +kernel
theorem dL_print_15 : decode cL_print 15 = .ok (.astore_n 3, 1) := by decide +kernel
theorem dL_print_16 : decode cL_print 16 = .ok (.iconst 2, 1) := by decide +kernel
theorem dL_print_17 : decode cL_print 17 = .ok (.ireturn, 1) := by decide +kernel
theorem dL_print_18 : decode cL_print 18 = .ok (.iconst 0, 1) := by decide +kernel
theorem dL_print_19 : decode cL_print 19 = .ok (.ireturn, 1) := by decide +kernel
set_option maxRecDepth 20000 in
theorem ggL_rest_X6_rest : GoodIn wsL_rest wsX6_rest := goodIn_ca (goodIn_ca (goodIn_ca (goodIn_r _ [6, 7, 8, 9, 10, 11, 12, 5, 13, 14, 15, 16, 17, 18, 19, 20, 21, 22, 23, 24, 25, 26, 27, 28, 29, 30, 31, 32, 33, 34, 35, 36, 37, 38, 39, 40, 41, 42, 43, 44, 45, 46, 47, 48, 49, 50, 51, 52, 53, 54, 55, 56, 57, 58, 59, 60, 61, 62, 63, 64, 65, 66, 67, 68, 69, 70, 71, 72, 73, 74, 75, 76, 77, 78, 79, 80, 81, 82, 83, 84, 85, 86, 87, 88, 89, 90, 91, 92, 93, 94, 95, 96, 97, 98, 99, 100, 101, 102, 103, 104, 105, 106, 107, 108, 109, 110, 111, 112, 113, 114, 115, 116, 117, 118, 119, 120, 121, 122, 123, 124, 125, 126, 127, 128, 129, 130, 131, 132, 133, 134, 135, 136, 137, 138, 139, 140, 141, 142, 143, 144, 145, 146, 147, 148, 149, 150, 151, 152, 153, 154, 155, 156, 157, 158, 159, 160, 161, 162, 163, 164, 165, 166, 167, 168, 169] (by decide +kernel) (by decide +kernel)) (goodIn_sub (fun _ h => List.mem_cons_of_mem _ (List.mem_append_left _ (List.mem_append_right _ h))) (by decide +kernel))) (goodIn_sub (fun _ h => List.mem_cons_of_mem _ (List.mem_append_right _ h)) (by decide +kernel))) (goodIn_sub (fun _ h => List.mem_cons_of_mem _ (List.mem_append_left _ (List.mem_append_left _ (List.mem_append_right _ h)))) (by decide +kernel))
set_option maxRecDepth 20000 in
theorem gL_rest_X6_rest : GoodIn wsL_rest (wsV RL 159 RX6 yX6_rest wsX6_rest) := goodIn_app (goodIn_of _ (by decide +kernel)) ggL_rest_X6_rest
theorem dL_rest_0 : decode cL_rest 0 = .ok (.aload_n 2, 1) := by decide +kernel
theorem dL_rest_1 : decode cL_rest 1 = .ok (.iconst 0, 1) := by decide +kernel
theorem dL_rest_2 : decode cL_rest 2 = .ok (.aload_n 0, 1) := by decide +kernel
theorem dL_rest_3 : decode cL_rest 3 = .ok (.iload_n 1, 1) := by decide +kernel
theorem dL_rest_4 : decode cL_rest 4 = .ok (.invokevirtual 159, 3) := by decide +kernel
theorem dL_rest_7 : decode cL_rest 7 = .ok (.i2l, 1) := by decide +kernel
theorem dL_rest_8 : decode cL_rest 8 = .ok (.lastore, 1) := by decide +kernel
theorem dL_rest_9 : decode cL_rest 9 = .ok (.goto 9, 3) := by decide +kernel
theorem dL_rest_12 : decode cL_rest 12 = .ok (.astore_n 3, 1) := by decide +kernel
theorem dL_rest_13 : decode cL_rest 13 = .ok (.iconst 1, 1) := by decide +kernel
theorem dL_rest_14 : decode cL_rest 14 = .ok (.ireturn, 1) := by decide +kernel
theorem dL_rest_15 : decode cL_rest 15 = .ok (.astore_n 3, 1) := by decide +kernel
theorem dL_rest_16 : decode cL_rest 16 = .ok (.iconst 2, 1) := by decide +kernel
theorem dL_rest_17 : decode cL_rest 17 = .ok (.ireturn, 1) := by decide +kernel
theorem dL_rest_18 : decode cL_rest 18 = .ok (.iconst 0, 1) := by decide +kernel
theorem dL_rest_19 : decode cL_rest 19 = .ok (.ireturn, 1) := by decide +kernel
set_option maxRecDepth 20000 in
theorem ggL_buy_X6_buy : GoodIn wsL_buy wsX6_buy := goodIn_ca (goodIn_ca (goodIn_ca (goodIn_ca (goodIn_r _ [6, 7, 8, 9, 10, 11, 12, 13, 14, 5, 15, 16, 17, 18, 19, 20, 21, 22, 23, 24, 25, 26, 27, 28, 29, 30, 31, 32, 33, 34, 35, 36, 37, 38, 39, 40, 41, 42, 43, 44, 45, 46, 47, 48, 49, 50, 51, 52, 53, 54, 55, 56, 57, 58, 59, 60, 61, 62, 63, 64, 65, 66, 67, 68, 69, 70, 71, 72, 73, 74, 75, 76, 77, 78, 79, 80, 81, 82, 83, 84, 85, 86, 87, 88, 89, 90, 91, 92, 93, 94, 95, 96, 97, 98, 99, 100, 101, 102, 103, 104, 105, 106, 107, 108, 109, 110, 111, 112, 113, 114] (by decide +kernel) (by decide +kernel)) (goodIn_sub (fun _ h => List.mem_cons_of_mem _ (List.mem_append_left _ (List.mem_append_left _ (List.mem_append_left _ (List.mem_append_right _ h))))) (by decide +kernel))) (goodIn_sub (fun _ h => List.mem_cons_of_mem _ (List.mem_append_left _ (List.mem_append_left _ (List.mem_append_right _ h)))) (by decide +kernel))) (goodIn_sub (fun _ h => List.mem_cons_of_mem _ (List.mem_append_left _ (List.mem_append_right _ h))) (by decide +kernel))) (goodIn_sub (fun _ h => List.mem_cons_of_mem _ (List.mem_append_right _ h)) (by decide +kernel))
set_option maxRecDepth 20000 in
theorem gL_buy_X6_buy : GoodIn wsL_buy (wsV RL 162 RX6 yX6_buy wsX6_buy) := goodIn_app (goodIn_of _ (by decide +kernel)) ggL_buy_X6_buy
theorem dL_buy_0 : decode cL_buy 0 = .ok (.aload_n 3, 1) := by decide +kernel
theorem dL_buy_1 : decode cL_buy 1 = .ok (.iconst 0, 1) := by decide +kernel
theorem dL_buy_2 : decode cL_buy 2 = .ok (.aload_n 0, 1) := by decide +kernel
theorem dL_buy_3 : decode cL_buy 3 = .ok (.iload_n 1, 1) := by decide +kernel
theorem dL_buy_4 : decode cL_buy 4 = .ok (.iload_n 2, 1) := by decide +kernel
theorem dL_buy_5 : decode cL_buy 5 = .ok (.invokevirtual 162, 3) := by decide +kernel
theorem dL_buy_8 : decode cL_buy 8 = .ok (.i2l, 1) := by decide +kernel
theorem dL_buy_9 : decode cL_buy 9 = .ok (.lastore, 1) := by decide +kernel
theorem dL_buy_10 : decode cL_buy 10 = .ok (.goto 15, 3) := by decide +kernel
theorem dL_buy_13 : decode cL_buy 13 = .ok (.astore 4, 2) := by decide +kernel
theorem dL_buy_15 : decode cL_buy 15 = .ok (.iconst 1, 1) := by decide +kernel
theorem dL_buy_16 : decode cL_buy 16 = .ok (.ireturn, 1) := by decide +kernel
theorem dL_buy_17 : decode cL_buy 17 = .ok (.astore 4, 2) := by decide +kernel
theorem dL_buy_19 : decode cL_buy 19 = .ok (.iconst 2, 1) := by decide +kernel
theorem dL_buy_20 : decode cL_buy 20 = .ok (.ireturn, 1) := by decide +kernel
theorem dL_buy_21 : decode cL_buy 21 = .ok (.astore 4, 2) := by decide +kernel
theorem dL_buy_23 : decode cL_buy 23 = .ok (.iconst 3, 1) := by decide +kernel
theorem dL_buy_24 : decode cL_buy 24 = .ok (.ireturn, 1) := by decide +kernel
theorem dL_buy_25 : decode cL_buy 25 = .ok (.iconst 0, 1) := by decide +kernel
theorem dL_buy_26 : decode cL_buy 26 = .ok (.ireturn, 1) := by decide +kernel
set_option maxRecDepth 20000 in
theorem ggL_undo_X6_undo : GoodIn wsL_undo wsX6_undo := goodIn_ca (goodIn_r _ [6, 7, 8, 9, 10, 11, 12, 13, 14, 15, 16, 17, 18, 19, 20, 21, 22, 23, 24, 25, 26, 27, 28, 29, 30, 31, 32, 33, 34, 35, 36, 37, 38, 39, 40, 41, 42, 43, 44, 45, 46, 47, 48, 49, 50, 51, 52, 53, 54, 55, 56, 57, 58, 59, 60, 61, 62, 63, 64, 65, 66, 67, 68, 69, 70, 71, 72, 73, 74, 75, 76, 77, 78, 79, 80, 81, 82, 83, 84] (by decide +kernel) (by decide +kernel)) (goodIn_sub (fun _ h => List.mem_cons_of_mem _ (List.mem_append_right _ h)) (by decide +kernel))
set_option maxRecDepth 20000 in
theorem gL_undo_X6_undo : GoodIn wsL_undo (wsV RL 165 RX6 yX6_undo wsX6_undo) := goodIn_app (goodIn_of _ (by decide +kernel)) ggL_undo_X6_undo
theorem dL_undo_0 : decode cL_undo 0 = .ok (.aload_n 1, 1) := by decide +kernel
theorem dL_undo_1 : decode cL_undo 1 = .ok (.iconst 0, 1) := by decide +kernel
theorem dL_undo_2 : decode cL_undo 2 = .ok (.aload_n 0, 1) := by decide +kernel
theorem dL_undo_3 : decode cL_undo 3 = .ok (.invokevirtual 165, 3) := by decide +kernel
theorem dL_undo_6 : decode cL_undo 6 = .ok (.i2l, 1) := by decide +kernel
theorem dL_undo_7 : decode cL_undo 7 = .ok (.lastore, 1) := by decide +kernel
theorem dL_undo_8 : decode cL_undo 8 = .ok (.goto 6, 3) := by decide +kernel
theorem dL_undo_11 : decode cL_undo 11 = .ok (.astore_n 2, 1) := by decide +kernel
theorem dL_undo_12 : decode cL_undo 12 = .ok (.iconst 1, 1) := by decide +kernel
theorem dL_undo_13 : decode cL_undo 13 = .ok (.ireturn, 1) := by decide +kernel
theorem dL_undo_14 : decode cL_undo 14 = .ok (.iconst 0, 1) := by decide +kernel
theorem dL_undo_15 : decode cL_undo 15 = .ok (.ireturn, 1) := by decide +kernel
set_option maxRecDepth 20000 in
theorem ggL_save_X6_save : GoodIn wsL_save wsX6_save := goodIn_ca (goodIn_ca (goodIn_ca (goodIn_r _ [6, 7, 8, 9, 10, 11, 12, 13, 5, 14, 15, 16, 17, 18, 19, 20, 21, 22, 23, 24, 25, 26, 27, 28, 29, 30, 31, 32, 33, 34, 35, 36, 37, 38, 39, 40, 41, 42, 43, 44, 45, 46, 47, 48, 49, 50, 51, 52, 53, 54, 55, 56, 57, 58, 59, 60, 61, 62, 63, 64, 65, 66, 67, 68, 69, 70, 71, 72, 73, 74, 75, 76, 77, 78, 79, 80, 81, 82, 83, 84] (by decide +kernel) (by decide +kernel)) (goodIn_sub (fun _ h => List.mem_cons_of_mem _ (List.mem_append_left _ (List.mem_append_left _ (List.mem_append_right _ h)))) (by decide +kernel))) (goodIn_sub (fun _ h => List.mem_cons_of_mem _ (List.mem_append_left _ (List.mem_append_right _ h))) (by decide +kernel))) (goodIn_sub (fun _ h => List.mem_cons_of_mem _ (List.mem_append_right _ h)) (by decide +kernel))
set_option maxRecDepth 20000 in
theorem gL_save_X6_save : GoodIn wsL_save (wsV RL 168 RX6 yX6_save wsX6_save) := goodIn_app (goodIn_of _ (by decide +kernel)) ggL_save_X6_save
theorem dL_save_0 : decode cL_save 0 = .ok (.aload_n 2, 1) := by decide +kernel
theorem dL_save_1 : decode cL_save 1 = .ok (.iconst 0, 1) := by decide +kernel
theorem dL_save_2 : decode cL_save 2 = .ok (.aload_n 0, 1) := by decide +kernel
theorem dL_save_3 : decode cL_save 3 = .ok (.iload_n 1, 1) := by decide +kernel
theorem dL_save_4 : decode cL_save 4 = .ok (.invokevirtual 168, 3) := by decide +kernel
theorem dL_save_7 : decode cL_save 7 = .ok (.i2l, 1) := by decide +kernel
theorem dL_save_8 : decode cL_save 8 = .ok (.lastore, 1) := by decide +kernel
theorem dL_save_9 : decode cL_save 9 = .ok (.goto 9, 3) := by decide +kernel
theorem dL_save_12 : decode cL_save 12 = .ok (.astore_n 3, 1) := by decide +kernel
theorem dL_save_13 : decode cL_save 13 = .ok (.iconst 1, 1) := by decide +kernel
theorem dL_save_14 : decode cL_save 14 = .ok (.ireturn, 1) := by decide +kernel
theorem dL_save_15 : decode cL_save 15 = .ok (.astore_n 3, 1) := by decide +kernel
theorem dL_save_16 : decode cL_save 16 = .ok (.iconst 2, 1) := by decide +kernel
theorem dL_save_17 : decode cL_save 17 = .ok (.ireturn, 1) := by decide +kernel
theorem dL_save_18 : decode cL_save 18 = .ok (.iconst 0, 1) := by decide +kernel
theorem dL_save_19 : decode cL_save 19 = .ok (.ireturn, 1) := by decide +kernel
set_option maxRecDepth 20000 in
theorem ggL_restore_X6_restore : GoodIn wsL_restore wsX6_restore := goodIn_ca (goodIn_ca (goodIn_ca (goodIn_r _ [6, 7, 8, 9, 10, 11, 12, 13, 14, 15, 5, 16, 17, 18, 19, 20, 21, 22, 23, 24, 25, 26, 27, 28, 29, 30, 31, 32, 33, 34, 35, 36, 37, 38, 39, 40, 41, 42, 43, 44, 45, 46, 47, 48, 49, 50, 51, 52, 53, 54, 55, 56, 57, 58, 59, 60, 61, 62, 63, 64, 65, 66, 67, 68, 69, 70, 71, 72, 73, 74, 75, 76, 77, 78, 79, 80, 81, 82, 83, 84, 85, 86, 87, 88, 89] (by decide +kernel) (by decide +kernel)) (goodIn_sub (fun _ h => List.mem_cons_of_mem _ (List.mem_append_left _ (List.mem_append_left _ (List.mem_append_right _ h)))) (by decide +kernel))) (goodIn_sub (fun _ h => List.mem_cons_of_mem _ (List.mem_append_left _ (List.mem_append_right _ h))) (by decide +kernel))) (goodIn_sub (fun _ h => List.mem_cons_of_mem _ (List.mem_append_right _ h)) (by decide +kernel))
set_option maxRecDepth 20000 in
theorem gL_restore_X6_restore : GoodIn wsL_restore (wsV RL 171 RX6 yX6_restore wsX6_restore) := goodIn_app (goodIn_of _ (by decide +kernel)) ggL_restore_X6_restore
theorem dL_restore_0 : decode cL_restore 0 = .ok (.aload_n 2, 1) := by decide +kernel
theorem dL_restore_1 : decode cL_restore 1 = .ok (.iconst 0, 1) := by decide +kernel
theorem dL_restore_2 : decode cL_restore 2 = .ok (.aload_n 0, 1) := by decide +kernel
theorem dL_restore_3 : decode cL_restore 3 = .ok (.iload_n 1, 1) := by decide +kernel
theorem dL_restore_4 : decode cL_restore 4 = .ok (.invokevirtual 171, 3) := by decide +kernel
theorem dL_restore_7 : decode cL_restore 7 = .ok (.i2l, 1) := by decide +kernel
theorem dL_restore_8 : decode cL_restore 8 = .ok (.lastore, 1) := by decide +kernel
theorem dL_restore_9 : decode cL_restore 9 = .ok (.goto 9, 3) := by decide +kernel
theorem dL_restore_12 : decode cL_restore 12 = .ok (.astore_n 3, 1) := by decide +kernel
theorem dL_restore_13 : decode cL_restore 13 = .ok (.iconst 1, 1) := by decide +kernel
theorem dL_restore_14 : decode cL_restore 14 = .ok (.ireturn, 1) := by decide +kernel
theorem dL_restore_15 : decode cL_restore 15 = .ok (.astore_n 3, 1) := by decide +kernel
theorem dL_restore_16 : decode cL_restore 16 = .ok (.iconst 2, 1) := by decide +kernel
theorem dL_restore_17 : decode cL_restore 17 = .ok (.ireturn, 1) := by decide +kernel
theorem dL_restore_18 : decode cL_restore 18 = .ok (.iconst 0, 1) := by decide +kernel
theorem dL_restore_19 : decode cL_restore 19 = .ok (.ireturn, 1) := by decide +kernel
set_option maxRecDepth 20000 in
theorem ggL_law_X6_init : GoodIn wsL_law wsX6_init := goodIn_r _ [10, 11, 12, 13, 14, 15, 16, 17, 18, 19, 20, 21, 22, 23, 24, 25, 26, 27, 28, 29, 30, 31, 32, 33, 34, 35, 36, 37, 38, 39, 40, 41, 42, 43, 44, 45, 46, 47, 48, 49, 50, 51, 52, 53, 54, 55, 56, 57, 58, 59, 60, 61, 62, 63, 64, 65, 66, 67, 68, 69, 70, 71, 72, 73, 74, 75, 76, 77, 6, 78, 79, 80, 81, 82, 83, 84, 85, 86, 87, 88, 89, 90, 91, 92, 93, 94, 95, 96, 97, 98, 99, 100, 101, 102, 103, 104, 105, 106, 107, 1817, 1818, 1819, 1820, 1821, 1822, 1823, 1824, 1825, 1765, 1766, 1767, 1768, 1769, 1770, 1771, 1772, 1773, 1774, 1775, 1826, 1827, 1828, 1829, 1830, 1831, 1832, 1833, 1834, 1835, 1836, 1837, 1838, 1839, 1840, 1841, 1842, 1843, 1844, 1845, 1846, 1847, 1848, 1849, 1850, 1851, 1852, 1853, 1854, 1855, 1856, 1857, 1858, 1859, 1860, 1861, 1862, 1863, 1864, 1865, 1866, 1867, 1868, 1869] (by decide +kernel) (by decide +kernel)
set_option maxRecDepth 20000 in
theorem gL_law_X6_init : GoodIn wsL_law (wsX6_init) := ggL_law_X6_init
set_option maxRecDepth 20000 in
theorem ggL_law_X7_init : GoodIn wsL_law wsX7_init := goodIn_r _ [110, 111, 12, 13, 32, 112, 46, 113, 114, 115, 116, 117, 118, 119, 120, 121, 122, 123, 124, 125, 126, 127, 128, 129, 130, 1776, 1777, 1778, 1779, 1780, 1781, 1782, 1783, 1784, 1785, 1786, 1787, 1788, 1789, 1790, 1791, 1792, 1793, 1794, 1795, 1796, 1797, 1798, 1799, 1800, 1801, 1802, 1803, 1804, 1805, 1806, 1807, 1808, 1809, 1810, 1811, 1812, 1813, 1814, 1815, 1816] (by decide +kernel) (by decide +kernel)
set_option maxRecDepth 20000 in
theorem gL_law_X7_init : GoodIn wsL_law (wsX7_init) := ggL_law_X7_init
set_option maxRecDepth 20000 in
theorem ggL_law_X6_append : GoodIn wsL_law wsX6_append := goodIn_ca (goodIn_r _ [134, 17, 135, 136, 137, 138, 16, 139, 140, 141, 142, 143, 144, 47, 1765, 1766, 1767, 1768, 1769, 1770, 1771, 1772, 1773, 1774, 1775, 1817, 1818, 1819, 1820, 1821, 1822, 1823, 1824, 1825] (by decide +kernel) (by decide +kernel)) (goodIn_sub (fun _ h => List.mem_append_left _ (List.mem_append_left _ (List.mem_append_left _ (List.mem_append_right _ h)))) (by decide +kernel))
set_option maxRecDepth 20000 in
theorem gL_law_X6_append : GoodIn wsL_law (wsV RL 178 RX6 yX6_append wsX6_append) := goodIn_app (goodIn_of _ (by decide +kernel)) ggL_law_X6_append
set_option maxRecDepth 20000 in
theorem ggL_law_X7_append : GoodIn wsL_law wsX7_append := goodIn_ca (goodIn_r _ [148, 149, 150, 119, 1776, 1777, 1778, 1779, 1780, 1781, 1782, 1783, 1784, 1785, 1786, 1787, 1788, 1789, 1790, 1791, 1792, 1793, 1794, 1795, 1796, 1797, 1798, 1799, 1800, 1801, 1802, 1803, 1804, 1805, 1806, 1807, 1808, 1809, 1810, 1811, 1812, 1813, 1814, 1815, 1816] (by decide +kernel) (by decide +kernel)) (goodIn_sub (fun _ h => List.mem_append_left _ (List.mem_append_left _ (List.mem_append_left _ (List.mem_append_right _ h)))) (by decide +kernel))
set_option maxRecDepth 20000 in
theorem gL_law_X7_append : GoodIn wsL_law (wsV RL 182 RX7 yX7_append wsX7_append) := goodIn_app (goodIn_of _ (by decide +kernel)) ggL_law_X7_append
set_option maxRecDepth 20000 in
theorem ggL_law_L_load : GoodIn wsL_law wsL_load := goodIn_ca (goodIn_ca (goodIn_ca (goodIn_r _ [154, 155, 156, 157, 158, 2, 159, 160, 161, 162, 163, 17, 135, 42, 30, 41, 164, 165, 166, 167, 16, 168, 169, 170, 171, 172, 173, 174, 175, 176, 140, 177, 178, 179, 180, 181, 49, 182, 48, 183, 184, 185, 186, 47, 187, 188, 189, 190, 191, 192, 193, 194, 195, 196, 197, 28, 198, 70, 71, 199, 200, 201, 202, 203, 204, 205, 206, 207, 73, 208, 80, 209, 210, 211, 212, 213, 214, 215, 216, 217, 218, 219, 220, 221, 222, 79, 223, 224, 225, 226, 227, 228, 229, 230, 231, 232, 233, 234, 235, 236, 237, 238, 239, 240, 241, 242, 243, 244, 245, 246, 247, 248, 249, 250, 251, 252, 253, 254, 255, 256, 257, 258, 259, 260, 261, 262, 263, 264, 265, 266, 267, 268, 269, 270, 271, 272, 273, 274, 275, 276, 96, 277, 278, 279, 280, 281, 282, 283, 284, 285, 286, 287, 288, 289, 290, 291, 292, 293, 294, 295, 296, 297, 298, 299, 300, 301, 302, 303, 304, 305, 306, 307, 308, 309, 310, 311, 312, 313, 314, 315, 316, 317, 318, 40, 319, 320, 105, 106, 321, 322, 323, 324, 107, 325, 326, 327, 328, 329, 330, 331, 332, 333, 334, 335, 336, 337, 338, 339, 340, 341, 342, 343, 344, 345, 346, 347, 348, 349, 350, 351, 352, 77, 353, 354, 355, 356, 29, 25, 33, 357, 358, 359, 360, 361, 362, 363, 364, 365, 366, 367, 368, 369, 370, 78, 371, 372, 373, 24, 374, 375, 1765, 1766, 1767, 1768, 1769, 1770, 1771, 1772, 1773, 1774, 1775, 1817, 1818, 1819, 1820, 1821, 1822, 1823, 1824, 1825, 1849, 1850, 1851, 1852, 1853, 1854, 1855, 1856, 1857, 1858, 1859, 1837, 1838, 1839, 1840, 1841, 1842, 1843, 1844, 1860, 1861, 1862, 1863, 1864, 1865, 1866, 1867, 1868, 1869, 1870, 1871, 1872, 1873, 1834, 1835, 1836] (by decide +kernel) (by decide +kernel)) (goodIn_sub (fun _ h => List.mem_append_left _ (List.mem_append_left _ (List.mem_append_left _ (List.mem_append_right _ h)))) (by decide +kernel))) (goodIn_sub (fun _ h => List.mem_append_left _ (List.mem_append_left _ (List.mem_append_right _ h))) (by decide +kernel))) (goodIn_sub (fun _ h => List.mem_append_left _ (List.mem_append_right _ h)) (by decide +kernel))
set_option maxRecDepth 20000 in
theorem gL_law_L_load : GoodIn wsL_law (va_wsS RL 183 yL_load wsL_load) := goodIn_app (goodIn_of _ (by decide +kernel)) ggL_law_L_load
set_option maxRecDepth 20000 in
theorem ggL_law_X7_load : GoodIn wsL_law wsX7_load := goodIn_ca (goodIn_r _ [379, 149, 150, 380, 381, 382, 120, 383, 384, 118, 385, 386, 387, 5, 388, 389, 390, 391, 392, 393, 394, 395, 396, 121, 114, 123, 113, 124, 112, 122, 397, 398, 399, 400, 401, 402, 403, 404, 405, 406, 407, 408, 409, 410, 411, 412, 413, 414, 415, 416, 417, 418, 419, 420, 421, 422, 423, 424, 425, 426, 427, 428, 429, 119, 430, 431, 432, 433, 434, 435, 436, 437, 438, 439, 440, 441, 442, 443, 444, 244, 245, 246, 247, 248, 249, 250, 251, 252, 253, 254, 445, 256, 257, 258, 259, 260, 261, 262, 263, 264, 265, 266, 267, 268, 269, 270, 271, 272, 273, 274, 275, 276, 96, 277, 278, 279, 280, 281, 282, 283, 284, 285, 286, 287, 288, 289, 290, 446, 447, 448, 449, 450, 451, 452, 453, 454, 455, 456, 457, 458, 459, 460, 461, 462, 463, 464, 465, 466, 467, 468, 469, 470, 471, 472, 473, 474, 475, 476, 477, 478, 479, 480, 481, 482, 483, 484, 485, 486, 487, 488, 489, 490, 491, 492, 493, 494, 495, 496, 497, 498, 499, 500, 501, 502, 503, 504, 505, 506, 507, 508, 509, 510, 511, 512, 513, 1776, 1777, 1778, 1779, 1780, 1781, 1782, 1783, 1784, 1785, 1786, 1787, 1788, 1789, 1790, 1791, 1792, 1793, 1794, 1795, 1796, 1797, 1798, 1799, 1800, 1801, 1802, 1803, 1804, 1805, 1806, 1807, 1808, 1809, 1810, 1811, 1812, 1813, 1814, 1815, 1816, 1870, 1871, 1872, 1873] (by decide +kernel) (by decide +kernel)) (goodIn_sub (fun _ h => List.mem_append_left _ (List.mem_append_left _ (List.mem_append_left _ (List.mem_append_right _ h)))) (by decide +kernel))
set_option maxRecDepth 20000 in
theorem gL_law_X7_load : GoodIn wsL_law (wsV RL 188 RX7 yX7_load wsX7_load) := goodIn_app (goodIn_of _ (by decide +kernel)) ggL_law_X7_load
set_option maxRecDepth 20000 in
theorem ggL_law_X7_thrown : GoodIn wsL_law wsX7_thrown := goodIn_r _ [517, 149, 1776, 1777, 1778, 1779, 1780, 1781, 1782, 1783, 1784, 1785, 1786, 1787, 1788, 1789, 1790, 1791, 1792, 1793, 1794, 1795, 1796, 1797, 1798, 1799, 1800, 1801, 1802, 1803, 1804, 1805, 1806, 1807, 1808, 1809, 1810, 1811, 1812, 1813, 1814, 1815, 1816] (by decide +kernel) (by decide +kernel)
set_option maxRecDepth 20000 in
theorem gL_law_X7_thrown : GoodIn wsL_law (wsV RL 189 RX7 yX7_thrown wsX7_thrown) := goodIn_app (goodIn_of _ (by decide +kernel)) ggL_law_X7_thrown
set_option maxRecDepth 20000 in
theorem ggL_law_X6_parseError : GoodIn wsL_law wsX6_parseError := goodIn_r _ [521, 17, 522, 1765, 1766, 1767, 1768, 1769, 1770, 1771, 1772, 1773, 1774, 1775, 1817, 1818, 1819, 1820, 1821, 1822, 1823, 1824, 1825] (by decide +kernel) (by decide +kernel)
set_option maxRecDepth 20000 in
theorem gL_law_X6_parseError : GoodIn wsL_law (wsV RL 192 RX6 yX6_parseError wsX6_parseError) := goodIn_app (goodIn_of _ (by decide +kernel)) ggL_law_X6_parseError
set_option maxRecDepth 20000 in
theorem ggL_law_X7_parseError : GoodIn wsL_law wsX7_parseError := goodIn_r _ [526, 149, 381, 1776, 1777, 1778, 1779, 1780, 1781, 1782, 1783, 1784, 1785, 1786, 1787, 1788, 1789, 1790, 1791, 1792, 1793, 1794, 1795, 1796, 1797, 1798, 1799, 1800, 1801, 1802, 1803, 1804, 1805, 1806, 1807, 1808, 1809, 1810, 1811, 1812, 1813, 1814, 1815, 1816] (by decide +kernel) (by decide +kernel)
set_option maxRecDepth 20000 in
theorem gL_law_X7_parseError : GoodIn wsL_law (wsV RL 195 RX7 yX7_parseError wsX7_parseError) := goodIn_app (goodIn_of _ (by decide +kernel)) ggL_law_X7_parseError
set_option maxRecDepth 20000 in
theorem ggL_law_X6_errorPosition : GoodIn wsL_law wsX6_errorPosition := goodIn_r _ [530, 17, 531, 1765, 1766, 1767, 1768, 1769, 1770, 1771, 1772, 1773, 1774, 1775, 1817, 1818, 1819, 1820, 1821, 1822, 1823, 1824, 1825] (by decide +kernel) (by decide +kernel)
set_option maxRecDepth 20000 in
theorem gL_law_X6_errorPosition : GoodIn wsL_law (wsV RL 196 RX6 yX6_errorPosition wsX6_errorPosition) := goodIn_app (goodIn_of _ (by decide +kernel)) ggL_law_X6_errorPosition
set_option maxRecDepth 20000 in
theorem ggL_law_X7_errorPosition : GoodIn wsL_law wsX7_errorPosition := goodIn_r _ [535, 149, 120, 1776, 1777, 1778, 1779, 1780, 1781, 1782, 1783, 1784, 1785, 1786, 1787, 1788, 1789, 1790, 1791, 1792, 1793, 1794, 1795, 1796, 1797, 1798, 1799, 1800, 1801, 1802, 1803, 1804, 1805, 1806, 1807, 1808, 1809, 1810, 1811, 1812, 1813, 1814, 1815, 1816] (by decide +kernel) (by decide +kernel)
set_option maxRecDepth 20000 in
theorem gL_law_X7_errorPosition : GoodIn wsL_law (wsV RL 199 RX7 yX7_errorPosition wsX7_errorPosition) := goodIn_app (goodIn_of _ (by decide +kernel)) ggL_law_X7_errorPosition
set_option maxRecDepth 20000 in
theorem ggL_law_X6_buffered : GoodIn wsL_law wsX6_buffered := goodIn_r _ [539, 17, 135, 1765, 1766, 1767, 1768, 1769, 1770, 1771, 1772, 1773, 1774, 1775, 1817, 1818, 1819, 1820, 1821, 1822, 1823, 1824, 1825] (by decide +kernel) (by decide +kernel)
set_option maxRecDepth 20000 in
theorem gL_law_X6_buffered : GoodIn wsL_law (wsV RL 200 RX6 yX6_buffered wsX6_buffered) := goodIn_app (goodIn_of _ (by decide +kernel)) ggL_law_X6_buffered
set_option maxRecDepth 20000 in
theorem ggL_law_X7_buffered : GoodIn wsL_law wsX7_buffered := goodIn_r _ [543, 149, 150, 1776, 1777, 1778, 1779, 1780, 1781, 1782, 1783, 1784, 1785, 1786, 1787, 1788, 1789, 1790, 1791, 1792, 1793, 1794, 1795, 1796, 1797, 1798, 1799, 1800, 1801, 1802, 1803, 1804, 1805, 1806, 1807, 1808, 1809, 1810, 1811, 1812, 1813, 1814, 1815, 1816] (by decide +kernel) (by decide +kernel)
set_option maxRecDepth 20000 in
theorem gL_law_X7_buffered : GoodIn wsL_law (wsV RL 203 RX7 yX7_buffered wsX7_buffered) := goodIn_app (goodIn_of _ (by decide +kernel)) ggL_law_X7_buffered
set_option maxRecDepth 20000 in
theorem ggL_law_L_count : GoodIn wsL_law wsL_count := goodIn_ca (goodIn_ca (goodIn_ca (goodIn_r _ [546, 547, 548, 549, 550, 2, 551, 162, 163, 41, 552, 164, 29, 553, 554, 555, 556, 557, 558, 559, 560, 561, 562, 563, 564, 357, 565, 566, 567, 28, 568, 70, 569, 570, 571, 572, 573, 574, 575, 576, 577, 578, 579, 580, 581, 73, 582, 210, 583, 336, 337, 338, 339, 80, 209, 340, 341, 342, 343, 344, 216, 222, 345, 346, 347, 348, 584, 585, 586, 587, 71, 1765, 1766, 1767, 1768, 1769, 1770, 1771, 1772, 1773, 1774, 1775, 1849, 1850, 1851, 1852, 1853, 1854, 1855, 1856, 1857, 1858, 1859, 1837, 1838, 1839, 1840, 1841, 1842, 1843, 1844, 1860, 1861, 1862, 1863, 1864, 1865, 1866, 1867, 1868, 1869] (by decide +kernel) (by decide +kernel)) (goodIn_sub (fun _ h => List.mem_append_left _ (List.mem_append_left _ (List.mem_append_left _ (List.mem_append_right _ h)))) (by decide +kernel))) (goodIn_sub (fun _ h => List.mem_append_left _ (List.mem_append_right _ h)) (by decide +kernel))) (goodIn_sub (fun _ h => List.mem_append_right _ h) (by decide +kernel))
set_option maxRecDepth 20000 in
theorem gL_law_L_count : GoodIn wsL_law (va_wsS RL 204 yL_count wsL_count) := goodIn_app (goodIn_of _ (by decide +kernel)) ggL_law_L_count
set_option maxRecDepth 20000 in
theorem ggL_law_X7_count : GoodIn wsL_law wsX7_count := goodIn_ca (goodIn_r _ [591, 398, 385, 114, 592, 593, 594, 5, 595, 149, 383, 389, 390, 391, 392, 386, 387, 388, 596, 597, 598, 599, 482, 483, 484, 485, 600, 601, 602, 603, 604, 605, 606, 607, 486, 487, 488, 489, 397, 490, 491, 492, 493, 113, 494, 495, 496, 497, 498, 499, 500, 501, 399, 502, 503, 504, 505, 608, 609, 610, 611, 612, 613, 614, 1776, 1777, 1778, 1779, 1780, 1781, 1782, 1783, 1784, 1785, 1786, 1787, 1788, 1789, 1790, 1791, 1792, 1793, 1794, 1795, 1796, 1797, 1798, 1799, 1800, 1801, 1802, 1803, 1804, 1805, 1806, 1807, 1808, 1809, 1810, 1811, 1812, 1813, 1814, 1815, 1816] (by decide +kernel) (by decide +kernel)) (goodIn_sub (fun _ h => List.mem_append_left _ (List.mem_append_left _ (List.mem_append_left _ (List.mem_append_right _ h)))) (by decide +kernel))
set_option maxRecDepth 20000 in
theorem gL_law_X7_count : GoodIn wsL_law (wsV RL 206 RX7 yX7_count wsX7_count) := goodIn_app (goodIn_of _ (by decide +kernel)) ggL_law_X7_count
set_option maxRecDepth 20000 in
theorem ggL_law_L_setting : GoodIn wsL_law wsL_setting := goodIn_ca (goodIn_ca (goodIn_ca (goodIn_r _ [617, 547, 618, 619, 620, 2, 621, 162, 163, 41, 622, 623, 624, 625, 626, 627, 559, 560, 561, 562, 563, 564, 357, 1765, 1766, 1767, 1768, 1769, 1770, 1771, 1772, 1773, 1774, 1775, 1849, 1850, 1851, 1852, 1853, 1854, 1855, 1856, 1857, 1858, 1859] (by decide +kernel) (by decide +kernel)) (goodIn_sub (fun _ h => List.mem_append_left _ (List.mem_append_left _ (List.mem_append_left _ (List.mem_append_right _ h)))) (by decide +kernel))) (goodIn_sub (fun _ h => List.mem_append_left _ (List.mem_append_right _ h)) (by decide +kernel))) (goodIn_sub (fun _ h => List.mem_append_right _ h) (by decide +kernel))
set_option maxRecDepth 20000 in
theorem gL_law_L_setting : GoodIn wsL_law (va_wsS RL 207 yL_setting wsL_setting) := goodIn_app (goodIn_of _ (by decide +kernel)) ggL_law_L_setting
set_option maxRecDepth 20000 in
theorem ggL_law_X7_setting : GoodIn wsL_law wsX7_setting := goodIn_r _ [631, 397, 399, 400, 401, 402, 403, 592, 593, 594, 5, 595, 149, 383, 389, 390, 391, 392, 386, 387, 388, 1776, 1777, 1778, 1779, 1780, 1781, 1782, 1783, 1784, 1785, 1786, 1787, 1788, 1789, 1790, 1791, 1792, 1793, 1794, 1795, 1796, 1797, 1798, 1799, 1800, 1801, 1802, 1803, 1804, 1805, 1806, 1807, 1808, 1809, 1810, 1811, 1812, 1813, 1814, 1815, 1816] (by decide +kernel) (by decide +kernel)
set_option maxRecDepth 20000 in
theorem gL_law_X7_setting : GoodIn wsL_law (wsV RL 209 RX7 yX7_setting wsX7_setting) := goodIn_app (goodIn_of _ (by decide +kernel)) ggL_law_X7_setting
set_option maxRecDepth 20000 in
theorem ggL_law_L_row : GoodIn wsL_law wsL_row := goodIn_ca (goodIn_ca (goodIn_ca (goodIn_ca (goodIn_r _ [634, 547, 635, 636, 637, 2, 638, 162, 163, 639, 640, 41, 622, 641, 642, 643, 644, 645, 646, 647, 648, 160, 161, 552, 29, 649, 559, 560, 561, 562, 563, 564, 357, 650, 336, 337, 73, 338, 339, 80, 209, 340, 341, 342, 343, 344, 216, 222, 345, 346, 347, 348, 651, 652, 653, 654, 655, 656, 79, 657, 1860, 1861, 1862, 1863, 1864, 1865, 1866, 1867, 1868, 1869, 1765, 1766, 1767, 1768, 1769, 1770, 1771, 1772, 1773, 1774, 1775, 1849, 1850, 1851, 1852, 1853, 1854, 1855, 1856, 1857, 1858, 1859, 1837, 1838, 1839, 1840, 1841, 1842, 1843, 1844] (by decide +kernel) (by decide +kernel)) (goodIn_sub (fun _ h => List.mem_append_left _ (List.mem_append_left _ (List.mem_append_left _ (List.mem_append_right _ h)))) (by decide +kernel))) (goodIn_sub (fun _ h => List.mem_append_left _ (List.mem_append_right _ h)) (by decide +kernel))) (goodIn_sub (fun _ h => List.mem_append_left _ (List.mem_append_left _ (List.mem_append_right _ h))) (by decide +kernel))) (goodIn_sub (fun _ h => List.mem_append_right _ h) (by decide +kernel))
set_option maxRecDepth 20000 in
theorem gL_law_L_row : GoodIn wsL_law (va_wsS RL 210 yL_row wsL_row) := goodIn_app (goodIn_of _ (by decide +kernel)) ggL_law_L_row
set_option maxRecDepth 20000 in
theorem ggL_law_X7_row : GoodIn wsL_law wsX7_row := goodIn_ca (goodIn_r _ [661, 662, 663, 664, 5, 665, 592, 593, 594, 595, 149, 383, 389, 390, 391, 392, 666, 667, 668, 669, 398, 386, 387, 388, 482, 483, 484, 485, 114, 490, 491, 492, 493, 113, 494, 495, 496, 497, 498, 499, 500, 501, 399, 502, 503, 504, 505, 486, 487, 488, 489, 397, 670, 671, 672, 673, 112, 608, 609, 610, 1776, 1777, 1778, 1779, 1780, 1781, 1782, 1783, 1784, 1785, 1786, 1787, 1788, 1789, 1790, 1791, 1792, 1793, 1794, 1795, 1796, 1797, 1798, 1799, 1800, 1801, 1802, 1803, 1804, 1805, 1806, 1807, 1808, 1809, 1810, 1811, 1812, 1813, 1814, 1815, 1816] (by decide +kernel) (by decide +kernel)) (goodIn_sub (fun _ h => List.mem_append_left _ (List.mem_append_left _ (List.mem_append_left _ (List.mem_append_right _ h)))) (by decide +kernel))
set_option maxRecDepth 20000 in
theorem gL_law_X7_row : GoodIn wsL_law (wsV RL 213 RX7 yX7_row wsX7_row) := goodIn_app (goodIn_of _ (by decide +kernel)) ggL_law_X7_row
set_option maxRecDepth 20000 in
theorem ggL_law_L_block : GoodIn wsL_law wsL_block := goodIn_ca (goodIn_ca (goodIn_ca (goodIn_r _ [676, 547, 677, 678, 679, 2, 680, 639, 645, 646, 647, 648, 160, 161, 41, 552, 29, 649, 559, 560, 561, 562, 563, 564, 357, 681, 682, 683, 684, 685, 686, 73, 687, 215, 77, 1860, 1861, 1862, 1863, 1864, 1865, 1866, 1867, 1868, 1869, 1765, 1766, 1767, 1768, 1769, 1770, 1771, 1772, 1773, 1774, 1775, 1849, 1850, 1851, 1852, 1853, 1854, 1855, 1856, 1857, 1858, 1859, 1837, 1838, 1839, 1840, 1841, 1842, 1843, 1844] (by decide +kernel) (by decide +kernel)) (goodIn_sub (fun _ h => List.mem_append_left _ (List.mem_append_left _ (List.mem_append_left _ (List.mem_append_right _ h)))) (by decide +kernel))) (goodIn_sub (fun _ h => List.mem_append_left _ (List.mem_append_left _ (List.mem_append_right _ h))) (by decide +kernel))) (goodIn_sub (fun _ h => List.mem_append_right _ h) (by decide +kernel))
set_option maxRecDepth 20000 in
theorem gL_law_L_block : GoodIn wsL_law (va_wsS RL 214 yL_block wsL_block) := goodIn_app (goodIn_of _ (by decide +kernel)) ggL_law_L_block
set_option maxRecDepth 20000 in
theorem ggL_law_X7_block : GoodIn wsL_law wsX7_block := goodIn_ca (goodIn_r _ [691, 662, 663, 664, 5, 665, 592, 593, 594, 595, 149, 383, 389, 390, 391, 392, 666, 667, 668, 669, 398, 386, 387, 388, 482, 483, 484, 485, 114, 1776, 1777, 1778, 1779, 1780, 1781, 1782, 1783, 1784, 1785, 1786, 1787, 1788, 1789, 1790, 1791, 1792, 1793, 1794, 1795, 1796, 1797, 1798, 1799, 1800, 1801, 1802, 1803, 1804, 1805, 1806, 1807, 1808, 1809, 1810, 1811, 1812, 1813, 1814, 1815, 1816] (by decide +kernel) (by decide +kernel)) (goodIn_sub (fun _ h => List.mem_append_left _ (List.mem_append_left _ (List.mem_append_left _ (List.mem_append_right _ h)))) (by decide +kernel))
set_option maxRecDepth 20000 in
theorem gL_law_X7_block : GoodIn wsL_law (wsV RL 216 RX7 yX7_block wsX7_block) := goodIn_app (goodIn_of _ (by decide +kernel)) ggL_law_X7_block
set_option maxRecDepth 20000 in
theorem ggL_law_L_piece : GoodIn wsL_law wsL_piece := goodIn_ca (goodIn_ca (goodIn_ca (goodIn_r _ [694, 547, 695, 696, 697, 2, 698, 640, 645, 646, 647, 648, 160, 161, 41, 552, 29, 649, 559, 560, 561, 562, 563, 564, 357, 681, 682, 683, 699, 700, 701, 73, 702, 221, 78, 1860, 1861, 1862, 1863, 1864, 1865, 1866, 1867, 1868, 1869, 1765, 1766, 1767, 1768, 1769, 1770, 1771, 1772, 1773, 1774, 1775, 1849, 1850, 1851, 1852, 1853, 1854, 1855, 1856, 1857, 1858, 1859, 1837, 1838, 1839, 1840, 1841, 1842, 1843, 1844] (by decide +kernel) (by decide +kernel)) (goodIn_sub (fun _ h => List.mem_append_left _ (List.mem_append_left _ (List.mem_append_left _ (List.mem_append_right _ h)))) (by decide +kernel))) (goodIn_sub (fun _ h => List.mem_append_left _ (List.mem_append_left _ (List.mem_append_right _ h))) (by decide +kernel))) (goodIn_sub (fun _ h => List.mem_append_right _ h) (by decide +kernel))
set_option maxRecDepth 20000 in
theorem gL_law_L_piece : GoodIn wsL_law (va_wsS RL 217 yL_piece wsL_piece) := goodIn_app (goodIn_of _ (by decide +kernel)) ggL_law_L_piece
set_option maxRecDepth 20000 in
theorem ggL_law_X7_piece : GoodIn wsL_law wsX7_piece := goodIn_ca (goodIn_r _ [706, 662, 663, 664, 5, 665, 592, 593, 594, 595, 149, 383, 389, 390, 391, 392, 666, 667, 668, 669, 398, 386, 387, 388, 482, 483, 484, 485, 114, 1776, 1777, 1778, 1779, 1780, 1781, 1782, 1783, 1784, 1785, 1786, 1787, 1788, 1789, 1790, 1791, 1792, 1793, 1794, 1795, 1796, 1797, 1798, 1799, 1800, 1801, 1802, 1803, 1804, 1805, 1806, 1807, 1808, 1809, 1810, 1811, 1812, 1813, 1814, 1815, 1816] (by decide +kernel) (by decide +kernel)) (goodIn_sub (fun _ h => List.mem_append_left _ (List.mem_append_left _ (List.mem_append_left _ (List.mem_append_right _ h)))) (by decide +kernel))
set_option maxRecDepth 20000 in
theorem gL_law_X7_piece : GoodIn wsL_law (wsV RL 219 RX7 yX7_piece wsX7_piece) := goodIn_app (goodIn_of _ (by decide +kernel)) ggL_law_X7_piece
set_option maxRecDepth 20000 in
theorem ggL_law_L_kind : GoodIn wsL_law wsL_kind := goodIn_ca (goodIn_ca (goodIn_ca (goodIn_ca (goodIn_r _ [709, 547, 710, 711, 712, 2, 713, 162, 163, 41, 714, 715, 29, 716, 559, 560, 561, 562, 563, 564, 357, 717, 718, 719, 720, 160, 161, 164, 721, 722, 723, 28, 724, 70, 725, 1765, 1766, 1767, 1768, 1769, 1770, 1771, 1772, 1773, 1774, 1775, 1849, 1850, 1851, 1852, 1853, 1854, 1855, 1856, 1857, 1858, 1859, 1837, 1838, 1839, 1840, 1841, 1842, 1843, 1844, 1860, 1861, 1862, 1863, 1864, 1865, 1866, 1867, 1868, 1869] (by decide +kernel) (by decide +kernel)) (goodIn_sub (fun _ h => List.mem_append_left _ (List.mem_append_left _ (List.mem_append_left _ (List.mem_append_right _ h)))) (by decide +kernel))) (goodIn_sub (fun _ h => List.mem_append_left _ (List.mem_append_right _ h)) (by decide +kernel))) (goodIn_sub (fun _ h => List.mem_append_right _ h) (by decide +kernel))) (goodIn_sub (fun _ h => List.mem_append_left _ (List.mem_append_left _ (List.mem_append_right _ h))) (by decide +kernel))
set_option maxRecDepth 20000 in
theorem gL_law_L_kind : GoodIn wsL_law (va_wsS RL 220 yL_kind wsL_kind) := goodIn_app (goodIn_of _ (by decide +kernel)) ggL_law_L_kind
set_option maxRecDepth 20000 in
theorem ggL_law_X7_kind : GoodIn wsL_law wsX7_kind := goodIn_ca (goodIn_r _ [729, 112, 113, 114, 592, 593, 594, 5, 595, 149, 383, 389, 390, 391, 392, 730, 731, 732, 733, 385, 386, 387, 388, 608, 609, 610, 734, 735, 736, 737, 398, 482, 483, 484, 485, 1776, 1777, 1778, 1779, 1780, 1781, 1782, 1783, 1784, 1785, 1786, 1787, 1788, 1789, 1790, 1791, 1792, 1793, 1794, 1795, 1796, 1797, 1798, 1799, 1800, 1801, 1802, 1803, 1804, 1805, 1806, 1807, 1808, 1809, 1810, 1811, 1812, 1813, 1814, 1815, 1816] (by decide +kernel) (by decide +kernel)) (goodIn_sub (fun _ h => List.mem_append_left _ (List.mem_append_left _ (List.mem_append_left _ (List.mem_append_right _ h)))) (by decide +kernel))
set_option maxRecDepth 20000 in
theorem gL_law_X7_kind : GoodIn wsL_law (wsV RL 222 RX7 yX7_kind wsX7_kind) := goodIn_app (goodIn_of _ (by decide +kernel)) ggL_law_X7_kind
set_option maxRecDepth 20000 in
theorem ggL_law_L_kindOf : GoodIn wsL_law wsL_kindOf := goodIn_ca (goodIn_ca (goodIn_r _ [740, 547, 741, 742, 743, 2, 744, 41, 559, 560, 561, 562, 563, 564, 357, 745, 317, 318, 40, 319, 320, 105, 106, 1765, 1766, 1767, 1768, 1769, 1770, 1771, 1772, 1773, 1774, 1775, 1849, 1850, 1851, 1852, 1853, 1854, 1855, 1856, 1857, 1858, 1859] (by decide +kernel) (by decide +kernel)) (goodIn_sub (fun _ h => List.mem_append_left _ (List.mem_append_left _ (List.mem_append_left _ (List.mem_append_right _ h)))) (by decide +kernel))) (goodIn_sub (fun _ h => List.mem_append_right _ h) (by decide +kernel))
set_option maxRecDepth 20000 in
theorem gL_law_L_kindOf : GoodIn wsL_law (va_wsS RL 223 yL_kindOf wsL_kindOf) := goodIn_app (goodIn_of _ (by decide +kernel)) ggL_law_L_kindOf
set_option maxRecDepth 20000 in
theorem ggL_law_X7_kindOf : GoodIn wsL_law wsX7_kindOf := goodIn_ca (goodIn_r _ [749, 592, 593, 594, 5, 595, 149, 383, 389, 390, 391, 392, 474, 475, 476, 477, 385, 112, 113, 1776, 1777, 1778, 1779, 1780, 1781, 1782, 1783, 1784, 1785, 1786, 1787, 1788, 1789, 1790, 1791, 1792, 1793, 1794, 1795, 1796, 1797, 1798, 1799, 1800, 1801, 1802, 1803, 1804, 1805, 1806, 1807, 1808, 1809, 1810, 1811, 1812, 1813, 1814, 1815, 1816] (by decide +kernel) (by decide +kernel)) (goodIn_sub (fun _ h => List.mem_append_left _ (List.mem_append_left _ (List.mem_append_left _ (List.mem_append_right _ h)))) (by decide +kernel))
set_option maxRecDepth 20000 in
theorem gL_law_X7_kindOf : GoodIn wsL_law (wsV RL 226 RX7 yX7_kindOf wsX7_kindOf) := goodIn_app (goodIn_of _ (by decide +kernel)) ggL_law_X7_kindOf
set_option maxRecDepth 20000 in
theorem ggL_law_L_isTight : GoodIn wsL_law wsL_isTight := goodIn_ca (goodIn_ca (goodIn_ca (goodIn_r _ [752, 547, 753, 754, 755, 2, 756, 41, 645, 646, 647, 648, 160, 161, 552, 29, 649, 559, 560, 561, 562, 563, 564, 357, 757, 580, 581, 73, 582, 210, 583, 336, 337, 338, 339, 80, 209, 340, 341, 342, 343, 344, 216, 222, 345, 346, 347, 348, 1765, 1766, 1767, 1768, 1769, 1770, 1771, 1772, 1773, 1774, 1775, 1849, 1850, 1851, 1852, 1853, 1854, 1855, 1856, 1857, 1858, 1859, 1837, 1838, 1839, 1840, 1841, 1842, 1843, 1844, 1860, 1861, 1862, 1863, 1864, 1865, 1866, 1867, 1868, 1869] (by decide +kernel) (by decide +kernel)) (goodIn_sub (fun _ h => List.mem_append_left _ (List.mem_append_left _ (List.mem_append_left _ (List.mem_append_right _ h)))) (by decide +kernel))) (goodIn_sub (fun _ h => List.mem_append_left _ (List.mem_append_left _ (List.mem_append_right _ h))) (by decide +kernel))) (goodIn_sub (fun _ h => List.mem_append_right _ h) (by decide +kernel))
set_option maxRecDepth 20000 in
theorem gL_law_L_isTight : GoodIn wsL_law (va_wsS RL 227 yL_isTight wsL_isTight) := goodIn_app (goodIn_of _ (by decide +kernel)) ggL_law_L_isTight
set_option maxRecDepth 20000 in
theorem ggL_law_X7_isTight : GoodIn wsL_law wsX7_isTight := goodIn_ca (goodIn_r _ [761, 662, 663, 664, 5, 665, 592, 593, 594, 595, 149, 383, 389, 390, 391, 392, 666, 667, 668, 669, 398, 386, 387, 388, 604, 605, 606, 607, 486, 487, 488, 489, 397, 490, 491, 492, 493, 113, 494, 495, 496, 497, 482, 483, 484, 485, 114, 498, 499, 500, 501, 399, 502, 503, 504, 505, 1776, 1777, 1778, 1779, 1780, 1781, 1782, 1783, 1784, 1785, 1786, 1787, 1788, 1789, 1790, 1791, 1792, 1793, 1794, 1795, 1796, 1797, 1798, 1799, 1800, 1801, 1802, 1803, 1804, 1805, 1806, 1807, 1808, 1809, 1810, 1811, 1812, 1813, 1814, 1815, 1816] (by decide +kernel) (by decide +kernel)) (goodIn_sub (fun _ h => List.mem_append_left _ (List.mem_append_left _ (List.mem_append_left _ (List.mem_append_right _ h)))) (by decide +kernel))
set_option maxRecDepth 20000 in
theorem gL_law_X7_isTight : GoodIn wsL_law (wsV RL 229 RX7 yX7_isTight wsX7_isTight) := goodIn_app (goodIn_of _ (by decide +kernel)) ggL_law_X7_isTight
set_option maxRecDepth 20000 in
theorem ggL_law_L_widestGap : GoodIn wsL_law wsL_widestGap := goodIn_ca (goodIn_ca (goodIn_r _ [764, 547, 765, 766, 767, 2, 768, 41, 552, 29, 649, 559, 560, 561, 562, 563, 564, 357, 650, 336, 337, 73, 338, 339, 80, 209, 340, 341, 342, 343, 344, 216, 222, 345, 346, 347, 348, 1765, 1766, 1767, 1768, 1769, 1770, 1771, 1772, 1773, 1774, 1775, 1849, 1850, 1851, 1852, 1853, 1854, 1855, 1856, 1857, 1858, 1859, 1837, 1838, 1839, 1840, 1841, 1842, 1843, 1844, 1860, 1861, 1862, 1863, 1864, 1865, 1866, 1867, 1868, 1869] (by decide +kernel) (by decide +kernel)) (goodIn_sub (fun _ h => List.mem_append_left _ (List.mem_append_left _ (List.mem_append_left _ (List.mem_append_right _ h)))) (by decide +kernel))) (goodIn_sub (fun _ h => List.mem_append_right _ h) (by decide +kernel))
set_option maxRecDepth 20000 in
theorem gL_law_L_widestGap : GoodIn wsL_law (va_wsS RL 230 yL_widestGap wsL_widestGap) := goodIn_app (goodIn_of _ (by decide +kernel)) ggL_law_L_widestGap
set_option maxRecDepth 20000 in
theorem ggL_law_X7_widestGap : GoodIn wsL_law wsX7_widestGap := goodIn_ca (goodIn_r _ [772, 398, 592, 593, 594, 5, 595, 149, 383, 389, 390, 391, 392, 486, 487, 488, 489, 397, 490, 491, 492, 493, 113, 494, 495, 496, 497, 482, 483, 484, 485, 114, 498, 499, 500, 501, 399, 502, 503, 504, 505, 1776, 1777, 1778, 1779, 1780, 1781, 1782, 1783, 1784, 1785, 1786, 1787, 1788, 1789, 1790, 1791, 1792, 1793, 1794, 1795, 1796, 1797, 1798, 1799, 1800, 1801, 1802, 1803, 1804, 1805, 1806, 1807, 1808, 1809, 1810, 1811, 1812, 1813, 1814, 1815, 1816] (by decide +kernel) (by decide +kernel)) (goodIn_sub (fun _ h => List.mem_append_left _ (List.mem_append_left _ (List.mem_append_left _ (List.mem_append_right _ h)))) (by decide +kernel))
set_option maxRecDepth 20000 in
theorem gL_law_X7_widestGap : GoodIn wsL_law (wsV RL 233 RX7 yX7_widestGap wsX7_widestGap) := goodIn_app (goodIn_of _ (by decide +kernel)) ggL_law_X7_widestGap
set_option maxRecDepth 20000 in
theorem ggL_law_L_loosest : GoodIn wsL_law wsL_loosest := goodIn_ca (goodIn_ca (goodIn_r _ [775, 547, 776, 777, 778, 2, 779, 41, 552, 29, 649, 639, 559, 560, 561, 562, 563, 564, 357, 780, 781, 782, 73, 783, 210, 583, 336, 337, 338, 339, 80, 209, 340, 341, 342, 343, 344, 216, 222, 345, 346, 347, 348, 1765, 1766, 1767, 1768, 1769, 1770, 1771, 1772, 1773, 1774, 1775, 1849, 1850, 1851, 1852, 1853, 1854, 1855, 1856, 1857, 1858, 1859, 1837, 1838, 1839, 1840, 1841, 1842, 1843, 1844, 1860, 1861, 1862, 1863, 1864, 1865, 1866, 1867, 1868, 1869] (by decide +kernel) (by decide +kernel)) (goodIn_sub (fun _ h => List.mem_append_left _ (List.mem_append_left _ (List.mem_append_left _ (List.mem_append_right _ h)))) (by decide +kernel))) (goodIn_sub (fun _ h => List.mem_append_right _ h) (by decide +kernel))
set_option maxRecDepth 20000 in
theorem gL_law_L_loosest : GoodIn wsL_law (va_wsS RL 234 yL_loosest wsL_loosest) := goodIn_app (goodIn_of _ (by decide +kernel)) ggL_law_L_loosest
set_option maxRecDepth 20000 in
theorem ggL_law_X7_loosest : GoodIn wsL_law wsX7_loosest := goodIn_ca (goodIn_r _ [787, 398, 592, 593, 594, 5, 595, 149, 383, 389, 390, 391, 392, 482, 483, 484, 485, 114, 788, 789, 790, 791, 486, 487, 488, 489, 397, 490, 491, 492, 493, 113, 494, 495, 496, 497, 498, 499, 500, 501, 399, 502, 503, 504, 505, 1776, 1777, 1778, 1779, 1780, 1781, 1782, 1783, 1784, 1785, 1786, 1787, 1788, 1789, 1790, 1791, 1792, 1793, 1794, 1795, 1796, 1797, 1798, 1799, 1800, 1801, 1802, 1803, 1804, 1805, 1806, 1807, 1808, 1809, 1810, 1811, 1812, 1813, 1814, 1815, 1816] (by decide +kernel) (by decide +kernel)) (goodIn_sub (fun _ h => List.mem_append_left _ (List.mem_append_left _ (List.mem_append_left _ (List.mem_append_right _ h)))) (by decide +kernel))
set_option maxRecDepth 20000 in
theorem gL_law_X7_loosest : GoodIn wsL_law (wsV RL 236 RX7 yX7_loosest wsX7_loosest) := goodIn_app (goodIn_of _ (by decide +kernel)) ggL_law_X7_loosest
set_option maxRecDepth 20000 in
theorem ggL_law_L_longestLeft : GoodIn wsL_law wsL_longestLeft := goodIn_ca (goodIn_ca (goodIn_r _ [794, 547, 795, 796, 797, 2, 798, 41, 164, 799, 29, 716, 559, 560, 561, 562, 563, 564, 357, 1765, 1766, 1767, 1768, 1769, 1770, 1771, 1772, 1773, 1774, 1775, 1849, 1850, 1851, 1852, 1853, 1854, 1855, 1856, 1857, 1858, 1859, 1837, 1838, 1839, 1840, 1841, 1842, 1843, 1844] (by decide +kernel) (by decide +kernel)) (goodIn_sub (fun _ h => List.mem_append_left _ (List.mem_append_left _ (List.mem_append_left _ (List.mem_append_right _ h)))) (by decide +kernel))) (goodIn_sub (fun _ h => List.mem_append_right _ h) (by decide +kernel))
set_option maxRecDepth 20000 in
theorem gL_law_L_longestLeft : GoodIn wsL_law (va_wsS RL 237 yL_longestLeft wsL_longestLeft) := goodIn_app (goodIn_of _ (by decide +kernel)) ggL_law_L_longestLeft
set_option maxRecDepth 20000 in
theorem ggL_law_X7_longestLeft : GoodIn wsL_law wsX7_longestLeft := goodIn_ca (goodIn_r _ [803, 385, 114, 592, 593, 594, 5, 595, 149, 383, 389, 390, 391, 392, 804, 805, 806, 807, 113, 112, 1776, 1777, 1778, 1779, 1780, 1781, 1782, 1783, 1784, 1785, 1786, 1787, 1788, 1789, 1790, 1791, 1792, 1793, 1794, 1795, 1796, 1797, 1798, 1799, 1800, 1801, 1802, 1803, 1804, 1805, 1806, 1807, 1808, 1809, 1810, 1811, 1812, 1813, 1814, 1815, 1816] (by decide +kernel) (by decide +kernel)) (goodIn_sub (fun _ h => List.mem_append_left _ (List.mem_append_left _ (List.mem_append_left _ (List.mem_append_right _ h)))) (by decide +kernel))
set_option maxRecDepth 20000 in
theorem gL_law_X7_longestLeft : GoodIn wsL_law (wsV RL 239 RX7 yX7_longestLeft wsX7_longestLeft) := goodIn_app (goodIn_of _ (by decide +kernel)) ggL_law_X7_longestLeft
set_option maxRecDepth 20000 in
theorem ggL_law_L_lengthLeft : GoodIn wsL_law wsL_lengthLeft := goodIn_ca (goodIn_ca (goodIn_r _ [810, 547, 811, 812, 813, 2, 814, 41, 164, 29, 716, 715, 559, 560, 561, 562, 563, 564, 357, 1765, 1766, 1767, 1768, 1769, 1770, 1771, 1772, 1773, 1774, 1775, 1849, 1850, 1851, 1852, 1853, 1854, 1855, 1856, 1857, 1858, 1859, 1837, 1838, 1839, 1840, 1841, 1842, 1843, 1844] (by decide +kernel) (by decide +kernel)) (goodIn_sub (fun _ h => List.mem_append_left _ (List.mem_append_left _ (List.mem_append_left _ (List.mem_append_right _ h)))) (by decide +kernel))) (goodIn_sub (fun _ h => List.mem_append_right _ h) (by decide +kernel))
set_option maxRecDepth 20000 in
theorem gL_law_L_lengthLeft : GoodIn wsL_law (va_wsS RL 240 yL_lengthLeft wsL_lengthLeft) := goodIn_app (goodIn_of _ (by decide +kernel)) ggL_law_L_lengthLeft
set_option maxRecDepth 20000 in
theorem ggL_law_X7_lengthLeft : GoodIn wsL_law wsX7_lengthLeft := goodIn_ca (goodIn_r _ [818, 592, 593, 594, 5, 595, 149, 383, 389, 390, 391, 392, 611, 612, 613, 614, 385, 114, 113, 1776, 1777, 1778, 1779, 1780, 1781, 1782, 1783, 1784, 1785, 1786, 1787, 1788, 1789, 1790, 1791, 1792, 1793, 1794, 1795, 1796, 1797, 1798, 1799, 1800, 1801, 1802, 1803, 1804, 1805, 1806, 1807, 1808, 1809, 1810, 1811, 1812, 1813, 1814, 1815, 1816] (by decide +kernel) (by decide +kernel)) (goodIn_sub (fun _ h => List.mem_append_left _ (List.mem_append_left _ (List.mem_append_left _ (List.mem_append_right _ h)))) (by decide +kernel))
set_option maxRecDepth 20000 in
theorem gL_law_X7_lengthLeft : GoodIn wsL_law (wsV RL 242 RX7 yX7_lengthLeft wsX7_lengthLeft) := goodIn_app (goodIn_of _ (by decide +kernel)) ggL_law_X7_lengthLeft
set_option maxRecDepth 20000 in
theorem ggL_law_L_meanGap : GoodIn wsL_law wsL_meanGap := goodIn_ca (goodIn_ca (goodIn_r _ [821, 547, 822, 823, 824, 2, 825, 41, 552, 29, 649, 559, 560, 561, 562, 563, 564, 357, 650, 336, 337, 73, 338, 339, 80, 209, 340, 341, 342, 343, 344, 216, 222, 345, 346, 347, 348, 1765, 1766, 1767, 1768, 1769, 1770, 1771, 1772, 1773, 1774, 1775, 1849, 1850, 1851, 1852, 1853, 1854, 1855, 1856, 1857, 1858, 1859, 1837, 1838, 1839, 1840, 1841, 1842, 1843, 1844, 1860, 1861, 1862, 1863, 1864, 1865, 1866, 1867, 1868, 1869] (by decide +kernel) (by decide +kernel)) (goodIn_sub (fun _ h => List.mem_append_left _ (List.mem_append_left _ (List.mem_append_left _ (List.mem_append_right _ h)))) (by decide +kernel))) (goodIn_sub (fun _ h => List.mem_append_right _ h) (by decide +kernel))
set_option maxRecDepth 20000 in
theorem gL_law_L_meanGap : GoodIn wsL_law (va_wsS RL 243 yL_meanGap wsL_meanGap) := goodIn_app (goodIn_of _ (by decide +kernel)) ggL_law_L_meanGap
set_option maxRecDepth 20000 in
theorem ggL_law_X7_meanGap : GoodIn wsL_law wsX7_meanGap := goodIn_ca (goodIn_r _ [829, 398, 592, 593, 594, 5, 595, 149, 383, 389, 390, 391, 392, 486, 487, 488, 489, 397, 490, 491, 492, 493, 113, 494, 495, 496, 497, 482, 483, 484, 485, 114, 498, 499, 500, 501, 399, 502, 503, 504, 505, 1776, 1777, 1778, 1779, 1780, 1781, 1782, 1783, 1784, 1785, 1786, 1787, 1788, 1789, 1790, 1791, 1792, 1793, 1794, 1795, 1796, 1797, 1798, 1799, 1800, 1801, 1802, 1803, 1804, 1805, 1806, 1807, 1808, 1809, 1810, 1811, 1812, 1813, 1814, 1815, 1816] (by decide +kernel) (by decide +kernel)) (goodIn_sub (fun _ h => List.mem_append_left _ (List.mem_append_left _ (List.mem_append_left _ (List.mem_append_right _ h)))) (by decide +kernel))
set_option maxRecDepth 20000 in
theorem gL_law_X7_meanGap : GoodIn wsL_law (wsV RL 246 RX7 yX7_meanGap wsX7_meanGap) := goodIn_app (goodIn_of _ (by decide +kernel)) ggL_law_X7_meanGap
set_option maxRecDepth 20000 in
theorem ggL_law_L_woodShare : GoodIn wsL_law wsL_woodShare := goodIn_ca (goodIn_ca (goodIn_r _ [832, 547, 833, 834, 835, 2, 836, 41, 552, 29, 649, 559, 560, 561, 562, 563, 564, 357, 651, 652, 653, 73, 654, 655, 656, 79, 570, 571, 572, 28, 573, 70, 574, 837, 838, 839, 1765, 1766, 1767, 1768, 1769, 1770, 1771, 1772, 1773, 1774, 1775, 1849, 1850, 1851, 1852, 1853, 1854, 1855, 1856, 1857, 1858, 1859, 1837, 1838, 1839, 1840, 1841, 1842, 1843, 1844, 1860, 1861, 1862, 1863, 1864, 1865, 1866, 1867, 1868, 1869] (by decide +kernel) (by decide +kernel)) (goodIn_sub (fun _ h => List.mem_append_left _ (List.mem_append_left _ (List.mem_append_left _ (List.mem_append_right _ h)))) (by decide +kernel))) (goodIn_sub (fun _ h => List.mem_append_right _ h) (by decide +kernel))
set_option maxRecDepth 20000 in
theorem gL_law_L_woodShare : GoodIn wsL_law (va_wsS RL 247 yL_woodShare wsL_woodShare) := goodIn_app (goodIn_of _ (by decide +kernel)) ggL_law_L_woodShare
set_option maxRecDepth 20000 in
theorem ggL_law_X7_woodShare : GoodIn wsL_law wsX7_woodShare := goodIn_ca (goodIn_r _ [843, 398, 592, 593, 594, 5, 595, 149, 383, 389, 390, 391, 392, 596, 597, 598, 599, 482, 483, 484, 485, 114, 670, 671, 672, 673, 112, 608, 609, 610, 1776, 1777, 1778, 1779, 1780, 1781, 1782, 1783, 1784, 1785, 1786, 1787, 1788, 1789, 1790, 1791, 1792, 1793, 1794, 1795, 1796, 1797, 1798, 1799, 1800, 1801, 1802, 1803, 1804, 1805, 1806, 1807, 1808, 1809, 1810, 1811, 1812, 1813, 1814, 1815, 1816] (by decide +kernel) (by decide +kernel)) (goodIn_sub (fun _ h => List.mem_append_left _ (List.mem_append_left _ (List.mem_append_left _ (List.mem_append_right _ h)))) (by decide +kernel))
set_option maxRecDepth 20000 in
theorem gL_law_X7_woodShare : GoodIn wsL_law (wsV RL 249 RX7 yX7_woodShare wsX7_woodShare) := goodIn_app (goodIn_of _ (by decide +kernel)) ggL_law_X7_woodShare
set_option maxRecDepth 20000 in
theorem ggL_law_L_goodShare : GoodIn wsL_law wsL_goodShare := goodIn_ca (goodIn_ca (goodIn_r _ [846, 547, 847, 848, 849, 2, 850, 29, 555, 554, 559, 560, 561, 562, 563, 564, 357, 837, 838, 839, 1765, 1766, 1767, 1768, 1769, 1770, 1771, 1772, 1773, 1774, 1775, 1837, 1838, 1839, 1840, 1841, 1842, 1843, 1844] (by decide +kernel) (by decide +kernel)) (goodIn_sub (fun _ h => List.mem_append_left _ (List.mem_append_left _ (List.mem_append_left _ (List.mem_append_right _ h)))) (by decide +kernel))) (goodIn_sub (fun _ h => List.mem_append_right _ h) (by decide +kernel))
set_option maxRecDepth 20000 in
theorem gL_law_L_goodShare : GoodIn wsL_law (va_wsS RL 250 yL_goodShare wsL_goodShare) := goodIn_app (goodIn_of _ (by decide +kernel)) ggL_law_L_goodShare
set_option maxRecDepth 20000 in
theorem ggL_law_X7_goodShare : GoodIn wsL_law wsX7_goodShare := goodIn_ca (goodIn_r _ [854, 114, 592, 593, 594, 5, 595, 149, 383, 389, 390, 391, 392, 1776, 1777, 1778, 1779, 1780, 1781, 1782, 1783, 1784, 1785, 1786, 1787, 1788, 1789, 1790, 1791, 1792, 1793, 1794, 1795, 1796, 1797, 1798, 1799, 1800, 1801, 1802, 1803, 1804, 1805, 1806, 1807, 1808, 1809, 1810, 1811, 1812, 1813, 1814, 1815, 1816] (by decide +kernel) (by decide +kernel)) (goodIn_sub (fun _ h => List.mem_append_left _ (List.mem_append_left _ (List.mem_append_left _ (List.mem_append_right _ h)))) (by decide +kernel))
set_option maxRecDepth 20000 in
theorem gL_law_X7_goodShare : GoodIn wsL_law (wsV RL 252 RX7 yX7_goodShare wsX7_goodShare) := goodIn_app (goodIn_of _ (by decide +kernel)) ggL_law_X7_goodShare
set_option maxRecDepth 20000 in
theorem ggL_law_L_choice : GoodIn wsL_law wsL_choice := goodIn_ca (goodIn_ca (goodIn_ca (goodIn_ca (goodIn_r _ [857, 547, 858, 859, 860, 2, 861, 162, 163, 29, 21, 862, 863, 864, 41, 645, 646, 647, 648, 160, 161, 552, 649, 559, 560, 561, 562, 563, 564, 357, 865, 866, 867, 868, 869, 870, 871, 20, 872, 873, 57, 874, 363, 364, 365, 875, 876, 877, 878, 54, 879, 880, 881, 882, 883, 884, 885, 886, 887, 888, 889, 890, 891, 178, 179, 180, 892, 893, 894, 895, 341, 342, 73, 343, 344, 216, 222, 896, 897, 898, 28, 899, 199, 900, 346, 347, 348, 80, 901, 902, 903, 904, 905, 906, 907, 908, 909, 910, 911, 912, 913, 914, 915, 916, 917, 918, 919, 920, 921, 58, 922, 923, 924, 925, 926, 927, 928, 929, 930, 1765, 1766, 1767, 1768, 1769, 1770, 1771, 1772, 1773, 1774, 1775, 1826, 1827, 1828, 1829, 1830, 1831, 1832, 1833, 1849, 1850, 1851, 1852, 1853, 1854, 1855, 1856, 1857, 1858, 1859, 1837, 1838, 1839, 1840, 1841, 1842, 1843, 1844, 1860, 1861, 1862, 1863, 1864, 1865, 1866, 1867, 1868, 1869] (by decide +kernel) (by decide +kernel)) (goodIn_sub (fun _ h => List.mem_append_left _ (List.mem_append_left _ (List.mem_append_left _ (List.mem_append_right _ h)))) (by decide +kernel))) (goodIn_sub (fun _ h => List.mem_append_left _ (List.mem_append_right _ h)) (by decide +kernel))) (goodIn_sub (fun _ h => List.mem_append_left _ (List.mem_append_left _ (List.mem_append_right _ h))) (by decide +kernel))) (goodIn_sub (fun _ h => List.mem_append_right _ h) (by decide +kernel))
set_option maxRecDepth 20000 in
theorem gL_law_L_choice : GoodIn wsL_law (va_wsS RL 253 yL_choice wsL_choice) := goodIn_app (goodIn_of _ (by decide +kernel)) ggL_law_L_choice
set_option maxRecDepth 20000 in
theorem ggL_law_X7_choice : GoodIn wsL_law wsX7_choice := goodIn_ca (goodIn_r _ [934, 935, 662, 663, 664, 5, 665, 592, 593, 594, 595, 149, 383, 389, 390, 391, 392, 666, 667, 668, 669, 398, 386, 387, 388, 936, 937, 938, 939, 940, 400, 126, 941, 942, 943, 944, 486, 487, 488, 489, 397, 490, 491, 492, 493, 113, 494, 495, 496, 497, 482, 483, 484, 485, 114, 498, 499, 500, 501, 399, 502, 503, 504, 505, 945, 946, 947, 948, 385, 949, 950, 951, 952, 125, 804, 805, 806, 807, 112, 608, 609, 610, 953, 954, 955, 956, 957, 178, 179, 180, 958, 959, 960, 961, 128, 962, 963, 964, 965, 966, 967, 968, 969, 970, 971, 972, 973, 127, 974, 975, 976, 977, 978, 979, 980, 981, 1776, 1777, 1778, 1779, 1780, 1781, 1782, 1783, 1784, 1785, 1786, 1787, 1788, 1789, 1790, 1791, 1792, 1793, 1794, 1795, 1796, 1797, 1798, 1799, 1800, 1801, 1802, 1803, 1804, 1805, 1806, 1807, 1808, 1809, 1810, 1811, 1812, 1813, 1814, 1815, 1816] (by decide +kernel) (by decide +kernel)) (goodIn_sub (fun _ h => List.mem_append_left _ (List.mem_append_left _ (List.mem_append_left _ (List.mem_append_right _ h)))) (by decide +kernel))
set_option maxRecDepth 20000 in
theorem gL_law_X7_choice : GoodIn wsL_law (wsV RL 255 RX7 yX7_choice wsX7_choice) := goodIn_app (goodIn_of _ (by decide +kernel)) ggL_law_X7_choice
set_option maxRecDepth 20000 in
theorem ggL_law_L_chosen : GoodIn wsL_law wsL_chosen := goodIn_ca (goodIn_ca (goodIn_ca (goodIn_r _ [984, 547, 985, 986, 987, 2, 988, 29, 21, 989, 645, 646, 647, 648, 160, 161, 41, 552, 649, 559, 560, 561, 562, 563, 564, 357, 717, 718, 719, 720, 164, 865, 866, 867, 868, 869, 870, 871, 20, 872, 873, 57, 874, 363, 364, 365, 875, 876, 877, 878, 54, 879, 880, 881, 882, 883, 884, 885, 886, 887, 888, 889, 890, 891, 178, 179, 180, 892, 893, 894, 895, 341, 342, 73, 343, 344, 216, 222, 896, 897, 898, 28, 899, 199, 900, 346, 347, 348, 80, 901, 902, 903, 904, 905, 906, 907, 908, 909, 910, 911, 912, 913, 914, 915, 916, 917, 918, 919, 920, 921, 58, 922, 923, 924, 925, 1765, 1766, 1767, 1768, 1769, 1770, 1771, 1772, 1773, 1774, 1775, 1826, 1827, 1828, 1829, 1830, 1831, 1832, 1833, 1849, 1850, 1851, 1852, 1853, 1854, 1855, 1856, 1857, 1858, 1859, 1837, 1838, 1839, 1840, 1841, 1842, 1843, 1844, 1860, 1861, 1862, 1863, 1864, 1865, 1866, 1867, 1868, 1869] (by decide +kernel) (by decide +kernel)) (goodIn_sub (fun _ h => List.mem_append_left _ (List.mem_append_left _ (List.mem_append_left _ (List.mem_append_right _ h)))) (by decide +kernel))) (goodIn_sub (fun _ h => List.mem_append_left _ (List.mem_append_left _ (List.mem_append_right _ h))) (by decide +kernel))) (goodIn_sub (fun _ h => List.mem_append_right _ h) (by decide +kernel))
set_option maxRecDepth 20000 in
theorem gL_law_L_chosen : GoodIn wsL_law (va_wsS RL 256 yL_chosen wsL_chosen) := goodIn_app (goodIn_of _ (by decide +kernel)) ggL_law_L_chosen
set_option maxRecDepth 20000 in
theorem ggL_law_X7_chosen : GoodIn wsL_law wsX7_chosen := goodIn_ca (goodIn_r _ [993, 127, 662, 663, 664, 5, 665, 592, 593, 594, 595, 149, 383, 389, 390, 391, 392, 666, 667, 668, 669, 398, 386, 387, 388, 730, 731, 732, 733, 385, 936, 937, 938, 939, 940, 935, 400, 126, 941, 942, 943, 944, 486, 487, 488, 489, 397, 490, 491, 492, 493, 113, 494, 495, 496, 497, 482, 483, 484, 485, 114, 498, 499, 500, 501, 399, 502, 503, 504, 505, 945, 946, 947, 948, 949, 950, 951, 952, 125, 804, 805, 806, 807, 112, 608, 609, 610, 953, 954, 955, 956, 957, 178, 179, 180, 958, 959, 960, 961, 128, 962, 963, 964, 965, 966, 967, 968, 969, 970, 971, 972, 973, 1776, 1777, 1778, 1779, 1780, 1781, 1782, 1783, 1784, 1785, 1786, 1787, 1788, 1789, 1790, 1791, 1792, 1793, 1794, 1795, 1796, 1797, 1798, 1799, 1800, 1801, 1802, 1803, 1804, 1805, 1806, 1807, 1808, 1809, 1810, 1811, 1812, 1813, 1814, 1815, 1816] (by decide +kernel) (by decide +kernel)) (goodIn_sub (fun _ h => List.mem_append_left _ (List.mem_append_left _ (List.mem_append_left _ (List.mem_append_right _ h)))) (by decide +kernel))
set_option maxRecDepth 20000 in
theorem gL_law_X7_chosen : GoodIn wsL_law (wsV RL 258 RX7 yX7_chosen wsX7_chosen) := goodIn_app (goodIn_of _ (by decide +kernel)) ggL_law_X7_chosen
set_option maxRecDepth 20000 in
theorem ggL_law_L_ways : GoodIn wsL_law wsL_ways := goodIn_ca (goodIn_ca (goodIn_ca (goodIn_r _ [996, 547, 997, 998, 999, 2, 1000, 21, 29, 41, 645, 646, 647, 648, 160, 161, 552, 649, 559, 560, 561, 562, 563, 564, 357, 869, 870, 871, 20, 872, 873, 57, 874, 363, 364, 365, 895, 341, 342, 73, 343, 344, 216, 222, 896, 897, 898, 28, 899, 199, 900, 346, 347, 348, 80, 1001, 1002, 1003, 1004, 906, 907, 1005, 1006, 1007, 1008, 1009, 55, 879, 56, 887, 1010, 1011, 1012, 1013, 1014, 1015, 1016, 1017, 1765, 1766, 1767, 1768, 1769, 1770, 1771, 1772, 1773, 1774, 1775, 1849, 1850, 1851, 1852, 1853, 1854, 1855, 1856, 1857, 1858, 1859, 1837, 1838, 1839, 1840, 1841, 1842, 1843, 1844, 1826, 1827, 1828, 1829, 1830, 1831, 1832, 1833, 1860, 1861, 1862, 1863, 1864, 1865, 1866, 1867, 1868, 1869] (by decide +kernel) (by decide +kernel)) (goodIn_sub (fun _ h => List.mem_append_left _ (List.mem_append_left _ (List.mem_append_left _ (List.mem_append_right _ h)))) (by decide +kernel))) (goodIn_sub (fun _ h => List.mem_append_left _ (List.mem_append_left _ (List.mem_append_right _ h))) (by decide +kernel))) (goodIn_sub (fun _ h => List.mem_append_right _ h) (by decide +kernel))
set_option maxRecDepth 20000 in
theorem gL_law_L_ways : GoodIn wsL_law (va_wsS RL 259 yL_ways wsL_ways) := goodIn_app (goodIn_of _ (by decide +kernel)) ggL_law_L_ways
set_option maxRecDepth 20000 in
theorem ggL_law_X7_ways : GoodIn wsL_law wsX7_ways := goodIn_ca (goodIn_r _ [1021, 400, 129, 1022, 662, 663, 664, 5, 665, 592, 593, 594, 595, 149, 383, 389, 390, 391, 392, 666, 667, 668, 669, 398, 386, 387, 388, 941, 942, 943, 944, 486, 487, 488, 489, 397, 490, 491, 492, 493, 113, 494, 495, 496, 497, 482, 483, 484, 485, 114, 498, 499, 500, 501, 399, 502, 503, 504, 505, 1023, 1024, 1025, 1026, 385, 608, 609, 610, 958, 959, 960, 961, 128, 962, 963, 964, 965, 966, 967, 968, 969, 1776, 1777, 1778, 1779, 1780, 1781, 1782, 1783, 1784, 1785, 1786, 1787, 1788, 1789, 1790, 1791, 1792, 1793, 1794, 1795, 1796, 1797, 1798, 1799, 1800, 1801, 1802, 1803, 1804, 1805, 1806, 1807, 1808, 1809, 1810, 1811, 1812, 1813, 1814, 1815, 1816] (by decide +kernel) (by decide +kernel)) (goodIn_sub (fun _ h => List.mem_append_left _ (List.mem_append_left _ (List.mem_append_left _ (List.mem_append_right _ h)))) (by decide +kernel))
set_option maxRecDepth 20000 in
theorem gL_law_X7_ways : GoodIn wsL_law (wsV RL 261 RX7 yX7_ways wsX7_ways) := goodIn_app (goodIn_of _ (by decide +kernel)) ggL_law_X7_ways
set_option maxRecDepth 20000 in
theorem ggL_law_L_nearest : GoodIn wsL_law wsL_nearest := goodIn_ca (goodIn_ca (goodIn_ca (goodIn_r _ [1029, 547, 1030, 1031, 1032, 2, 1033, 41, 623, 624, 21, 29, 1034, 1035, 179, 1036, 645, 646, 647, 648, 160, 161, 552, 649, 559, 560, 561, 562, 563, 564, 357, 895, 341, 342, 73, 343, 344, 216, 222, 657, 346, 347, 348, 80, 869, 870, 871, 20, 872, 873, 57, 874, 363, 364, 365, 875, 876, 877, 878, 54, 879, 880, 881, 882, 883, 884, 885, 886, 887, 888, 889, 890, 891, 178, 180, 892, 893, 894, 1037, 915, 916, 917, 1765, 1766, 1767, 1768, 1769, 1770, 1771, 1772, 1773, 1774, 1775, 1849, 1850, 1851, 1852, 1853, 1854, 1855, 1856, 1857, 1858, 1859, 1837, 1838, 1839, 1840, 1841, 1842, 1843, 1844, 1860, 1861, 1862, 1863, 1864, 1865, 1866, 1867, 1868, 1869, 1826, 1827, 1828, 1829, 1830, 1831, 1832, 1833] (by decide +kernel) (by decide +kernel)) (goodIn_sub (fun _ h => List.mem_append_left _ (List.mem_append_left _ (List.mem_append_left _ (List.mem_append_right _ h)))) (by decide +kernel))) (goodIn_sub (fun _ h => List.mem_append_left _ (List.mem_append_left _ (List.mem_append_right _ h))) (by decide +kernel))) (goodIn_sub (fun _ h => List.mem_append_right _ h) (by decide +kernel))
set_option maxRecDepth 20000 in
theorem gL_law_L_nearest : GoodIn wsL_law (va_wsS RL 262 yL_nearest wsL_nearest) := goodIn_app (goodIn_of _ (by decide +kernel)) ggL_law_L_nearest
set_option maxRecDepth 20000 in
theorem ggL_law_X7_nearest : GoodIn wsL_law wsX7_nearest := goodIn_ca (goodIn_r _ [1041, 400, 940, 126, 957, 178, 179, 180, 662, 663, 664, 5, 665, 592, 593, 594, 595, 149, 383, 389, 390, 391, 392, 666, 667, 668, 669, 398, 386, 387, 388, 941, 942, 943, 944, 486, 487, 488, 489, 397, 490, 491, 492, 493, 113, 494, 495, 496, 497, 482, 483, 484, 485, 114, 498, 499, 500, 501, 399, 502, 503, 504, 505, 945, 946, 947, 948, 385, 949, 950, 951, 952, 125, 804, 805, 806, 807, 112, 608, 609, 610, 953, 954, 955, 956, 958, 959, 960, 961, 128, 966, 967, 968, 969, 1776, 1777, 1778, 1779, 1780, 1781, 1782, 1783, 1784, 1785, 1786, 1787, 1788, 1789, 1790, 1791, 1792, 1793, 1794, 1795, 1796, 1797, 1798, 1799, 1800, 1801, 1802, 1803, 1804, 1805, 1806, 1807, 1808, 1809, 1810, 1811, 1812, 1813, 1814, 1815, 1816] (by decide +kernel) (by decide +kernel)) (goodIn_sub (fun _ h => List.mem_append_left _ (List.mem_append_left _ (List.mem_append_left _ (List.mem_append_right _ h)))) (by decide +kernel))
set_option maxRecDepth 20000 in
theorem gL_law_X7_nearest : GoodIn wsL_law (wsV RL 264 RX7 yX7_nearest wsX7_nearest) := goodIn_app (goodIn_of _ (by decide +kernel)) ggL_law_X7_nearest
set_option maxRecDepth 20000 in
theorem ggL_law_L_fewestAt : GoodIn wsL_law wsL_fewestAt := goodIn_ca (goodIn_ca (goodIn_ca (goodIn_ca (goodIn_r _ [1044, 547, 1045, 1046, 1047, 2, 1048, 21, 29, 41, 645, 646, 647, 648, 160, 161, 552, 649, 559, 560, 561, 562, 563, 564, 357, 1049, 1050, 1051, 162, 163, 869, 870, 871, 20, 872, 873, 57, 874, 363, 364, 365, 875, 876, 877, 878, 54, 879, 880, 881, 882, 883, 884, 885, 886, 887, 888, 889, 890, 891, 178, 179, 180, 892, 893, 894, 1052, 1053, 1054, 1055, 862, 1056, 1057, 1058, 73, 1059, 215, 583, 336, 337, 338, 339, 80, 209, 340, 341, 342, 343, 344, 216, 222, 345, 346, 347, 348, 895, 896, 897, 898, 28, 899, 199, 900, 901, 902, 903, 904, 905, 906, 907, 908, 909, 910, 911, 912, 913, 914, 915, 916, 917, 918, 919, 920, 921, 58, 922, 923, 924, 925, 1765, 1766, 1767, 1768, 1769, 1770, 1771, 1772, 1773, 1774, 1775, 1849, 1850, 1851, 1852, 1853, 1854, 1855, 1856, 1857, 1858, 1859, 1837, 1838, 1839, 1840, 1841, 1842, 1843, 1844, 1826, 1827, 1828, 1829, 1830, 1831, 1832, 1833, 1860, 1861, 1862, 1863, 1864, 1865, 1866, 1867, 1868, 1869] (by decide +kernel) (by decide +kernel)) (goodIn_sub (fun _ h => List.mem_append_left _ (List.mem_append_left _ (List.mem_append_left _ (List.mem_append_right _ h)))) (by decide +kernel))) (goodIn_sub (fun _ h => List.mem_append_left _ (List.mem_append_left _ (List.mem_append_right _ h))) (by decide +kernel))) (goodIn_sub (fun _ h => List.mem_append_right _ h) (by decide +kernel))) (goodIn_sub (fun _ h => List.mem_append_left _ (List.mem_append_right _ h)) (by decide +kernel))
set_option maxRecDepth 20000 in
theorem gL_law_L_fewestAt : GoodIn wsL_law (va_wsS RL 265 yL_fewestAt wsL_fewestAt) := goodIn_app (goodIn_of _ (by decide +kernel)) ggL_law_L_fewestAt
set_option maxRecDepth 20000 in
theorem ggL_law_X7_fewestAt : GoodIn wsL_law wsX7_fewestAt := goodIn_ca (goodIn_r _ [1063, 662, 663, 664, 5, 665, 592, 593, 594, 595, 149, 383, 389, 390, 391, 392, 666, 667, 668, 669, 398, 386, 387, 388, 1064, 1065, 1066, 1067, 482, 483, 484, 485, 114, 486, 487, 488, 489, 397, 490, 491, 492, 493, 113, 494, 495, 496, 497, 498, 499, 500, 501, 399, 502, 503, 504, 505, 1068, 1069, 1070, 1071, 115, 506, 507, 508, 509, 416, 417, 418, 419, 936, 937, 938, 939, 940, 935, 400, 126, 941, 942, 943, 944, 945, 946, 947, 948, 385, 949, 950, 951, 952, 125, 804, 805, 806, 807, 112, 608, 609, 610, 953, 954, 955, 956, 957, 178, 179, 180, 958, 959, 960, 961, 128, 962, 963, 964, 965, 966, 967, 968, 969, 970, 971, 972, 973, 127, 974, 975, 976, 977, 1072, 1073, 1074, 1075, 1776, 1777, 1778, 1779, 1780, 1781, 1782, 1783, 1784, 1785, 1786, 1787, 1788, 1789, 1790, 1791, 1792, 1793, 1794, 1795, 1796, 1797, 1798, 1799, 1800, 1801, 1802, 1803, 1804, 1805, 1806, 1807, 1808, 1809, 1810, 1811, 1812, 1813, 1814, 1815, 1816] (by decide +kernel) (by decide +kernel)) (goodIn_sub (fun _ h => List.mem_append_left _ (List.mem_append_left _ (List.mem_append_left _ (List.mem_append_right _ h)))) (by decide +kernel))
set_option maxRecDepth 20000 in
theorem gL_law_X7_fewestAt : GoodIn wsL_law (wsV RL 267 RX7 yX7_fewestAt wsX7_fewestAt) := goodIn_app (goodIn_of _ (by decide +kernel)) ggL_law_X7_fewestAt
set_option maxRecDepth 20000 in
theorem ggL_law_L_rowFor : GoodIn wsL_law wsL_rowFor := goodIn_ca (goodIn_ca (goodIn_ca (goodIn_r _ [1078, 547, 1079, 1080, 1081, 2, 1082, 21, 29, 41, 1083, 552, 649, 559, 560, 561, 562, 563, 564, 357, 1049, 1050, 1051, 162, 163, 869, 870, 871, 20, 872, 873, 57, 874, 363, 364, 365, 875, 876, 877, 878, 54, 879, 880, 881, 882, 883, 884, 885, 886, 887, 888, 889, 890, 891, 178, 179, 180, 892, 893, 894, 1052, 1053, 1054, 1055, 862, 1056, 1057, 1058, 73, 1059, 215, 583, 336, 337, 338, 339, 80, 209, 340, 341, 342, 343, 344, 216, 222, 345, 346, 347, 348, 895, 896, 897, 898, 28, 899, 199, 900, 901, 902, 903, 904, 905, 906, 907, 908, 909, 910, 911, 912, 913, 914, 915, 916, 917, 918, 919, 920, 921, 58, 922, 923, 924, 925, 1765, 1766, 1767, 1768, 1769, 1770, 1771, 1772, 1773, 1774, 1775, 1849, 1850, 1851, 1852, 1853, 1854, 1855, 1856, 1857, 1858, 1859, 1837, 1838, 1839, 1840, 1841, 1842, 1843, 1844, 1826, 1827, 1828, 1829, 1830, 1831, 1832, 1833, 1860, 1861, 1862, 1863, 1864, 1865, 1866, 1867, 1868, 1869] (by decide +kernel) (by decide +kernel)) (goodIn_sub (fun _ h => List.mem_append_left _ (List.mem_append_left _ (List.mem_append_left _ (List.mem_append_right _ h)))) (by decide +kernel))) (goodIn_sub (fun _ h => List.mem_append_right _ h) (by decide +kernel))) (goodIn_sub (fun _ h => List.mem_append_left _ (List.mem_append_right _ h)) (by decide +kernel))
set_option maxRecDepth 20000 in
theorem gL_law_L_rowFor : GoodIn wsL_law (va_wsS RL 268 yL_rowFor wsL_rowFor) := goodIn_app (goodIn_of _ (by decide +kernel)) ggL_law_L_rowFor
set_option maxRecDepth 20000 in
theorem ggL_law_X7_rowFor : GoodIn wsL_law wsX7_rowFor := goodIn_ca (goodIn_r _ [1087, 940, 398, 592, 593, 594, 5, 595, 149, 383, 389, 390, 391, 392, 386, 387, 388, 1064, 1065, 1066, 1067, 482, 483, 484, 485, 114, 486, 487, 488, 489, 397, 490, 491, 492, 493, 113, 494, 495, 496, 497, 498, 499, 500, 501, 399, 502, 503, 504, 505, 1068, 1069, 1070, 1071, 115, 506, 507, 508, 509, 416, 417, 418, 419, 936, 937, 938, 939, 935, 400, 126, 941, 942, 943, 944, 945, 946, 947, 948, 385, 949, 950, 951, 952, 125, 804, 805, 806, 807, 112, 608, 609, 610, 953, 954, 955, 956, 957, 178, 179, 180, 958, 959, 960, 961, 128, 962, 963, 964, 965, 966, 967, 968, 969, 970, 971, 972, 973, 127, 974, 975, 976, 977, 1072, 1073, 1074, 1075, 1776, 1777, 1778, 1779, 1780, 1781, 1782, 1783, 1784, 1785, 1786, 1787, 1788, 1789, 1790, 1791, 1792, 1793, 1794, 1795, 1796, 1797, 1798, 1799, 1800, 1801, 1802, 1803, 1804, 1805, 1806, 1807, 1808, 1809, 1810, 1811, 1812, 1813, 1814, 1815, 1816] (by decide +kernel) (by decide +kernel)) (goodIn_sub (fun _ h => List.mem_append_left _ (List.mem_append_left _ (List.mem_append_left _ (List.mem_append_right _ h)))) (by decide +kernel))
set_option maxRecDepth 20000 in
theorem gL_law_X7_rowFor : GoodIn wsL_law (wsV RL 270 RX7 yX7_rowFor wsX7_rowFor) := goodIn_app (goodIn_of _ (by decide +kernel)) ggL_law_X7_rowFor
set_option maxRecDepth 20000 in
theorem ggL_law_L_missing : GoodIn wsL_law wsL_missing := goodIn_ca (goodIn_ca (goodIn_ca (goodIn_r _ [1090, 547, 1091, 1092, 1093, 2, 1094, 29, 21, 41, 645, 646, 647, 648, 160, 161, 552, 649, 559, 560, 561, 562, 563, 564, 357, 865, 866, 867, 868, 869, 870, 871, 20, 872, 873, 57, 874, 363, 364, 365, 875, 876, 877, 878, 54, 879, 880, 881, 882, 883, 884, 885, 886, 887, 888, 889, 890, 891, 178, 179, 180, 892, 893, 894, 895, 341, 342, 73, 343, 344, 216, 222, 896, 897, 898, 28, 899, 199, 900, 346, 347, 348, 80, 901, 902, 903, 904, 905, 906, 907, 908, 909, 910, 911, 912, 913, 914, 915, 916, 917, 918, 919, 920, 921, 58, 922, 923, 924, 925, 1095, 1096, 1097, 1098, 1099, 1765, 1766, 1767, 1768, 1769, 1770, 1771, 1772, 1773, 1774, 1775, 1849, 1850, 1851, 1852, 1853, 1854, 1855, 1856, 1857, 1858, 1859, 1837, 1838, 1839, 1840, 1841, 1842, 1843, 1844, 1826, 1827, 1828, 1829, 1830, 1831, 1832, 1833, 1860, 1861, 1862, 1863, 1864, 1865, 1866, 1867, 1868, 1869] (by decide +kernel) (by decide +kernel)) (goodIn_sub (fun _ h => List.mem_append_left _ (List.mem_append_left _ (List.mem_append_left _ (List.mem_append_right _ h)))) (by decide +kernel))) (goodIn_sub (fun _ h => List.mem_append_left _ (List.mem_append_left _ (List.mem_append_right _ h))) (by decide +kernel))) (goodIn_sub (fun _ h => List.mem_append_right _ h) (by decide +kernel))
set_option maxRecDepth 20000 in
theorem gL_law_L_missing : GoodIn wsL_law (va_wsS RL 271 yL_missing wsL_missing) := goodIn_app (goodIn_of _ (by decide +kernel)) ggL_law_L_missing
set_option maxRecDepth 20000 in
theorem ggL_law_X7_missing : GoodIn wsL_law wsX7_missing := goodIn_ca (goodIn_r _ [1103, 385, 128, 662, 663, 664, 5, 665, 592, 593, 594, 595, 149, 383, 389, 390, 391, 392, 666, 667, 668, 669, 398, 386, 387, 388, 936, 937, 938, 939, 940, 935, 400, 126, 941, 942, 943, 944, 486, 487, 488, 489, 397, 490, 491, 492, 493, 113, 494, 495, 496, 497, 482, 483, 484, 485, 114, 498, 499, 500, 501, 399, 502, 503, 504, 505, 945, 946, 947, 948, 949, 950, 951, 952, 125, 804, 805, 806, 807, 112, 608, 609, 610, 953, 954, 955, 956, 957, 178, 179, 180, 958, 959, 960, 961, 962, 963, 964, 965, 966, 967, 968, 969, 970, 971, 972, 973, 127, 1776, 1777, 1778, 1779, 1780, 1781, 1782, 1783, 1784, 1785, 1786, 1787, 1788, 1789, 1790, 1791, 1792, 1793, 1794, 1795, 1796, 1797, 1798, 1799, 1800, 1801, 1802, 1803, 1804, 1805, 1806, 1807, 1808, 1809, 1810, 1811, 1812, 1813, 1814, 1815, 1816] (by decide +kernel) (by decide +kernel)) (goodIn_sub (fun _ h => List.mem_append_left _ (List.mem_append_left _ (List.mem_append_left _ (List.mem_append_right _ h)))) (by decide +kernel))
set_option maxRecDepth 20000 in
theorem gL_law_X7_missing : GoodIn wsL_law (wsV RL 273 RX7 yX7_missing wsX7_missing) := goodIn_app (goodIn_of _ (by decide +kernel)) ggL_law_X7_missing
set_option maxRecDepth 20000 in
theorem ggL_law_L_canPut : GoodIn wsL_law wsL_canPut := goodIn_ca (goodIn_ca (goodIn_ca (goodIn_r _ [1106, 547, 1107, 1108, 1109, 2, 1110, 645, 646, 647, 648, 160, 161, 41, 552, 29, 649, 559, 560, 561, 562, 563, 564, 357, 717, 718, 719, 720, 164, 1111, 1112, 1113, 1114, 716, 715, 650, 336, 337, 73, 338, 339, 80, 209, 340, 341, 342, 343, 344, 216, 222, 345, 346, 347, 348, 1765, 1766, 1767, 1768, 1769, 1770, 1771, 1772, 1773, 1774, 1775, 1849, 1850, 1851, 1852, 1853, 1854, 1855, 1856, 1857, 1858, 1859, 1837, 1838, 1839, 1840, 1841, 1842, 1843, 1844, 1860, 1861, 1862, 1863, 1864, 1865, 1866, 1867, 1868, 1869] (by decide +kernel) (by decide +kernel)) (goodIn_sub (fun _ h => List.mem_append_left _ (List.mem_append_left _ (List.mem_append_left _ (List.mem_append_right _ h)))) (by decide +kernel))) (goodIn_sub (fun _ h => List.mem_append_left _ (List.mem_append_left _ (List.mem_append_right _ h))) (by decide +kernel))) (goodIn_sub (fun _ h => List.mem_append_right _ h) (by decide +kernel))
set_option maxRecDepth 20000 in
theorem gL_law_L_canPut : GoodIn wsL_law (va_wsS RL 274 yL_canPut wsL_canPut) := goodIn_app (goodIn_of _ (by decide +kernel)) ggL_law_L_canPut
set_option maxRecDepth 20000 in
theorem ggL_law_X7_canPut : GoodIn wsL_law wsX7_canPut := goodIn_ca (goodIn_r _ [1118, 114, 113, 662, 663, 664, 5, 665, 592, 593, 594, 595, 149, 383, 389, 390, 391, 392, 666, 667, 668, 669, 398, 386, 387, 388, 730, 731, 732, 733, 385, 486, 487, 488, 489, 397, 490, 491, 492, 493, 494, 495, 496, 497, 482, 483, 484, 485, 498, 499, 500, 501, 399, 502, 503, 504, 505, 1776, 1777, 1778, 1779, 1780, 1781, 1782, 1783, 1784, 1785, 1786, 1787, 1788, 1789, 1790, 1791, 1792, 1793, 1794, 1795, 1796, 1797, 1798, 1799, 1800, 1801, 1802, 1803, 1804, 1805, 1806, 1807, 1808, 1809, 1810, 1811, 1812, 1813, 1814, 1815, 1816] (by decide +kernel) (by decide +kernel)) (goodIn_sub (fun _ h => List.mem_append_left _ (List.mem_append_left _ (List.mem_append_left _ (List.mem_append_right _ h)))) (by decide +kernel))
set_option maxRecDepth 20000 in
theorem gL_law_X7_canPut : GoodIn wsL_law (wsV RL 276 RX7 yX7_canPut wsX7_canPut) := goodIn_app (goodIn_of _ (by decide +kernel)) ggL_law_X7_canPut
set_option maxRecDepth 20000 in
theorem ggL_law_L_freshChoice : GoodIn wsL_law wsL_freshChoice := goodIn_ca (goodIn_ca (goodIn_ca (goodIn_r _ [1121, 547, 1122, 1123, 1124, 2, 1125, 30, 29, 649, 21, 862, 645, 646, 647, 648, 160, 161, 41, 552, 559, 560, 561, 562, 563, 564, 357, 358, 359, 360, 28, 361, 70, 71, 362, 363, 364, 365, 199, 200, 201, 202, 203, 204, 366, 367, 368, 73, 369, 77, 370, 215, 216, 78, 221, 222, 79, 80, 209, 210, 1126, 1127, 1128, 1129, 725, 1130, 1131, 218, 219, 220, 1132, 1133, 1134, 1135, 1136, 1137, 900, 346, 347, 348, 865, 866, 867, 868, 869, 870, 871, 20, 872, 873, 57, 874, 875, 876, 877, 878, 54, 879, 880, 881, 882, 883, 884, 885, 886, 887, 888, 889, 890, 891, 178, 179, 180, 892, 893, 894, 895, 341, 342, 343, 344, 896, 897, 898, 899, 901, 902, 903, 904, 905, 906, 907, 908, 909, 910, 911, 912, 913, 914, 915, 916, 917, 918, 919, 920, 921, 58, 922, 923, 924, 925, 1765, 1766, 1767, 1768, 1769, 1770, 1771, 1772, 1773, 1774, 1775, 1837, 1838, 1839, 1840, 1841, 1842, 1843, 1844, 1826, 1827, 1828, 1829, 1830, 1831, 1832, 1833, 1849, 1850, 1851, 1852, 1853, 1854, 1855, 1856, 1857, 1858, 1859, 1860, 1861, 1862, 1863, 1864, 1865, 1866, 1867, 1868, 1869] (by decide +kernel) (by decide +kernel)) (goodIn_sub (fun _ h => List.mem_append_left _ (List.mem_append_left _ (List.mem_append_left _ (List.mem_append_right _ h)))) (by decide +kernel))) (goodIn_sub (fun _ h => List.mem_append_left _ (List.mem_append_left _ (List.mem_append_right _ h))) (by decide +kernel))) (goodIn_sub (fun _ h => List.mem_append_right _ h) (by decide +kernel))
set_option maxRecDepth 20000 in
theorem gL_law_L_freshChoice : GoodIn wsL_law (va_wsS RL 277 yL_freshChoice wsL_freshChoice) := goodIn_app (goodIn_of _ (by decide +kernel)) ggL_law_L_freshChoice
set_option maxRecDepth 20000 in
theorem ggL_law_X7_freshChoice : GoodIn wsL_law wsX7_freshChoice := goodIn_ca (goodIn_r _ [1141, 662, 663, 664, 5, 665, 592, 593, 594, 595, 149, 383, 389, 390, 391, 392, 666, 667, 668, 669, 398, 386, 387, 388, 1068, 1069, 1070, 1071, 115, 114, 1142, 1143, 1144, 1145, 482, 483, 484, 485, 416, 417, 418, 419, 1146, 1147, 1148, 1149, 502, 503, 504, 505, 936, 937, 938, 939, 940, 935, 400, 126, 941, 942, 943, 944, 486, 487, 488, 489, 397, 490, 491, 492, 493, 113, 494, 495, 496, 497, 498, 499, 500, 501, 399, 945, 946, 947, 948, 385, 949, 950, 951, 952, 125, 804, 805, 806, 807, 112, 608, 609, 610, 953, 954, 955, 956, 957, 178, 179, 180, 958, 959, 960, 961, 128, 962, 963, 964, 965, 966, 967, 968, 969, 970, 971, 972, 973, 127, 974, 975, 976, 977, 1072, 1073, 1074, 1075, 1776, 1777, 1778, 1779, 1780, 1781, 1782, 1783, 1784, 1785, 1786, 1787, 1788, 1789, 1790, 1791, 1792, 1793, 1794, 1795, 1796, 1797, 1798, 1799, 1800, 1801, 1802, 1803, 1804, 1805, 1806, 1807, 1808, 1809, 1810, 1811, 1812, 1813, 1814, 1815, 1816] (by decide +kernel) (by decide +kernel)) (goodIn_sub (fun _ h => List.mem_append_left _ (List.mem_append_left _ (List.mem_append_left _ (List.mem_append_right _ h)))) (by decide +kernel))
set_option maxRecDepth 20000 in
theorem gL_law_X7_freshChoice : GoodIn wsL_law (wsV RL 279 RX7 yX7_freshChoice wsX7_freshChoice) := goodIn_app (goodIn_of _ (by decide +kernel)) ggL_law_X7_freshChoice
set_option maxRecDepth 20000 in
theorem ggL_law_L_fillable : GoodIn wsL_law wsL_fillable := goodIn_ca (goodIn_ca (goodIn_ca (goodIn_r _ [1152, 547, 1153, 1154, 1155, 2, 1156, 162, 163, 41, 622, 21, 29, 559, 560, 561, 562, 563, 564, 357, 869, 870, 871, 20, 872, 873, 57, 874, 363, 364, 365, 875, 876, 877, 878, 54, 879, 880, 881, 882, 883, 884, 885, 886, 887, 888, 889, 890, 891, 178, 179, 180, 892, 893, 894, 1037, 915, 916, 917, 1765, 1766, 1767, 1768, 1769, 1770, 1771, 1772, 1773, 1774, 1775, 1849, 1850, 1851, 1852, 1853, 1854, 1855, 1856, 1857, 1858, 1859, 1837, 1838, 1839, 1840, 1841, 1842, 1843, 1844, 1826, 1827, 1828, 1829, 1830, 1831, 1832, 1833] (by decide +kernel) (by decide +kernel)) (goodIn_sub (fun _ h => List.mem_append_left _ (List.mem_append_left _ (List.mem_append_left _ (List.mem_append_right _ h)))) (by decide +kernel))) (goodIn_sub (fun _ h => List.mem_append_left _ (List.mem_append_right _ h)) (by decide +kernel))) (goodIn_sub (fun _ h => List.mem_append_right _ h) (by decide +kernel))
set_option maxRecDepth 20000 in
theorem gL_law_L_fillable : GoodIn wsL_law (va_wsS RL 280 yL_fillable wsL_fillable) := goodIn_app (goodIn_of _ (by decide +kernel)) ggL_law_L_fillable
set_option maxRecDepth 20000 in
theorem ggL_law_X7_fillable : GoodIn wsL_law wsX7_fillable := goodIn_ca (goodIn_r _ [1160, 397, 126, 940, 592, 593, 594, 5, 595, 149, 383, 389, 390, 391, 392, 386, 387, 388, 945, 946, 947, 948, 385, 949, 950, 951, 952, 125, 804, 805, 806, 807, 113, 112, 608, 609, 610, 953, 954, 955, 956, 957, 178, 179, 180, 958, 959, 960, 961, 114, 128, 1776, 1777, 1778, 1779, 1780, 1781, 1782, 1783, 1784, 1785, 1786, 1787, 1788, 1789, 1790, 1791, 1792, 1793, 1794, 1795, 1796, 1797, 1798, 1799, 1800, 1801, 1802, 1803, 1804, 1805, 1806, 1807, 1808, 1809, 1810, 1811, 1812, 1813, 1814, 1815, 1816] (by decide +kernel) (by decide +kernel)) (goodIn_sub (fun _ h => List.mem_append_left _ (List.mem_append_left _ (List.mem_append_left _ (List.mem_append_right _ h)))) (by decide +kernel))
set_option maxRecDepth 20000 in
theorem gL_law_X7_fillable : GoodIn wsL_law (wsV RL 282 RX7 yX7_fillable wsX7_fillable) := goodIn_app (goodIn_of _ (by decide +kernel)) ggL_law_X7_fillable
set_option maxRecDepth 20000 in
theorem ggL_law_L_fallsIn : GoodIn wsL_law wsL_fallsIn := goodIn_ca (goodIn_ca (goodIn_ca (goodIn_r _ [1163, 547, 1164, 1165, 1166, 2, 1167, 639, 41, 627, 645, 646, 647, 648, 160, 161, 552, 29, 649, 559, 560, 561, 562, 563, 564, 357, 1168, 1169, 1170, 73, 1171, 1172, 1173, 652, 653, 654, 655, 656, 79, 1174, 1175, 1176, 1177, 1178, 215, 780, 781, 782, 783, 210, 583, 336, 337, 338, 339, 80, 209, 340, 341, 342, 343, 344, 216, 222, 345, 346, 347, 348, 1860, 1861, 1862, 1863, 1864, 1865, 1866, 1867, 1868, 1869, 1765, 1766, 1767, 1768, 1769, 1770, 1771, 1772, 1773, 1774, 1775, 1849, 1850, 1851, 1852, 1853, 1854, 1855, 1856, 1857, 1858, 1859, 1837, 1838, 1839, 1840, 1841, 1842, 1843, 1844] (by decide +kernel) (by decide +kernel)) (goodIn_sub (fun _ h => List.mem_append_left _ (List.mem_append_left _ (List.mem_append_left _ (List.mem_append_right _ h)))) (by decide +kernel))) (goodIn_sub (fun _ h => List.mem_append_left _ (List.mem_append_left _ (List.mem_append_right _ h))) (by decide +kernel))) (goodIn_sub (fun _ h => List.mem_append_right _ h) (by decide +kernel))
set_option maxRecDepth 20000 in
theorem gL_law_L_fallsIn : GoodIn wsL_law (va_wsS RL 283 yL_fallsIn wsL_fallsIn) := goodIn_app (goodIn_of _ (by decide +kernel)) ggL_law_L_fallsIn
set_option maxRecDepth 20000 in
theorem ggL_law_X7_fallsIn : GoodIn wsL_law wsX7_fallsIn := goodIn_ca (goodIn_r _ [1182, 662, 663, 664, 5, 665, 592, 593, 594, 595, 149, 383, 389, 390, 391, 392, 666, 667, 668, 669, 398, 386, 387, 388, 1068, 1069, 1070, 1071, 115, 114, 1183, 1184, 1185, 1186, 402, 482, 483, 484, 485, 670, 671, 672, 673, 112, 608, 609, 610, 416, 417, 418, 419, 1187, 1188, 1189, 1190, 403, 788, 789, 790, 791, 486, 487, 488, 489, 397, 490, 491, 492, 493, 113, 494, 495, 496, 497, 498, 499, 500, 501, 399, 502, 503, 504, 505, 1142, 1143, 1144, 1145, 1146, 1147, 1148, 1149, 1191, 1192, 1193, 1194, 401, 1195, 1196, 1197, 1198, 1072, 1073, 1074, 1075, 1776, 1777, 1778, 1779, 1780, 1781, 1782, 1783, 1784, 1785, 1786, 1787, 1788, 1789, 1790, 1791, 1792, 1793, 1794, 1795, 1796, 1797, 1798, 1799, 1800, 1801, 1802, 1803, 1804, 1805, 1806, 1807, 1808, 1809, 1810, 1811, 1812, 1813, 1814, 1815, 1816] (by decide +kernel) (by decide +kernel)) (goodIn_sub (fun _ h => List.mem_append_left _ (List.mem_append_left _ (List.mem_append_left _ (List.mem_append_right _ h)))) (by decide +kernel))
set_option maxRecDepth 20000 in
theorem gL_law_X7_fallsIn : GoodIn wsL_law (wsV RL 286 RX7 yX7_fallsIn wsX7_fallsIn) := goodIn_app (goodIn_of _ (by decide +kernel)) ggL_law_X7_fallsIn
set_option maxRecDepth 20000 in
theorem ggL_law_L_goodIn : GoodIn wsL_law wsL_goodIn := goodIn_ca (goodIn_ca (goodIn_ca (goodIn_r _ [1201, 547, 1202, 1203, 1204, 2, 1205, 162, 163, 30, 29, 41, 559, 560, 561, 562, 563, 564, 357, 358, 359, 360, 28, 361, 70, 71, 362, 363, 364, 365, 199, 200, 201, 202, 203, 204, 366, 367, 368, 73, 369, 77, 370, 215, 216, 78, 221, 222, 79, 80, 209, 210, 1206, 1207, 1208, 1209, 1210, 1211, 1212, 1213, 1130, 1214, 1175, 1176, 1177, 1178, 1215, 1216, 1217, 1218, 569, 1219, 1220, 781, 782, 783, 583, 336, 337, 338, 339, 340, 341, 342, 343, 344, 345, 346, 347, 348, 1221, 212, 213, 214, 1222, 1127, 1128, 1129, 725, 1131, 218, 219, 220, 1132, 1133, 1134, 1135, 1136, 1137, 900, 1223, 1224, 1225, 1226, 1227, 1228, 1229, 1230, 1765, 1766, 1767, 1768, 1769, 1770, 1771, 1772, 1773, 1774, 1775, 1837, 1838, 1839, 1840, 1841, 1842, 1843, 1844, 1860, 1861, 1862, 1863, 1864, 1865, 1866, 1867, 1868, 1869, 1849, 1850, 1851, 1852, 1853, 1854, 1855, 1856, 1857, 1858, 1859] (by decide +kernel) (by decide +kernel)) (goodIn_sub (fun _ h => List.mem_append_left _ (List.mem_append_left _ (List.mem_append_left _ (List.mem_append_right _ h)))) (by decide +kernel))) (goodIn_sub (fun _ h => List.mem_append_left _ (List.mem_append_right _ h)) (by decide +kernel))) (goodIn_sub (fun _ h => List.mem_append_right _ h) (by decide +kernel))
set_option maxRecDepth 20000 in
theorem gL_law_L_goodIn : GoodIn wsL_law (va_wsS RL 287 yL_goodIn wsL_goodIn) := goodIn_app (goodIn_of _ (by decide +kernel)) ggL_law_L_goodIn
set_option maxRecDepth 20000 in
theorem ggL_law_X7_goodIn : GoodIn wsL_law wsX7_goodIn := goodIn_ca (goodIn_r _ [1234, 114, 592, 593, 594, 5, 595, 149, 383, 389, 390, 391, 392, 386, 387, 388, 1068, 1069, 1070, 1071, 115, 1191, 1192, 1193, 1194, 398, 401, 482, 483, 484, 485, 416, 417, 418, 419, 1187, 1188, 1189, 1190, 403, 788, 789, 790, 791, 486, 487, 488, 489, 397, 490, 491, 492, 493, 113, 494, 495, 496, 497, 498, 499, 500, 501, 399, 502, 503, 504, 505, 1142, 1143, 1144, 1145, 1146, 1147, 1148, 1149, 1195, 1196, 1197, 1198, 608, 609, 610, 1072, 1073, 1074, 1075, 1776, 1777, 1778, 1779, 1780, 1781, 1782, 1783, 1784, 1785, 1786, 1787, 1788, 1789, 1790, 1791, 1792, 1793, 1794, 1795, 1796, 1797, 1798, 1799, 1800, 1801, 1802, 1803, 1804, 1805, 1806, 1807, 1808, 1809, 1810, 1811, 1812, 1813, 1814, 1815, 1816] (by decide +kernel) (by decide +kernel)) (goodIn_sub (fun _ h => List.mem_append_left _ (List.mem_append_left _ (List.mem_append_left _ (List.mem_append_right _ h)))) (by decide +kernel))
set_option maxRecDepth 20000 in
theorem gL_law_X7_goodIn : GoodIn wsL_law (wsV RL 289 RX7 yX7_goodIn wsX7_goodIn) := goodIn_app (goodIn_of _ (by decide +kernel)) ggL_law_X7_goodIn
set_option maxRecDepth 20000 in
theorem ggL_law_L_lockable : GoodIn wsL_law wsL_lockable := goodIn_ca (goodIn_ca (goodIn_r _ [1237, 547, 1238, 1239, 1240, 2, 1241, 21, 29, 41, 552, 649, 559, 560, 561, 562, 563, 564, 357, 869, 870, 871, 20, 872, 873, 57, 874, 363, 364, 365, 875, 876, 877, 878, 54, 879, 880, 881, 882, 883, 884, 885, 886, 887, 888, 889, 890, 891, 178, 179, 180, 892, 893, 894, 895, 341, 342, 73, 343, 344, 216, 222, 896, 897, 898, 28, 899, 199, 900, 346, 347, 348, 80, 901, 902, 903, 904, 905, 906, 907, 908, 909, 910, 911, 912, 913, 914, 915, 916, 917, 918, 919, 920, 921, 58, 922, 923, 924, 925, 1765, 1766, 1767, 1768, 1769, 1770, 1771, 1772, 1773, 1774, 1775, 1849, 1850, 1851, 1852, 1853, 1854, 1855, 1856, 1857, 1858, 1859, 1837, 1838, 1839, 1840, 1841, 1842, 1843, 1844, 1826, 1827, 1828, 1829, 1830, 1831, 1832, 1833, 1860, 1861, 1862, 1863, 1864, 1865, 1866, 1867, 1868, 1869] (by decide +kernel) (by decide +kernel)) (goodIn_sub (fun _ h => List.mem_append_left _ (List.mem_append_left _ (List.mem_append_left _ (List.mem_append_right _ h)))) (by decide +kernel))) (goodIn_sub (fun _ h => List.mem_append_right _ h) (by decide +kernel))
set_option maxRecDepth 20000 in
theorem gL_law_L_lockable : GoodIn wsL_law (va_wsS RL 290 yL_lockable wsL_lockable) := goodIn_app (goodIn_of _ (by decide +kernel)) ggL_law_L_lockable
set_option maxRecDepth 20000 in
theorem ggL_law_X7_lockable : GoodIn wsL_law wsX7_lockable := goodIn_ca (goodIn_r _ [1245, 398, 592, 593, 594, 5, 595, 149, 383, 389, 390, 391, 392, 936, 937, 938, 939, 940, 935, 400, 126, 941, 942, 943, 944, 486, 487, 488, 489, 397, 490, 491, 492, 493, 113, 494, 495, 496, 497, 482, 483, 484, 485, 114, 498, 499, 500, 501, 399, 502, 503, 504, 505, 945, 946, 947, 948, 385, 949, 950, 951, 952, 125, 804, 805, 806, 807, 112, 608, 609, 610, 953, 954, 955, 956, 957, 178, 179, 180, 958, 959, 960, 961, 128, 962, 963, 964, 965, 966, 967, 968, 969, 970, 971, 972, 973, 127, 1776, 1777, 1778, 1779, 1780, 1781, 1782, 1783, 1784, 1785, 1786, 1787, 1788, 1789, 1790, 1791, 1792, 1793, 1794, 1795, 1796, 1797, 1798, 1799, 1800, 1801, 1802, 1803, 1804, 1805, 1806, 1807, 1808, 1809, 1810, 1811, 1812, 1813, 1814, 1815, 1816] (by decide +kernel) (by decide +kernel)) (goodIn_sub (fun _ h => List.mem_append_left _ (List.mem_append_left _ (List.mem_append_left _ (List.mem_append_right _ h)))) (by decide +kernel))
set_option maxRecDepth 20000 in
theorem gL_law_X7_lockable : GoodIn wsL_law (wsV RL 292 RX7 yX7_lockable wsX7_lockable) := goodIn_app (goodIn_of _ (by decide +kernel)) ggL_law_X7_lockable
set_option maxRecDepth 20000 in
theorem ggL_law_L_lockedAll : GoodIn wsL_law wsL_lockedAll := goodIn_ca (goodIn_ca (goodIn_r _ [1248, 547, 1249, 1250, 1251, 2, 1252, 30, 29, 41, 552, 649, 21, 559, 560, 561, 562, 563, 564, 357, 358, 359, 360, 28, 361, 70, 71, 362, 363, 364, 365, 199, 200, 201, 202, 203, 204, 366, 367, 368, 73, 369, 77, 370, 215, 216, 78, 221, 222, 79, 80, 209, 210, 865, 866, 867, 868, 869, 870, 871, 20, 872, 873, 57, 874, 875, 876, 877, 878, 54, 879, 880, 881, 882, 883, 884, 885, 886, 887, 888, 889, 890, 891, 178, 179, 180, 892, 893, 894, 895, 341, 342, 343, 344, 896, 897, 898, 899, 900, 346, 347, 348, 901, 902, 903, 904, 905, 906, 907, 908, 909, 910, 911, 912, 913, 914, 915, 916, 917, 918, 919, 920, 921, 58, 922, 923, 924, 925, 1253, 1254, 1255, 1256, 1257, 1258, 1259, 1260, 1130, 1261, 1262, 1263, 1264, 1265, 1266, 1267, 1268, 1269, 1270, 1271, 1272, 1273, 1274, 1275, 1276, 1277, 1278, 1279, 1136, 1137, 575, 576, 577, 578, 579, 580, 581, 582, 583, 336, 337, 338, 339, 340, 345, 1765, 1766, 1767, 1768, 1769, 1770, 1771, 1772, 1773, 1774, 1775, 1849, 1850, 1851, 1852, 1853, 1854, 1855, 1856, 1857, 1858, 1859, 1837, 1838, 1839, 1840, 1841, 1842, 1843, 1844, 1860, 1861, 1862, 1863, 1864, 1865, 1866, 1867, 1868, 1869, 1826, 1827, 1828, 1829, 1830, 1831, 1832, 1833] (by decide +kernel) (by decide +kernel)) (goodIn_sub (fun _ h => List.mem_append_left _ (List.mem_append_left _ (List.mem_append_left _ (List.mem_append_right _ h)))) (by decide +kernel))) (goodIn_sub (fun _ h => List.mem_append_right _ h) (by decide +kernel))
set_option maxRecDepth 20000 in
theorem gL_law_L_lockedAll : GoodIn wsL_law (va_wsS RL 293 yL_lockedAll wsL_lockedAll) := goodIn_app (goodIn_of _ (by decide +kernel)) ggL_law_L_lockedAll
set_option maxRecDepth 20000 in
theorem ggL_law_X7_lockedAll : GoodIn wsL_law wsX7_lockedAll := goodIn_ca (goodIn_r _ [1283, 398, 592, 593, 594, 5, 595, 149, 383, 389, 390, 391, 392, 1068, 1069, 1070, 1071, 115, 114, 1284, 1285, 1286, 1287, 935, 385, 127, 125, 936, 937, 938, 939, 940, 400, 126, 941, 942, 943, 944, 486, 487, 488, 489, 397, 490, 491, 492, 493, 113, 494, 495, 496, 497, 482, 483, 484, 485, 498, 499, 500, 501, 399, 502, 503, 504, 505, 945, 946, 947, 948, 949, 950, 951, 952, 804, 805, 806, 807, 112, 608, 609, 610, 953, 954, 955, 956, 957, 178, 179, 180, 958, 959, 960, 961, 128, 962, 963, 964, 965, 966, 967, 968, 969, 970, 971, 972, 973, 416, 417, 418, 419, 1288, 1289, 1290, 1291, 600, 601, 602, 603, 604, 605, 606, 607, 1072, 1073, 1074, 1075, 1776, 1777, 1778, 1779, 1780, 1781, 1782, 1783, 1784, 1785, 1786, 1787, 1788, 1789, 1790, 1791, 1792, 1793, 1794, 1795, 1796, 1797, 1798, 1799, 1800, 1801, 1802, 1803, 1804, 1805, 1806, 1807, 1808, 1809, 1810, 1811, 1812, 1813, 1814, 1815, 1816] (by decide +kernel) (by decide +kernel)) (goodIn_sub (fun _ h => List.mem_append_left _ (List.mem_append_left _ (List.mem_append_left _ (List.mem_append_right _ h)))) (by decide +kernel))
set_option maxRecDepth 20000 in
theorem gL_law_X7_lockedAll : GoodIn wsL_law (wsV RL 295 RX7 yX7_lockedAll wsX7_lockedAll) := goodIn_app (goodIn_of _ (by decide +kernel)) ggL_law_X7_lockedAll
set_option maxRecDepth 20000 in
theorem ggL_law_L_writeRow : GoodIn wsL_law wsL_writeRow := goodIn_ca (goodIn_ca (goodIn_ca (goodIn_r _ [1294, 547, 1295, 1296, 1297, 2, 1298, 37, 639, 640, 641, 645, 646, 647, 648, 160, 161, 41, 552, 29, 649, 559, 560, 561, 562, 563, 564, 357, 1299, 1300, 1301, 36, 1302, 1303, 1304, 1305, 1306, 87, 1307, 1308, 1309, 1310, 1311, 92, 1312, 1313, 1314, 1315, 1316, 1317, 93, 1318, 1319, 1320, 1321, 1322, 1323, 1324, 1325, 1326, 1327, 1328, 1035, 179, 1036, 1329, 1330, 1331, 1332, 1333, 1334, 1335, 1336, 1337, 1338, 1339, 1340, 1341, 1342, 91, 1343, 178, 180, 1344, 363, 364, 365, 1345, 1346, 1347, 1348, 1349, 90, 1350, 1351, 265, 1352, 1353, 1354, 1355, 1356, 1357, 1358, 1359, 35, 1360, 1361, 1362, 1363, 1364, 96, 1365, 1366, 1367, 1368, 1369, 1370, 1371, 1372, 1373, 1374, 1375, 1376, 1377, 1378, 1379, 1380, 1381, 1382, 1383, 1384, 1385, 1386, 1387, 1388, 1389, 1390, 1391, 1392, 1393, 1394, 94, 95, 97, 98, 99, 100, 101, 1395, 1396, 1397, 1398, 1399, 1400, 1401, 1402, 1403, 281, 282, 283, 1404, 1405, 246, 1406, 270, 1407, 1408, 273, 1409, 1410, 1411, 1412, 288, 289, 290, 1413, 1414, 1415, 278, 279, 280, 284, 268, 269, 271, 272, 274, 684, 685, 686, 73, 687, 215, 77, 1416, 1417, 1418, 1419, 1420, 1421, 1422, 1423, 1424, 1425, 1426, 1427, 1428, 1429, 1430, 1431, 1432, 1433, 1434, 1435, 1436, 1437, 1438, 1439, 1440, 1441, 1442, 1443, 1444, 1445, 1446, 1447, 1448, 1449, 699, 700, 701, 702, 221, 78, 1450, 1451, 1452, 1453, 164, 714, 715, 657, 346, 347, 348, 80, 1454, 1455, 1456, 1457, 1765, 1766, 1767, 1768, 1769, 1770, 1771, 1772, 1773, 1774, 1775, 1860, 1861, 1862, 1863, 1864, 1865, 1866, 1867, 1868, 1869, 1849, 1850, 1851, 1852, 1853, 1854, 1855, 1856, 1857, 1858, 1859, 1837, 1838, 1839, 1840, 1841, 1842, 1843, 1844, 1874, 1875, 1876, 1877, 1878, 1879, 1845, 1846, 1847, 1848, 1880, 1881, 1882, 1883, 1884, 1885] (by decide +kernel) (by decide +kernel)) (goodIn_sub (fun _ h => List.mem_append_left _ (List.mem_append_left _ (List.mem_append_left _ (List.mem_append_right _ h)))) (by decide +kernel))) (goodIn_sub (fun _ h => List.mem_append_left _ (List.mem_append_left _ (List.mem_append_right _ h))) (by decide +kernel))) (goodIn_sub (fun _ h => List.mem_append_right _ h) (by decide +kernel))
set_option maxRecDepth 20000 in
theorem gL_law_L_writeRow : GoodIn wsL_law (va_wsS RL 296 yL_writeRow wsL_writeRow) := goodIn_app (goodIn_of _ (by decide +kernel)) ggL_law_L_writeRow
set_option maxRecDepth 20000 in
theorem ggL_law_X7_writeRow : GoodIn wsL_law wsX7_writeRow := goodIn_ca (goodIn_r _ [1461, 1462, 662, 663, 664, 5, 665, 592, 593, 594, 595, 149, 383, 389, 390, 391, 392, 666, 667, 668, 669, 398, 386, 387, 388, 482, 483, 484, 485, 114, 1463, 1464, 1465, 1466, 1467, 1468, 1469, 1470, 130, 1471, 1472, 1473, 1474, 1475, 1476, 1477, 1478, 112, 113, 1479, 1480, 1481, 1482, 1776, 1777, 1778, 1779, 1780, 1781, 1782, 1783, 1784, 1785, 1786, 1787, 1788, 1789, 1790, 1791, 1792, 1793, 1794, 1795, 1796, 1797, 1798, 1799, 1800, 1801, 1802, 1803, 1804, 1805, 1806, 1807, 1808, 1809, 1810, 1811, 1812, 1813, 1814, 1815, 1816] (by decide +kernel) (by decide +kernel)) (goodIn_sub (fun _ h => List.mem_append_left _ (List.mem_append_left _ (List.mem_append_left _ (List.mem_append_right _ h)))) (by decide +kernel))
set_option maxRecDepth 20000 in
theorem gL_law_X7_writeRow : GoodIn wsL_law (wsV RL 298 RX7 yX7_writeRow wsX7_writeRow) := goodIn_app (goodIn_of _ (by decide +kernel)) ggL_law_X7_writeRow
set_option maxRecDepth 20000 in
theorem ggL_law_L_writeChoice : GoodIn wsL_law wsL_writeChoice := goodIn_ca (goodIn_ca (goodIn_ca (goodIn_r _ [1485, 547, 1486, 1487, 1488, 2, 1489, 37, 29, 41, 164, 799, 21, 989, 863, 645, 646, 647, 648, 160, 161, 552, 649, 559, 560, 561, 562, 563, 564, 357, 1299, 1300, 1301, 36, 1302, 1303, 1304, 1305, 1306, 87, 1307, 1308, 1309, 1310, 1311, 92, 1312, 1313, 1314, 1315, 1316, 1317, 93, 1318, 1319, 1320, 1321, 1322, 1323, 1324, 1325, 1326, 1327, 1328, 1035, 179, 1036, 1329, 1330, 1331, 1332, 1333, 1334, 1335, 1336, 1337, 1338, 1339, 1340, 1341, 1342, 91, 1343, 178, 180, 1344, 363, 364, 365, 1345, 1346, 1347, 1348, 1349, 90, 1350, 1351, 265, 1352, 1353, 1354, 1355, 1356, 1357, 1358, 1359, 35, 1360, 1361, 1362, 1363, 1364, 96, 1365, 1366, 865, 866, 867, 868, 869, 870, 871, 20, 872, 873, 57, 874, 875, 876, 877, 878, 54, 879, 880, 881, 882, 883, 884, 885, 886, 887, 888, 889, 890, 891, 892, 893, 894, 895, 341, 342, 73, 343, 344, 216, 222, 896, 897, 898, 28, 899, 199, 900, 346, 347, 348, 80, 901, 902, 903, 904, 905, 906, 907, 908, 909, 910, 911, 912, 913, 914, 915, 916, 917, 918, 919, 920, 921, 58, 922, 923, 924, 925, 1379, 1380, 1381, 1382, 1383, 1384, 1385, 1386, 1387, 1388, 1389, 1390, 1391, 1392, 1393, 1394, 94, 95, 97, 98, 99, 100, 101, 1395, 1396, 1397, 1398, 1399, 1400, 1401, 1402, 1403, 281, 282, 283, 1404, 1405, 246, 1406, 270, 1407, 1408, 273, 1409, 1410, 1411, 1412, 288, 289, 290, 1413, 1414, 1415, 278, 279, 280, 284, 268, 269, 271, 272, 274, 1371, 1372, 1373, 1374, 1375, 1376, 1377, 1378, 1367, 1368, 1369, 1370, 1416, 1417, 1418, 1419, 1420, 1421, 1422, 1423, 1424, 1425, 1426, 1427, 1428, 1429, 1430, 1431, 1432, 1433, 1434, 1435, 1436, 1437, 1438, 1439, 1440, 1441, 1442, 1443, 1444, 1445, 1446, 1447, 1448, 1449, 1450, 1451, 1452, 1453, 714, 715, 1454, 1455, 1456, 1457, 1765, 1766, 1767, 1768, 1769, 1770, 1771, 1772, 1773, 1774, 1775, 1849, 1850, 1851, 1852, 1853, 1854, 1855, 1856, 1857, 1858, 1859, 1826, 1827, 1828, 1829, 1830, 1831, 1832, 1833, 1837, 1838, 1839, 1840, 1841, 1842, 1843, 1844, 1874, 1875, 1876, 1877, 1878, 1879, 1845, 1846, 1847, 1848, 1880, 1881, 1882, 1883, 1884, 1885, 1860, 1861, 1862, 1863, 1864, 1865, 1866, 1867, 1868, 1869] (by decide +kernel) (by decide +kernel)) (goodIn_sub (fun _ h => List.mem_append_left _ (List.mem_append_left _ (List.mem_append_left _ (List.mem_append_right _ h)))) (by decide +kernel))) (goodIn_sub (fun _ h => List.mem_append_left _ (List.mem_append_left _ (List.mem_append_right _ h))) (by decide +kernel))) (goodIn_sub (fun _ h => List.mem_append_right _ h) (by decide +kernel))
set_option maxRecDepth 20000 in
theorem gL_law_L_writeChoice : GoodIn wsL_law (va_wsS RL 299 yL_writeChoice wsL_writeChoice) := goodIn_app (goodIn_of _ (by decide +kernel)) ggL_law_L_writeChoice
set_option maxRecDepth 20000 in
theorem ggL_law_X7_writeChoice : GoodIn wsL_law wsX7_writeChoice := goodIn_ca (goodIn_r _ [1493, 1462, 385, 127, 125, 935, 662, 663, 664, 5, 665, 592, 593, 594, 595, 149, 383, 389, 390, 391, 392, 666, 667, 668, 669, 398, 386, 387, 388, 936, 937, 938, 939, 940, 400, 126, 941, 942, 943, 944, 486, 487, 488, 489, 397, 490, 491, 492, 493, 113, 494, 495, 496, 497, 482, 483, 484, 485, 114, 498, 499, 500, 501, 399, 502, 503, 504, 505, 945, 946, 947, 948, 949, 950, 951, 952, 804, 805, 806, 807, 112, 608, 609, 610, 953, 954, 955, 956, 957, 178, 179, 180, 958, 959, 960, 961, 128, 962, 963, 964, 965, 966, 967, 968, 969, 970, 971, 972, 973, 1467, 1468, 1469, 1470, 130, 1463, 1464, 1465, 1466, 1471, 1472, 1473, 1474, 1475, 1476, 1477, 1478, 1479, 1480, 1481, 1482, 1776, 1777, 1778, 1779, 1780, 1781, 1782, 1783, 1784, 1785, 1786, 1787, 1788, 1789, 1790, 1791, 1792, 1793, 1794, 1795, 1796, 1797, 1798, 1799, 1800, 1801, 1802, 1803, 1804, 1805, 1806, 1807, 1808, 1809, 1810, 1811, 1812, 1813, 1814, 1815, 1816] (by decide +kernel) (by decide +kernel)) (goodIn_sub (fun _ h => List.mem_append_left _ (List.mem_append_left _ (List.mem_append_left _ (List.mem_append_right _ h)))) (by decide +kernel))
set_option maxRecDepth 20000 in
theorem gL_law_X7_writeChoice : GoodIn wsL_law (wsV RL 301 RX7 yX7_writeChoice wsX7_writeChoice) := goodIn_app (goodIn_of _ (by decide +kernel)) ggL_law_X7_writeChoice
set_option maxRecDepth 20000 in
theorem ggL_law_L_writeStock : GoodIn wsL_law wsL_writeStock := goodIn_ca (goodIn_ca (goodIn_r _ [1496, 547, 1497, 1498, 1499, 2, 1500, 37, 41, 164, 29, 716, 559, 560, 561, 562, 563, 564, 357, 1299, 1300, 1301, 36, 1302, 1303, 1304, 1305, 1306, 87, 1307, 1308, 1309, 1310, 1311, 92, 1312, 1313, 1314, 1315, 1316, 1317, 93, 1318, 1319, 1320, 1321, 1322, 1323, 1324, 1325, 1326, 1327, 1328, 1035, 179, 1036, 1329, 1330, 1331, 1332, 1333, 1334, 1335, 1336, 1337, 1338, 1339, 1340, 1341, 1342, 91, 1343, 178, 180, 1344, 363, 364, 365, 1345, 1346, 1347, 1348, 1349, 90, 1350, 1351, 265, 1352, 1353, 1354, 1355, 1356, 1357, 1358, 1359, 35, 1360, 1361, 1362, 1363, 1364, 96, 1365, 1366, 1379, 1380, 1381, 1382, 1383, 1384, 1385, 1386, 1387, 1388, 1389, 1390, 1391, 1392, 1393, 1394, 94, 95, 97, 98, 99, 100, 101, 1395, 1396, 1397, 1398, 1399, 1400, 1401, 1402, 1403, 281, 282, 283, 1404, 1405, 246, 1406, 270, 1407, 1408, 273, 1409, 1410, 1411, 1412, 288, 289, 290, 1413, 1414, 1415, 278, 279, 280, 284, 268, 269, 271, 272, 274, 1450, 1451, 1452, 1453, 714, 715, 1416, 1417, 1418, 1419, 1420, 1421, 1422, 1423, 1424, 1425, 1426, 1427, 1428, 1429, 1430, 1431, 1432, 1433, 1434, 1435, 1436, 1437, 1438, 1439, 1440, 1441, 1442, 1443, 1444, 1445, 1446, 1447, 1448, 1449, 1371, 1372, 1373, 1374, 1375, 1376, 1377, 1378, 1765, 1766, 1767, 1768, 1769, 1770, 1771, 1772, 1773, 1774, 1775, 1849, 1850, 1851, 1852, 1853, 1854, 1855, 1856, 1857, 1858, 1859, 1837, 1838, 1839, 1840, 1841, 1842, 1843, 1844, 1874, 1875, 1876, 1877, 1878, 1879, 1845, 1846, 1847, 1848, 1880, 1881, 1882, 1883, 1884, 1885] (by decide +kernel) (by decide +kernel)) (goodIn_sub (fun _ h => List.mem_append_left _ (List.mem_append_left _ (List.mem_append_left _ (List.mem_append_right _ h)))) (by decide +kernel))) (goodIn_sub (fun _ h => List.mem_append_right _ h) (by decide +kernel))
set_option maxRecDepth 20000 in
theorem gL_law_L_writeStock : GoodIn wsL_law (va_wsS RL 302 yL_writeStock wsL_writeStock) := goodIn_app (goodIn_of _ (by decide +kernel)) ggL_law_L_writeStock
set_option maxRecDepth 20000 in
theorem ggL_law_X7_writeStock : GoodIn wsL_law wsX7_writeStock := goodIn_ca (goodIn_r _ [1504, 1462, 385, 114, 592, 593, 594, 5, 595, 149, 383, 389, 390, 391, 392, 1467, 1468, 1469, 1470, 130, 1475, 1476, 1477, 1478, 112, 113, 1471, 1472, 1473, 1474, 1776, 1777, 1778, 1779, 1780, 1781, 1782, 1783, 1784, 1785, 1786, 1787, 1788, 1789, 1790, 1791, 1792, 1793, 1794, 1795, 1796, 1797, 1798, 1799, 1800, 1801, 1802, 1803, 1804, 1805, 1806, 1807, 1808, 1809, 1810, 1811, 1812, 1813, 1814, 1815, 1816] (by decide +kernel) (by decide +kernel)) (goodIn_sub (fun _ h => List.mem_append_left _ (List.mem_append_left _ (List.mem_append_left _ (List.mem_append_right _ h)))) (by decide +kernel))
set_option maxRecDepth 20000 in
theorem gL_law_X7_writeStock : GoodIn wsL_law (wsV RL 304 RX7 yX7_writeStock wsX7_writeStock) := goodIn_app (goodIn_of _ (by decide +kernel)) ggL_law_X7_writeStock
set_option maxRecDepth 20000 in
theorem ggL_law_L_textByte : GoodIn wsL_law wsL_textByte := goodIn_ca (goodIn_ca (goodIn_r _ [1507, 155, 1508, 1509, 1510, 2, 1511, 37, 1371, 1372, 1373, 36, 1374, 1375, 1376, 1305, 1377, 87, 1378, 1311, 681, 682, 683, 160, 161, 1512, 1513, 1514, 1515, 1516, 1517, 1518, 1519, 93, 92, 1520, 178, 179, 180, 1521, 268, 246, 269, 270, 271, 272, 273, 274, 1522, 286, 96, 287, 288, 289, 290, 281, 282, 283, 1765, 1766, 1767, 1768, 1769, 1770, 1771, 1772, 1773, 1774, 1775, 1845, 1846, 1847, 1848] (by decide +kernel) (by decide +kernel)) (goodIn_sub (fun _ h => List.mem_append_left _ (List.mem_append_left _ (List.mem_append_left _ (List.mem_append_right _ h)))) (by decide +kernel))) (goodIn_sub (fun _ h => List.mem_append_left _ (List.mem_append_left _ (List.mem_append_right _ h))) (by decide +kernel))
set_option maxRecDepth 20000 in
theorem gL_law_L_textByte : GoodIn wsL_law (va_wsS RL 305 yL_textByte wsL_textByte) := goodIn_app (goodIn_of _ (by decide +kernel)) ggL_law_L_textByte
set_option maxRecDepth 20000 in
theorem ggL_law_X7_textByte : GoodIn wsL_law wsX7_textByte := goodIn_ca (goodIn_r _ [1526, 149, 1462, 130, 386, 387, 5, 388, 389, 390, 391, 392, 1776, 1777, 1778, 1779, 1780, 1781, 1782, 1783, 1784, 1785, 1786, 1787, 1788, 1789, 1790, 1791, 1792, 1793, 1794, 1795, 1796, 1797, 1798, 1799, 1800, 1801, 1802, 1803, 1804, 1805, 1806, 1807, 1808, 1809, 1810, 1811, 1812, 1813, 1814, 1815, 1816] (by decide +kernel) (by decide +kernel)) (goodIn_sub (fun _ h => List.mem_append_left _ (List.mem_append_left _ (List.mem_append_left _ (List.mem_append_right _ h)))) (by decide +kernel))
set_option maxRecDepth 20000 in
theorem gL_law_X7_textByte : GoodIn wsL_law (wsV RL 307 RX7 yX7_textByte wsX7_textByte) := goodIn_app (goodIn_of _ (by decide +kernel)) ggL_law_X7_textByte
set_option maxRecDepth 20000 in
theorem ggL_law_L_place : GoodIn wsL_law wsL_place := goodIn_ca (goodIn_ca (goodIn_ca (goodIn_ca (goodIn_r _ [1529, 547, 1530, 1531, 1532, 2, 1533, 162, 163, 41, 25, 29, 645, 646, 647, 648, 160, 161, 552, 649, 559, 560, 561, 562, 563, 564, 357, 1049, 1050, 1051, 1056, 1057, 1058, 73, 1059, 215, 583, 336, 337, 338, 339, 80, 209, 340, 341, 342, 343, 344, 216, 222, 345, 346, 347, 348, 1534, 1535, 1536, 24, 1537, 64, 1538, 375, 1539, 178, 179, 180, 1540, 359, 360, 28, 361, 70, 71, 362, 363, 364, 365, 199, 200, 201, 202, 203, 204, 366, 367, 368, 369, 77, 370, 78, 221, 79, 210, 1541, 350, 351, 352, 650, 1765, 1766, 1767, 1768, 1769, 1770, 1771, 1772, 1773, 1774, 1775, 1849, 1850, 1851, 1852, 1853, 1854, 1855, 1856, 1857, 1858, 1859, 1837, 1838, 1839, 1840, 1841, 1842, 1843, 1844, 1860, 1861, 1862, 1863, 1864, 1865, 1866, 1867, 1868, 1869, 1834, 1835, 1836] (by decide +kernel) (by decide +kernel)) (goodIn_sub (fun _ h => List.mem_append_left _ (List.mem_append_left _ (List.mem_append_left _ (List.mem_append_right _ h)))) (by decide +kernel))) (goodIn_sub (fun _ h => List.mem_append_left _ (List.mem_append_right _ h)) (by decide +kernel))) (goodIn_sub (fun _ h => List.mem_append_left _ (List.mem_append_left _ (List.mem_append_right _ h))) (by decide +kernel))) (goodIn_sub (fun _ h => List.mem_append_right _ h) (by decide +kernel))
set_option maxRecDepth 20000 in
theorem gL_law_L_place : GoodIn wsL_law (va_wsS RL 308 yL_place wsL_place) := goodIn_app (goodIn_of _ (by decide +kernel)) ggL_law_L_place
set_option maxRecDepth 20000 in
theorem ggL_law_X7_place : GoodIn wsL_law wsX7_place := goodIn_ca (goodIn_r _ [1545, 662, 663, 664, 5, 665, 592, 593, 594, 595, 149, 383, 389, 390, 391, 392, 666, 667, 668, 669, 398, 386, 387, 388, 482, 483, 484, 485, 114, 486, 487, 488, 489, 397, 490, 491, 492, 493, 113, 494, 495, 496, 497, 498, 499, 500, 501, 399, 502, 503, 504, 505, 1546, 1547, 1548, 1549, 384, 117, 1550, 1551, 1552, 1553, 506, 507, 508, 509, 416, 417, 418, 419, 1776, 1777, 1778, 1779, 1780, 1781, 1782, 1783, 1784, 1785, 1786, 1787, 1788, 1789, 1790, 1791, 1792, 1793, 1794, 1795, 1796, 1797, 1798, 1799, 1800, 1801, 1802, 1803, 1804, 1805, 1806, 1807, 1808, 1809, 1810, 1811, 1812, 1813, 1814, 1815, 1816] (by decide +kernel) (by decide +kernel)) (goodIn_sub (fun _ h => List.mem_append_left _ (List.mem_append_left _ (List.mem_append_left _ (List.mem_append_right _ h)))) (by decide +kernel))
set_option maxRecDepth 20000 in
theorem gL_law_X7_place : GoodIn wsL_law (wsV RL 310 RX7 yX7_place wsX7_place) := goodIn_app (goodIn_of _ (by decide +kernel)) ggL_law_X7_place
set_option maxRecDepth 20000 in
theorem ggL_law_L_lift : GoodIn wsL_law wsL_lift := goodIn_ca (goodIn_ca (goodIn_ca (goodIn_r _ [1556, 547, 1557, 1558, 1559, 2, 1560, 639, 25, 29, 645, 646, 647, 648, 160, 161, 41, 552, 649, 559, 560, 561, 562, 563, 564, 357, 681, 682, 683, 1534, 1535, 1536, 24, 1537, 64, 1538, 375, 1539, 178, 179, 180, 1540, 359, 360, 28, 361, 70, 71, 362, 363, 364, 365, 199, 200, 201, 202, 203, 204, 366, 367, 368, 73, 369, 77, 370, 215, 216, 78, 221, 222, 79, 80, 209, 210, 1561, 1562, 1563, 1564, 1565, 685, 686, 687, 1860, 1861, 1862, 1863, 1864, 1865, 1866, 1867, 1868, 1869, 1765, 1766, 1767, 1768, 1769, 1770, 1771, 1772, 1773, 1774, 1775, 1849, 1850, 1851, 1852, 1853, 1854, 1855, 1856, 1857, 1858, 1859, 1837, 1838, 1839, 1840, 1841, 1842, 1843, 1844, 1834, 1835, 1836] (by decide +kernel) (by decide +kernel)) (goodIn_sub (fun _ h => List.mem_append_left _ (List.mem_append_left _ (List.mem_append_left _ (List.mem_append_right _ h)))) (by decide +kernel))) (goodIn_sub (fun _ h => List.mem_append_left _ (List.mem_append_left _ (List.mem_append_right _ h))) (by decide +kernel))) (goodIn_sub (fun _ h => List.mem_append_right _ h) (by decide +kernel))
set_option maxRecDepth 20000 in
theorem gL_law_L_lift : GoodIn wsL_law (va_wsS RL 311 yL_lift wsL_lift) := goodIn_app (goodIn_of _ (by decide +kernel)) ggL_law_L_lift
set_option maxRecDepth 20000 in
theorem ggL_law_X7_lift : GoodIn wsL_law wsX7_lift := goodIn_ca (goodIn_r _ [1569, 662, 663, 664, 5, 665, 592, 593, 594, 595, 149, 383, 389, 390, 391, 392, 666, 667, 668, 669, 398, 386, 387, 388, 482, 483, 484, 485, 114, 1546, 1547, 1548, 1549, 384, 117, 1550, 1551, 1552, 1553, 416, 417, 418, 419, 1776, 1777, 1778, 1779, 1780, 1781, 1782, 1783, 1784, 1785, 1786, 1787, 1788, 1789, 1790, 1791, 1792, 1793, 1794, 1795, 1796, 1797, 1798, 1799, 1800, 1801, 1802, 1803, 1804, 1805, 1806, 1807, 1808, 1809, 1810, 1811, 1812, 1813, 1814, 1815, 1816] (by decide +kernel) (by decide +kernel)) (goodIn_sub (fun _ h => List.mem_append_left _ (List.mem_append_left _ (List.mem_append_left _ (List.mem_append_right _ h)))) (by decide +kernel))
set_option maxRecDepth 20000 in
theorem gL_law_X7_lift : GoodIn wsL_law (wsV RL 313 RX7 yX7_lift wsX7_lift) := goodIn_app (goodIn_of _ (by decide +kernel)) ggL_law_X7_lift
set_option maxRecDepth 20000 in
theorem ggL_law_L_put : GoodIn wsL_law wsL_put := goodIn_ca (goodIn_ca (goodIn_ca (goodIn_ca (goodIn_r _ [1572, 547, 1573, 1574, 1575, 2, 1576, 162, 163, 25, 29, 41, 645, 646, 647, 648, 160, 161, 552, 649, 559, 560, 561, 562, 563, 564, 357, 717, 718, 719, 720, 164, 1111, 1112, 1113, 1114, 716, 715, 650, 336, 337, 73, 338, 339, 80, 209, 340, 341, 342, 343, 344, 216, 222, 345, 346, 347, 348, 1534, 1535, 1536, 24, 1537, 64, 1538, 375, 1539, 178, 179, 180, 1540, 359, 360, 28, 361, 70, 71, 362, 363, 364, 365, 199, 200, 201, 202, 203, 204, 366, 367, 368, 369, 77, 370, 215, 78, 221, 79, 210, 1577, 1262, 1263, 1264, 1265, 1266, 1267, 1268, 1269, 1270, 1271, 1272, 1273, 1274, 1275, 1765, 1766, 1767, 1768, 1769, 1770, 1771, 1772, 1773, 1774, 1775, 1849, 1850, 1851, 1852, 1853, 1854, 1855, 1856, 1857, 1858, 1859, 1837, 1838, 1839, 1840, 1841, 1842, 1843, 1844, 1860, 1861, 1862, 1863, 1864, 1865, 1866, 1867, 1868, 1869, 1834, 1835, 1836] (by decide +kernel) (by decide +kernel)) (goodIn_sub (fun _ h => List.mem_append_left _ (List.mem_append_left _ (List.mem_append_left _ (List.mem_append_right _ h)))) (by decide +kernel))) (goodIn_sub (fun _ h => List.mem_append_left _ (List.mem_append_right _ h)) (by decide +kernel))) (goodIn_sub (fun _ h => List.mem_append_left _ (List.mem_append_left _ (List.mem_append_right _ h))) (by decide +kernel))) (goodIn_sub (fun _ h => List.mem_append_right _ h) (by decide +kernel))
set_option maxRecDepth 20000 in
theorem gL_law_L_put : GoodIn wsL_law (va_wsS RL 314 yL_put wsL_put) := goodIn_app (goodIn_of _ (by decide +kernel)) ggL_law_L_put
set_option maxRecDepth 20000 in
theorem ggL_law_X7_put : GoodIn wsL_law wsX7_put := goodIn_ca (goodIn_r _ [1581, 114, 113, 662, 663, 664, 5, 665, 592, 593, 594, 595, 149, 383, 389, 390, 391, 392, 666, 667, 668, 669, 398, 386, 387, 388, 730, 731, 732, 733, 385, 486, 487, 488, 489, 397, 490, 491, 492, 493, 494, 495, 496, 497, 482, 483, 484, 485, 498, 499, 500, 501, 399, 502, 503, 504, 505, 1546, 1547, 1548, 1549, 384, 117, 1550, 1551, 1552, 1553, 1288, 1289, 1290, 1291, 416, 417, 418, 419, 1776, 1777, 1778, 1779, 1780, 1781, 1782, 1783, 1784, 1785, 1786, 1787, 1788, 1789, 1790, 1791, 1792, 1793, 1794, 1795, 1796, 1797, 1798, 1799, 1800, 1801, 1802, 1803, 1804, 1805, 1806, 1807, 1808, 1809, 1810, 1811, 1812, 1813, 1814, 1815, 1816] (by decide +kernel) (by decide +kernel)) (goodIn_sub (fun _ h => List.mem_append_left _ (List.mem_append_left _ (List.mem_append_left _ (List.mem_append_right _ h)))) (by decide +kernel))
set_option maxRecDepth 20000 in
theorem gL_law_X7_put : GoodIn wsL_law (wsV RL 316 RX7 yX7_put wsX7_put) := goodIn_app (goodIn_of _ (by decide +kernel)) ggL_law_X7_put
set_option maxRecDepth 20000 in
theorem ggL_law_L_take : GoodIn wsL_law wsL_take := goodIn_ca (goodIn_ca (goodIn_ca (goodIn_r _ [1584, 547, 1585, 1586, 1587, 2, 1588, 640, 25, 29, 41, 645, 646, 647, 648, 160, 161, 552, 649, 559, 560, 561, 562, 563, 564, 357, 681, 682, 683, 1534, 1535, 1536, 24, 1537, 64, 1538, 375, 1539, 178, 179, 180, 1540, 359, 360, 28, 361, 70, 71, 362, 363, 364, 365, 199, 200, 201, 202, 203, 204, 366, 367, 368, 73, 369, 77, 370, 215, 216, 78, 221, 222, 79, 80, 209, 210, 1589, 1590, 1591, 1592, 1593, 1594, 1595, 1596, 1269, 1597, 700, 701, 702, 1270, 1271, 1272, 1273, 1274, 1275, 1860, 1861, 1862, 1863, 1864, 1865, 1866, 1867, 1868, 1869, 1765, 1766, 1767, 1768, 1769, 1770, 1771, 1772, 1773, 1774, 1775, 1849, 1850, 1851, 1852, 1853, 1854, 1855, 1856, 1857, 1858, 1859, 1837, 1838, 1839, 1840, 1841, 1842, 1843, 1844, 1834, 1835, 1836] (by decide +kernel) (by decide +kernel)) (goodIn_sub (fun _ h => List.mem_append_left _ (List.mem_append_left _ (List.mem_append_left _ (List.mem_append_right _ h)))) (by decide +kernel))) (goodIn_sub (fun _ h => List.mem_append_left _ (List.mem_append_left _ (List.mem_append_right _ h))) (by decide +kernel))) (goodIn_sub (fun _ h => List.mem_append_right _ h) (by decide +kernel))
set_option maxRecDepth 20000 in
theorem gL_law_L_take : GoodIn wsL_law (va_wsS RL 317 yL_take wsL_take) := goodIn_app (goodIn_of _ (by decide +kernel)) ggL_law_L_take
set_option maxRecDepth 20000 in
theorem ggL_law_X7_take : GoodIn wsL_law wsX7_take := goodIn_ca (goodIn_r _ [1601, 114, 662, 663, 664, 5, 665, 592, 593, 594, 595, 149, 383, 389, 390, 391, 392, 666, 667, 668, 669, 398, 386, 387, 388, 482, 483, 484, 485, 1546, 1547, 1548, 1549, 384, 117, 1550, 1551, 1552, 1553, 416, 417, 418, 419, 1776, 1777, 1778, 1779, 1780, 1781, 1782, 1783, 1784, 1785, 1786, 1787, 1788, 1789, 1790, 1791, 1792, 1793, 1794, 1795, 1796, 1797, 1798, 1799, 1800, 1801, 1802, 1803, 1804, 1805, 1806, 1807, 1808, 1809, 1810, 1811, 1812, 1813, 1814, 1815, 1816] (by decide +kernel) (by decide +kernel)) (goodIn_sub (fun _ h => List.mem_append_left _ (List.mem_append_left _ (List.mem_append_left _ (List.mem_append_right _ h)))) (by decide +kernel))
set_option maxRecDepth 20000 in
theorem gL_law_X7_take : GoodIn wsL_law (wsV RL 319 RX7 yX7_take wsX7_take) := goodIn_app (goodIn_of _ (by decide +kernel)) ggL_law_X7_take
set_option maxRecDepth 20000 in
theorem ggL_law_L_quoin : GoodIn wsL_law wsL_quoin := goodIn_ca (goodIn_ca (goodIn_ca (goodIn_ca (goodIn_r _ [1604, 547, 1605, 1606, 1607, 2, 1608, 162, 163, 29, 553, 41, 623, 25, 645, 646, 647, 648, 160, 161, 552, 649, 559, 560, 561, 562, 563, 564, 357, 657, 346, 347, 73, 348, 80, 650, 336, 337, 338, 339, 209, 340, 341, 342, 343, 344, 216, 222, 345, 1534, 1535, 1536, 24, 1537, 64, 1538, 375, 1539, 178, 179, 180, 1540, 359, 360, 28, 361, 70, 71, 362, 363, 364, 365, 199, 200, 201, 202, 203, 204, 366, 367, 368, 369, 77, 370, 215, 78, 221, 79, 210, 1609, 1277, 1278, 1279, 1136, 1137, 900, 1610, 1133, 1134, 1135, 1765, 1766, 1767, 1768, 1769, 1770, 1771, 1772, 1773, 1774, 1775, 1837, 1838, 1839, 1840, 1841, 1842, 1843, 1844, 1849, 1850, 1851, 1852, 1853, 1854, 1855, 1856, 1857, 1858, 1859, 1860, 1861, 1862, 1863, 1864, 1865, 1866, 1867, 1868, 1869, 1834, 1835, 1836] (by decide +kernel) (by decide +kernel)) (goodIn_sub (fun _ h => List.mem_append_left _ (List.mem_append_left _ (List.mem_append_left _ (List.mem_append_right _ h)))) (by decide +kernel))) (goodIn_sub (fun _ h => List.mem_append_left _ (List.mem_append_right _ h)) (by decide +kernel))) (goodIn_sub (fun _ h => List.mem_append_left _ (List.mem_append_left _ (List.mem_append_right _ h))) (by decide +kernel))) (goodIn_sub (fun _ h => List.mem_append_right _ h) (by decide +kernel))
set_option maxRecDepth 20000 in
theorem gL_law_L_quoin : GoodIn wsL_law (va_wsS RL 320 yL_quoin wsL_quoin) := goodIn_app (goodIn_of _ (by decide +kernel)) ggL_law_L_quoin
set_option maxRecDepth 20000 in
theorem ggL_law_X7_quoin : GoodIn wsL_law wsX7_quoin := goodIn_ca (goodIn_r _ [1614, 114, 399, 662, 663, 664, 5, 665, 592, 593, 594, 595, 149, 383, 389, 390, 391, 392, 666, 667, 668, 669, 398, 386, 387, 388, 502, 503, 504, 505, 482, 483, 484, 485, 486, 487, 488, 489, 397, 490, 491, 492, 493, 113, 494, 495, 496, 497, 498, 499, 500, 501, 1546, 1547, 1548, 1549, 384, 117, 1550, 1551, 1552, 1553, 416, 417, 418, 419, 1146, 1147, 1148, 1149, 1776, 1777, 1778, 1779, 1780, 1781, 1782, 1783, 1784, 1785, 1786, 1787, 1788, 1789, 1790, 1791, 1792, 1793, 1794, 1795, 1796, 1797, 1798, 1799, 1800, 1801, 1802, 1803, 1804, 1805, 1806, 1807, 1808, 1809, 1810, 1811, 1812, 1813, 1814, 1815, 1816] (by decide +kernel) (by decide +kernel)) (goodIn_sub (fun _ h => List.mem_append_left _ (List.mem_append_left _ (List.mem_append_left _ (List.mem_append_right _ h)))) (by decide +kernel))
set_option maxRecDepth 20000 in
theorem gL_law_X7_quoin : GoodIn wsL_law (wsV RL 322 RX7 yX7_quoin wsX7_quoin) := goodIn_app (goodIn_of _ (by decide +kernel)) ggL_law_X7_quoin
set_option maxRecDepth 20000 in
theorem ggL_law_L_open : GoodIn wsL_law wsL_open := goodIn_ca (goodIn_ca (goodIn_ca (goodIn_ca (goodIn_r _ [1617, 547, 1618, 1619, 1620, 2, 1621, 162, 163, 41, 624, 623, 25, 29, 645, 646, 647, 648, 160, 161, 552, 649, 559, 560, 561, 562, 563, 564, 357, 657, 346, 347, 73, 348, 80, 895, 341, 342, 343, 344, 216, 222, 1534, 1535, 1536, 24, 1537, 64, 1538, 375, 1539, 178, 179, 180, 1540, 359, 360, 28, 361, 70, 71, 362, 363, 364, 365, 199, 200, 201, 202, 203, 204, 366, 367, 368, 369, 77, 370, 215, 78, 221, 79, 209, 210, 1609, 1277, 1278, 1279, 1136, 1137, 900, 650, 336, 337, 338, 339, 340, 345, 1765, 1766, 1767, 1768, 1769, 1770, 1771, 1772, 1773, 1774, 1775, 1849, 1850, 1851, 1852, 1853, 1854, 1855, 1856, 1857, 1858, 1859, 1837, 1838, 1839, 1840, 1841, 1842, 1843, 1844, 1860, 1861, 1862, 1863, 1864, 1865, 1866, 1867, 1868, 1869, 1834, 1835, 1836] (by decide +kernel) (by decide +kernel)) (goodIn_sub (fun _ h => List.mem_append_left _ (List.mem_append_left _ (List.mem_append_left _ (List.mem_append_right _ h)))) (by decide +kernel))) (goodIn_sub (fun _ h => List.mem_append_left _ (List.mem_append_right _ h)) (by decide +kernel))) (goodIn_sub (fun _ h => List.mem_append_left _ (List.mem_append_left _ (List.mem_append_right _ h))) (by decide +kernel))) (goodIn_sub (fun _ h => List.mem_append_right _ h) (by decide +kernel))
set_option maxRecDepth 20000 in
theorem gL_law_L_open : GoodIn wsL_law (va_wsS RL 323 yL_open wsL_open) := goodIn_app (goodIn_of _ (by decide +kernel)) ggL_law_L_open
set_option maxRecDepth 20000 in
theorem ggL_law_X7_open : GoodIn wsL_law wsX7_open := goodIn_ca (goodIn_r _ [1625, 400, 662, 663, 664, 5, 665, 592, 593, 594, 595, 149, 383, 389, 390, 391, 392, 666, 667, 668, 669, 398, 386, 387, 388, 502, 503, 504, 505, 482, 483, 484, 485, 114, 966, 967, 968, 969, 399, 941, 942, 943, 944, 486, 487, 488, 489, 397, 490, 491, 492, 493, 113, 494, 495, 496, 497, 498, 499, 500, 501, 1546, 1547, 1548, 1549, 384, 117, 1550, 1551, 1552, 1553, 416, 417, 418, 419, 1776, 1777, 1778, 1779, 1780, 1781, 1782, 1783, 1784, 1785, 1786, 1787, 1788, 1789, 1790, 1791, 1792, 1793, 1794, 1795, 1796, 1797, 1798, 1799, 1800, 1801, 1802, 1803, 1804, 1805, 1806, 1807, 1808, 1809, 1810, 1811, 1812, 1813, 1814, 1815, 1816] (by decide +kernel) (by decide +kernel)) (goodIn_sub (fun _ h => List.mem_append_left _ (List.mem_append_left _ (List.mem_append_left _ (List.mem_append_right _ h)))) (by decide +kernel))
set_option maxRecDepth 20000 in
theorem gL_law_X7_open : GoodIn wsL_law (wsV RL 325 RX7 yX7_open wsX7_open) := goodIn_app (goodIn_of _ (by decide +kernel)) ggL_law_X7_open
set_option maxRecDepth 20000 in
theorem ggL_law_L_lock : GoodIn wsL_law wsL_lock := goodIn_ca (goodIn_ca (goodIn_ca (goodIn_ca (goodIn_r _ [1628, 547, 1629, 1630, 1631, 2, 1632, 162, 163, 29, 25, 41, 21, 862, 645, 646, 647, 648, 160, 161, 552, 649, 559, 560, 561, 562, 563, 564, 357, 865, 866, 867, 868, 869, 870, 871, 20, 872, 873, 57, 874, 363, 364, 365, 875, 876, 877, 878, 54, 879, 880, 881, 882, 883, 884, 885, 886, 887, 888, 889, 890, 891, 178, 179, 180, 892, 893, 894, 895, 341, 342, 73, 343, 344, 216, 222, 896, 897, 898, 28, 899, 199, 900, 346, 347, 348, 80, 901, 902, 903, 904, 905, 906, 907, 908, 909, 910, 911, 912, 913, 914, 915, 916, 917, 918, 919, 920, 921, 58, 922, 923, 924, 925, 1534, 1535, 1536, 24, 1537, 64, 1538, 375, 1539, 1540, 359, 360, 361, 70, 71, 362, 200, 201, 202, 203, 204, 366, 367, 368, 369, 77, 370, 215, 78, 221, 79, 209, 210, 1253, 1254, 1255, 1256, 1257, 1258, 1259, 1260, 1130, 1261, 1262, 1263, 1264, 1265, 1266, 1267, 1268, 1269, 1270, 1271, 1272, 1273, 1274, 1275, 1276, 1277, 1278, 1279, 1136, 1137, 1765, 1766, 1767, 1768, 1769, 1770, 1771, 1772, 1773, 1774, 1775, 1826, 1827, 1828, 1829, 1830, 1831, 1832, 1833, 1849, 1850, 1851, 1852, 1853, 1854, 1855, 1856, 1857, 1858, 1859, 1837, 1838, 1839, 1840, 1841, 1842, 1843, 1844, 1860, 1861, 1862, 1863, 1864, 1865, 1866, 1867, 1868, 1869, 1834, 1835, 1836] (by decide +kernel) (by decide +kernel)) (goodIn_sub (fun _ h => List.mem_append_left _ (List.mem_append_left _ (List.mem_append_left _ (List.mem_append_right _ h)))) (by decide +kernel))) (goodIn_sub (fun _ h => List.mem_append_left _ (List.mem_append_right _ h)) (by decide +kernel))) (goodIn_sub (fun _ h => List.mem_append_left _ (List.mem_append_left _ (List.mem_append_right _ h))) (by decide +kernel))) (goodIn_sub (fun _ h => List.mem_append_right _ h) (by decide +kernel))
set_option maxRecDepth 20000 in
theorem gL_law_L_lock : GoodIn wsL_law (va_wsS RL 326 yL_lock wsL_lock) := goodIn_app (goodIn_of _ (by decide +kernel)) ggL_law_L_lock
set_option maxRecDepth 20000 in
theorem ggL_law_X7_lock : GoodIn wsL_law wsX7_lock := goodIn_ca (goodIn_r _ [1636, 662, 663, 664, 5, 665, 592, 593, 594, 595, 149, 383, 389, 390, 391, 392, 666, 667, 668, 669, 398, 386, 387, 388, 936, 937, 938, 939, 940, 935, 400, 126, 941, 942, 943, 944, 486, 487, 488, 489, 397, 490, 491, 492, 493, 113, 494, 495, 496, 497, 482, 483, 484, 485, 114, 498, 499, 500, 501, 399, 502, 503, 504, 505, 945, 946, 947, 948, 385, 949, 950, 951, 952, 125, 804, 805, 806, 807, 112, 608, 609, 610, 953, 954, 955, 956, 957, 178, 179, 180, 958, 959, 960, 961, 128, 962, 963, 964, 965, 966, 967, 968, 969, 970, 971, 972, 973, 127, 1546, 1547, 1548, 1549, 384, 117, 1550, 1551, 1552, 1553, 1284, 1285, 1286, 1287, 416, 417, 418, 419, 1288, 1289, 1290, 1291, 974, 975, 976, 977, 1776, 1777, 1778, 1779, 1780, 1781, 1782, 1783, 1784, 1785, 1786, 1787, 1788, 1789, 1790, 1791, 1792, 1793, 1794, 1795, 1796, 1797, 1798, 1799, 1800, 1801, 1802, 1803, 1804, 1805, 1806, 1807, 1808, 1809, 1810, 1811, 1812, 1813, 1814, 1815, 1816] (by decide +kernel) (by decide +kernel)) (goodIn_sub (fun _ h => List.mem_append_left _ (List.mem_append_left _ (List.mem_append_left _ (List.mem_append_right _ h)))) (by decide +kernel))
set_option maxRecDepth 20000 in
theorem gL_law_X7_lock : GoodIn wsL_law (wsV RL 328 RX7 yX7_lock wsX7_lock) := goodIn_app (goodIn_of _ (by decide +kernel)) ggL_law_X7_lock
set_option maxRecDepth 20000 in
theorem ggL_law_L_unlock : GoodIn wsL_law wsL_unlock := goodIn_ca (goodIn_ca (goodIn_ca (goodIn_r _ [1639, 547, 1640, 1641, 1642, 2, 1643, 640, 25, 29, 645, 646, 647, 648, 160, 161, 41, 552, 649, 559, 560, 561, 562, 563, 564, 357, 1534, 1535, 1536, 24, 1537, 64, 1538, 375, 1539, 178, 179, 180, 1540, 359, 360, 28, 361, 70, 71, 362, 363, 364, 365, 199, 200, 201, 202, 203, 204, 366, 367, 368, 73, 369, 77, 370, 215, 216, 78, 221, 222, 79, 80, 209, 210, 1126, 1127, 1128, 1129, 725, 1130, 1131, 218, 219, 220, 1132, 1133, 1134, 1135, 1136, 1137, 900, 346, 347, 348, 1860, 1861, 1862, 1863, 1864, 1865, 1866, 1867, 1868, 1869, 1765, 1766, 1767, 1768, 1769, 1770, 1771, 1772, 1773, 1774, 1775, 1849, 1850, 1851, 1852, 1853, 1854, 1855, 1856, 1857, 1858, 1859, 1837, 1838, 1839, 1840, 1841, 1842, 1843, 1844, 1834, 1835, 1836] (by decide +kernel) (by decide +kernel)) (goodIn_sub (fun _ h => List.mem_append_left _ (List.mem_append_left _ (List.mem_append_left _ (List.mem_append_right _ h)))) (by decide +kernel))) (goodIn_sub (fun _ h => List.mem_append_left _ (List.mem_append_left _ (List.mem_append_right _ h))) (by decide +kernel))) (goodIn_sub (fun _ h => List.mem_append_right _ h) (by decide +kernel))
set_option maxRecDepth 20000 in
theorem gL_law_L_unlock : GoodIn wsL_law (va_wsS RL 329 yL_unlock wsL_unlock) := goodIn_app (goodIn_of _ (by decide +kernel)) ggL_law_L_unlock
set_option maxRecDepth 20000 in
theorem ggL_law_X7_unlock : GoodIn wsL_law wsX7_unlock := goodIn_ca (goodIn_r _ [1647, 662, 663, 664, 5, 665, 592, 593, 594, 595, 149, 383, 389, 390, 391, 392, 666, 667, 668, 669, 398, 386, 387, 388, 1546, 1547, 1548, 1549, 384, 117, 1550, 1551, 1552, 1553, 114, 1142, 1143, 1144, 1145, 482, 483, 484, 485, 416, 417, 418, 419, 1146, 1147, 1148, 1149, 502, 503, 504, 505, 1776, 1777, 1778, 1779, 1780, 1781, 1782, 1783, 1784, 1785, 1786, 1787, 1788, 1789, 1790, 1791, 1792, 1793, 1794, 1795, 1796, 1797, 1798, 1799, 1800, 1801, 1802, 1803, 1804, 1805, 1806, 1807, 1808, 1809, 1810, 1811, 1812, 1813, 1814, 1815, 1816] (by decide +kernel) (by decide +kernel)) (goodIn_sub (fun _ h => List.mem_append_left _ (List.mem_append_left _ (List.mem_append_left _ (List.mem_append_right _ h)))) (by decide +kernel))
set_option maxRecDepth 20000 in
theorem gL_law_X7_unlock : GoodIn wsL_law (wsV RL 331 RX7 yX7_unlock wsX7_unlock) := goodIn_app (goodIn_of _ (by decide +kernel)) ggL_law_X7_unlock
set_option maxRecDepth 20000 in
theorem ggL_law_L_relock : GoodIn wsL_law wsL_relock := goodIn_ca (goodIn_ca (goodIn_ca (goodIn_ca (goodIn_r _ [1650, 547, 1651, 1652, 1653, 2, 1654, 162, 163, 30, 29, 649, 25, 41, 21, 862, 645, 646, 647, 648, 160, 161, 552, 559, 560, 561, 562, 563, 564, 357, 358, 359, 360, 28, 361, 70, 71, 362, 363, 364, 365, 199, 200, 201, 202, 203, 204, 366, 367, 368, 73, 369, 77, 370, 215, 216, 78, 221, 222, 79, 80, 209, 210, 1126, 1127, 1128, 1129, 725, 1130, 1131, 218, 219, 220, 1132, 1133, 1134, 1135, 1136, 1137, 900, 346, 347, 348, 865, 866, 867, 868, 869, 870, 871, 20, 872, 873, 57, 874, 875, 876, 877, 878, 54, 879, 880, 881, 882, 883, 884, 885, 886, 887, 888, 889, 890, 891, 178, 179, 180, 892, 893, 894, 895, 341, 342, 343, 344, 896, 897, 898, 899, 901, 902, 903, 904, 905, 906, 907, 908, 909, 910, 911, 912, 913, 914, 915, 916, 917, 918, 919, 920, 921, 58, 922, 923, 924, 925, 1534, 1535, 1536, 24, 1537, 64, 1538, 375, 1539, 1540, 1253, 1254, 1255, 1256, 1257, 1258, 1259, 1260, 1261, 1262, 1263, 1264, 1265, 1266, 1267, 1268, 1269, 1270, 1271, 1272, 1273, 1274, 1275, 1276, 1277, 1278, 1279, 1765, 1766, 1767, 1768, 1769, 1770, 1771, 1772, 1773, 1774, 1775, 1837, 1838, 1839, 1840, 1841, 1842, 1843, 1844, 1826, 1827, 1828, 1829, 1830, 1831, 1832, 1833, 1849, 1850, 1851, 1852, 1853, 1854, 1855, 1856, 1857, 1858, 1859, 1860, 1861, 1862, 1863, 1864, 1865, 1866, 1867, 1868, 1869, 1834, 1835, 1836] (by decide +kernel) (by decide +kernel)) (goodIn_sub (fun _ h => List.mem_append_left _ (List.mem_append_left _ (List.mem_append_left _ (List.mem_append_right _ h)))) (by decide +kernel))) (goodIn_sub (fun _ h => List.mem_append_left _ (List.mem_append_right _ h)) (by decide +kernel))) (goodIn_sub (fun _ h => List.mem_append_left _ (List.mem_append_left _ (List.mem_append_right _ h))) (by decide +kernel))) (goodIn_sub (fun _ h => List.mem_append_right _ h) (by decide +kernel))
set_option maxRecDepth 20000 in
theorem gL_law_L_relock : GoodIn wsL_law (va_wsS RL 332 yL_relock wsL_relock) := goodIn_app (goodIn_of _ (by decide +kernel)) ggL_law_L_relock
set_option maxRecDepth 20000 in
theorem ggL_law_X7_relock : GoodIn wsL_law wsX7_relock := goodIn_ca (goodIn_r _ [1658, 662, 663, 664, 5, 665, 592, 593, 594, 595, 149, 383, 389, 390, 391, 392, 666, 667, 668, 669, 398, 386, 387, 388, 1068, 1069, 1070, 1071, 115, 114, 1142, 1143, 1144, 1145, 482, 483, 484, 485, 416, 417, 418, 419, 1146, 1147, 1148, 1149, 502, 503, 504, 505, 936, 937, 938, 939, 940, 935, 400, 126, 941, 942, 943, 944, 486, 487, 488, 489, 397, 490, 491, 492, 493, 113, 494, 495, 496, 497, 498, 499, 500, 501, 399, 945, 946, 947, 948, 385, 949, 950, 951, 952, 125, 804, 805, 806, 807, 112, 608, 609, 610, 953, 954, 955, 956, 957, 178, 179, 180, 958, 959, 960, 961, 128, 962, 963, 964, 965, 966, 967, 968, 969, 970, 971, 972, 973, 127, 1072, 1073, 1074, 1075, 1546, 1547, 1548, 1549, 384, 117, 1550, 1551, 1552, 1553, 1284, 1285, 1286, 1287, 1288, 1289, 1290, 1291, 974, 975, 976, 977, 1776, 1777, 1778, 1779, 1780, 1781, 1782, 1783, 1784, 1785, 1786, 1787, 1788, 1789, 1790, 1791, 1792, 1793, 1794, 1795, 1796, 1797, 1798, 1799, 1800, 1801, 1802, 1803, 1804, 1805, 1806, 1807, 1808, 1809, 1810, 1811, 1812, 1813, 1814, 1815, 1816] (by decide +kernel) (by decide +kernel)) (goodIn_sub (fun _ h => List.mem_append_left _ (List.mem_append_left _ (List.mem_append_left _ (List.mem_append_right _ h)))) (by decide +kernel))
set_option maxRecDepth 20000 in
theorem gL_law_X7_relock : GoodIn wsL_law (wsV RL 334 RX7 yX7_relock wsX7_relock) := goodIn_app (goodIn_of _ (by decide +kernel)) ggL_law_X7_relock
set_option maxRecDepth 20000 in
theorem ggL_law_L_tighten : GoodIn wsL_law wsL_tighten := goodIn_ca (goodIn_ca (goodIn_ca (goodIn_ca (goodIn_r _ [1661, 547, 1662, 1663, 1664, 2, 1665, 162, 163, 25, 29, 641, 41, 624, 642, 644, 1034, 1035, 179, 1036, 645, 646, 647, 648, 160, 161, 552, 649, 559, 560, 561, 562, 563, 564, 357, 657, 346, 347, 73, 348, 80, 1534, 1535, 1536, 24, 1537, 64, 1538, 375, 1539, 178, 180, 1540, 359, 360, 28, 361, 70, 71, 362, 363, 364, 365, 199, 200, 201, 202, 203, 204, 366, 367, 368, 369, 77, 370, 215, 216, 78, 221, 222, 79, 209, 210, 1765, 1766, 1767, 1768, 1769, 1770, 1771, 1772, 1773, 1774, 1775, 1860, 1861, 1862, 1863, 1864, 1865, 1866, 1867, 1868, 1869, 1849, 1850, 1851, 1852, 1853, 1854, 1855, 1856, 1857, 1858, 1859, 1837, 1838, 1839, 1840, 1841, 1842, 1843, 1844, 1834, 1835, 1836] (by decide +kernel) (by decide +kernel)) (goodIn_sub (fun _ h => List.mem_append_left _ (List.mem_append_left _ (List.mem_append_left _ (List.mem_append_right _ h)))) (by decide +kernel))) (goodIn_sub (fun _ h => List.mem_append_left _ (List.mem_append_right _ h)) (by decide +kernel))) (goodIn_sub (fun _ h => List.mem_append_left _ (List.mem_append_left _ (List.mem_append_right _ h))) (by decide +kernel))) (goodIn_sub (fun _ h => List.mem_append_right _ h) (by decide +kernel))
set_option maxRecDepth 20000 in
theorem gL_law_L_tighten : GoodIn wsL_law (va_wsS RL 335 yL_tighten wsL_tighten) := goodIn_app (goodIn_of _ (by decide +kernel)) ggL_law_L_tighten
set_option maxRecDepth 20000 in
theorem ggL_law_X7_tighten : GoodIn wsL_law wsX7_tighten := goodIn_ca (goodIn_r _ [1669, 400, 1670, 1035, 179, 1036, 662, 663, 664, 5, 665, 592, 593, 594, 595, 149, 383, 389, 390, 391, 392, 666, 667, 668, 669, 398, 386, 387, 388, 502, 503, 504, 505, 482, 483, 484, 485, 114, 1546, 1547, 1548, 1549, 384, 117, 1550, 1551, 1552, 1553, 416, 417, 418, 419, 1776, 1777, 1778, 1779, 1780, 1781, 1782, 1783, 1784, 1785, 1786, 1787, 1788, 1789, 1790, 1791, 1792, 1793, 1794, 1795, 1796, 1797, 1798, 1799, 1800, 1801, 1802, 1803, 1804, 1805, 1806, 1807, 1808, 1809, 1810, 1811, 1812, 1813, 1814, 1815, 1816] (by decide +kernel) (by decide +kernel)) (goodIn_sub (fun _ h => List.mem_append_left _ (List.mem_append_left _ (List.mem_append_left _ (List.mem_append_right _ h)))) (by decide +kernel))
set_option maxRecDepth 20000 in
theorem gL_law_X7_tighten : GoodIn wsL_law (wsV RL 337 RX7 yX7_tighten wsX7_tighten) := goodIn_app (goodIn_of _ (by decide +kernel)) ggL_law_X7_tighten
set_option maxRecDepth 20000 in
theorem ggL_law_L_print : GoodIn wsL_law wsL_print := goodIn_ca (goodIn_ca (goodIn_ca (goodIn_r _ [1673, 547, 1674, 1675, 1676, 2, 1677, 25, 29, 41, 559, 560, 561, 562, 563, 564, 357, 1678, 1679, 1680, 162, 163, 1534, 1535, 1536, 24, 1537, 64, 1538, 375, 1539, 178, 179, 180, 1540, 359, 360, 28, 361, 70, 71, 362, 363, 364, 365, 199, 200, 201, 202, 203, 204, 366, 367, 368, 73, 369, 77, 370, 215, 216, 78, 221, 222, 79, 80, 209, 210, 1206, 1207, 1208, 1209, 1210, 1211, 1212, 1213, 1130, 1214, 1175, 1176, 1177, 1178, 1215, 1216, 1217, 1218, 569, 1219, 1220, 781, 782, 783, 583, 336, 337, 338, 339, 340, 341, 342, 343, 344, 345, 346, 347, 348, 1221, 212, 213, 214, 1222, 1127, 1128, 1129, 725, 1131, 218, 219, 220, 1132, 1133, 1134, 1135, 1136, 1137, 900, 1223, 1224, 1225, 1226, 1227, 1228, 1229, 1230, 1765, 1766, 1767, 1768, 1769, 1770, 1771, 1772, 1773, 1774, 1775, 1834, 1835, 1836, 1837, 1838, 1839, 1840, 1841, 1842, 1843, 1844, 1860, 1861, 1862, 1863, 1864, 1865, 1866, 1867, 1868, 1869, 1849, 1850, 1851, 1852, 1853, 1854, 1855, 1856, 1857, 1858, 1859] (by decide +kernel) (by decide +kernel)) (goodIn_sub (fun _ h => List.mem_append_left _ (List.mem_append_left _ (List.mem_append_left _ (List.mem_append_right _ h)))) (by decide +kernel))) (goodIn_sub (fun _ h => List.mem_append_right _ h) (by decide +kernel))) (goodIn_sub (fun _ h => List.mem_append_left _ (List.mem_append_right _ h)) (by decide +kernel))
set_option maxRecDepth 20000 in
theorem gL_law_L_print : GoodIn wsL_law (va_wsS RL 338 yL_print wsL_print) := goodIn_app (goodIn_of _ (by decide +kernel)) ggL_law_L_print
set_option maxRecDepth 20000 in
theorem ggL_law_X7_print : GoodIn wsL_law wsX7_print := goodIn_ca (goodIn_r _ [1684, 114, 592, 593, 594, 5, 595, 149, 383, 389, 390, 391, 392, 386, 387, 388, 1546, 1547, 1548, 1549, 384, 117, 1550, 1551, 1552, 1553, 1191, 1192, 1193, 1194, 398, 401, 482, 483, 484, 485, 416, 417, 418, 419, 1187, 1188, 1189, 1190, 403, 788, 789, 790, 791, 486, 487, 488, 489, 397, 490, 491, 492, 493, 113, 494, 495, 496, 497, 498, 499, 500, 501, 399, 502, 503, 504, 505, 1142, 1143, 1144, 1145, 1146, 1147, 1148, 1149, 1195, 1196, 1197, 1198, 608, 609, 610, 1776, 1777, 1778, 1779, 1780, 1781, 1782, 1783, 1784, 1785, 1786, 1787, 1788, 1789, 1790, 1791, 1792, 1793, 1794, 1795, 1796, 1797, 1798, 1799, 1800, 1801, 1802, 1803, 1804, 1805, 1806, 1807, 1808, 1809, 1810, 1811, 1812, 1813, 1814, 1815, 1816] (by decide +kernel) (by decide +kernel)) (goodIn_sub (fun _ h => List.mem_append_left _ (List.mem_append_left _ (List.mem_append_left _ (List.mem_append_right _ h)))) (by decide +kernel))
set_option maxRecDepth 20000 in
theorem gL_law_X7_print : GoodIn wsL_law (wsV RL 340 RX7 yX7_print wsX7_print) := goodIn_app (goodIn_of _ (by decide +kernel)) ggL_law_X7_print
set_option maxRecDepth 20000 in
theorem ggL_law_L_rest : GoodIn wsL_law wsL_rest := goodIn_ca (goodIn_ca (goodIn_ca (goodIn_r _ [1687, 547, 1688, 1689, 1690, 2, 1691, 25, 29, 41, 559, 560, 561, 562, 563, 564, 357, 1678, 1679, 1680, 162, 163, 1534, 1535, 1536, 24, 1537, 64, 1538, 375, 1539, 178, 179, 180, 1540, 359, 360, 28, 361, 70, 71, 362, 363, 364, 365, 199, 200, 201, 202, 203, 204, 366, 367, 368, 73, 369, 77, 370, 215, 216, 78, 221, 222, 79, 80, 209, 210, 1692, 1693, 1694, 1695, 1130, 1696, 1169, 1170, 1171, 1172, 1173, 652, 653, 654, 655, 656, 1215, 1216, 1217, 1218, 569, 1219, 1220, 781, 782, 783, 583, 336, 337, 338, 339, 340, 341, 342, 343, 344, 345, 346, 347, 348, 1221, 212, 213, 214, 1222, 1127, 1128, 1129, 725, 1131, 218, 219, 220, 1132, 1133, 1134, 1135, 1136, 1137, 900, 1765, 1766, 1767, 1768, 1769, 1770, 1771, 1772, 1773, 1774, 1775, 1834, 1835, 1836, 1837, 1838, 1839, 1840, 1841, 1842, 1843, 1844, 1860, 1861, 1862, 1863, 1864, 1865, 1866, 1867, 1868, 1869, 1849, 1850, 1851, 1852, 1853, 1854, 1855, 1856, 1857, 1858, 1859] (by decide +kernel) (by decide +kernel)) (goodIn_sub (fun _ h => List.mem_append_left _ (List.mem_append_left _ (List.mem_append_left _ (List.mem_append_right _ h)))) (by decide +kernel))) (goodIn_sub (fun _ h => List.mem_append_right _ h) (by decide +kernel))) (goodIn_sub (fun _ h => List.mem_append_left _ (List.mem_append_right _ h)) (by decide +kernel))
set_option maxRecDepth 20000 in
theorem gL_law_L_rest : GoodIn wsL_law (va_wsS RL 341 yL_rest wsL_rest) := goodIn_app (goodIn_of _ (by decide +kernel)) ggL_law_L_rest
set_option maxRecDepth 20000 in
theorem ggL_law_X7_rest : GoodIn wsL_law wsX7_rest := goodIn_ca (goodIn_r _ [1700, 592, 593, 594, 5, 595, 149, 383, 389, 390, 391, 392, 386, 387, 388, 1546, 1547, 1548, 1549, 384, 117, 1550, 1551, 1552, 1553, 114, 1183, 1184, 1185, 1186, 398, 402, 482, 483, 484, 485, 670, 671, 672, 673, 112, 608, 609, 610, 416, 417, 418, 419, 1187, 1188, 1189, 1190, 403, 788, 789, 790, 791, 486, 487, 488, 489, 397, 490, 491, 492, 493, 113, 494, 495, 496, 497, 498, 499, 500, 501, 399, 502, 503, 504, 505, 1142, 1143, 1144, 1145, 1146, 1147, 1148, 1149, 1701, 1702, 1703, 1776, 1777, 1778, 1779, 1780, 1781, 1782, 1783, 1784, 1785, 1786, 1787, 1788, 1789, 1790, 1791, 1792, 1793, 1794, 1795, 1796, 1797, 1798, 1799, 1800, 1801, 1802, 1803, 1804, 1805, 1806, 1807, 1808, 1809, 1810, 1811, 1812, 1813, 1814, 1815, 1816] (by decide +kernel) (by decide +kernel)) (goodIn_sub (fun _ h => List.mem_append_left _ (List.mem_append_left _ (List.mem_append_left _ (List.mem_append_right _ h)))) (by decide +kernel))
set_option maxRecDepth 20000 in
theorem gL_law_X7_rest : GoodIn wsL_law (wsV RL 343 RX7 yX7_rest wsX7_rest) := goodIn_app (goodIn_of _ (by decide +kernel)) ggL_law_X7_rest
set_option maxRecDepth 20000 in
theorem ggL_law_L_buy : GoodIn wsL_law wsL_buy := goodIn_ca (goodIn_ca (goodIn_ca (goodIn_ca (goodIn_r _ [1706, 547, 1707, 1708, 1709, 2, 1710, 162, 163, 29, 716, 25, 559, 560, 561, 562, 563, 564, 357, 717, 718, 719, 720, 160, 161, 41, 164, 1534, 1535, 1536, 24, 1537, 64, 1538, 375, 1539, 178, 179, 180, 1540, 359, 360, 28, 361, 70, 71, 362, 363, 364, 365, 199, 200, 201, 202, 203, 204, 366, 367, 368, 73, 369, 77, 370, 215, 216, 78, 221, 222, 79, 80, 209, 210, 1765, 1766, 1767, 1768, 1769, 1770, 1771, 1772, 1773, 1774, 1775, 1837, 1838, 1839, 1840, 1841, 1842, 1843, 1844, 1849, 1850, 1851, 1852, 1853, 1854, 1855, 1856, 1857, 1858, 1859, 1834, 1835, 1836, 1860, 1861, 1862, 1863, 1864, 1865, 1866, 1867, 1868, 1869] (by decide +kernel) (by decide +kernel)) (goodIn_sub (fun _ h => List.mem_append_left _ (List.mem_append_left _ (List.mem_append_left _ (List.mem_append_right _ h)))) (by decide +kernel))) (goodIn_sub (fun _ h => List.mem_append_left _ (List.mem_append_right _ h)) (by decide +kernel))) (goodIn_sub (fun _ h => List.mem_append_right _ h) (by decide +kernel))) (goodIn_sub (fun _ h => List.mem_append_left _ (List.mem_append_left _ (List.mem_append_right _ h))) (by decide +kernel))
set_option maxRecDepth 20000 in
theorem gL_law_L_buy : GoodIn wsL_law (va_wsS RL 344 yL_buy wsL_buy) := goodIn_app (goodIn_of _ (by decide +kernel)) ggL_law_L_buy
set_option maxRecDepth 20000 in
theorem ggL_law_X7_buy : GoodIn wsL_law wsX7_buy := goodIn_ca (goodIn_r _ [1714, 114, 592, 593, 594, 5, 595, 149, 383, 389, 390, 391, 392, 730, 731, 732, 733, 385, 386, 387, 388, 1546, 1547, 1548, 1549, 384, 117, 1550, 1551, 1552, 1553, 1776, 1777, 1778, 1779, 1780, 1781, 1782, 1783, 1784, 1785, 1786, 1787, 1788, 1789, 1790, 1791, 1792, 1793, 1794, 1795, 1796, 1797, 1798, 1799, 1800, 1801, 1802, 1803, 1804, 1805, 1806, 1807, 1808, 1809, 1810, 1811, 1812, 1813, 1814, 1815, 1816] (by decide +kernel) (by decide +kernel)) (goodIn_sub (fun _ h => List.mem_append_left _ (List.mem_append_left _ (List.mem_append_left _ (List.mem_append_right _ h)))) (by decide +kernel))
set_option maxRecDepth 20000 in
theorem gL_law_X7_buy : GoodIn wsL_law (wsV RL 346 RX7 yX7_buy wsX7_buy) := goodIn_app (goodIn_of _ (by decide +kernel)) ggL_law_X7_buy
set_option maxRecDepth 20000 in
theorem ggL_law_L_undo : GoodIn wsL_law wsL_undo := goodIn_ca (goodIn_ca (goodIn_r _ [1717, 547, 1718, 1719, 1720, 2, 1721, 563, 564, 25, 1722, 29, 1723, 1724, 1725, 24, 1726, 375, 1538, 64, 1540, 359, 360, 28, 361, 70, 71, 362, 363, 364, 365, 199, 200, 201, 202, 203, 204, 366, 367, 368, 73, 369, 77, 370, 215, 216, 78, 221, 222, 79, 80, 209, 210, 1765, 1766, 1767, 1768, 1769, 1770, 1771, 1772, 1773, 1774, 1775, 1834, 1835, 1836, 1837, 1838, 1839, 1840, 1841, 1842, 1843, 1844, 1860, 1861, 1862, 1863, 1864, 1865, 1866, 1867, 1868, 1869] (by decide +kernel) (by decide +kernel)) (goodIn_sub (fun _ h => List.mem_append_left _ (List.mem_append_left _ (List.mem_append_left _ (List.mem_append_right _ h)))) (by decide +kernel))) (goodIn_sub (fun _ h => List.mem_append_right _ h) (by decide +kernel))
set_option maxRecDepth 20000 in
theorem gL_law_L_undo : GoodIn wsL_law (va_wsS RL 347 yL_undo wsL_undo) := goodIn_app (goodIn_of _ (by decide +kernel)) ggL_law_L_undo
set_option maxRecDepth 20000 in
theorem ggL_law_X7_undo : GoodIn wsL_law wsX7_undo := goodIn_ca (goodIn_r _ [1730, 149, 384, 389, 390, 391, 5, 392, 1731, 1732, 1733, 1734, 114, 117, 1776, 1777, 1778, 1779, 1780, 1781, 1782, 1783, 1784, 1785, 1786, 1787, 1788, 1789, 1790, 1791, 1792, 1793, 1794, 1795, 1796, 1797, 1798, 1799, 1800, 1801, 1802, 1803, 1804, 1805, 1806, 1807, 1808, 1809, 1810, 1811, 1812, 1813, 1814, 1815, 1816] (by decide +kernel) (by decide +kernel)) (goodIn_sub (fun _ h => List.mem_append_left _ (List.mem_append_left _ (List.mem_append_left _ (List.mem_append_right _ h)))) (by decide +kernel))
set_option maxRecDepth 20000 in
theorem gL_law_X7_undo : GoodIn wsL_law (wsV RL 349 RX7 yX7_undo wsX7_undo) := goodIn_app (goodIn_of _ (by decide +kernel)) ggL_law_X7_undo
set_option maxRecDepth 20000 in
theorem ggL_law_X6_undoable : GoodIn wsL_law wsX6_undoable := goodIn_r _ [1738, 25, 1722, 1765, 1766, 1767, 1768, 1769, 1770, 1771, 1772, 1773, 1774, 1775, 1834, 1835, 1836] (by decide +kernel) (by decide +kernel)
set_option maxRecDepth 20000 in
theorem gL_law_X6_undoable : GoodIn wsL_law (wsV RL 350 RX6 yX6_undoable wsX6_undoable) := goodIn_app (goodIn_of _ (by decide +kernel)) ggL_law_X6_undoable
set_option maxRecDepth 20000 in
theorem ggL_law_X7_undoable : GoodIn wsL_law wsX7_undoable := goodIn_r _ [1742, 149, 384, 1776, 1777, 1778, 1779, 1780, 1781, 1782, 1783, 1784, 1785, 1786, 1787, 1788, 1789, 1790, 1791, 1792, 1793, 1794, 1795, 1796, 1797, 1798, 1799, 1800, 1801, 1802, 1803, 1804, 1805, 1806, 1807, 1808, 1809, 1810, 1811, 1812, 1813, 1814, 1815, 1816] (by decide +kernel) (by decide +kernel)
set_option maxRecDepth 20000 in
theorem gL_law_X7_undoable : GoodIn wsL_law (wsV RL 353 RX7 yX7_undoable wsX7_undoable) := goodIn_app (goodIn_of _ (by decide +kernel)) ggL_law_X7_undoable
set_option maxRecDepth 20000 in
theorem ggL_law_L_save : GoodIn wsL_law wsL_save := goodIn_ca (goodIn_ca (goodIn_ca (goodIn_r _ [1745, 547, 1746, 1747, 1748, 2, 1749, 31, 29, 33, 554, 559, 560, 561, 562, 563, 564, 357, 681, 682, 683, 160, 161, 358, 359, 360, 28, 361, 70, 71, 362, 363, 364, 365, 199, 200, 201, 202, 203, 204, 366, 367, 368, 73, 369, 77, 370, 215, 216, 78, 221, 222, 79, 80, 209, 210, 1765, 1766, 1767, 1768, 1769, 1770, 1771, 1772, 1773, 1774, 1775, 1837, 1838, 1839, 1840, 1841, 1842, 1843, 1844, 1860, 1861, 1862, 1863, 1864, 1865, 1866, 1867, 1868, 1869] (by decide +kernel) (by decide +kernel)) (goodIn_sub (fun _ h => List.mem_append_left _ (List.mem_append_left _ (List.mem_append_left _ (List.mem_append_right _ h)))) (by decide +kernel))) (goodIn_sub (fun _ h => List.mem_append_right _ h) (by decide +kernel))) (goodIn_sub (fun _ h => List.mem_append_left _ (List.mem_append_left _ (List.mem_append_right _ h))) (by decide +kernel))
set_option maxRecDepth 20000 in
theorem gL_law_L_save : GoodIn wsL_law (va_wsS RL 354 yL_save wsL_save) := goodIn_app (goodIn_of _ (by decide +kernel)) ggL_law_L_save
set_option maxRecDepth 20000 in
theorem ggL_law_X7_save : GoodIn wsL_law wsX7_save := goodIn_ca (goodIn_r _ [1753, 118, 114, 592, 593, 594, 5, 595, 149, 383, 389, 390, 391, 392, 386, 387, 388, 1550, 1551, 1552, 1553, 117, 1776, 1777, 1778, 1779, 1780, 1781, 1782, 1783, 1784, 1785, 1786, 1787, 1788, 1789, 1790, 1791, 1792, 1793, 1794, 1795, 1796, 1797, 1798, 1799, 1800, 1801, 1802, 1803, 1804, 1805, 1806, 1807, 1808, 1809, 1810, 1811, 1812, 1813, 1814, 1815, 1816] (by decide +kernel) (by decide +kernel)) (goodIn_sub (fun _ h => List.mem_append_left _ (List.mem_append_left _ (List.mem_append_left _ (List.mem_append_right _ h)))) (by decide +kernel))
set_option maxRecDepth 20000 in
theorem gL_law_X7_save : GoodIn wsL_law (wsV RL 356 RX7 yX7_save wsX7_save) := goodIn_app (goodIn_of _ (by decide +kernel)) ggL_law_X7_save
set_option maxRecDepth 20000 in
theorem ggL_law_L_restore : GoodIn wsL_law wsL_restore := goodIn_ca (goodIn_ca (goodIn_ca (goodIn_r _ [1756, 155, 1757, 1758, 1759, 2, 1760, 563, 564, 33, 29, 31, 25, 554, 681, 682, 683, 160, 161, 358, 359, 360, 28, 361, 70, 71, 362, 363, 364, 365, 199, 200, 201, 202, 203, 204, 366, 367, 368, 73, 369, 77, 370, 215, 216, 78, 221, 222, 79, 80, 209, 210, 371, 372, 373, 24, 374, 375, 1765, 1766, 1767, 1768, 1769, 1770, 1771, 1772, 1773, 1774, 1775, 1837, 1838, 1839, 1840, 1841, 1842, 1843, 1844, 1860, 1861, 1862, 1863, 1864, 1865, 1866, 1867, 1868, 1869, 1834, 1835, 1836] (by decide +kernel) (by decide +kernel)) (goodIn_sub (fun _ h => List.mem_append_left _ (List.mem_append_left _ (List.mem_append_left _ (List.mem_append_right _ h)))) (by decide +kernel))) (goodIn_sub (fun _ h => List.mem_append_right _ h) (by decide +kernel))) (goodIn_sub (fun _ h => List.mem_append_left _ (List.mem_append_left _ (List.mem_append_right _ h))) (by decide +kernel))
set_option maxRecDepth 20000 in
theorem gL_law_L_restore : GoodIn wsL_law (va_wsS RL 357 yL_restore wsL_restore) := goodIn_app (goodIn_of _ (by decide +kernel)) ggL_law_L_restore
set_option maxRecDepth 20000 in
theorem ggL_law_X7_restore : GoodIn wsL_law wsX7_restore := goodIn_ca (goodIn_r _ [1764, 149, 118, 384, 114, 386, 387, 5, 388, 389, 390, 391, 392, 1731, 1732, 1733, 1734, 117, 1776, 1777, 1778, 1779, 1780, 1781, 1782, 1783, 1784, 1785, 1786, 1787, 1788, 1789, 1790, 1791, 1792, 1793, 1794, 1795, 1796, 1797, 1798, 1799, 1800, 1801, 1802, 1803, 1804, 1805, 1806, 1807, 1808, 1809, 1810, 1811, 1812, 1813, 1814, 1815, 1816] (by decide +kernel) (by decide +kernel)) (goodIn_sub (fun _ h => List.mem_append_left _ (List.mem_append_left _ (List.mem_append_left _ (List.mem_append_right _ h)))) (by decide +kernel))
set_option maxRecDepth 20000 in
theorem gL_law_X7_restore : GoodIn wsL_law (wsV RL 359 RX7 yX7_restore wsX7_restore) := goodIn_app (goodIn_of _ (by decide +kernel)) ggL_law_X7_restore
theorem dL_law_0 : decode cL_law 0 = .ok (.new 8, 3) := by decide +kernel
theorem dL_law_3 : decode cL_law 3 = .ok (.dup, 1) := by decide +kernel
theorem dL_law_4 : decode cL_law 4 = .ok (.invokespecial 174, 3) := by decide +kernel
theorem dL_law_7 : decode cL_law 7 = .ok (.astore_n 1, 1) := by decide +kernel
theorem dL_law_8 : decode cL_law 8 = .ok (.new 175, 3) := by decide +kernel
theorem dL_law_11 : decode cL_law 11 = .ok (.dup, 1) := by decide +kernel
theorem dL_law_12 : decode cL_law 12 = .ok (.invokespecial 177, 3) := by decide +kernel
theorem dL_law_15 : decode cL_law 15 = .ok (.astore_n 2, 1) := by decide +kernel
theorem dL_law_16 : decode cL_law 16 = .ok (.iconst 1, 1) := by decide +kernel
theorem dL_law_17 : decode cL_law 17 = .ok (.newarray .long, 2) := by decide +kernel
theorem dL_law_19 : decode cL_law 19 = .ok (.astore_n 3, 1) := by decide +kernel
theorem dL_law_20 : decode cL_law 20 = .ok (.iconst 1, 1) := by decide +kernel
theorem dL_law_21 : decode cL_law 21 = .ok (.newarray .double, 2) := by decide +kernel
theorem dL_law_23 : decode cL_law 23 = .ok (.astore 4, 2) := by decide +kernel
theorem dL_law_25 : decode cL_law 25 = .ok (.iconst 0, 1) := by decide +kernel
theorem dL_law_26 : decode cL_law 26 = .ok (.istore 5, 2) := by decide +kernel
theorem dL_law_28 : decode cL_law 28 = .ok (.iload 5, 2) := by decide +kernel
theorem dL_law_30 : decode cL_law 30 = .ok (.aload_n 0, 1) := by decide +kernel
theorem dL_law_31 : decode cL_law 31 = .ok (.arraylength, 1) := by decide +kernel
theorem dL_law_32 : decode cL_law 32 = .ok (.bipush 6, 2) := by decide +kernel
theorem dL_law_34 : decode cL_law 34 = .ok (.isub, 1) := by decide +kernel
theorem dL_law_35 : decode cL_law 35 = .ok (.if_icmp .gt 3375, 3) := by decide +kernel
theorem dL_law_38 : decode cL_law 38 = .ok (.aload_n 0, 1) := by decide +kernel
theorem dL_law_39 : decode cL_law 39 = .ok (.iload 5, 2) := by decide +kernel
theorem dL_law_41 : decode cL_law 41 = .ok (.iaload, 1) := by decide +kernel
theorem dL_law_42 : decode cL_law 42 = .ok (.bipush 63, 2) := by decide +kernel
theorem dL_law_44 : decode cL_law 44 = .ok (.iand, 1) := by decide +kernel
theorem dL_law_45 : decode cL_law 45 = .ok (.tableswitch 3359 0 54 #[235, 308, 364, 377, 390, 403, 459, 515, 583, 651, 719, 787, 871, 934, 978, 1022, 1066, 1110, 1175, 1241, 1307, 1375, 1443, 1499, 1555, 1623, 1679, 1735, 1810, 1866, 1922, 2006, 2062, 2106, 2150, 2206, 2262, 2306, 2362, 2430, 2498, 2566, 2634, 2718, 2786, 2842, 2898, 2954, 3010, 3066, 3122, 3190, 3234, 3247, 3303], 235) := by decide +kernel
theorem dL_law_280 : decode cL_law 280 = .ok (.aload_n 1, 1) := by decide +kernel
theorem dL_law_281 : decode cL_law 281 = .ok (.aload_n 0, 1) := by decide +kernel
theorem dL_law_282 : decode cL_law 282 = .ok (.iload 5, 2) := by decide +kernel
theorem dL_law_284 : decode cL_law 284 = .ok (.iconst 1, 1) := by decide +kernel
theorem dL_law_285 : decode cL_law 285 = .ok (.iadd, 1) := by decide +kernel
theorem dL_law_286 : decode cL_law 286 = .ok (.iaload, 1) := by decide +kernel
theorem dL_law_287 : decode cL_law 287 = .ok (.aload_n 0, 1) := by decide +kernel
theorem dL_law_288 : decode cL_law 288 = .ok (.iload 5, 2) := by decide +kernel
theorem dL_law_290 : decode cL_law 290 = .ok (.iconst 2, 1) := by decide +kernel
theorem dL_law_291 : decode cL_law 291 = .ok (.iadd, 1) := by decide +kernel
theorem dL_law_292 : decode cL_law 292 = .ok (.iaload, 1) := by decide +kernel
theorem dL_law_293 : decode cL_law 293 = .ok (.aload_n 0, 1) := by decide +kernel
theorem dL_law_294 : decode cL_law 294 = .ok (.iload 5, 2) := by decide +kernel
theorem dL_law_296 : decode cL_law 296 = .ok (.iconst 3, 1) := by decide +kernel
theorem dL_law_297 : decode cL_law 297 = .ok (.iadd, 1) := by decide +kernel
theorem dL_law_298 : decode cL_law 298 = .ok (.iaload, 1) := by decide +kernel
theorem dL_law_299 : decode cL_law 299 = .ok (.aload_n 0, 1) := by decide +kernel
theorem dL_law_300 : decode cL_law 300 = .ok (.iload 5, 2) := by decide +kernel
theorem dL_law_302 : decode cL_law 302 = .ok (.iconst 4, 1) := by decide +kernel
theorem dL_law_303 : decode cL_law 303 = .ok (.iadd, 1) := by decide +kernel
theorem dL_law_304 : decode cL_law 304 = .ok (.iaload, 1) := by decide +kernel
theorem dL_law_305 : decode cL_law 305 = .ok (.aload_n 0, 1) := by decide +kernel
theorem dL_law_306 : decode cL_law 306 = .ok (.iload 5, 2) := by decide +kernel
theorem dL_law_308 : decode cL_law 308 = .ok (.iconst 5, 1) := by decide +kernel
theorem dL_law_309 : decode cL_law 309 = .ok (.iadd, 1) := by decide +kernel
theorem dL_law_310 : decode cL_law 310 = .ok (.iaload, 1) := by decide +kernel
theorem dL_law_311 : decode cL_law 311 = .ok (.invokevirtual 178, 3) := by decide +kernel
theorem dL_law_314 : decode cL_law 314 = .ok (.aload_n 2, 1) := by decide +kernel
theorem dL_law_315 : decode cL_law 315 = .ok (.aload_n 0, 1) := by decide +kernel
theorem dL_law_316 : decode cL_law 316 = .ok (.iload 5, 2) := by decide +kernel
theorem dL_law_318 : decode cL_law 318 = .ok (.iconst 1, 1) := by decide +kernel
theorem dL_law_319 : decode cL_law 319 = .ok (.iadd, 1) := by decide +kernel
theorem dL_law_320 : decode cL_law 320 = .ok (.iaload, 1) := by decide +kernel
theorem dL_law_321 : decode cL_law 321 = .ok (.aload_n 0, 1) := by decide +kernel
theorem dL_law_322 : decode cL_law 322 = .ok (.iload 5, 2) := by decide +kernel
theorem dL_law_324 : decode cL_law 324 = .ok (.iconst 2, 1) := by decide +kernel
theorem dL_law_325 : decode cL_law 325 = .ok (.iadd, 1) := by decide +kernel
theorem dL_law_326 : decode cL_law 326 = .ok (.iaload, 1) := by decide +kernel
theorem dL_law_327 : decode cL_law 327 = .ok (.aload_n 0, 1) := by decide +kernel
theorem dL_law_328 : decode cL_law 328 = .ok (.iload 5, 2) := by decide +kernel
theorem dL_law_330 : decode cL_law 330 = .ok (.iconst 3, 1) := by decide +kernel
theorem dL_law_331 : decode cL_law 331 = .ok (.iadd, 1) := by decide +kernel
theorem dL_law_332 : decode cL_law 332 = .ok (.iaload, 1) := by decide +kernel
theorem dL_law_333 : decode cL_law 333 = .ok (.aload_n 0, 1) := by decide +kernel
theorem dL_law_334 : decode cL_law 334 = .ok (.iload 5, 2) := by decide +kernel
theorem dL_law_336 : decode cL_law 336 = .ok (.iconst 4, 1) := by decide +kernel
theorem dL_law_337 : decode cL_law 337 = .ok (.iadd, 1) := by decide +kernel
theorem dL_law_338 : decode cL_law 338 = .ok (.iaload, 1) := by decide +kernel
theorem dL_law_339 : decode cL_law 339 = .ok (.aload_n 0, 1) := by decide +kernel
theorem dL_law_340 : decode cL_law 340 = .ok (.iload 5, 2) := by decide +kernel
theorem dL_law_342 : decode cL_law 342 = .ok (.iconst 5, 1) := by decide +kernel
theorem dL_law_343 : decode cL_law 343 = .ok (.iadd, 1) := by decide +kernel
theorem dL_law_344 : decode cL_law 344 = .ok (.iaload, 1) := by decide +kernel
theorem dL_law_345 : decode cL_law 345 = .ok (.invokevirtual 182, 3) := by decide +kernel
theorem dL_law_348 : decode cL_law 348 = .ok (.if_icmp .eq 3056, 3) := by decide +kernel
theorem dL_law_351 : decode cL_law 351 = .ok (.iconst 0, 1) := by decide +kernel
theorem dL_law_352 : decode cL_law 352 = .ok (.ireturn, 1) := by decide +kernel
theorem dL_law_353 : decode cL_law 353 = .ok (.aload_n 1, 1) := by decide +kernel
theorem dL_law_354 : decode cL_law 354 = .ok (.aload_n 0, 1) := by decide +kernel
theorem dL_law_355 : decode cL_law 355 = .ok (.iload 5, 2) := by decide +kernel
theorem dL_law_357 : decode cL_law 357 = .ok (.iconst 1, 1) := by decide +kernel
theorem dL_law_358 : decode cL_law 358 = .ok (.iadd, 1) := by decide +kernel
theorem dL_law_359 : decode cL_law 359 = .ok (.iaload, 1) := by decide +kernel
theorem dL_law_360 : decode cL_law 360 = .ok (.aload_n 3, 1) := by decide +kernel
theorem dL_law_361 : decode cL_law 361 = .ok (.invokestatic 183, 3) := by decide +kernel
theorem dL_law_364 : decode cL_law 364 = .ok (.istore 6, 2) := by decide +kernel
theorem dL_law_366 : decode cL_law 366 = .ok (.aload_n 2, 1) := by decide +kernel
theorem dL_law_367 : decode cL_law 367 = .ok (.aload_n 0, 1) := by decide +kernel
theorem dL_law_368 : decode cL_law 368 = .ok (.iload 5, 2) := by decide +kernel
theorem dL_law_370 : decode cL_law 370 = .ok (.iconst 1, 1) := by decide +kernel
theorem dL_law_371 : decode cL_law 371 = .ok (.iadd, 1) := by decide +kernel
theorem dL_law_372 : decode cL_law 372 = .ok (.iaload, 1) := by decide +kernel
theorem dL_law_373 : decode cL_law 373 = .ok (.invokevirtual 188, 3) := by decide +kernel
theorem dL_law_376 : decode cL_law 376 = .ok (.istore 7, 2) := by decide +kernel
theorem dL_law_378 : decode cL_law 378 = .ok (.aload_n 2, 1) := by decide +kernel
theorem dL_law_379 : decode cL_law 379 = .ok (.invokevirtual 189, 3) := by decide +kernel
theorem dL_law_382 : decode cL_law 382 = .ok (.iload 6, 2) := by decide +kernel
theorem dL_law_384 : decode cL_law 384 = .ok (.if_icmp .eq 5, 3) := by decide +kernel
theorem dL_law_387 : decode cL_law 387 = .ok (.iconst 0, 1) := by decide +kernel
theorem dL_law_388 : decode cL_law 388 = .ok (.ireturn, 1) := by decide +kernel
theorem dL_law_389 : decode cL_law 389 = .ok (.iload 6, 2) := by decide +kernel
theorem dL_law_391 : decode cL_law 391 = .ok (.ifCond .ne 15, 3) := by decide +kernel
theorem dL_law_394 : decode cL_law 394 = .ok (.aload_n 3, 1) := by decide +kernel
theorem dL_law_395 : decode cL_law 395 = .ok (.iconst 0, 1) := by decide +kernel
theorem dL_law_396 : decode cL_law 396 = .ok (.laload, 1) := by decide +kernel
theorem dL_law_397 : decode cL_law 397 = .ok (.iload 7, 2) := by decide +kernel
theorem dL_law_399 : decode cL_law 399 = .ok (.i2l, 1) := by decide +kernel
theorem dL_law_400 : decode cL_law 400 = .ok (.lcmp, 1) := by decide +kernel
theorem dL_law_401 : decode cL_law 401 = .ok (.ifCond .eq 5, 3) := by decide +kernel
theorem dL_law_404 : decode cL_law 404 = .ok (.iconst 0, 1) := by decide +kernel
theorem dL_law_405 : decode cL_law 405 = .ok (.ireturn, 1) := by decide +kernel
theorem dL_law_406 : decode cL_law 406 = .ok (.goto 2998, 3) := by decide +kernel
theorem dL_law_409 : decode cL_law 409 = .ok (.aload_n 1, 1) := by decide +kernel
theorem dL_law_410 : decode cL_law 410 = .ok (.invokevirtual 192, 3) := by decide +kernel
theorem dL_law_413 : decode cL_law 413 = .ok (.aload_n 2, 1) := by decide +kernel
theorem dL_law_414 : decode cL_law 414 = .ok (.invokevirtual 195, 3) := by decide +kernel
theorem dL_law_417 : decode cL_law 417 = .ok (.if_icmp .eq 2987, 3) := by decide +kernel
theorem dL_law_420 : decode cL_law 420 = .ok (.iconst 0, 1) := by decide +kernel
theorem dL_law_421 : decode cL_law 421 = .ok (.ireturn, 1) := by decide +kernel
theorem dL_law_422 : decode cL_law 422 = .ok (.aload_n 1, 1) := by decide +kernel
theorem dL_law_423 : decode cL_law 423 = .ok (.invokevirtual 196, 3) := by decide +kernel
theorem dL_law_426 : decode cL_law 426 = .ok (.aload_n 2, 1) := by decide +kernel
theorem dL_law_427 : decode cL_law 427 = .ok (.invokevirtual 199, 3) := by decide +kernel
theorem dL_law_430 : decode cL_law 430 = .ok (.if_icmp .eq 2974, 3) := by decide +kernel
theorem dL_law_433 : decode cL_law 433 = .ok (.iconst 0, 1) := by decide +kernel
theorem dL_law_434 : decode cL_law 434 = .ok (.ireturn, 1) := by decide +kernel
theorem dL_law_435 : decode cL_law 435 = .ok (.aload_n 1, 1) := by decide +kernel
theorem dL_law_436 : decode cL_law 436 = .ok (.invokevirtual 200, 3) := by decide +kernel
theorem dL_law_439 : decode cL_law 439 = .ok (.aload_n 2, 1) := by decide +kernel
theorem dL_law_440 : decode cL_law 440 = .ok (.invokevirtual 203, 3) := by decide +kernel
theorem dL_law_443 : decode cL_law 443 = .ok (.if_icmp .eq 2961, 3) := by decide +kernel
theorem dL_law_446 : decode cL_law 446 = .ok (.iconst 0, 1) := by decide +kernel
theorem dL_law_447 : decode cL_law 447 = .ok (.ireturn, 1) := by decide +kernel
theorem dL_law_448 : decode cL_law 448 = .ok (.aload_n 1, 1) := by decide +kernel
theorem dL_law_449 : decode cL_law 449 = .ok (.aload_n 0, 1) := by decide +kernel
theorem dL_law_450 : decode cL_law 450 = .ok (.iload 5, 2) := by decide +kernel
theorem dL_law_452 : decode cL_law 452 = .ok (.iconst 1, 1) := by decide +kernel
theorem dL_law_453 : decode cL_law 453 = .ok (.iadd, 1) := by decide +kernel
theorem dL_law_454 : decode cL_law 454 = .ok (.iaload, 1) := by decide +kernel
theorem dL_law_455 : decode cL_law 455 = .ok (.aload_n 3, 1) := by decide +kernel
theorem dL_law_456 : decode cL_law 456 = .ok (.invokestatic 204, 3) := by decide +kernel
theorem dL_law_459 : decode cL_law 459 = .ok (.istore 6, 2) := by decide +kernel
theorem dL_law_461 : decode cL_law 461 = .ok (.aload_n 2, 1) := by decide +kernel
theorem dL_law_462 : decode cL_law 462 = .ok (.aload_n 0, 1) := by decide +kernel
theorem dL_law_463 : decode cL_law 463 = .ok (.iload 5, 2) := by decide +kernel
theorem dL_law_465 : decode cL_law 465 = .ok (.iconst 1, 1) := by decide +kernel
theorem dL_law_466 : decode cL_law 466 = .ok (.iadd, 1) := by decide +kernel
theorem dL_law_467 : decode cL_law 467 = .ok (.iaload, 1) := by decide +kernel
theorem dL_law_468 : decode cL_law 468 = .ok (.invokevirtual 206, 3) := by decide +kernel
theorem dL_law_471 : decode cL_law 471 = .ok (.istore 7, 2) := by decide +kernel
theorem dL_law_473 : decode cL_law 473 = .ok (.aload_n 2, 1) := by decide +kernel
theorem dL_law_474 : decode cL_law 474 = .ok (.invokevirtual 189, 3) := by decide +kernel
theorem dL_law_477 : decode cL_law 477 = .ok (.iload 6, 2) := by decide +kernel
theorem dL_law_479 : decode cL_law 479 = .ok (.if_icmp .eq 5, 3) := by decide +kernel
theorem dL_law_482 : decode cL_law 482 = .ok (.iconst 0, 1) := by decide +kernel
theorem dL_law_483 : decode cL_law 483 = .ok (.ireturn, 1) := by decide +kernel
theorem dL_law_484 : decode cL_law 484 = .ok (.iload 6, 2) := by decide +kernel
theorem dL_law_486 : decode cL_law 486 = .ok (.ifCond .ne 15, 3) := by decide +kernel
theorem dL_law_489 : decode cL_law 489 = .ok (.aload_n 3, 1) := by decide +kernel
theorem dL_law_490 : decode cL_law 490 = .ok (.iconst 0, 1) := by decide +kernel
theorem dL_law_491 : decode cL_law 491 = .ok (.laload, 1) := by decide +kernel
theorem dL_law_492 : decode cL_law 492 = .ok (.iload 7, 2) := by decide +kernel
theorem dL_law_494 : decode cL_law 494 = .ok (.i2l, 1) := by decide +kernel
theorem dL_law_495 : decode cL_law 495 = .ok (.lcmp, 1) := by decide +kernel
theorem dL_law_496 : decode cL_law 496 = .ok (.ifCond .eq 5, 3) := by decide +kernel
theorem dL_law_499 : decode cL_law 499 = .ok (.iconst 0, 1) := by decide +kernel
theorem dL_law_500 : decode cL_law 500 = .ok (.ireturn, 1) := by decide +kernel
theorem dL_law_501 : decode cL_law 501 = .ok (.goto 2903, 3) := by decide +kernel
theorem dL_law_504 : decode cL_law 504 = .ok (.aload_n 1, 1) := by decide +kernel
theorem dL_law_505 : decode cL_law 505 = .ok (.aload_n 0, 1) := by decide +kernel
theorem dL_law_506 : decode cL_law 506 = .ok (.iload 5, 2) := by decide +kernel
theorem dL_law_508 : decode cL_law 508 = .ok (.iconst 1, 1) := by decide +kernel
theorem dL_law_509 : decode cL_law 509 = .ok (.iadd, 1) := by decide +kernel
theorem dL_law_510 : decode cL_law 510 = .ok (.iaload, 1) := by decide +kernel
theorem dL_law_511 : decode cL_law 511 = .ok (.aload_n 3, 1) := by decide +kernel
theorem dL_law_512 : decode cL_law 512 = .ok (.invokestatic 207, 3) := by decide +kernel
theorem dL_law_515 : decode cL_law 515 = .ok (.istore 6, 2) := by decide +kernel
theorem dL_law_517 : decode cL_law 517 = .ok (.aload_n 2, 1) := by decide +kernel
theorem dL_law_518 : decode cL_law 518 = .ok (.aload_n 0, 1) := by decide +kernel
theorem dL_law_519 : decode cL_law 519 = .ok (.iload 5, 2) := by decide +kernel
theorem dL_law_521 : decode cL_law 521 = .ok (.iconst 1, 1) := by decide +kernel
theorem dL_law_522 : decode cL_law 522 = .ok (.iadd, 1) := by decide +kernel
theorem dL_law_523 : decode cL_law 523 = .ok (.iaload, 1) := by decide +kernel
theorem dL_law_524 : decode cL_law 524 = .ok (.invokevirtual 209, 3) := by decide +kernel
theorem dL_law_527 : decode cL_law 527 = .ok (.istore 7, 2) := by decide +kernel
theorem dL_law_529 : decode cL_law 529 = .ok (.aload_n 2, 1) := by decide +kernel
theorem dL_law_530 : decode cL_law 530 = .ok (.invokevirtual 189, 3) := by decide +kernel
theorem dL_law_533 : decode cL_law 533 = .ok (.iload 6, 2) := by decide +kernel
theorem dL_law_535 : decode cL_law 535 = .ok (.if_icmp .eq 5, 3) := by decide +kernel
theorem dL_law_538 : decode cL_law 538 = .ok (.iconst 0, 1) := by decide +kernel
theorem dL_law_539 : decode cL_law 539 = .ok (.ireturn, 1) := by decide +kernel
theorem dL_law_540 : decode cL_law 540 = .ok (.iload 6, 2) := by decide +kernel
theorem dL_law_542 : decode cL_law 542 = .ok (.ifCond .ne 15, 3) := by decide +kernel
theorem dL_law_545 : decode cL_law 545 = .ok (.aload_n 3, 1) := by decide +kernel
theorem dL_law_546 : decode cL_law 546 = .ok (.iconst 0, 1) := by decide +kernel
theorem dL_law_547 : decode cL_law 547 = .ok (.laload, 1) := by decide +kernel
theorem dL_law_548 : decode cL_law 548 = .ok (.iload 7, 2) := by decide +kernel
theorem dL_law_550 : decode cL_law 550 = .ok (.i2l, 1) := by decide +kernel
theorem dL_law_551 : decode cL_law 551 = .ok (.lcmp, 1) := by decide +kernel
theorem dL_law_552 : decode cL_law 552 = .ok (.ifCond .eq 5, 3) := by decide +kernel
theorem dL_law_555 : decode cL_law 555 = .ok (.iconst 0, 1) := by decide +kernel
theorem dL_law_556 : decode cL_law 556 = .ok (.ireturn, 1) := by decide +kernel
theorem dL_law_557 : decode cL_law 557 = .ok (.goto 2847, 3) := by decide +kernel
theorem dL_law_560 : decode cL_law 560 = .ok (.aload_n 1, 1) := by decide +kernel
theorem dL_law_561 : decode cL_law 561 = .ok (.aload_n 0, 1) := by decide +kernel
theorem dL_law_562 : decode cL_law 562 = .ok (.iload 5, 2) := by decide +kernel
theorem dL_law_564 : decode cL_law 564 = .ok (.iconst 1, 1) := by decide +kernel
theorem dL_law_565 : decode cL_law 565 = .ok (.iadd, 1) := by decide +kernel
theorem dL_law_566 : decode cL_law 566 = .ok (.iaload, 1) := by decide +kernel
theorem dL_law_567 : decode cL_law 567 = .ok (.aload_n 0, 1) := by decide +kernel
theorem dL_law_568 : decode cL_law 568 = .ok (.iload 5, 2) := by decide +kernel
theorem dL_law_570 : decode cL_law 570 = .ok (.iconst 2, 1) := by decide +kernel
theorem dL_law_571 : decode cL_law 571 = .ok (.iadd, 1) := by decide +kernel
theorem dL_law_572 : decode cL_law 572 = .ok (.iaload, 1) := by decide +kernel
theorem dL_law_573 : decode cL_law 573 = .ok (.aload_n 3, 1) := by decide +kernel
theorem dL_law_574 : decode cL_law 574 = .ok (.invokestatic 210, 3) := by decide +kernel
theorem dL_law_577 : decode cL_law 577 = .ok (.istore 6, 2) := by decide +kernel
theorem dL_law_579 : decode cL_law 579 = .ok (.aload_n 2, 1) := by decide +kernel
theorem dL_law_580 : decode cL_law 580 = .ok (.aload_n 0, 1) := by decide +kernel
theorem dL_law_581 : decode cL_law 581 = .ok (.iload 5, 2) := by decide +kernel
theorem dL_law_583 : decode cL_law 583 = .ok (.iconst 1, 1) := by decide +kernel
theorem dL_law_584 : decode cL_law 584 = .ok (.iadd, 1) := by decide +kernel
theorem dL_law_585 : decode cL_law 585 = .ok (.iaload, 1) := by decide +kernel
theorem dL_law_586 : decode cL_law 586 = .ok (.aload_n 0, 1) := by decide +kernel
theorem dL_law_587 : decode cL_law 587 = .ok (.iload 5, 2) := by decide +kernel
theorem dL_law_589 : decode cL_law 589 = .ok (.iconst 2, 1) := by decide +kernel
theorem dL_law_590 : decode cL_law 590 = .ok (.iadd, 1) := by decide +kernel
theorem dL_law_591 : decode cL_law 591 = .ok (.iaload, 1) := by decide +kernel
theorem dL_law_592 : decode cL_law 592 = .ok (.invokevirtual 213, 3) := by decide +kernel
theorem dL_law_595 : decode cL_law 595 = .ok (.istore 7, 2) := by decide +kernel
theorem dL_law_597 : decode cL_law 597 = .ok (.aload_n 2, 1) := by decide +kernel
theorem dL_law_598 : decode cL_law 598 = .ok (.invokevirtual 189, 3) := by decide +kernel
theorem dL_law_601 : decode cL_law 601 = .ok (.iload 6, 2) := by decide +kernel
theorem dL_law_603 : decode cL_law 603 = .ok (.if_icmp .eq 5, 3) := by decide +kernel
theorem dL_law_606 : decode cL_law 606 = .ok (.iconst 0, 1) := by decide +kernel
theorem dL_law_607 : decode cL_law 607 = .ok (.ireturn, 1) := by decide +kernel
theorem dL_law_608 : decode cL_law 608 = .ok (.iload 6, 2) := by decide +kernel
theorem dL_law_610 : decode cL_law 610 = .ok (.ifCond .ne 15, 3) := by decide +kernel
theorem dL_law_613 : decode cL_law 613 = .ok (.aload_n 3, 1) := by decide +kernel
theorem dL_law_614 : decode cL_law 614 = .ok (.iconst 0, 1) := by decide +kernel
theorem dL_law_615 : decode cL_law 615 = .ok (.laload, 1) := by decide +kernel
theorem dL_law_616 : decode cL_law 616 = .ok (.iload 7, 2) := by decide +kernel
theorem dL_law_618 : decode cL_law 618 = .ok (.i2l, 1) := by decide +kernel
theorem dL_law_619 : decode cL_law 619 = .ok (.lcmp, 1) := by decide +kernel
theorem dL_law_620 : decode cL_law 620 = .ok (.ifCond .eq 5, 3) := by decide +kernel
theorem dL_law_623 : decode cL_law 623 = .ok (.iconst 0, 1) := by decide +kernel
theorem dL_law_624 : decode cL_law 624 = .ok (.ireturn, 1) := by decide +kernel
theorem dL_law_625 : decode cL_law 625 = .ok (.goto 2779, 3) := by decide +kernel
theorem dL_law_628 : decode cL_law 628 = .ok (.aload_n 1, 1) := by decide +kernel
theorem dL_law_629 : decode cL_law 629 = .ok (.aload_n 0, 1) := by decide +kernel
theorem dL_law_630 : decode cL_law 630 = .ok (.iload 5, 2) := by decide +kernel
theorem dL_law_632 : decode cL_law 632 = .ok (.iconst 1, 1) := by decide +kernel
theorem dL_law_633 : decode cL_law 633 = .ok (.iadd, 1) := by decide +kernel
theorem dL_law_634 : decode cL_law 634 = .ok (.iaload, 1) := by decide +kernel
theorem dL_law_635 : decode cL_law 635 = .ok (.aload_n 0, 1) := by decide +kernel
theorem dL_law_636 : decode cL_law 636 = .ok (.iload 5, 2) := by decide +kernel
theorem dL_law_638 : decode cL_law 638 = .ok (.iconst 2, 1) := by decide +kernel
theorem dL_law_639 : decode cL_law 639 = .ok (.iadd, 1) := by decide +kernel
theorem dL_law_640 : decode cL_law 640 = .ok (.iaload, 1) := by decide +kernel
theorem dL_law_641 : decode cL_law 641 = .ok (.aload_n 3, 1) := by decide +kernel
theorem dL_law_642 : decode cL_law 642 = .ok (.invokestatic 214, 3) := by decide +kernel
theorem dL_law_645 : decode cL_law 645 = .ok (.istore 6, 2) := by decide +kernel
theorem dL_law_647 : decode cL_law 647 = .ok (.aload_n 2, 1) := by decide +kernel
theorem dL_law_648 : decode cL_law 648 = .ok (.aload_n 0, 1) := by decide +kernel
theorem dL_law_649 : decode cL_law 649 = .ok (.iload 5, 2) := by decide +kernel
theorem dL_law_651 : decode cL_law 651 = .ok (.iconst 1, 1) := by decide +kernel
theorem dL_law_652 : decode cL_law 652 = .ok (.iadd, 1) := by decide +kernel
theorem dL_law_653 : decode cL_law 653 = .ok (.iaload, 1) := by decide +kernel
theorem dL_law_654 : decode cL_law 654 = .ok (.aload_n 0, 1) := by decide +kernel
theorem dL_law_655 : decode cL_law 655 = .ok (.iload 5, 2) := by decide +kernel
theorem dL_law_657 : decode cL_law 657 = .ok (.iconst 2, 1) := by decide +kernel
theorem dL_law_658 : decode cL_law 658 = .ok (.iadd, 1) := by decide +kernel
theorem dL_law_659 : decode cL_law 659 = .ok (.iaload, 1) := by decide +kernel
theorem dL_law_660 : decode cL_law 660 = .ok (.invokevirtual 216, 3) := by decide +kernel
theorem dL_law_663 : decode cL_law 663 = .ok (.istore 7, 2) := by decide +kernel
theorem dL_law_665 : decode cL_law 665 = .ok (.aload_n 2, 1) := by decide +kernel
theorem dL_law_666 : decode cL_law 666 = .ok (.invokevirtual 189, 3) := by decide +kernel
theorem dL_law_669 : decode cL_law 669 = .ok (.iload 6, 2) := by decide +kernel
theorem dL_law_671 : decode cL_law 671 = .ok (.if_icmp .eq 5, 3) := by decide +kernel
theorem dL_law_674 : decode cL_law 674 = .ok (.iconst 0, 1) := by decide +kernel
theorem dL_law_675 : decode cL_law 675 = .ok (.ireturn, 1) := by decide +kernel
theorem dL_law_676 : decode cL_law 676 = .ok (.iload 6, 2) := by decide +kernel
theorem dL_law_678 : decode cL_law 678 = .ok (.ifCond .ne 15, 3) := by decide +kernel
theorem dL_law_681 : decode cL_law 681 = .ok (.aload_n 3, 1) := by decide +kernel
theorem dL_law_682 : decode cL_law 682 = .ok (.iconst 0, 1) := by decide +kernel
theorem dL_law_683 : decode cL_law 683 = .ok (.laload, 1) := by decide +kernel
theorem dL_law_684 : decode cL_law 684 = .ok (.iload 7, 2) := by decide +kernel
theorem dL_law_686 : decode cL_law 686 = .ok (.i2l, 1) := by decide +kernel
theorem dL_law_687 : decode cL_law 687 = .ok (.lcmp, 1) := by decide +kernel
theorem dL_law_688 : decode cL_law 688 = .ok (.ifCond .eq 5, 3) := by decide +kernel
theorem dL_law_691 : decode cL_law 691 = .ok (.iconst 0, 1) := by decide +kernel
theorem dL_law_692 : decode cL_law 692 = .ok (.ireturn, 1) := by decide +kernel
theorem dL_law_693 : decode cL_law 693 = .ok (.goto 2711, 3) := by decide +kernel
theorem dL_law_696 : decode cL_law 696 = .ok (.aload_n 1, 1) := by decide +kernel
theorem dL_law_697 : decode cL_law 697 = .ok (.aload_n 0, 1) := by decide +kernel
theorem dL_law_698 : decode cL_law 698 = .ok (.iload 5, 2) := by decide +kernel
theorem dL_law_700 : decode cL_law 700 = .ok (.iconst 1, 1) := by decide +kernel
theorem dL_law_701 : decode cL_law 701 = .ok (.iadd, 1) := by decide +kernel
theorem dL_law_702 : decode cL_law 702 = .ok (.iaload, 1) := by decide +kernel
theorem dL_law_703 : decode cL_law 703 = .ok (.aload_n 0, 1) := by decide +kernel
theorem dL_law_704 : decode cL_law 704 = .ok (.iload 5, 2) := by decide +kernel
theorem dL_law_706 : decode cL_law 706 = .ok (.iconst 2, 1) := by decide +kernel
theorem dL_law_707 : decode cL_law 707 = .ok (.iadd, 1) := by decide +kernel
theorem dL_law_708 : decode cL_law 708 = .ok (.iaload, 1) := by decide +kernel
theorem dL_law_709 : decode cL_law 709 = .ok (.aload_n 3, 1) := by decide +kernel
theorem dL_law_710 : decode cL_law 710 = .ok (.invokestatic 217, 3) := by decide +kernel
theorem dL_law_713 : decode cL_law 713 = .ok (.istore 6, 2) := by decide +kernel
theorem dL_law_715 : decode cL_law 715 = .ok (.aload_n 2, 1) := by decide +kernel
theorem dL_law_716 : decode cL_law 716 = .ok (.aload_n 0, 1) := by decide +kernel
theorem dL_law_717 : decode cL_law 717 = .ok (.iload 5, 2) := by decide +kernel
theorem dL_law_719 : decode cL_law 719 = .ok (.iconst 1, 1) := by decide +kernel
theorem dL_law_720 : decode cL_law 720 = .ok (.iadd, 1) := by decide +kernel
theorem dL_law_721 : decode cL_law 721 = .ok (.iaload, 1) := by decide +kernel
theorem dL_law_722 : decode cL_law 722 = .ok (.aload_n 0, 1) := by decide +kernel
theorem dL_law_723 : decode cL_law 723 = .ok (.iload 5, 2) := by decide +kernel
theorem dL_law_725 : decode cL_law 725 = .ok (.iconst 2, 1) := by decide +kernel
theorem dL_law_726 : decode cL_law 726 = .ok (.iadd, 1) := by decide +kernel
theorem dL_law_727 : decode cL_law 727 = .ok (.iaload, 1) := by decide +kernel
theorem dL_law_728 : decode cL_law 728 = .ok (.invokevirtual 219, 3) := by decide +kernel
theorem dL_law_731 : decode cL_law 731 = .ok (.istore 7, 2) := by decide +kernel
theorem dL_law_733 : decode cL_law 733 = .ok (.aload_n 2, 1) := by decide +kernel
theorem dL_law_734 : decode cL_law 734 = .ok (.invokevirtual 189, 3) := by decide +kernel
theorem dL_law_737 : decode cL_law 737 = .ok (.iload 6, 2) := by decide +kernel
theorem dL_law_739 : decode cL_law 739 = .ok (.if_icmp .eq 5, 3) := by decide +kernel
theorem dL_law_742 : decode cL_law 742 = .ok (.iconst 0, 1) := by decide +kernel
theorem dL_law_743 : decode cL_law 743 = .ok (.ireturn, 1) := by decide +kernel
theorem dL_law_744 : decode cL_law 744 = .ok (.iload 6, 2) := by decide +kernel
theorem dL_law_746 : decode cL_law 746 = .ok (.ifCond .ne 15, 3) := by decide +kernel
theorem dL_law_749 : decode cL_law 749 = .ok (.aload_n 3, 1) := by decide +kernel
theorem dL_law_750 : decode cL_law 750 = .ok (.iconst 0, 1) := by decide +kernel
theorem dL_law_751 : decode cL_law 751 = .ok (.laload, 1) := by decide +kernel
theorem dL_law_752 : decode cL_law 752 = .ok (.iload 7, 2) := by decide +kernel
theorem dL_law_754 : decode cL_law 754 = .ok (.i2l, 1) := by decide +kernel
theorem dL_law_755 : decode cL_law 755 = .ok (.lcmp, 1) := by decide +kernel
theorem dL_law_756 : decode cL_law 756 = .ok (.ifCond .eq 5, 3) := by decide +kernel
theorem dL_law_759 : decode cL_law 759 = .ok (.iconst 0, 1) := by decide +kernel
theorem dL_law_760 : decode cL_law 760 = .ok (.ireturn, 1) := by decide +kernel
theorem dL_law_761 : decode cL_law 761 = .ok (.goto 2643, 3) := by decide +kernel
theorem dL_law_764 : decode cL_law 764 = .ok (.aload_n 1, 1) := by decide +kernel
theorem dL_law_765 : decode cL_law 765 = .ok (.aload_n 0, 1) := by decide +kernel
theorem dL_law_766 : decode cL_law 766 = .ok (.iload 5, 2) := by decide +kernel
theorem dL_law_768 : decode cL_law 768 = .ok (.iconst 1, 1) := by decide +kernel
theorem dL_law_769 : decode cL_law 769 = .ok (.iadd, 1) := by decide +kernel
theorem dL_law_770 : decode cL_law 770 = .ok (.iaload, 1) := by decide +kernel
theorem dL_law_771 : decode cL_law 771 = .ok (.aload_n 0, 1) := by decide +kernel
theorem dL_law_772 : decode cL_law 772 = .ok (.iload 5, 2) := by decide +kernel
theorem dL_law_774 : decode cL_law 774 = .ok (.iconst 2, 1) := by decide +kernel
theorem dL_law_775 : decode cL_law 775 = .ok (.iadd, 1) := by decide +kernel
theorem dL_law_776 : decode cL_law 776 = .ok (.iaload, 1) := by decide +kernel
theorem dL_law_777 : decode cL_law 777 = .ok (.aload_n 3, 1) := by decide +kernel
theorem dL_law_778 : decode cL_law 778 = .ok (.invokestatic 220, 3) := by decide +kernel
theorem dL_law_781 : decode cL_law 781 = .ok (.istore 6, 2) := by decide +kernel
theorem dL_law_783 : decode cL_law 783 = .ok (.aload_n 2, 1) := by decide +kernel
theorem dL_law_784 : decode cL_law 784 = .ok (.aload_n 0, 1) := by decide +kernel
theorem dL_law_785 : decode cL_law 785 = .ok (.iload 5, 2) := by decide +kernel
theorem dL_law_787 : decode cL_law 787 = .ok (.iconst 1, 1) := by decide +kernel
theorem dL_law_788 : decode cL_law 788 = .ok (.iadd, 1) := by decide +kernel
theorem dL_law_789 : decode cL_law 789 = .ok (.iaload, 1) := by decide +kernel
theorem dL_law_790 : decode cL_law 790 = .ok (.aload_n 0, 1) := by decide +kernel
theorem dL_law_791 : decode cL_law 791 = .ok (.iload 5, 2) := by decide +kernel
theorem dL_law_793 : decode cL_law 793 = .ok (.iconst 2, 1) := by decide +kernel
theorem dL_law_794 : decode cL_law 794 = .ok (.iadd, 1) := by decide +kernel
theorem dL_law_795 : decode cL_law 795 = .ok (.iaload, 1) := by decide +kernel
theorem dL_law_796 : decode cL_law 796 = .ok (.invokevirtual 222, 3) := by decide +kernel
theorem dL_law_799 : decode cL_law 799 = .ok (.istore 7, 2) := by decide +kernel
theorem dL_law_801 : decode cL_law 801 = .ok (.aload_n 2, 1) := by decide +kernel
theorem dL_law_802 : decode cL_law 802 = .ok (.invokevirtual 189, 3) := by decide +kernel
theorem dL_law_805 : decode cL_law 805 = .ok (.iload 6, 2) := by decide +kernel
theorem dL_law_807 : decode cL_law 807 = .ok (.if_icmp .eq 5, 3) := by decide +kernel
theorem dL_law_810 : decode cL_law 810 = .ok (.iconst 0, 1) := by decide +kernel
theorem dL_law_811 : decode cL_law 811 = .ok (.ireturn, 1) := by decide +kernel
theorem dL_law_812 : decode cL_law 812 = .ok (.iload 6, 2) := by decide +kernel
theorem dL_law_814 : decode cL_law 814 = .ok (.ifCond .ne 15, 3) := by decide +kernel
theorem dL_law_817 : decode cL_law 817 = .ok (.aload_n 3, 1) := by decide +kernel
theorem dL_law_818 : decode cL_law 818 = .ok (.iconst 0, 1) := by decide +kernel
theorem dL_law_819 : decode cL_law 819 = .ok (.laload, 1) := by decide +kernel
theorem dL_law_820 : decode cL_law 820 = .ok (.iload 7, 2) := by decide +kernel
theorem dL_law_822 : decode cL_law 822 = .ok (.i2l, 1) := by decide +kernel
theorem dL_law_823 : decode cL_law 823 = .ok (.lcmp, 1) := by decide +kernel
theorem dL_law_824 : decode cL_law 824 = .ok (.ifCond .eq 5, 3) := by decide +kernel
theorem dL_law_827 : decode cL_law 827 = .ok (.iconst 0, 1) := by decide +kernel
theorem dL_law_828 : decode cL_law 828 = .ok (.ireturn, 1) := by decide +kernel
theorem dL_law_829 : decode cL_law 829 = .ok (.goto 2575, 3) := by decide +kernel
theorem dL_law_832 : decode cL_law 832 = .ok (.aload_n 1, 1) := by decide +kernel
theorem dL_law_833 : decode cL_law 833 = .ok (.aload_n 0, 1) := by decide +kernel
theorem dL_law_834 : decode cL_law 834 = .ok (.iload 5, 2) := by decide +kernel
theorem dL_law_836 : decode cL_law 836 = .ok (.iconst 1, 1) := by decide +kernel
theorem dL_law_837 : decode cL_law 837 = .ok (.iadd, 1) := by decide +kernel
theorem dL_law_838 : decode cL_law 838 = .ok (.iaload, 1) := by decide +kernel
theorem dL_law_839 : decode cL_law 839 = .ok (.ifCond .eq 7, 3) := by decide +kernel
theorem dL_law_842 : decode cL_law 842 = .ok (.iconst 1, 1) := by decide +kernel
theorem dL_law_843 : decode cL_law 843 = .ok (.goto 4, 3) := by decide +kernel
theorem dL_law_846 : decode cL_law 846 = .ok (.iconst 0, 1) := by decide +kernel
theorem dL_law_847 : decode cL_law 847 = .ok (.aload_n 0, 1) := by decide +kernel
theorem dL_law_848 : decode cL_law 848 = .ok (.iload 5, 2) := by decide +kernel
theorem dL_law_850 : decode cL_law 850 = .ok (.iconst 2, 1) := by decide +kernel
theorem dL_law_851 : decode cL_law 851 = .ok (.iadd, 1) := by decide +kernel
theorem dL_law_852 : decode cL_law 852 = .ok (.iaload, 1) := by decide +kernel
theorem dL_law_853 : decode cL_law 853 = .ok (.aload_n 3, 1) := by decide +kernel
theorem dL_law_854 : decode cL_law 854 = .ok (.invokestatic 223, 3) := by decide +kernel
theorem dL_law_857 : decode cL_law 857 = .ok (.istore 6, 2) := by decide +kernel
theorem dL_law_859 : decode cL_law 859 = .ok (.aload_n 2, 1) := by decide +kernel
theorem dL_law_860 : decode cL_law 860 = .ok (.aload_n 0, 1) := by decide +kernel
theorem dL_law_861 : decode cL_law 861 = .ok (.iload 5, 2) := by decide +kernel
theorem dL_law_863 : decode cL_law 863 = .ok (.iconst 1, 1) := by decide +kernel
theorem dL_law_864 : decode cL_law 864 = .ok (.iadd, 1) := by decide +kernel
theorem dL_law_865 : decode cL_law 865 = .ok (.iaload, 1) := by decide +kernel
theorem dL_law_866 : decode cL_law 866 = .ok (.ifCond .eq 7, 3) := by decide +kernel
theorem dL_law_869 : decode cL_law 869 = .ok (.iconst 1, 1) := by decide +kernel
theorem dL_law_870 : decode cL_law 870 = .ok (.goto 4, 3) := by decide +kernel
theorem dL_law_873 : decode cL_law 873 = .ok (.iconst 0, 1) := by decide +kernel
theorem dL_law_874 : decode cL_law 874 = .ok (.aload_n 0, 1) := by decide +kernel
theorem dL_law_875 : decode cL_law 875 = .ok (.iload 5, 2) := by decide +kernel
theorem dL_law_877 : decode cL_law 877 = .ok (.iconst 2, 1) := by decide +kernel
theorem dL_law_878 : decode cL_law 878 = .ok (.iadd, 1) := by decide +kernel
theorem dL_law_879 : decode cL_law 879 = .ok (.iaload, 1) := by decide +kernel
theorem dL_law_880 : decode cL_law 880 = .ok (.invokevirtual 226, 3) := by decide +kernel
theorem dL_law_883 : decode cL_law 883 = .ok (.istore 7, 2) := by decide +kernel
theorem dL_law_885 : decode cL_law 885 = .ok (.aload_n 2, 1) := by decide +kernel
theorem dL_law_886 : decode cL_law 886 = .ok (.invokevirtual 189, 3) := by decide +kernel
theorem dL_law_889 : decode cL_law 889 = .ok (.iload 6, 2) := by decide +kernel
theorem dL_law_891 : decode cL_law 891 = .ok (.if_icmp .eq 5, 3) := by decide +kernel
theorem dL_law_894 : decode cL_law 894 = .ok (.iconst 0, 1) := by decide +kernel
theorem dL_law_895 : decode cL_law 895 = .ok (.ireturn, 1) := by decide +kernel
theorem dL_law_896 : decode cL_law 896 = .ok (.iload 6, 2) := by decide +kernel
theorem dL_law_898 : decode cL_law 898 = .ok (.ifCond .ne 15, 3) := by decide +kernel
theorem dL_law_901 : decode cL_law 901 = .ok (.aload_n 3, 1) := by decide +kernel
theorem dL_law_902 : decode cL_law 902 = .ok (.iconst 0, 1) := by decide +kernel
theorem dL_law_903 : decode cL_law 903 = .ok (.laload, 1) := by decide +kernel
theorem dL_law_904 : decode cL_law 904 = .ok (.iload 7, 2) := by decide +kernel
theorem dL_law_906 : decode cL_law 906 = .ok (.i2l, 1) := by decide +kernel
theorem dL_law_907 : decode cL_law 907 = .ok (.lcmp, 1) := by decide +kernel
theorem dL_law_908 : decode cL_law 908 = .ok (.ifCond .eq 5, 3) := by decide +kernel
theorem dL_law_911 : decode cL_law 911 = .ok (.iconst 0, 1) := by decide +kernel
theorem dL_law_912 : decode cL_law 912 = .ok (.ireturn, 1) := by decide +kernel
theorem dL_law_913 : decode cL_law 913 = .ok (.goto 2491, 3) := by decide +kernel
theorem dL_law_916 : decode cL_law 916 = .ok (.aload_n 1, 1) := by decide +kernel
theorem dL_law_917 : decode cL_law 917 = .ok (.aload_n 0, 1) := by decide +kernel
theorem dL_law_918 : decode cL_law 918 = .ok (.iload 5, 2) := by decide +kernel
theorem dL_law_920 : decode cL_law 920 = .ok (.iconst 1, 1) := by decide +kernel
theorem dL_law_921 : decode cL_law 921 = .ok (.iadd, 1) := by decide +kernel
theorem dL_law_922 : decode cL_law 922 = .ok (.iaload, 1) := by decide +kernel
theorem dL_law_923 : decode cL_law 923 = .ok (.aload_n 3, 1) := by decide +kernel
theorem dL_law_924 : decode cL_law 924 = .ok (.invokestatic 227, 3) := by decide +kernel
theorem dL_law_927 : decode cL_law 927 = .ok (.istore 6, 2) := by decide +kernel
theorem dL_law_929 : decode cL_law 929 = .ok (.aload_n 2, 1) := by decide +kernel
theorem dL_law_930 : decode cL_law 930 = .ok (.aload_n 0, 1) := by decide +kernel
theorem dL_law_931 : decode cL_law 931 = .ok (.iload 5, 2) := by decide +kernel
theorem dL_law_933 : decode cL_law 933 = .ok (.iconst 1, 1) := by decide +kernel
theorem dL_law_934 : decode cL_law 934 = .ok (.iadd, 1) := by decide +kernel
theorem dL_law_935 : decode cL_law 935 = .ok (.iaload, 1) := by decide +kernel
theorem dL_law_936 : decode cL_law 936 = .ok (.invokevirtual 229, 3) := by decide +kernel
theorem dL_law_939 : decode cL_law 939 = .ok (.istore 7, 2) := by decide +kernel
theorem dL_law_941 : decode cL_law 941 = .ok (.aload_n 2, 1) := by decide +kernel
theorem dL_law_942 : decode cL_law 942 = .ok (.invokevirtual 189, 3) := by decide +kernel
theorem dL_law_945 : decode cL_law 945 = .ok (.iload 6, 2) := by decide +kernel
theorem dL_law_947 : decode cL_law 947 = .ok (.if_icmp .eq 5, 3) := by decide +kernel
theorem dL_law_950 : decode cL_law 950 = .ok (.iconst 0, 1) := by decide +kernel
theorem dL_law_951 : decode cL_law 951 = .ok (.ireturn, 1) := by decide +kernel
theorem dL_law_952 : decode cL_law 952 = .ok (.iload 6, 2) := by decide +kernel
theorem dL_law_954 : decode cL_law 954 = .ok (.ifCond .ne 22, 3) := by decide +kernel
theorem dL_law_957 : decode cL_law 957 = .ok (.aload_n 3, 1) := by decide +kernel
theorem dL_law_958 : decode cL_law 958 = .ok (.iconst 0, 1) := by decide +kernel
theorem dL_law_959 : decode cL_law 959 = .ok (.laload, 1) := by decide +kernel
theorem dL_law_960 : decode cL_law 960 = .ok (.iload 7, 2) := by decide +kernel
theorem dL_law_962 : decode cL_law 962 = .ok (.ifCond .eq 7, 3) := by decide +kernel
theorem dL_law_965 : decode cL_law 965 = .ok (.lconst 1, 1) := by decide +kernel
theorem dL_law_966 : decode cL_law 966 = .ok (.goto 4, 3) := by decide +kernel
theorem dL_law_969 : decode cL_law 969 = .ok (.lconst 0, 1) := by decide +kernel
theorem dL_law_970 : decode cL_law 970 = .ok (.lcmp, 1) := by decide +kernel
theorem dL_law_971 : decode cL_law 971 = .ok (.ifCond .eq 5, 3) := by decide +kernel
theorem dL_law_974 : decode cL_law 974 = .ok (.iconst 0, 1) := by decide +kernel
theorem dL_law_975 : decode cL_law 975 = .ok (.ireturn, 1) := by decide +kernel
theorem dL_law_976 : decode cL_law 976 = .ok (.goto 2428, 3) := by decide +kernel
theorem dL_law_979 : decode cL_law 979 = .ok (.aload_n 1, 1) := by decide +kernel
theorem dL_law_980 : decode cL_law 980 = .ok (.aload_n 3, 1) := by decide +kernel
theorem dL_law_981 : decode cL_law 981 = .ok (.invokestatic 230, 3) := by decide +kernel
theorem dL_law_984 : decode cL_law 984 = .ok (.istore 6, 2) := by decide +kernel
theorem dL_law_986 : decode cL_law 986 = .ok (.aload_n 2, 1) := by decide +kernel
theorem dL_law_987 : decode cL_law 987 = .ok (.invokevirtual 233, 3) := by decide +kernel
theorem dL_law_990 : decode cL_law 990 = .ok (.istore 7, 2) := by decide +kernel
theorem dL_law_992 : decode cL_law 992 = .ok (.aload_n 2, 1) := by decide +kernel
theorem dL_law_993 : decode cL_law 993 = .ok (.invokevirtual 189, 3) := by decide +kernel
theorem dL_law_996 : decode cL_law 996 = .ok (.iload 6, 2) := by decide +kernel
theorem dL_law_998 : decode cL_law 998 = .ok (.if_icmp .eq 5, 3) := by decide +kernel
theorem dL_law_1001 : decode cL_law 1001 = .ok (.iconst 0, 1) := by decide +kernel
theorem dL_law_1002 : decode cL_law 1002 = .ok (.ireturn, 1) := by decide +kernel
theorem dL_law_1003 : decode cL_law 1003 = .ok (.iload 6, 2) := by decide +kernel
theorem dL_law_1005 : decode cL_law 1005 = .ok (.ifCond .ne 15, 3) := by decide +kernel
theorem dL_law_1008 : decode cL_law 1008 = .ok (.aload_n 3, 1) := by decide +kernel
theorem dL_law_1009 : decode cL_law 1009 = .ok (.iconst 0, 1) := by decide +kernel
theorem dL_law_1010 : decode cL_law 1010 = .ok (.laload, 1) := by decide +kernel
theorem dL_law_1011 : decode cL_law 1011 = .ok (.iload 7, 2) := by decide +kernel
theorem dL_law_1013 : decode cL_law 1013 = .ok (.i2l, 1) := by decide +kernel
theorem dL_law_1014 : decode cL_law 1014 = .ok (.lcmp, 1) := by decide +kernel
theorem dL_law_1015 : decode cL_law 1015 = .ok (.ifCond .eq 5, 3) := by decide +kernel
theorem dL_law_1018 : decode cL_law 1018 = .ok (.iconst 0, 1) := by decide +kernel
theorem dL_law_1019 : decode cL_law 1019 = .ok (.ireturn, 1) := by decide +kernel
theorem dL_law_1020 : decode cL_law 1020 = .ok (.goto 2384, 3) := by decide +kernel
theorem dL_law_1023 : decode cL_law 1023 = .ok (.aload_n 1, 1) := by decide +kernel
theorem dL_law_1024 : decode cL_law 1024 = .ok (.aload_n 3, 1) := by decide +kernel
theorem dL_law_1025 : decode cL_law 1025 = .ok (.invokestatic 234, 3) := by decide +kernel
theorem dL_law_1028 : decode cL_law 1028 = .ok (.istore 6, 2) := by decide +kernel
theorem dL_law_1030 : decode cL_law 1030 = .ok (.aload_n 2, 1) := by decide +kernel
theorem dL_law_1031 : decode cL_law 1031 = .ok (.invokevirtual 236, 3) := by decide +kernel
theorem dL_law_1034 : decode cL_law 1034 = .ok (.istore 7, 2) := by decide +kernel
theorem dL_law_1036 : decode cL_law 1036 = .ok (.aload_n 2, 1) := by decide +kernel
theorem dL_law_1037 : decode cL_law 1037 = .ok (.invokevirtual 189, 3) := by decide +kernel
theorem dL_law_1040 : decode cL_law 1040 = .ok (.iload 6, 2) := by decide +kernel
theorem dL_law_1042 : decode cL_law 1042 = .ok (.if_icmp .eq 5, 3) := by decide +kernel
theorem dL_law_1045 : decode cL_law 1045 = .ok (.iconst 0, 1) := by decide +kernel
theorem dL_law_1046 : decode cL_law 1046 = .ok (.ireturn, 1) := by decide +kernel
theorem dL_law_1047 : decode cL_law 1047 = .ok (.iload 6, 2) := by decide +kernel
theorem dL_law_1049 : decode cL_law 1049 = .ok (.ifCond .ne 15, 3) := by decide +kernel
theorem dL_law_1052 : decode cL_law 1052 = .ok (.aload_n 3, 1) := by decide +kernel
theorem dL_law_1053 : decode cL_law 1053 = .ok (.iconst 0, 1) := by decide +kernel
theorem dL_law_1054 : decode cL_law 1054 = .ok (.laload, 1) := by decide +kernel
theorem dL_law_1055 : decode cL_law 1055 = .ok (.iload 7, 2) := by decide +kernel
theorem dL_law_1057 : decode cL_law 1057 = .ok (.i2l, 1) := by decide +kernel
theorem dL_law_1058 : decode cL_law 1058 = .ok (.lcmp, 1) := by decide +kernel
theorem dL_law_1059 : decode cL_law 1059 = .ok (.ifCond .eq 5, 3) := by decide +kernel
theorem dL_law_1062 : decode cL_law 1062 = .ok (.iconst 0, 1) := by decide +kernel
theorem dL_law_1063 : decode cL_law 1063 = .ok (.ireturn, 1) := by decide +kernel
theorem dL_law_1064 : decode cL_law 1064 = .ok (.goto 2340, 3) := by decide +kernel
theorem dL_law_1067 : decode cL_law 1067 = .ok (.aload_n 1, 1) := by decide +kernel
theorem dL_law_1068 : decode cL_law 1068 = .ok (.aload_n 3, 1) := by decide +kernel
theorem dL_law_1069 : decode cL_law 1069 = .ok (.invokestatic 237, 3) := by decide +kernel
theorem dL_law_1072 : decode cL_law 1072 = .ok (.istore 6, 2) := by decide +kernel
theorem dL_law_1074 : decode cL_law 1074 = .ok (.aload_n 2, 1) := by decide +kernel
theorem dL_law_1075 : decode cL_law 1075 = .ok (.invokevirtual 239, 3) := by decide +kernel
theorem dL_law_1078 : decode cL_law 1078 = .ok (.istore 7, 2) := by decide +kernel
theorem dL_law_1080 : decode cL_law 1080 = .ok (.aload_n 2, 1) := by decide +kernel
theorem dL_law_1081 : decode cL_law 1081 = .ok (.invokevirtual 189, 3) := by decide +kernel
theorem dL_law_1084 : decode cL_law 1084 = .ok (.iload 6, 2) := by decide +kernel
theorem dL_law_1086 : decode cL_law 1086 = .ok (.if_icmp .eq 5, 3) := by decide +kernel
theorem dL_law_1089 : decode cL_law 1089 = .ok (.iconst 0, 1) := by decide +kernel
theorem dL_law_1090 : decode cL_law 1090 = .ok (.ireturn, 1) := by decide +kernel
theorem dL_law_1091 : decode cL_law 1091 = .ok (.iload 6, 2) := by decide +kernel
theorem dL_law_1093 : decode cL_law 1093 = .ok (.ifCond .ne 15, 3) := by decide +kernel
theorem dL_law_1096 : decode cL_law 1096 = .ok (.aload_n 3, 1) := by decide +kernel
theorem dL_law_1097 : decode cL_law 1097 = .ok (.iconst 0, 1) := by decide +kernel
theorem dL_law_1098 : decode cL_law 1098 = .ok (.laload, 1) := by decide +kernel
theorem dL_law_1099 : decode cL_law 1099 = .ok (.iload 7, 2) := by decide +kernel
theorem dL_law_1101 : decode cL_law 1101 = .ok (.i2l, 1) := by decide +kernel
theorem dL_law_1102 : decode cL_law 1102 = .ok (.lcmp, 1) := by decide +kernel
theorem dL_law_1103 : decode cL_law 1103 = .ok (.ifCond .eq 5, 3) := by decide +kernel
theorem dL_law_1106 : decode cL_law 1106 = .ok (.iconst 0, 1) := by decide +kernel
theorem dL_law_1107 : decode cL_law 1107 = .ok (.ireturn, 1) := by decide +kernel
theorem dL_law_1108 : decode cL_law 1108 = .ok (.goto 2296, 3) := by decide +kernel
theorem dL_law_1111 : decode cL_law 1111 = .ok (.aload_n 1, 1) := by decide +kernel
theorem dL_law_1112 : decode cL_law 1112 = .ok (.aload_n 3, 1) := by decide +kernel
theorem dL_law_1113 : decode cL_law 1113 = .ok (.invokestatic 240, 3) := by decide +kernel
theorem dL_law_1116 : decode cL_law 1116 = .ok (.istore 6, 2) := by decide +kernel
theorem dL_law_1118 : decode cL_law 1118 = .ok (.aload_n 2, 1) := by decide +kernel
theorem dL_law_1119 : decode cL_law 1119 = .ok (.invokevirtual 242, 3) := by decide +kernel
theorem dL_law_1122 : decode cL_law 1122 = .ok (.istore 7, 2) := by decide +kernel
theorem dL_law_1124 : decode cL_law 1124 = .ok (.aload_n 2, 1) := by decide +kernel
theorem dL_law_1125 : decode cL_law 1125 = .ok (.invokevirtual 189, 3) := by decide +kernel
theorem dL_law_1128 : decode cL_law 1128 = .ok (.iload 6, 2) := by decide +kernel
theorem dL_law_1130 : decode cL_law 1130 = .ok (.if_icmp .eq 5, 3) := by decide +kernel
theorem dL_law_1133 : decode cL_law 1133 = .ok (.iconst 0, 1) := by decide +kernel
theorem dL_law_1134 : decode cL_law 1134 = .ok (.ireturn, 1) := by decide +kernel
theorem dL_law_1135 : decode cL_law 1135 = .ok (.iload 6, 2) := by decide +kernel
theorem dL_law_1137 : decode cL_law 1137 = .ok (.ifCond .ne 15, 3) := by decide +kernel
theorem dL_law_1140 : decode cL_law 1140 = .ok (.aload_n 3, 1) := by decide +kernel
theorem dL_law_1141 : decode cL_law 1141 = .ok (.iconst 0, 1) := by decide +kernel
theorem dL_law_1142 : decode cL_law 1142 = .ok (.laload, 1) := by decide +kernel
theorem dL_law_1143 : decode cL_law 1143 = .ok (.iload 7, 2) := by decide +kernel
theorem dL_law_1145 : decode cL_law 1145 = .ok (.i2l, 1) := by decide +kernel
theorem dL_law_1146 : decode cL_law 1146 = .ok (.lcmp, 1) := by decide +kernel
theorem dL_law_1147 : decode cL_law 1147 = .ok (.ifCond .eq 5, 3) := by decide +kernel
theorem dL_law_1150 : decode cL_law 1150 = .ok (.iconst 0, 1) := by decide +kernel
theorem dL_law_1151 : decode cL_law 1151 = .ok (.ireturn, 1) := by decide +kernel
theorem dL_law_1152 : decode cL_law 1152 = .ok (.goto 2252, 3) := by decide +kernel
theorem dL_law_1155 : decode cL_law 1155 = .ok (.aload_n 1, 1) := by decide +kernel
theorem dL_law_1156 : decode cL_law 1156 = .ok (.aload 4, 2) := by decide +kernel
theorem dL_law_1158 : decode cL_law 1158 = .ok (.invokestatic 243, 3) := by decide +kernel
theorem dL_law_1161 : decode cL_law 1161 = .ok (.istore 6, 2) := by decide +kernel
theorem dL_law_1163 : decode cL_law 1163 = .ok (.aload_n 2, 1) := by decide +kernel
theorem dL_law_1164 : decode cL_law 1164 = .ok (.invokevirtual 246, 3) := by decide +kernel
theorem dL_law_1167 : decode cL_law 1167 = .ok (.dstore 7, 2) := by decide +kernel
theorem dL_law_1169 : decode cL_law 1169 = .ok (.aload_n 2, 1) := by decide +kernel
theorem dL_law_1170 : decode cL_law 1170 = .ok (.invokevirtual 189, 3) := by decide +kernel
theorem dL_law_1173 : decode cL_law 1173 = .ok (.iload 6, 2) := by decide +kernel
theorem dL_law_1175 : decode cL_law 1175 = .ok (.if_icmp .eq 5, 3) := by decide +kernel
theorem dL_law_1178 : decode cL_law 1178 = .ok (.iconst 0, 1) := by decide +kernel
theorem dL_law_1179 : decode cL_law 1179 = .ok (.ireturn, 1) := by decide +kernel
theorem dL_law_1180 : decode cL_law 1180 = .ok (.iload 6, 2) := by decide +kernel
theorem dL_law_1182 : decode cL_law 1182 = .ok (.ifCond .ne 35, 3) := by decide +kernel
theorem dL_law_1185 : decode cL_law 1185 = .ok (.aload 4, 2) := by decide +kernel
theorem dL_law_1187 : decode cL_law 1187 = .ok (.iconst 0, 1) := by decide +kernel
theorem dL_law_1188 : decode cL_law 1188 = .ok (.daload, 1) := by decide +kernel
theorem dL_law_1189 : decode cL_law 1189 = .ok (.dload 7, 2) := by decide +kernel
theorem dL_law_1191 : decode cL_law 1191 = .ok (.dcmp .l, 1) := by decide +kernel
theorem dL_law_1192 : decode cL_law 1192 = .ok (.ifCond .eq 25, 3) := by decide +kernel
theorem dL_law_1195 : decode cL_law 1195 = .ok (.aload 4, 2) := by decide +kernel
theorem dL_law_1197 : decode cL_law 1197 = .ok (.iconst 0, 1) := by decide +kernel
theorem dL_law_1198 : decode cL_law 1198 = .ok (.daload, 1) := by decide +kernel
theorem dL_law_1199 : decode cL_law 1199 = .ok (.aload 4, 2) := by decide +kernel
theorem dL_law_1201 : decode cL_law 1201 = .ok (.iconst 0, 1) := by decide +kernel
theorem dL_law_1202 : decode cL_law 1202 = .ok (.daload, 1) := by decide +kernel
theorem dL_law_1203 : decode cL_law 1203 = .ok (.dcmp .l, 1) := by decide +kernel
theorem dL_law_1204 : decode cL_law 1204 = .ok (.ifCond .eq 11, 3) := by decide +kernel
theorem dL_law_1207 : decode cL_law 1207 = .ok (.dload 7, 2) := by decide +kernel
theorem dL_law_1209 : decode cL_law 1209 = .ok (.dload 7, 2) := by decide +kernel
theorem dL_law_1211 : decode cL_law 1211 = .ok (.dcmp .l, 1) := by decide +kernel
theorem dL_law_1212 : decode cL_law 1212 = .ok (.ifCond .ne 5, 3) := by decide +kernel
theorem dL_law_1215 : decode cL_law 1215 = .ok (.iconst 0, 1) := by decide +kernel
theorem dL_law_1216 : decode cL_law 1216 = .ok (.ireturn, 1) := by decide +kernel
theorem dL_law_1217 : decode cL_law 1217 = .ok (.goto 2187, 3) := by decide +kernel
theorem dL_law_1220 : decode cL_law 1220 = .ok (.aload_n 1, 1) := by decide +kernel
theorem dL_law_1221 : decode cL_law 1221 = .ok (.aload 4, 2) := by decide +kernel
theorem dL_law_1223 : decode cL_law 1223 = .ok (.invokestatic 247, 3) := by decide +kernel
theorem dL_law_1226 : decode cL_law 1226 = .ok (.istore 6, 2) := by decide +kernel
theorem dL_law_1228 : decode cL_law 1228 = .ok (.aload_n 2, 1) := by decide +kernel
theorem dL_law_1229 : decode cL_law 1229 = .ok (.invokevirtual 249, 3) := by decide +kernel
theorem dL_law_1232 : decode cL_law 1232 = .ok (.fstore 7, 2) := by decide +kernel
theorem dL_law_1234 : decode cL_law 1234 = .ok (.aload_n 2, 1) := by decide +kernel
theorem dL_law_1235 : decode cL_law 1235 = .ok (.invokevirtual 189, 3) := by decide +kernel
theorem dL_law_1238 : decode cL_law 1238 = .ok (.iload 6, 2) := by decide +kernel
theorem dL_law_1240 : decode cL_law 1240 = .ok (.if_icmp .eq 5, 3) := by decide +kernel
theorem dL_law_1243 : decode cL_law 1243 = .ok (.iconst 0, 1) := by decide +kernel
theorem dL_law_1244 : decode cL_law 1244 = .ok (.ireturn, 1) := by decide +kernel
theorem dL_law_1245 : decode cL_law 1245 = .ok (.iload 6, 2) := by decide +kernel
theorem dL_law_1247 : decode cL_law 1247 = .ok (.ifCond .ne 36, 3) := by decide +kernel
theorem dL_law_1250 : decode cL_law 1250 = .ok (.aload 4, 2) := by decide +kernel
theorem dL_law_1252 : decode cL_law 1252 = .ok (.iconst 0, 1) := by decide +kernel
theorem dL_law_1253 : decode cL_law 1253 = .ok (.daload, 1) := by decide +kernel
theorem dL_law_1254 : decode cL_law 1254 = .ok (.fload 7, 2) := by decide +kernel
theorem dL_law_1256 : decode cL_law 1256 = .ok (.f2d, 1) := by decide +kernel
theorem dL_law_1257 : decode cL_law 1257 = .ok (.dcmp .l, 1) := by decide +kernel
theorem dL_law_1258 : decode cL_law 1258 = .ok (.ifCond .eq 25, 3) := by decide +kernel
theorem dL_law_1261 : decode cL_law 1261 = .ok (.aload 4, 2) := by decide +kernel
theorem dL_law_1263 : decode cL_law 1263 = .ok (.iconst 0, 1) := by decide +kernel
theorem dL_law_1264 : decode cL_law 1264 = .ok (.daload, 1) := by decide +kernel
theorem dL_law_1265 : decode cL_law 1265 = .ok (.aload 4, 2) := by decide +kernel
theorem dL_law_1267 : decode cL_law 1267 = .ok (.iconst 0, 1) := by decide +kernel
theorem dL_law_1268 : decode cL_law 1268 = .ok (.daload, 1) := by decide +kernel
theorem dL_law_1269 : decode cL_law 1269 = .ok (.dcmp .l, 1) := by decide +kernel
theorem dL_law_1270 : decode cL_law 1270 = .ok (.ifCond .eq 11, 3) := by decide +kernel
theorem dL_law_1273 : decode cL_law 1273 = .ok (.fload 7, 2) := by decide +kernel
theorem dL_law_1275 : decode cL_law 1275 = .ok (.fload 7, 2) := by decide +kernel
theorem dL_law_1277 : decode cL_law 1277 = .ok (.fcmp .l, 1) := by decide +kernel
theorem dL_law_1278 : decode cL_law 1278 = .ok (.ifCond .ne 5, 3) := by decide +kernel
theorem dL_law_1281 : decode cL_law 1281 = .ok (.iconst 0, 1) := by decide +kernel
theorem dL_law_1282 : decode cL_law 1282 = .ok (.ireturn, 1) := by decide +kernel
theorem dL_law_1283 : decode cL_law 1283 = .ok (.goto 2121, 3) := by decide +kernel
theorem dL_law_1286 : decode cL_law 1286 = .ok (.aload_n 1, 1) := by decide +kernel
theorem dL_law_1287 : decode cL_law 1287 = .ok (.aload 4, 2) := by decide +kernel
theorem dL_law_1289 : decode cL_law 1289 = .ok (.invokestatic 250, 3) := by decide +kernel
theorem dL_law_1292 : decode cL_law 1292 = .ok (.istore 6, 2) := by decide +kernel
theorem dL_law_1294 : decode cL_law 1294 = .ok (.aload_n 2, 1) := by decide +kernel
theorem dL_law_1295 : decode cL_law 1295 = .ok (.invokevirtual 252, 3) := by decide +kernel
theorem dL_law_1298 : decode cL_law 1298 = .ok (.fstore 7, 2) := by decide +kernel
theorem dL_law_1300 : decode cL_law 1300 = .ok (.aload_n 2, 1) := by decide +kernel
theorem dL_law_1301 : decode cL_law 1301 = .ok (.invokevirtual 189, 3) := by decide +kernel
theorem dL_law_1304 : decode cL_law 1304 = .ok (.iload 6, 2) := by decide +kernel
theorem dL_law_1306 : decode cL_law 1306 = .ok (.if_icmp .eq 5, 3) := by decide +kernel
theorem dL_law_1309 : decode cL_law 1309 = .ok (.iconst 0, 1) := by decide +kernel
theorem dL_law_1310 : decode cL_law 1310 = .ok (.ireturn, 1) := by decide +kernel
theorem dL_law_1311 : decode cL_law 1311 = .ok (.iload 6, 2) := by decide +kernel
theorem dL_law_1313 : decode cL_law 1313 = .ok (.ifCond .ne 36, 3) := by decide +kernel
theorem dL_law_1316 : decode cL_law 1316 = .ok (.aload 4, 2) := by decide +kernel
theorem dL_law_1318 : decode cL_law 1318 = .ok (.iconst 0, 1) := by decide +kernel
theorem dL_law_1319 : decode cL_law 1319 = .ok (.daload, 1) := by decide +kernel
theorem dL_law_1320 : decode cL_law 1320 = .ok (.fload 7, 2) := by decide +kernel
theorem dL_law_1322 : decode cL_law 1322 = .ok (.f2d, 1) := by decide +kernel
theorem dL_law_1323 : decode cL_law 1323 = .ok (.dcmp .l, 1) := by decide +kernel
theorem dL_law_1324 : decode cL_law 1324 = .ok (.ifCond .eq 25, 3) := by decide +kernel
theorem dL_law_1327 : decode cL_law 1327 = .ok (.aload 4, 2) := by decide +kernel
theorem dL_law_1329 : decode cL_law 1329 = .ok (.iconst 0, 1) := by decide +kernel
theorem dL_law_1330 : decode cL_law 1330 = .ok (.daload, 1) := by decide +kernel
theorem dL_law_1331 : decode cL_law 1331 = .ok (.aload 4, 2) := by decide +kernel
theorem dL_law_1333 : decode cL_law 1333 = .ok (.iconst 0, 1) := by decide +kernel
theorem dL_law_1334 : decode cL_law 1334 = .ok (.daload, 1) := by decide +kernel
theorem dL_law_1335 : decode cL_law 1335 = .ok (.dcmp .l, 1) := by decide +kernel
theorem dL_law_1336 : decode cL_law 1336 = .ok (.ifCond .eq 11, 3) := by decide +kernel
theorem dL_law_1339 : decode cL_law 1339 = .ok (.fload 7, 2) := by decide +kernel
theorem dL_law_1341 : decode cL_law 1341 = .ok (.fload 7, 2) := by decide +kernel
theorem dL_law_1343 : decode cL_law 1343 = .ok (.fcmp .l, 1) := by decide +kernel
theorem dL_law_1344 : decode cL_law 1344 = .ok (.ifCond .ne 5, 3) := by decide +kernel
theorem dL_law_1347 : decode cL_law 1347 = .ok (.iconst 0, 1) := by decide +kernel
theorem dL_law_1348 : decode cL_law 1348 = .ok (.ireturn, 1) := by decide +kernel
theorem dL_law_1349 : decode cL_law 1349 = .ok (.goto 2055, 3) := by decide +kernel
theorem dL_law_1352 : decode cL_law 1352 = .ok (.aload_n 1, 1) := by decide +kernel
theorem dL_law_1353 : decode cL_law 1353 = .ok (.aload_n 0, 1) := by decide +kernel
theorem dL_law_1354 : decode cL_law 1354 = .ok (.iload 5, 2) := by decide +kernel
theorem dL_law_1356 : decode cL_law 1356 = .ok (.iconst 1, 1) := by decide +kernel
theorem dL_law_1357 : decode cL_law 1357 = .ok (.iadd, 1) := by decide +kernel
theorem dL_law_1358 : decode cL_law 1358 = .ok (.iaload, 1) := by decide +kernel
theorem dL_law_1359 : decode cL_law 1359 = .ok (.aload_n 0, 1) := by decide +kernel
theorem dL_law_1360 : decode cL_law 1360 = .ok (.iload 5, 2) := by decide +kernel
theorem dL_law_1362 : decode cL_law 1362 = .ok (.iconst 2, 1) := by decide +kernel
theorem dL_law_1363 : decode cL_law 1363 = .ok (.iadd, 1) := by decide +kernel
theorem dL_law_1364 : decode cL_law 1364 = .ok (.iaload, 1) := by decide +kernel
theorem dL_law_1365 : decode cL_law 1365 = .ok (.aload_n 3, 1) := by decide +kernel
theorem dL_law_1366 : decode cL_law 1366 = .ok (.invokestatic 253, 3) := by decide +kernel
theorem dL_law_1369 : decode cL_law 1369 = .ok (.istore 6, 2) := by decide +kernel
theorem dL_law_1371 : decode cL_law 1371 = .ok (.aload_n 2, 1) := by decide +kernel
theorem dL_law_1372 : decode cL_law 1372 = .ok (.aload_n 0, 1) := by decide +kernel
theorem dL_law_1373 : decode cL_law 1373 = .ok (.iload 5, 2) := by decide +kernel
theorem dL_law_1375 : decode cL_law 1375 = .ok (.iconst 1, 1) := by decide +kernel
theorem dL_law_1376 : decode cL_law 1376 = .ok (.iadd, 1) := by decide +kernel
theorem dL_law_1377 : decode cL_law 1377 = .ok (.iaload, 1) := by decide +kernel
theorem dL_law_1378 : decode cL_law 1378 = .ok (.aload_n 0, 1) := by decide +kernel
theorem dL_law_1379 : decode cL_law 1379 = .ok (.iload 5, 2) := by decide +kernel
theorem dL_law_1381 : decode cL_law 1381 = .ok (.iconst 2, 1) := by decide +kernel
theorem dL_law_1382 : decode cL_law 1382 = .ok (.iadd, 1) := by decide +kernel
theorem dL_law_1383 : decode cL_law 1383 = .ok (.iaload, 1) := by decide +kernel
theorem dL_law_1384 : decode cL_law 1384 = .ok (.invokevirtual 255, 3) := by decide +kernel
theorem dL_law_1387 : decode cL_law 1387 = .ok (.istore 7, 2) := by decide +kernel
theorem dL_law_1389 : decode cL_law 1389 = .ok (.aload_n 2, 1) := by decide +kernel
theorem dL_law_1390 : decode cL_law 1390 = .ok (.invokevirtual 189, 3) := by decide +kernel
theorem dL_law_1393 : decode cL_law 1393 = .ok (.iload 6, 2) := by decide +kernel
theorem dL_law_1395 : decode cL_law 1395 = .ok (.if_icmp .eq 5, 3) := by decide +kernel
theorem dL_law_1398 : decode cL_law 1398 = .ok (.iconst 0, 1) := by decide +kernel
theorem dL_law_1399 : decode cL_law 1399 = .ok (.ireturn, 1) := by decide +kernel
theorem dL_law_1400 : decode cL_law 1400 = .ok (.iload 6, 2) := by decide +kernel
theorem dL_law_1402 : decode cL_law 1402 = .ok (.ifCond .ne 15, 3) := by decide +kernel
theorem dL_law_1405 : decode cL_law 1405 = .ok (.aload_n 3, 1) := by decide +kernel
theorem dL_law_1406 : decode cL_law 1406 = .ok (.iconst 0, 1) := by decide +kernel
theorem dL_law_1407 : decode cL_law 1407 = .ok (.laload, 1) := by decide +kernel
theorem dL_law_1408 : decode cL_law 1408 = .ok (.iload 7, 2) := by decide +kernel
theorem dL_law_1410 : decode cL_law 1410 = .ok (.i2l, 1) := by decide +kernel
theorem dL_law_1411 : decode cL_law 1411 = .ok (.lcmp, 1) := by decide +kernel
theorem dL_law_1412 : decode cL_law 1412 = .ok (.ifCond .eq 5, 3) := by decide +kernel
theorem dL_law_1415 : decode cL_law 1415 = .ok (.iconst 0, 1) := by decide +kernel
theorem dL_law_1416 : decode cL_law 1416 = .ok (.ireturn, 1) := by decide +kernel
theorem dL_law_1417 : decode cL_law 1417 = .ok (.goto 1987, 3) := by decide +kernel
theorem dL_law_1420 : decode cL_law 1420 = .ok (.aload_n 1, 1) := by decide +kernel
theorem dL_law_1421 : decode cL_law 1421 = .ok (.aload_n 0, 1) := by decide +kernel
theorem dL_law_1422 : decode cL_law 1422 = .ok (.iload 5, 2) := by decide +kernel
theorem dL_law_1424 : decode cL_law 1424 = .ok (.iconst 1, 1) := by decide +kernel
theorem dL_law_1425 : decode cL_law 1425 = .ok (.iadd, 1) := by decide +kernel
theorem dL_law_1426 : decode cL_law 1426 = .ok (.iaload, 1) := by decide +kernel
theorem dL_law_1427 : decode cL_law 1427 = .ok (.aload_n 0, 1) := by decide +kernel
theorem dL_law_1428 : decode cL_law 1428 = .ok (.iload 5, 2) := by decide +kernel
theorem dL_law_1430 : decode cL_law 1430 = .ok (.iconst 2, 1) := by decide +kernel
theorem dL_law_1431 : decode cL_law 1431 = .ok (.iadd, 1) := by decide +kernel
theorem dL_law_1432 : decode cL_law 1432 = .ok (.iaload, 1) := by decide +kernel
theorem dL_law_1433 : decode cL_law 1433 = .ok (.aload_n 3, 1) := by decide +kernel
theorem dL_law_1434 : decode cL_law 1434 = .ok (.invokestatic 256, 3) := by decide +kernel
theorem dL_law_1437 : decode cL_law 1437 = .ok (.istore 6, 2) := by decide +kernel
theorem dL_law_1439 : decode cL_law 1439 = .ok (.aload_n 2, 1) := by decide +kernel
theorem dL_law_1440 : decode cL_law 1440 = .ok (.aload_n 0, 1) := by decide +kernel
theorem dL_law_1441 : decode cL_law 1441 = .ok (.iload 5, 2) := by decide +kernel
theorem dL_law_1443 : decode cL_law 1443 = .ok (.iconst 1, 1) := by decide +kernel
theorem dL_law_1444 : decode cL_law 1444 = .ok (.iadd, 1) := by decide +kernel
theorem dL_law_1445 : decode cL_law 1445 = .ok (.iaload, 1) := by decide +kernel
theorem dL_law_1446 : decode cL_law 1446 = .ok (.aload_n 0, 1) := by decide +kernel
theorem dL_law_1447 : decode cL_law 1447 = .ok (.iload 5, 2) := by decide +kernel
theorem dL_law_1449 : decode cL_law 1449 = .ok (.iconst 2, 1) := by decide +kernel
theorem dL_law_1450 : decode cL_law 1450 = .ok (.iadd, 1) := by decide +kernel
theorem dL_law_1451 : decode cL_law 1451 = .ok (.iaload, 1) := by decide +kernel
theorem dL_law_1452 : decode cL_law 1452 = .ok (.invokevirtual 258, 3) := by decide +kernel
theorem dL_law_1455 : decode cL_law 1455 = .ok (.istore 7, 2) := by decide +kernel
theorem dL_law_1457 : decode cL_law 1457 = .ok (.aload_n 2, 1) := by decide +kernel
theorem dL_law_1458 : decode cL_law 1458 = .ok (.invokevirtual 189, 3) := by decide +kernel
theorem dL_law_1461 : decode cL_law 1461 = .ok (.iload 6, 2) := by decide +kernel
theorem dL_law_1463 : decode cL_law 1463 = .ok (.if_icmp .eq 5, 3) := by decide +kernel
theorem dL_law_1466 : decode cL_law 1466 = .ok (.iconst 0, 1) := by decide +kernel
theorem dL_law_1467 : decode cL_law 1467 = .ok (.ireturn, 1) := by decide +kernel
theorem dL_law_1468 : decode cL_law 1468 = .ok (.iload 6, 2) := by decide +kernel
theorem dL_law_1470 : decode cL_law 1470 = .ok (.ifCond .ne 15, 3) := by decide +kernel
theorem dL_law_1473 : decode cL_law 1473 = .ok (.aload_n 3, 1) := by decide +kernel
theorem dL_law_1474 : decode cL_law 1474 = .ok (.iconst 0, 1) := by decide +kernel
theorem dL_law_1475 : decode cL_law 1475 = .ok (.laload, 1) := by decide +kernel
theorem dL_law_1476 : decode cL_law 1476 = .ok (.iload 7, 2) := by decide +kernel
theorem dL_law_1478 : decode cL_law 1478 = .ok (.i2l, 1) := by decide +kernel
theorem dL_law_1479 : decode cL_law 1479 = .ok (.lcmp, 1) := by decide +kernel
theorem dL_law_1480 : decode cL_law 1480 = .ok (.ifCond .eq 5, 3) := by decide +kernel
theorem dL_law_1483 : decode cL_law 1483 = .ok (.iconst 0, 1) := by decide +kernel
theorem dL_law_1484 : decode cL_law 1484 = .ok (.ireturn, 1) := by decide +kernel
theorem dL_law_1485 : decode cL_law 1485 = .ok (.goto 1919, 3) := by decide +kernel
theorem dL_law_1488 : decode cL_law 1488 = .ok (.aload_n 1, 1) := by decide +kernel
theorem dL_law_1489 : decode cL_law 1489 = .ok (.aload_n 0, 1) := by decide +kernel
theorem dL_law_1490 : decode cL_law 1490 = .ok (.iload 5, 2) := by decide +kernel
theorem dL_law_1492 : decode cL_law 1492 = .ok (.iconst 1, 1) := by decide +kernel
theorem dL_law_1493 : decode cL_law 1493 = .ok (.iadd, 1) := by decide +kernel
theorem dL_law_1494 : decode cL_law 1494 = .ok (.iaload, 1) := by decide +kernel
theorem dL_law_1495 : decode cL_law 1495 = .ok (.aload_n 3, 1) := by decide +kernel
theorem dL_law_1496 : decode cL_law 1496 = .ok (.invokestatic 259, 3) := by decide +kernel
theorem dL_law_1499 : decode cL_law 1499 = .ok (.istore 6, 2) := by decide +kernel
theorem dL_law_1501 : decode cL_law 1501 = .ok (.aload_n 2, 1) := by decide +kernel
theorem dL_law_1502 : decode cL_law 1502 = .ok (.aload_n 0, 1) := by decide +kernel
theorem dL_law_1503 : decode cL_law 1503 = .ok (.iload 5, 2) := by decide +kernel
theorem dL_law_1505 : decode cL_law 1505 = .ok (.iconst 1, 1) := by decide +kernel
theorem dL_law_1506 : decode cL_law 1506 = .ok (.iadd, 1) := by decide +kernel
theorem dL_law_1507 : decode cL_law 1507 = .ok (.iaload, 1) := by decide +kernel
theorem dL_law_1508 : decode cL_law 1508 = .ok (.invokevirtual 261, 3) := by decide +kernel
theorem dL_law_1511 : decode cL_law 1511 = .ok (.istore 7, 2) := by decide +kernel
theorem dL_law_1513 : decode cL_law 1513 = .ok (.aload_n 2, 1) := by decide +kernel
theorem dL_law_1514 : decode cL_law 1514 = .ok (.invokevirtual 189, 3) := by decide +kernel
theorem dL_law_1517 : decode cL_law 1517 = .ok (.iload 6, 2) := by decide +kernel
theorem dL_law_1519 : decode cL_law 1519 = .ok (.if_icmp .eq 5, 3) := by decide +kernel
theorem dL_law_1522 : decode cL_law 1522 = .ok (.iconst 0, 1) := by decide +kernel
theorem dL_law_1523 : decode cL_law 1523 = .ok (.ireturn, 1) := by decide +kernel
theorem dL_law_1524 : decode cL_law 1524 = .ok (.iload 6, 2) := by decide +kernel
theorem dL_law_1526 : decode cL_law 1526 = .ok (.ifCond .ne 15, 3) := by decide +kernel
theorem dL_law_1529 : decode cL_law 1529 = .ok (.aload_n 3, 1) := by decide +kernel
theorem dL_law_1530 : decode cL_law 1530 = .ok (.iconst 0, 1) := by decide +kernel
theorem dL_law_1531 : decode cL_law 1531 = .ok (.laload, 1) := by decide +kernel
theorem dL_law_1532 : decode cL_law 1532 = .ok (.iload 7, 2) := by decide +kernel
theorem dL_law_1534 : decode cL_law 1534 = .ok (.i2l, 1) := by decide +kernel
theorem dL_law_1535 : decode cL_law 1535 = .ok (.lcmp, 1) := by decide +kernel
theorem dL_law_1536 : decode cL_law 1536 = .ok (.ifCond .eq 5, 3) := by decide +kernel
theorem dL_law_1539 : decode cL_law 1539 = .ok (.iconst 0, 1) := by decide +kernel
theorem dL_law_1540 : decode cL_law 1540 = .ok (.ireturn, 1) := by decide +kernel
theorem dL_law_1541 : decode cL_law 1541 = .ok (.goto 1863, 3) := by decide +kernel
theorem dL_law_1544 : decode cL_law 1544 = .ok (.aload_n 1, 1) := by decide +kernel
theorem dL_law_1545 : decode cL_law 1545 = .ok (.aload_n 0, 1) := by decide +kernel
theorem dL_law_1546 : decode cL_law 1546 = .ok (.iload 5, 2) := by decide +kernel
theorem dL_law_1548 : decode cL_law 1548 = .ok (.iconst 1, 1) := by decide +kernel
theorem dL_law_1549 : decode cL_law 1549 = .ok (.iadd, 1) := by decide +kernel
theorem dL_law_1550 : decode cL_law 1550 = .ok (.iaload, 1) := by decide +kernel
theorem dL_law_1551 : decode cL_law 1551 = .ok (.aload_n 3, 1) := by decide +kernel
theorem dL_law_1552 : decode cL_law 1552 = .ok (.invokestatic 262, 3) := by decide +kernel
theorem dL_law_1555 : decode cL_law 1555 = .ok (.istore 6, 2) := by decide +kernel
theorem dL_law_1557 : decode cL_law 1557 = .ok (.aload_n 2, 1) := by decide +kernel
theorem dL_law_1558 : decode cL_law 1558 = .ok (.aload_n 0, 1) := by decide +kernel
theorem dL_law_1559 : decode cL_law 1559 = .ok (.iload 5, 2) := by decide +kernel
theorem dL_law_1561 : decode cL_law 1561 = .ok (.iconst 1, 1) := by decide +kernel
theorem dL_law_1562 : decode cL_law 1562 = .ok (.iadd, 1) := by decide +kernel
theorem dL_law_1563 : decode cL_law 1563 = .ok (.iaload, 1) := by decide +kernel
theorem dL_law_1564 : decode cL_law 1564 = .ok (.invokevirtual 264, 3) := by decide +kernel
theorem dL_law_1567 : decode cL_law 1567 = .ok (.istore 7, 2) := by decide +kernel
theorem dL_law_1569 : decode cL_law 1569 = .ok (.aload_n 2, 1) := by decide +kernel
theorem dL_law_1570 : decode cL_law 1570 = .ok (.invokevirtual 189, 3) := by decide +kernel
theorem dL_law_1573 : decode cL_law 1573 = .ok (.iload 6, 2) := by decide +kernel
theorem dL_law_1575 : decode cL_law 1575 = .ok (.if_icmp .eq 5, 3) := by decide +kernel
theorem dL_law_1578 : decode cL_law 1578 = .ok (.iconst 0, 1) := by decide +kernel
theorem dL_law_1579 : decode cL_law 1579 = .ok (.ireturn, 1) := by decide +kernel
theorem dL_law_1580 : decode cL_law 1580 = .ok (.iload 6, 2) := by decide +kernel
theorem dL_law_1582 : decode cL_law 1582 = .ok (.ifCond .ne 15, 3) := by decide +kernel
theorem dL_law_1585 : decode cL_law 1585 = .ok (.aload_n 3, 1) := by decide +kernel
theorem dL_law_1586 : decode cL_law 1586 = .ok (.iconst 0, 1) := by decide +kernel
theorem dL_law_1587 : decode cL_law 1587 = .ok (.laload, 1) := by decide +kernel
theorem dL_law_1588 : decode cL_law 1588 = .ok (.iload 7, 2) := by decide +kernel
theorem dL_law_1590 : decode cL_law 1590 = .ok (.i2l, 1) := by decide +kernel
theorem dL_law_1591 : decode cL_law 1591 = .ok (.lcmp, 1) := by decide +kernel
theorem dL_law_1592 : decode cL_law 1592 = .ok (.ifCond .eq 5, 3) := by decide +kernel
theorem dL_law_1595 : decode cL_law 1595 = .ok (.iconst 0, 1) := by decide +kernel
theorem dL_law_1596 : decode cL_law 1596 = .ok (.ireturn, 1) := by decide +kernel
theorem dL_law_1597 : decode cL_law 1597 = .ok (.goto 1807, 3) := by decide +kernel
theorem dL_law_1600 : decode cL_law 1600 = .ok (.aload_n 1, 1) := by decide +kernel
theorem dL_law_1601 : decode cL_law 1601 = .ok (.aload_n 0, 1) := by decide +kernel
theorem dL_law_1602 : decode cL_law 1602 = .ok (.iload 5, 2) := by decide +kernel
theorem dL_law_1604 : decode cL_law 1604 = .ok (.iconst 1, 1) := by decide +kernel
theorem dL_law_1605 : decode cL_law 1605 = .ok (.iadd, 1) := by decide +kernel
theorem dL_law_1606 : decode cL_law 1606 = .ok (.iaload, 1) := by decide +kernel
theorem dL_law_1607 : decode cL_law 1607 = .ok (.aload_n 0, 1) := by decide +kernel
theorem dL_law_1608 : decode cL_law 1608 = .ok (.iload 5, 2) := by decide +kernel
theorem dL_law_1610 : decode cL_law 1610 = .ok (.iconst 2, 1) := by decide +kernel
theorem dL_law_1611 : decode cL_law 1611 = .ok (.iadd, 1) := by decide +kernel
theorem dL_law_1612 : decode cL_law 1612 = .ok (.iaload, 1) := by decide +kernel
theorem dL_law_1613 : decode cL_law 1613 = .ok (.aload_n 3, 1) := by decide +kernel
theorem dL_law_1614 : decode cL_law 1614 = .ok (.invokestatic 265, 3) := by decide +kernel
theorem dL_law_1617 : decode cL_law 1617 = .ok (.istore 6, 2) := by decide +kernel
theorem dL_law_1619 : decode cL_law 1619 = .ok (.aload_n 2, 1) := by decide +kernel
theorem dL_law_1620 : decode cL_law 1620 = .ok (.aload_n 0, 1) := by decide +kernel
theorem dL_law_1621 : decode cL_law 1621 = .ok (.iload 5, 2) := by decide +kernel
theorem dL_law_1623 : decode cL_law 1623 = .ok (.iconst 1, 1) := by decide +kernel
theorem dL_law_1624 : decode cL_law 1624 = .ok (.iadd, 1) := by decide +kernel
theorem dL_law_1625 : decode cL_law 1625 = .ok (.iaload, 1) := by decide +kernel
theorem dL_law_1626 : decode cL_law 1626 = .ok (.aload_n 0, 1) := by decide +kernel
theorem dL_law_1627 : decode cL_law 1627 = .ok (.iload 5, 2) := by decide +kernel
theorem dL_law_1629 : decode cL_law 1629 = .ok (.iconst 2, 1) := by decide +kernel
theorem dL_law_1630 : decode cL_law 1630 = .ok (.iadd, 1) := by decide +kernel
theorem dL_law_1631 : decode cL_law 1631 = .ok (.iaload, 1) := by decide +kernel
theorem dL_law_1632 : decode cL_law 1632 = .ok (.invokevirtual 267, 3) := by decide +kernel
theorem dL_law_1635 : decode cL_law 1635 = .ok (.istore 7, 2) := by decide +kernel
theorem dL_law_1637 : decode cL_law 1637 = .ok (.aload_n 2, 1) := by decide +kernel
theorem dL_law_1638 : decode cL_law 1638 = .ok (.invokevirtual 189, 3) := by decide +kernel
theorem dL_law_1641 : decode cL_law 1641 = .ok (.iload 6, 2) := by decide +kernel
theorem dL_law_1643 : decode cL_law 1643 = .ok (.if_icmp .eq 5, 3) := by decide +kernel
theorem dL_law_1646 : decode cL_law 1646 = .ok (.iconst 0, 1) := by decide +kernel
theorem dL_law_1647 : decode cL_law 1647 = .ok (.ireturn, 1) := by decide +kernel
theorem dL_law_1648 : decode cL_law 1648 = .ok (.iload 6, 2) := by decide +kernel
theorem dL_law_1650 : decode cL_law 1650 = .ok (.ifCond .ne 15, 3) := by decide +kernel
theorem dL_law_1653 : decode cL_law 1653 = .ok (.aload_n 3, 1) := by decide +kernel
theorem dL_law_1654 : decode cL_law 1654 = .ok (.iconst 0, 1) := by decide +kernel
theorem dL_law_1655 : decode cL_law 1655 = .ok (.laload, 1) := by decide +kernel
theorem dL_law_1656 : decode cL_law 1656 = .ok (.iload 7, 2) := by decide +kernel
theorem dL_law_1658 : decode cL_law 1658 = .ok (.i2l, 1) := by decide +kernel
theorem dL_law_1659 : decode cL_law 1659 = .ok (.lcmp, 1) := by decide +kernel
theorem dL_law_1660 : decode cL_law 1660 = .ok (.ifCond .eq 5, 3) := by decide +kernel
theorem dL_law_1663 : decode cL_law 1663 = .ok (.iconst 0, 1) := by decide +kernel
theorem dL_law_1664 : decode cL_law 1664 = .ok (.ireturn, 1) := by decide +kernel
theorem dL_law_1665 : decode cL_law 1665 = .ok (.goto 1739, 3) := by decide +kernel
theorem dL_law_1668 : decode cL_law 1668 = .ok (.aload_n 1, 1) := by decide +kernel
theorem dL_law_1669 : decode cL_law 1669 = .ok (.aload_n 0, 1) := by decide +kernel
theorem dL_law_1670 : decode cL_law 1670 = .ok (.iload 5, 2) := by decide +kernel
theorem dL_law_1672 : decode cL_law 1672 = .ok (.iconst 1, 1) := by decide +kernel
theorem dL_law_1673 : decode cL_law 1673 = .ok (.iadd, 1) := by decide +kernel
theorem dL_law_1674 : decode cL_law 1674 = .ok (.iaload, 1) := by decide +kernel
theorem dL_law_1675 : decode cL_law 1675 = .ok (.aload_n 3, 1) := by decide +kernel
theorem dL_law_1676 : decode cL_law 1676 = .ok (.invokestatic 268, 3) := by decide +kernel
theorem dL_law_1679 : decode cL_law 1679 = .ok (.istore 6, 2) := by decide +kernel
theorem dL_law_1681 : decode cL_law 1681 = .ok (.aload_n 2, 1) := by decide +kernel
theorem dL_law_1682 : decode cL_law 1682 = .ok (.aload_n 0, 1) := by decide +kernel
theorem dL_law_1683 : decode cL_law 1683 = .ok (.iload 5, 2) := by decide +kernel
theorem dL_law_1685 : decode cL_law 1685 = .ok (.iconst 1, 1) := by decide +kernel
theorem dL_law_1686 : decode cL_law 1686 = .ok (.iadd, 1) := by decide +kernel
theorem dL_law_1687 : decode cL_law 1687 = .ok (.iaload, 1) := by decide +kernel
theorem dL_law_1688 : decode cL_law 1688 = .ok (.invokevirtual 270, 3) := by decide +kernel
theorem dL_law_1691 : decode cL_law 1691 = .ok (.istore 7, 2) := by decide +kernel
theorem dL_law_1693 : decode cL_law 1693 = .ok (.aload_n 2, 1) := by decide +kernel
theorem dL_law_1694 : decode cL_law 1694 = .ok (.invokevirtual 189, 3) := by decide +kernel
theorem dL_law_1697 : decode cL_law 1697 = .ok (.iload 6, 2) := by decide +kernel
theorem dL_law_1699 : decode cL_law 1699 = .ok (.if_icmp .eq 5, 3) := by decide +kernel
theorem dL_law_1702 : decode cL_law 1702 = .ok (.iconst 0, 1) := by decide +kernel
theorem dL_law_1703 : decode cL_law 1703 = .ok (.ireturn, 1) := by decide +kernel
theorem dL_law_1704 : decode cL_law 1704 = .ok (.iload 6, 2) := by decide +kernel
theorem dL_law_1706 : decode cL_law 1706 = .ok (.ifCond .ne 15, 3) := by decide +kernel
theorem dL_law_1709 : decode cL_law 1709 = .ok (.aload_n 3, 1) := by decide +kernel
theorem dL_law_1710 : decode cL_law 1710 = .ok (.iconst 0, 1) := by decide +kernel
theorem dL_law_1711 : decode cL_law 1711 = .ok (.laload, 1) := by decide +kernel
theorem dL_law_1712 : decode cL_law 1712 = .ok (.iload 7, 2) := by decide +kernel
theorem dL_law_1714 : decode cL_law 1714 = .ok (.i2l, 1) := by decide +kernel
theorem dL_law_1715 : decode cL_law 1715 = .ok (.lcmp, 1) := by decide +kernel
theorem dL_law_1716 : decode cL_law 1716 = .ok (.ifCond .eq 5, 3) := by decide +kernel
theorem dL_law_1719 : decode cL_law 1719 = .ok (.iconst 0, 1) := by decide +kernel
theorem dL_law_1720 : decode cL_law 1720 = .ok (.ireturn, 1) := by decide +kernel
theorem dL_law_1721 : decode cL_law 1721 = .ok (.goto 1683, 3) := by decide +kernel
theorem dL_law_1724 : decode cL_law 1724 = .ok (.aload_n 1, 1) := by decide +kernel
theorem dL_law_1725 : decode cL_law 1725 = .ok (.aload_n 0, 1) := by decide +kernel
theorem dL_law_1726 : decode cL_law 1726 = .ok (.iload 5, 2) := by decide +kernel
theorem dL_law_1728 : decode cL_law 1728 = .ok (.iconst 1, 1) := by decide +kernel
theorem dL_law_1729 : decode cL_law 1729 = .ok (.iadd, 1) := by decide +kernel
theorem dL_law_1730 : decode cL_law 1730 = .ok (.iaload, 1) := by decide +kernel
theorem dL_law_1731 : decode cL_law 1731 = .ok (.aload_n 3, 1) := by decide +kernel
theorem dL_law_1732 : decode cL_law 1732 = .ok (.invokestatic 271, 3) := by decide +kernel
theorem dL_law_1735 : decode cL_law 1735 = .ok (.istore 6, 2) := by decide +kernel
theorem dL_law_1737 : decode cL_law 1737 = .ok (.aload_n 2, 1) := by decide +kernel
theorem dL_law_1738 : decode cL_law 1738 = .ok (.aload_n 0, 1) := by decide +kernel
theorem dL_law_1739 : decode cL_law 1739 = .ok (.iload 5, 2) := by decide +kernel
theorem dL_law_1741 : decode cL_law 1741 = .ok (.iconst 1, 1) := by decide +kernel
theorem dL_law_1742 : decode cL_law 1742 = .ok (.iadd, 1) := by decide +kernel
theorem dL_law_1743 : decode cL_law 1743 = .ok (.iaload, 1) := by decide +kernel
theorem dL_law_1744 : decode cL_law 1744 = .ok (.invokevirtual 273, 3) := by decide +kernel
theorem dL_law_1747 : decode cL_law 1747 = .ok (.istore 7, 2) := by decide +kernel
theorem dL_law_1749 : decode cL_law 1749 = .ok (.aload_n 2, 1) := by decide +kernel
theorem dL_law_1750 : decode cL_law 1750 = .ok (.invokevirtual 189, 3) := by decide +kernel
theorem dL_law_1753 : decode cL_law 1753 = .ok (.iload 6, 2) := by decide +kernel
theorem dL_law_1755 : decode cL_law 1755 = .ok (.if_icmp .eq 5, 3) := by decide +kernel
theorem dL_law_1758 : decode cL_law 1758 = .ok (.iconst 0, 1) := by decide +kernel
theorem dL_law_1759 : decode cL_law 1759 = .ok (.ireturn, 1) := by decide +kernel
theorem dL_law_1760 : decode cL_law 1760 = .ok (.iload 6, 2) := by decide +kernel
theorem dL_law_1762 : decode cL_law 1762 = .ok (.ifCond .ne 15, 3) := by decide +kernel
theorem dL_law_1765 : decode cL_law 1765 = .ok (.aload_n 3, 1) := by decide +kernel
theorem dL_law_1766 : decode cL_law 1766 = .ok (.iconst 0, 1) := by decide +kernel
theorem dL_law_1767 : decode cL_law 1767 = .ok (.laload, 1) := by decide +kernel
theorem dL_law_1768 : decode cL_law 1768 = .ok (.iload 7, 2) := by decide +kernel
theorem dL_law_1770 : decode cL_law 1770 = .ok (.i2l, 1) := by decide +kernel
theorem dL_law_1771 : decode cL_law 1771 = .ok (.lcmp, 1) := by decide +kernel
theorem dL_law_1772 : decode cL_law 1772 = .ok (.ifCond .eq 5, 3) := by decide +kernel
theorem dL_law_1775 : decode cL_law 1775 = .ok (.iconst 0, 1) := by decide +kernel
theorem dL_law_1776 : decode cL_law 1776 = .ok (.ireturn, 1) := by decide +kernel
theorem dL_law_1777 : decode cL_law 1777 = .ok (.goto 1627, 3) := by decide +kernel
theorem dL_law_1780 : decode cL_law 1780 = .ok (.aload_n 1, 1) := by decide +kernel
theorem dL_law_1781 : decode cL_law 1781 = .ok (.aload_n 0, 1) := by decide +kernel
theorem dL_law_1782 : decode cL_law 1782 = .ok (.iload 5, 2) := by decide +kernel
theorem dL_law_1784 : decode cL_law 1784 = .ok (.iconst 1, 1) := by decide +kernel
theorem dL_law_1785 : decode cL_law 1785 = .ok (.iadd, 1) := by decide +kernel
theorem dL_law_1786 : decode cL_law 1786 = .ok (.iaload, 1) := by decide +kernel
theorem dL_law_1787 : decode cL_law 1787 = .ok (.aload_n 0, 1) := by decide +kernel
theorem dL_law_1788 : decode cL_law 1788 = .ok (.iload 5, 2) := by decide +kernel
theorem dL_law_1790 : decode cL_law 1790 = .ok (.iconst 2, 1) := by decide +kernel
theorem dL_law_1791 : decode cL_law 1791 = .ok (.iadd, 1) := by decide +kernel
theorem dL_law_1792 : decode cL_law 1792 = .ok (.iaload, 1) := by decide +kernel
theorem dL_law_1793 : decode cL_law 1793 = .ok (.aload_n 3, 1) := by decide +kernel
theorem dL_law_1794 : decode cL_law 1794 = .ok (.invokestatic 274, 3) := by decide +kernel
theorem dL_law_1797 : decode cL_law 1797 = .ok (.istore 6, 2) := by decide +kernel
theorem dL_law_1799 : decode cL_law 1799 = .ok (.aload_n 2, 1) := by decide +kernel
theorem dL_law_1800 : decode cL_law 1800 = .ok (.aload_n 0, 1) := by decide +kernel
theorem dL_law_1801 : decode cL_law 1801 = .ok (.iload 5, 2) := by decide +kernel
theorem dL_law_1803 : decode cL_law 1803 = .ok (.iconst 1, 1) := by decide +kernel
theorem dL_law_1804 : decode cL_law 1804 = .ok (.iadd, 1) := by decide +kernel
theorem dL_law_1805 : decode cL_law 1805 = .ok (.iaload, 1) := by decide +kernel
theorem dL_law_1806 : decode cL_law 1806 = .ok (.aload_n 0, 1) := by decide +kernel
theorem dL_law_1807 : decode cL_law 1807 = .ok (.iload 5, 2) := by decide +kernel
theorem dL_law_1809 : decode cL_law 1809 = .ok (.iconst 2, 1) := by decide +kernel
theorem dL_law_1810 : decode cL_law 1810 = .ok (.iadd, 1) := by decide +kernel
theorem dL_law_1811 : decode cL_law 1811 = .ok (.iaload, 1) := by decide +kernel
theorem dL_law_1812 : decode cL_law 1812 = .ok (.invokevirtual 276, 3) := by decide +kernel
theorem dL_law_1815 : decode cL_law 1815 = .ok (.istore 7, 2) := by decide +kernel
theorem dL_law_1817 : decode cL_law 1817 = .ok (.aload_n 2, 1) := by decide +kernel
theorem dL_law_1818 : decode cL_law 1818 = .ok (.invokevirtual 189, 3) := by decide +kernel
theorem dL_law_1821 : decode cL_law 1821 = .ok (.iload 6, 2) := by decide +kernel
theorem dL_law_1823 : decode cL_law 1823 = .ok (.if_icmp .eq 5, 3) := by decide +kernel
theorem dL_law_1826 : decode cL_law 1826 = .ok (.iconst 0, 1) := by decide +kernel
theorem dL_law_1827 : decode cL_law 1827 = .ok (.ireturn, 1) := by decide +kernel
theorem dL_law_1828 : decode cL_law 1828 = .ok (.iload 6, 2) := by decide +kernel
theorem dL_law_1830 : decode cL_law 1830 = .ok (.ifCond .ne 22, 3) := by decide +kernel
theorem dL_law_1833 : decode cL_law 1833 = .ok (.aload_n 3, 1) := by decide +kernel
theorem dL_law_1834 : decode cL_law 1834 = .ok (.iconst 0, 1) := by decide +kernel
theorem dL_law_1835 : decode cL_law 1835 = .ok (.laload, 1) := by decide +kernel
theorem dL_law_1836 : decode cL_law 1836 = .ok (.iload 7, 2) := by decide +kernel
theorem dL_law_1838 : decode cL_law 1838 = .ok (.ifCond .eq 7, 3) := by decide +kernel
theorem dL_law_1841 : decode cL_law 1841 = .ok (.lconst 1, 1) := by decide +kernel
theorem dL_law_1842 : decode cL_law 1842 = .ok (.goto 4, 3) := by decide +kernel
theorem dL_law_1845 : decode cL_law 1845 = .ok (.lconst 0, 1) := by decide +kernel
theorem dL_law_1846 : decode cL_law 1846 = .ok (.lcmp, 1) := by decide +kernel
theorem dL_law_1847 : decode cL_law 1847 = .ok (.ifCond .eq 5, 3) := by decide +kernel
theorem dL_law_1850 : decode cL_law 1850 = .ok (.iconst 0, 1) := by decide +kernel
theorem dL_law_1851 : decode cL_law 1851 = .ok (.ireturn, 1) := by decide +kernel
theorem dL_law_1852 : decode cL_law 1852 = .ok (.goto 1552, 3) := by decide +kernel
theorem dL_law_1855 : decode cL_law 1855 = .ok (.aload_n 1, 1) := by decide +kernel
theorem dL_law_1856 : decode cL_law 1856 = .ok (.aload_n 0, 1) := by decide +kernel
theorem dL_law_1857 : decode cL_law 1857 = .ok (.iload 5, 2) := by decide +kernel
theorem dL_law_1859 : decode cL_law 1859 = .ok (.iconst 1, 1) := by decide +kernel
theorem dL_law_1860 : decode cL_law 1860 = .ok (.iadd, 1) := by decide +kernel
theorem dL_law_1861 : decode cL_law 1861 = .ok (.iaload, 1) := by decide +kernel
theorem dL_law_1862 : decode cL_law 1862 = .ok (.aload_n 3, 1) := by decide +kernel
theorem dL_law_1863 : decode cL_law 1863 = .ok (.invokestatic 277, 3) := by decide +kernel
theorem dL_law_1866 : decode cL_law 1866 = .ok (.istore 6, 2) := by decide +kernel
theorem dL_law_1868 : decode cL_law 1868 = .ok (.aload_n 2, 1) := by decide +kernel
theorem dL_law_1869 : decode cL_law 1869 = .ok (.aload_n 0, 1) := by decide +kernel
theorem dL_law_1870 : decode cL_law 1870 = .ok (.iload 5, 2) := by decide +kernel
theorem dL_law_1872 : decode cL_law 1872 = .ok (.iconst 1, 1) := by decide +kernel
theorem dL_law_1873 : decode cL_law 1873 = .ok (.iadd, 1) := by decide +kernel
theorem dL_law_1874 : decode cL_law 1874 = .ok (.iaload, 1) := by decide +kernel
theorem dL_law_1875 : decode cL_law 1875 = .ok (.invokevirtual 279, 3) := by decide +kernel
theorem dL_law_1878 : decode cL_law 1878 = .ok (.istore 7, 2) := by decide +kernel
theorem dL_law_1880 : decode cL_law 1880 = .ok (.aload_n 2, 1) := by decide +kernel
theorem dL_law_1881 : decode cL_law 1881 = .ok (.invokevirtual 189, 3) := by decide +kernel
theorem dL_law_1884 : decode cL_law 1884 = .ok (.iload 6, 2) := by decide +kernel
theorem dL_law_1886 : decode cL_law 1886 = .ok (.if_icmp .eq 5, 3) := by decide +kernel
theorem dL_law_1889 : decode cL_law 1889 = .ok (.iconst 0, 1) := by decide +kernel
theorem dL_law_1890 : decode cL_law 1890 = .ok (.ireturn, 1) := by decide +kernel
theorem dL_law_1891 : decode cL_law 1891 = .ok (.iload 6, 2) := by decide +kernel
theorem dL_law_1893 : decode cL_law 1893 = .ok (.ifCond .ne 15, 3) := by decide +kernel
theorem dL_law_1896 : decode cL_law 1896 = .ok (.aload_n 3, 1) := by decide +kernel
theorem dL_law_1897 : decode cL_law 1897 = .ok (.iconst 0, 1) := by decide +kernel
theorem dL_law_1898 : decode cL_law 1898 = .ok (.laload, 1) := by decide +kernel
theorem dL_law_1899 : decode cL_law 1899 = .ok (.iload 7, 2) := by decide +kernel
theorem dL_law_1901 : decode cL_law 1901 = .ok (.i2l, 1) := by decide +kernel
theorem dL_law_1902 : decode cL_law 1902 = .ok (.lcmp, 1) := by decide +kernel
theorem dL_law_1903 : decode cL_law 1903 = .ok (.ifCond .eq 5, 3) := by decide +kernel
theorem dL_law_1906 : decode cL_law 1906 = .ok (.iconst 0, 1) := by decide +kernel
theorem dL_law_1907 : decode cL_law 1907 = .ok (.ireturn, 1) := by decide +kernel
theorem dL_law_1908 : decode cL_law 1908 = .ok (.goto 1496, 3) := by decide +kernel
theorem dL_law_1911 : decode cL_law 1911 = .ok (.aload_n 1, 1) := by decide +kernel
theorem dL_law_1912 : decode cL_law 1912 = .ok (.aload_n 0, 1) := by decide +kernel
theorem dL_law_1913 : decode cL_law 1913 = .ok (.iload 5, 2) := by decide +kernel
theorem dL_law_1915 : decode cL_law 1915 = .ok (.iconst 1, 1) := by decide +kernel
theorem dL_law_1916 : decode cL_law 1916 = .ok (.iadd, 1) := by decide +kernel
theorem dL_law_1917 : decode cL_law 1917 = .ok (.iaload, 1) := by decide +kernel
theorem dL_law_1918 : decode cL_law 1918 = .ok (.aload_n 3, 1) := by decide +kernel
theorem dL_law_1919 : decode cL_law 1919 = .ok (.invokestatic 280, 3) := by decide +kernel
theorem dL_law_1922 : decode cL_law 1922 = .ok (.istore 6, 2) := by decide +kernel
theorem dL_law_1924 : decode cL_law 1924 = .ok (.aload_n 2, 1) := by decide +kernel
theorem dL_law_1925 : decode cL_law 1925 = .ok (.aload_n 0, 1) := by decide +kernel
theorem dL_law_1926 : decode cL_law 1926 = .ok (.iload 5, 2) := by decide +kernel
theorem dL_law_1928 : decode cL_law 1928 = .ok (.iconst 1, 1) := by decide +kernel
theorem dL_law_1929 : decode cL_law 1929 = .ok (.iadd, 1) := by decide +kernel
theorem dL_law_1930 : decode cL_law 1930 = .ok (.iaload, 1) := by decide +kernel
theorem dL_law_1931 : decode cL_law 1931 = .ok (.invokevirtual 282, 3) := by decide +kernel
theorem dL_law_1934 : decode cL_law 1934 = .ok (.istore 7, 2) := by decide +kernel
theorem dL_law_1936 : decode cL_law 1936 = .ok (.aload_n 2, 1) := by decide +kernel
theorem dL_law_1937 : decode cL_law 1937 = .ok (.invokevirtual 189, 3) := by decide +kernel
theorem dL_law_1940 : decode cL_law 1940 = .ok (.iload 6, 2) := by decide +kernel
theorem dL_law_1942 : decode cL_law 1942 = .ok (.if_icmp .eq 5, 3) := by decide +kernel
theorem dL_law_1945 : decode cL_law 1945 = .ok (.iconst 0, 1) := by decide +kernel
theorem dL_law_1946 : decode cL_law 1946 = .ok (.ireturn, 1) := by decide +kernel
theorem dL_law_1947 : decode cL_law 1947 = .ok (.iload 6, 2) := by decide +kernel
theorem dL_law_1949 : decode cL_law 1949 = .ok (.ifCond .ne 15, 3) := by decide +kernel
theorem dL_law_1952 : decode cL_law 1952 = .ok (.aload_n 3, 1) := by decide +kernel
theorem dL_law_1953 : decode cL_law 1953 = .ok (.iconst 0, 1) := by decide +kernel
theorem dL_law_1954 : decode cL_law 1954 = .ok (.laload, 1) := by decide +kernel
theorem dL_law_1955 : decode cL_law 1955 = .ok (.iload 7, 2) := by decide +kernel
theorem dL_law_1957 : decode cL_law 1957 = .ok (.i2l, 1) := by decide +kernel
theorem dL_law_1958 : decode cL_law 1958 = .ok (.lcmp, 1) := by decide +kernel
theorem dL_law_1959 : decode cL_law 1959 = .ok (.ifCond .eq 5, 3) := by decide +kernel
theorem dL_law_1962 : decode cL_law 1962 = .ok (.iconst 0, 1) := by decide +kernel
theorem dL_law_1963 : decode cL_law 1963 = .ok (.ireturn, 1) := by decide +kernel
theorem dL_law_1964 : decode cL_law 1964 = .ok (.goto 1440, 3) := by decide +kernel
theorem dL_law_1967 : decode cL_law 1967 = .ok (.aload_n 1, 1) := by decide +kernel
theorem dL_law_1968 : decode cL_law 1968 = .ok (.aload_n 0, 1) := by decide +kernel
theorem dL_law_1969 : decode cL_law 1969 = .ok (.iload 5, 2) := by decide +kernel
theorem dL_law_1971 : decode cL_law 1971 = .ok (.iconst 1, 1) := by decide +kernel
theorem dL_law_1972 : decode cL_law 1972 = .ok (.iadd, 1) := by decide +kernel
theorem dL_law_1973 : decode cL_law 1973 = .ok (.iaload, 1) := by decide +kernel
theorem dL_law_1974 : decode cL_law 1974 = .ok (.aload_n 0, 1) := by decide +kernel
theorem dL_law_1975 : decode cL_law 1975 = .ok (.iload 5, 2) := by decide +kernel
theorem dL_law_1977 : decode cL_law 1977 = .ok (.iconst 2, 1) := by decide +kernel
theorem dL_law_1978 : decode cL_law 1978 = .ok (.iadd, 1) := by decide +kernel
theorem dL_law_1979 : decode cL_law 1979 = .ok (.iaload, 1) := by decide +kernel
theorem dL_law_1980 : decode cL_law 1980 = .ok (.ifCond .eq 7, 3) := by decide +kernel
theorem dL_law_1983 : decode cL_law 1983 = .ok (.iconst 1, 1) := by decide +kernel
theorem dL_law_1984 : decode cL_law 1984 = .ok (.goto 4, 3) := by decide +kernel
theorem dL_law_1987 : decode cL_law 1987 = .ok (.iconst 0, 1) := by decide +kernel
theorem dL_law_1988 : decode cL_law 1988 = .ok (.aload_n 3, 1) := by decide +kernel
theorem dL_law_1989 : decode cL_law 1989 = .ok (.invokestatic 283, 3) := by decide +kernel
theorem dL_law_1992 : decode cL_law 1992 = .ok (.istore 6, 2) := by decide +kernel
theorem dL_law_1994 : decode cL_law 1994 = .ok (.aload_n 2, 1) := by decide +kernel
theorem dL_law_1995 : decode cL_law 1995 = .ok (.aload_n 0, 1) := by decide +kernel
theorem dL_law_1996 : decode cL_law 1996 = .ok (.iload 5, 2) := by decide +kernel
theorem dL_law_1998 : decode cL_law 1998 = .ok (.iconst 1, 1) := by decide +kernel
theorem dL_law_1999 : decode cL_law 1999 = .ok (.iadd, 1) := by decide +kernel
theorem dL_law_2000 : decode cL_law 2000 = .ok (.iaload, 1) := by decide +kernel
theorem dL_law_2001 : decode cL_law 2001 = .ok (.aload_n 0, 1) := by decide +kernel
theorem dL_law_2002 : decode cL_law 2002 = .ok (.iload 5, 2) := by decide +kernel
theorem dL_law_2004 : decode cL_law 2004 = .ok (.iconst 2, 1) := by decide +kernel
theorem dL_law_2005 : decode cL_law 2005 = .ok (.iadd, 1) := by decide +kernel
theorem dL_law_2006 : decode cL_law 2006 = .ok (.iaload, 1) := by decide +kernel
theorem dL_law_2007 : decode cL_law 2007 = .ok (.ifCond .eq 7, 3) := by decide +kernel
theorem dL_law_2010 : decode cL_law 2010 = .ok (.iconst 1, 1) := by decide +kernel
theorem dL_law_2011 : decode cL_law 2011 = .ok (.goto 4, 3) := by decide +kernel
theorem dL_law_2014 : decode cL_law 2014 = .ok (.iconst 0, 1) := by decide +kernel
theorem dL_law_2015 : decode cL_law 2015 = .ok (.invokevirtual 286, 3) := by decide +kernel
theorem dL_law_2018 : decode cL_law 2018 = .ok (.istore 7, 2) := by decide +kernel
theorem dL_law_2020 : decode cL_law 2020 = .ok (.aload_n 2, 1) := by decide +kernel
theorem dL_law_2021 : decode cL_law 2021 = .ok (.invokevirtual 189, 3) := by decide +kernel
theorem dL_law_2024 : decode cL_law 2024 = .ok (.iload 6, 2) := by decide +kernel
theorem dL_law_2026 : decode cL_law 2026 = .ok (.if_icmp .eq 5, 3) := by decide +kernel
theorem dL_law_2029 : decode cL_law 2029 = .ok (.iconst 0, 1) := by decide +kernel
theorem dL_law_2030 : decode cL_law 2030 = .ok (.ireturn, 1) := by decide +kernel
theorem dL_law_2031 : decode cL_law 2031 = .ok (.iload 6, 2) := by decide +kernel
theorem dL_law_2033 : decode cL_law 2033 = .ok (.ifCond .ne 15, 3) := by decide +kernel
theorem dL_law_2036 : decode cL_law 2036 = .ok (.aload_n 3, 1) := by decide +kernel
theorem dL_law_2037 : decode cL_law 2037 = .ok (.iconst 0, 1) := by decide +kernel
theorem dL_law_2038 : decode cL_law 2038 = .ok (.laload, 1) := by decide +kernel
theorem dL_law_2039 : decode cL_law 2039 = .ok (.iload 7, 2) := by decide +kernel
theorem dL_law_2041 : decode cL_law 2041 = .ok (.i2l, 1) := by decide +kernel
theorem dL_law_2042 : decode cL_law 2042 = .ok (.lcmp, 1) := by decide +kernel
theorem dL_law_2043 : decode cL_law 2043 = .ok (.ifCond .eq 5, 3) := by decide +kernel
theorem dL_law_2046 : decode cL_law 2046 = .ok (.iconst 0, 1) := by decide +kernel
theorem dL_law_2047 : decode cL_law 2047 = .ok (.ireturn, 1) := by decide +kernel
theorem dL_law_2048 : decode cL_law 2048 = .ok (.goto 1356, 3) := by decide +kernel
theorem dL_law_2051 : decode cL_law 2051 = .ok (.aload_n 1, 1) := by decide +kernel
theorem dL_law_2052 : decode cL_law 2052 = .ok (.aload_n 0, 1) := by decide +kernel
theorem dL_law_2053 : decode cL_law 2053 = .ok (.iload 5, 2) := by decide +kernel
theorem dL_law_2055 : decode cL_law 2055 = .ok (.iconst 1, 1) := by decide +kernel
theorem dL_law_2056 : decode cL_law 2056 = .ok (.iadd, 1) := by decide +kernel
theorem dL_law_2057 : decode cL_law 2057 = .ok (.iaload, 1) := by decide +kernel
theorem dL_law_2058 : decode cL_law 2058 = .ok (.aload_n 3, 1) := by decide +kernel
theorem dL_law_2059 : decode cL_law 2059 = .ok (.invokestatic 287, 3) := by decide +kernel
theorem dL_law_2062 : decode cL_law 2062 = .ok (.istore 6, 2) := by decide +kernel
theorem dL_law_2064 : decode cL_law 2064 = .ok (.aload_n 2, 1) := by decide +kernel
theorem dL_law_2065 : decode cL_law 2065 = .ok (.aload_n 0, 1) := by decide +kernel
theorem dL_law_2066 : decode cL_law 2066 = .ok (.iload 5, 2) := by decide +kernel
theorem dL_law_2068 : decode cL_law 2068 = .ok (.iconst 1, 1) := by decide +kernel
theorem dL_law_2069 : decode cL_law 2069 = .ok (.iadd, 1) := by decide +kernel
theorem dL_law_2070 : decode cL_law 2070 = .ok (.iaload, 1) := by decide +kernel
theorem dL_law_2071 : decode cL_law 2071 = .ok (.invokevirtual 289, 3) := by decide +kernel
theorem dL_law_2074 : decode cL_law 2074 = .ok (.istore 7, 2) := by decide +kernel
theorem dL_law_2076 : decode cL_law 2076 = .ok (.aload_n 2, 1) := by decide +kernel
theorem dL_law_2077 : decode cL_law 2077 = .ok (.invokevirtual 189, 3) := by decide +kernel
theorem dL_law_2080 : decode cL_law 2080 = .ok (.iload 6, 2) := by decide +kernel
theorem dL_law_2082 : decode cL_law 2082 = .ok (.if_icmp .eq 5, 3) := by decide +kernel
theorem dL_law_2085 : decode cL_law 2085 = .ok (.iconst 0, 1) := by decide +kernel
theorem dL_law_2086 : decode cL_law 2086 = .ok (.ireturn, 1) := by decide +kernel
theorem dL_law_2087 : decode cL_law 2087 = .ok (.iload 6, 2) := by decide +kernel
theorem dL_law_2089 : decode cL_law 2089 = .ok (.ifCond .ne 15, 3) := by decide +kernel
theorem dL_law_2092 : decode cL_law 2092 = .ok (.aload_n 3, 1) := by decide +kernel
theorem dL_law_2093 : decode cL_law 2093 = .ok (.iconst 0, 1) := by decide +kernel
theorem dL_law_2094 : decode cL_law 2094 = .ok (.laload, 1) := by decide +kernel
theorem dL_law_2095 : decode cL_law 2095 = .ok (.iload 7, 2) := by decide +kernel
theorem dL_law_2097 : decode cL_law 2097 = .ok (.i2l, 1) := by decide +kernel
theorem dL_law_2098 : decode cL_law 2098 = .ok (.lcmp, 1) := by decide +kernel
theorem dL_law_2099 : decode cL_law 2099 = .ok (.ifCond .eq 5, 3) := by decide +kernel
theorem dL_law_2102 : decode cL_law 2102 = .ok (.iconst 0, 1) := by decide +kernel
theorem dL_law_2103 : decode cL_law 2103 = .ok (.ireturn, 1) := by decide +kernel
theorem dL_law_2104 : decode cL_law 2104 = .ok (.goto 1300, 3) := by decide +kernel
theorem dL_law_2107 : decode cL_law 2107 = .ok (.aload_n 1, 1) := by decide +kernel
theorem dL_law_2108 : decode cL_law 2108 = .ok (.aload_n 3, 1) := by decide +kernel
theorem dL_law_2109 : decode cL_law 2109 = .ok (.invokestatic 290, 3) := by decide +kernel
theorem dL_law_2112 : decode cL_law 2112 = .ok (.istore 6, 2) := by decide +kernel
theorem dL_law_2114 : decode cL_law 2114 = .ok (.aload_n 2, 1) := by decide +kernel
theorem dL_law_2115 : decode cL_law 2115 = .ok (.invokevirtual 292, 3) := by decide +kernel
theorem dL_law_2118 : decode cL_law 2118 = .ok (.istore 7, 2) := by decide +kernel
theorem dL_law_2120 : decode cL_law 2120 = .ok (.aload_n 2, 1) := by decide +kernel
theorem dL_law_2121 : decode cL_law 2121 = .ok (.invokevirtual 189, 3) := by decide +kernel
theorem dL_law_2124 : decode cL_law 2124 = .ok (.iload 6, 2) := by decide +kernel
theorem dL_law_2126 : decode cL_law 2126 = .ok (.if_icmp .eq 5, 3) := by decide +kernel
theorem dL_law_2129 : decode cL_law 2129 = .ok (.iconst 0, 1) := by decide +kernel
theorem dL_law_2130 : decode cL_law 2130 = .ok (.ireturn, 1) := by decide +kernel
theorem dL_law_2131 : decode cL_law 2131 = .ok (.iload 6, 2) := by decide +kernel
theorem dL_law_2133 : decode cL_law 2133 = .ok (.ifCond .ne 15, 3) := by decide +kernel
theorem dL_law_2136 : decode cL_law 2136 = .ok (.aload_n 3, 1) := by decide +kernel
theorem dL_law_2137 : decode cL_law 2137 = .ok (.iconst 0, 1) := by decide +kernel
theorem dL_law_2138 : decode cL_law 2138 = .ok (.laload, 1) := by decide +kernel
theorem dL_law_2139 : decode cL_law 2139 = .ok (.iload 7, 2) := by decide +kernel
theorem dL_law_2141 : decode cL_law 2141 = .ok (.i2l, 1) := by decide +kernel
theorem dL_law_2142 : decode cL_law 2142 = .ok (.lcmp, 1) := by decide +kernel
theorem dL_law_2143 : decode cL_law 2143 = .ok (.ifCond .eq 5, 3) := by decide +kernel
theorem dL_law_2146 : decode cL_law 2146 = .ok (.iconst 0, 1) := by decide +kernel
theorem dL_law_2147 : decode cL_law 2147 = .ok (.ireturn, 1) := by decide +kernel
theorem dL_law_2148 : decode cL_law 2148 = .ok (.goto 1256, 3) := by decide +kernel
theorem dL_law_2151 : decode cL_law 2151 = .ok (.aload_n 1, 1) := by decide +kernel
theorem dL_law_2152 : decode cL_law 2152 = .ok (.aload_n 3, 1) := by decide +kernel
theorem dL_law_2153 : decode cL_law 2153 = .ok (.invokestatic 293, 3) := by decide +kernel
theorem dL_law_2156 : decode cL_law 2156 = .ok (.istore 6, 2) := by decide +kernel
theorem dL_law_2158 : decode cL_law 2158 = .ok (.aload_n 2, 1) := by decide +kernel
theorem dL_law_2159 : decode cL_law 2159 = .ok (.invokevirtual 295, 3) := by decide +kernel
theorem dL_law_2162 : decode cL_law 2162 = .ok (.istore 7, 2) := by decide +kernel
theorem dL_law_2164 : decode cL_law 2164 = .ok (.aload_n 2, 1) := by decide +kernel
theorem dL_law_2165 : decode cL_law 2165 = .ok (.invokevirtual 189, 3) := by decide +kernel
theorem dL_law_2168 : decode cL_law 2168 = .ok (.iload 6, 2) := by decide +kernel
theorem dL_law_2170 : decode cL_law 2170 = .ok (.if_icmp .eq 5, 3) := by decide +kernel
theorem dL_law_2173 : decode cL_law 2173 = .ok (.iconst 0, 1) := by decide +kernel
theorem dL_law_2174 : decode cL_law 2174 = .ok (.ireturn, 1) := by decide +kernel
theorem dL_law_2175 : decode cL_law 2175 = .ok (.iload 6, 2) := by decide +kernel
theorem dL_law_2177 : decode cL_law 2177 = .ok (.ifCond .ne 15, 3) := by decide +kernel
theorem dL_law_2180 : decode cL_law 2180 = .ok (.aload_n 3, 1) := by decide +kernel
theorem dL_law_2181 : decode cL_law 2181 = .ok (.iconst 0, 1) := by decide +kernel
theorem dL_law_2182 : decode cL_law 2182 = .ok (.laload, 1) := by decide +kernel
theorem dL_law_2183 : decode cL_law 2183 = .ok (.iload 7, 2) := by decide +kernel
theorem dL_law_2185 : decode cL_law 2185 = .ok (.i2l, 1) := by decide +kernel
theorem dL_law_2186 : decode cL_law 2186 = .ok (.lcmp, 1) := by decide +kernel
theorem dL_law_2187 : decode cL_law 2187 = .ok (.ifCond .eq 5, 3) := by decide +kernel
theorem dL_law_2190 : decode cL_law 2190 = .ok (.iconst 0, 1) := by decide +kernel
theorem dL_law_2191 : decode cL_law 2191 = .ok (.ireturn, 1) := by decide +kernel
theorem dL_law_2192 : decode cL_law 2192 = .ok (.goto 1212, 3) := by decide +kernel
theorem dL_law_2195 : decode cL_law 2195 = .ok (.aload_n 1, 1) := by decide +kernel
theorem dL_law_2196 : decode cL_law 2196 = .ok (.aload_n 0, 1) := by decide +kernel
theorem dL_law_2197 : decode cL_law 2197 = .ok (.iload 5, 2) := by decide +kernel
theorem dL_law_2199 : decode cL_law 2199 = .ok (.iconst 1, 1) := by decide +kernel
theorem dL_law_2200 : decode cL_law 2200 = .ok (.iadd, 1) := by decide +kernel
theorem dL_law_2201 : decode cL_law 2201 = .ok (.iaload, 1) := by decide +kernel
theorem dL_law_2202 : decode cL_law 2202 = .ok (.aload_n 3, 1) := by decide +kernel
theorem dL_law_2203 : decode cL_law 2203 = .ok (.invokestatic 296, 3) := by decide +kernel
theorem dL_law_2206 : decode cL_law 2206 = .ok (.istore 6, 2) := by decide +kernel
theorem dL_law_2208 : decode cL_law 2208 = .ok (.aload_n 2, 1) := by decide +kernel
theorem dL_law_2209 : decode cL_law 2209 = .ok (.aload_n 0, 1) := by decide +kernel
theorem dL_law_2210 : decode cL_law 2210 = .ok (.iload 5, 2) := by decide +kernel
theorem dL_law_2212 : decode cL_law 2212 = .ok (.iconst 1, 1) := by decide +kernel
theorem dL_law_2213 : decode cL_law 2213 = .ok (.iadd, 1) := by decide +kernel
theorem dL_law_2214 : decode cL_law 2214 = .ok (.iaload, 1) := by decide +kernel
theorem dL_law_2215 : decode cL_law 2215 = .ok (.invokevirtual 298, 3) := by decide +kernel
theorem dL_law_2218 : decode cL_law 2218 = .ok (.istore 7, 2) := by decide +kernel
theorem dL_law_2220 : decode cL_law 2220 = .ok (.aload_n 2, 1) := by decide +kernel
theorem dL_law_2221 : decode cL_law 2221 = .ok (.invokevirtual 189, 3) := by decide +kernel
theorem dL_law_2224 : decode cL_law 2224 = .ok (.iload 6, 2) := by decide +kernel
theorem dL_law_2226 : decode cL_law 2226 = .ok (.if_icmp .eq 5, 3) := by decide +kernel
theorem dL_law_2229 : decode cL_law 2229 = .ok (.iconst 0, 1) := by decide +kernel
theorem dL_law_2230 : decode cL_law 2230 = .ok (.ireturn, 1) := by decide +kernel
theorem dL_law_2231 : decode cL_law 2231 = .ok (.iload 6, 2) := by decide +kernel
theorem dL_law_2233 : decode cL_law 2233 = .ok (.ifCond .ne 15, 3) := by decide +kernel
theorem dL_law_2236 : decode cL_law 2236 = .ok (.aload_n 3, 1) := by decide +kernel
theorem dL_law_2237 : decode cL_law 2237 = .ok (.iconst 0, 1) := by decide +kernel
theorem dL_law_2238 : decode cL_law 2238 = .ok (.laload, 1) := by decide +kernel
theorem dL_law_2239 : decode cL_law 2239 = .ok (.iload 7, 2) := by decide +kernel
theorem dL_law_2241 : decode cL_law 2241 = .ok (.i2l, 1) := by decide +kernel
theorem dL_law_2242 : decode cL_law 2242 = .ok (.lcmp, 1) := by decide +kernel
theorem dL_law_2243 : decode cL_law 2243 = .ok (.ifCond .eq 5, 3) := by decide +kernel
theorem dL_law_2246 : decode cL_law 2246 = .ok (.iconst 0, 1) := by decide +kernel
theorem dL_law_2247 : decode cL_law 2247 = .ok (.ireturn, 1) := by decide +kernel
theorem dL_law_2248 : decode cL_law 2248 = .ok (.goto 1156, 3) := by decide +kernel
theorem dL_law_2251 : decode cL_law 2251 = .ok (.aload_n 1, 1) := by decide +kernel
theorem dL_law_2252 : decode cL_law 2252 = .ok (.aload_n 0, 1) := by decide +kernel
theorem dL_law_2253 : decode cL_law 2253 = .ok (.iload 5, 2) := by decide +kernel
theorem dL_law_2255 : decode cL_law 2255 = .ok (.iconst 1, 1) := by decide +kernel
theorem dL_law_2256 : decode cL_law 2256 = .ok (.iadd, 1) := by decide +kernel
theorem dL_law_2257 : decode cL_law 2257 = .ok (.iaload, 1) := by decide +kernel
theorem dL_law_2258 : decode cL_law 2258 = .ok (.aload_n 3, 1) := by decide +kernel
theorem dL_law_2259 : decode cL_law 2259 = .ok (.invokestatic 299, 3) := by decide +kernel
theorem dL_law_2262 : decode cL_law 2262 = .ok (.istore 6, 2) := by decide +kernel
theorem dL_law_2264 : decode cL_law 2264 = .ok (.aload_n 2, 1) := by decide +kernel
theorem dL_law_2265 : decode cL_law 2265 = .ok (.aload_n 0, 1) := by decide +kernel
theorem dL_law_2266 : decode cL_law 2266 = .ok (.iload 5, 2) := by decide +kernel
theorem dL_law_2268 : decode cL_law 2268 = .ok (.iconst 1, 1) := by decide +kernel
theorem dL_law_2269 : decode cL_law 2269 = .ok (.iadd, 1) := by decide +kernel
theorem dL_law_2270 : decode cL_law 2270 = .ok (.iaload, 1) := by decide +kernel
theorem dL_law_2271 : decode cL_law 2271 = .ok (.invokevirtual 301, 3) := by decide +kernel
theorem dL_law_2274 : decode cL_law 2274 = .ok (.istore 7, 2) := by decide +kernel
theorem dL_law_2276 : decode cL_law 2276 = .ok (.aload_n 2, 1) := by decide +kernel
theorem dL_law_2277 : decode cL_law 2277 = .ok (.invokevirtual 189, 3) := by decide +kernel
theorem dL_law_2280 : decode cL_law 2280 = .ok (.iload 6, 2) := by decide +kernel
theorem dL_law_2282 : decode cL_law 2282 = .ok (.if_icmp .eq 5, 3) := by decide +kernel
theorem dL_law_2285 : decode cL_law 2285 = .ok (.iconst 0, 1) := by decide +kernel
theorem dL_law_2286 : decode cL_law 2286 = .ok (.ireturn, 1) := by decide +kernel
theorem dL_law_2287 : decode cL_law 2287 = .ok (.iload 6, 2) := by decide +kernel
theorem dL_law_2289 : decode cL_law 2289 = .ok (.ifCond .ne 15, 3) := by decide +kernel
theorem dL_law_2292 : decode cL_law 2292 = .ok (.aload_n 3, 1) := by decide +kernel
theorem dL_law_2293 : decode cL_law 2293 = .ok (.iconst 0, 1) := by decide +kernel
theorem dL_law_2294 : decode cL_law 2294 = .ok (.laload, 1) := by decide +kernel
theorem dL_law_2295 : decode cL_law 2295 = .ok (.iload 7, 2) := by decide +kernel
theorem dL_law_2297 : decode cL_law 2297 = .ok (.i2l, 1) := by decide +kernel
theorem dL_law_2298 : decode cL_law 2298 = .ok (.lcmp, 1) := by decide +kernel
theorem dL_law_2299 : decode cL_law 2299 = .ok (.ifCond .eq 5, 3) := by decide +kernel
theorem dL_law_2302 : decode cL_law 2302 = .ok (.iconst 0, 1) := by decide +kernel
theorem dL_law_2303 : decode cL_law 2303 = .ok (.ireturn, 1) := by decide +kernel
theorem dL_law_2304 : decode cL_law 2304 = .ok (.goto 1100, 3) := by decide +kernel
theorem dL_law_2307 : decode cL_law 2307 = .ok (.aload_n 1, 1) := by decide +kernel
theorem dL_law_2308 : decode cL_law 2308 = .ok (.aload_n 3, 1) := by decide +kernel
theorem dL_law_2309 : decode cL_law 2309 = .ok (.invokestatic 302, 3) := by decide +kernel
theorem dL_law_2312 : decode cL_law 2312 = .ok (.istore 6, 2) := by decide +kernel
theorem dL_law_2314 : decode cL_law 2314 = .ok (.aload_n 2, 1) := by decide +kernel
theorem dL_law_2315 : decode cL_law 2315 = .ok (.invokevirtual 304, 3) := by decide +kernel
theorem dL_law_2318 : decode cL_law 2318 = .ok (.istore 7, 2) := by decide +kernel
theorem dL_law_2320 : decode cL_law 2320 = .ok (.aload_n 2, 1) := by decide +kernel
theorem dL_law_2321 : decode cL_law 2321 = .ok (.invokevirtual 189, 3) := by decide +kernel
theorem dL_law_2324 : decode cL_law 2324 = .ok (.iload 6, 2) := by decide +kernel
theorem dL_law_2326 : decode cL_law 2326 = .ok (.if_icmp .eq 5, 3) := by decide +kernel
theorem dL_law_2329 : decode cL_law 2329 = .ok (.iconst 0, 1) := by decide +kernel
theorem dL_law_2330 : decode cL_law 2330 = .ok (.ireturn, 1) := by decide +kernel
theorem dL_law_2331 : decode cL_law 2331 = .ok (.iload 6, 2) := by decide +kernel
theorem dL_law_2333 : decode cL_law 2333 = .ok (.ifCond .ne 15, 3) := by decide +kernel
theorem dL_law_2336 : decode cL_law 2336 = .ok (.aload_n 3, 1) := by decide +kernel
theorem dL_law_2337 : decode cL_law 2337 = .ok (.iconst 0, 1) := by decide +kernel
theorem dL_law_2338 : decode cL_law 2338 = .ok (.laload, 1) := by decide +kernel
theorem dL_law_2339 : decode cL_law 2339 = .ok (.iload 7, 2) := by decide +kernel
theorem dL_law_2341 : decode cL_law 2341 = .ok (.i2l, 1) := by decide +kernel
theorem dL_law_2342 : decode cL_law 2342 = .ok (.lcmp, 1) := by decide +kernel
theorem dL_law_2343 : decode cL_law 2343 = .ok (.ifCond .eq 5, 3) := by decide +kernel
theorem dL_law_2346 : decode cL_law 2346 = .ok (.iconst 0, 1) := by decide +kernel
theorem dL_law_2347 : decode cL_law 2347 = .ok (.ireturn, 1) := by decide +kernel
theorem dL_law_2348 : decode cL_law 2348 = .ok (.goto 1056, 3) := by decide +kernel
theorem dL_law_2351 : decode cL_law 2351 = .ok (.aload_n 1, 1) := by decide +kernel
theorem dL_law_2352 : decode cL_law 2352 = .ok (.aload_n 0, 1) := by decide +kernel
theorem dL_law_2353 : decode cL_law 2353 = .ok (.iload 5, 2) := by decide +kernel
theorem dL_law_2355 : decode cL_law 2355 = .ok (.iconst 1, 1) := by decide +kernel
theorem dL_law_2356 : decode cL_law 2356 = .ok (.iadd, 1) := by decide +kernel
theorem dL_law_2357 : decode cL_law 2357 = .ok (.iaload, 1) := by decide +kernel
theorem dL_law_2358 : decode cL_law 2358 = .ok (.aload_n 3, 1) := by decide +kernel
theorem dL_law_2359 : decode cL_law 2359 = .ok (.invokestatic 305, 3) := by decide +kernel
theorem dL_law_2362 : decode cL_law 2362 = .ok (.istore 6, 2) := by decide +kernel
theorem dL_law_2364 : decode cL_law 2364 = .ok (.aload_n 2, 1) := by decide +kernel
theorem dL_law_2365 : decode cL_law 2365 = .ok (.aload_n 0, 1) := by decide +kernel
theorem dL_law_2366 : decode cL_law 2366 = .ok (.iload 5, 2) := by decide +kernel
theorem dL_law_2368 : decode cL_law 2368 = .ok (.iconst 1, 1) := by decide +kernel
theorem dL_law_2369 : decode cL_law 2369 = .ok (.iadd, 1) := by decide +kernel
theorem dL_law_2370 : decode cL_law 2370 = .ok (.iaload, 1) := by decide +kernel
theorem dL_law_2371 : decode cL_law 2371 = .ok (.invokevirtual 307, 3) := by decide +kernel
theorem dL_law_2374 : decode cL_law 2374 = .ok (.istore 7, 2) := by decide +kernel
theorem dL_law_2376 : decode cL_law 2376 = .ok (.aload_n 2, 1) := by decide +kernel
theorem dL_law_2377 : decode cL_law 2377 = .ok (.invokevirtual 189, 3) := by decide +kernel
theorem dL_law_2380 : decode cL_law 2380 = .ok (.iload 6, 2) := by decide +kernel
theorem dL_law_2382 : decode cL_law 2382 = .ok (.if_icmp .eq 5, 3) := by decide +kernel
theorem dL_law_2385 : decode cL_law 2385 = .ok (.iconst 0, 1) := by decide +kernel
theorem dL_law_2386 : decode cL_law 2386 = .ok (.ireturn, 1) := by decide +kernel
theorem dL_law_2387 : decode cL_law 2387 = .ok (.iload 6, 2) := by decide +kernel
theorem dL_law_2389 : decode cL_law 2389 = .ok (.ifCond .ne 15, 3) := by decide +kernel
theorem dL_law_2392 : decode cL_law 2392 = .ok (.aload_n 3, 1) := by decide +kernel
theorem dL_law_2393 : decode cL_law 2393 = .ok (.iconst 0, 1) := by decide +kernel
theorem dL_law_2394 : decode cL_law 2394 = .ok (.laload, 1) := by decide +kernel
theorem dL_law_2395 : decode cL_law 2395 = .ok (.iload 7, 2) := by decide +kernel
theorem dL_law_2397 : decode cL_law 2397 = .ok (.i2l, 1) := by decide +kernel
theorem dL_law_2398 : decode cL_law 2398 = .ok (.lcmp, 1) := by decide +kernel
theorem dL_law_2399 : decode cL_law 2399 = .ok (.ifCond .eq 5, 3) := by decide +kernel
theorem dL_law_2402 : decode cL_law 2402 = .ok (.iconst 0, 1) := by decide +kernel
theorem dL_law_2403 : decode cL_law 2403 = .ok (.ireturn, 1) := by decide +kernel
theorem dL_law_2404 : decode cL_law 2404 = .ok (.goto 1000, 3) := by decide +kernel
theorem dL_law_2407 : decode cL_law 2407 = .ok (.aload_n 1, 1) := by decide +kernel
theorem dL_law_2408 : decode cL_law 2408 = .ok (.aload_n 0, 1) := by decide +kernel
theorem dL_law_2409 : decode cL_law 2409 = .ok (.iload 5, 2) := by decide +kernel
theorem dL_law_2411 : decode cL_law 2411 = .ok (.iconst 1, 1) := by decide +kernel
theorem dL_law_2412 : decode cL_law 2412 = .ok (.iadd, 1) := by decide +kernel
theorem dL_law_2413 : decode cL_law 2413 = .ok (.iaload, 1) := by decide +kernel
theorem dL_law_2414 : decode cL_law 2414 = .ok (.aload_n 0, 1) := by decide +kernel
theorem dL_law_2415 : decode cL_law 2415 = .ok (.iload 5, 2) := by decide +kernel
theorem dL_law_2417 : decode cL_law 2417 = .ok (.iconst 2, 1) := by decide +kernel
theorem dL_law_2418 : decode cL_law 2418 = .ok (.iadd, 1) := by decide +kernel
theorem dL_law_2419 : decode cL_law 2419 = .ok (.iaload, 1) := by decide +kernel
theorem dL_law_2420 : decode cL_law 2420 = .ok (.aload_n 3, 1) := by decide +kernel
theorem dL_law_2421 : decode cL_law 2421 = .ok (.invokestatic 308, 3) := by decide +kernel
theorem dL_law_2424 : decode cL_law 2424 = .ok (.istore 6, 2) := by decide +kernel
theorem dL_law_2426 : decode cL_law 2426 = .ok (.aload_n 2, 1) := by decide +kernel
theorem dL_law_2427 : decode cL_law 2427 = .ok (.aload_n 0, 1) := by decide +kernel
theorem dL_law_2428 : decode cL_law 2428 = .ok (.iload 5, 2) := by decide +kernel
theorem dL_law_2430 : decode cL_law 2430 = .ok (.iconst 1, 1) := by decide +kernel
theorem dL_law_2431 : decode cL_law 2431 = .ok (.iadd, 1) := by decide +kernel
theorem dL_law_2432 : decode cL_law 2432 = .ok (.iaload, 1) := by decide +kernel
theorem dL_law_2433 : decode cL_law 2433 = .ok (.aload_n 0, 1) := by decide +kernel
theorem dL_law_2434 : decode cL_law 2434 = .ok (.iload 5, 2) := by decide +kernel
theorem dL_law_2436 : decode cL_law 2436 = .ok (.iconst 2, 1) := by decide +kernel
theorem dL_law_2437 : decode cL_law 2437 = .ok (.iadd, 1) := by decide +kernel
theorem dL_law_2438 : decode cL_law 2438 = .ok (.iaload, 1) := by decide +kernel
theorem dL_law_2439 : decode cL_law 2439 = .ok (.invokevirtual 310, 3) := by decide +kernel
theorem dL_law_2442 : decode cL_law 2442 = .ok (.istore 7, 2) := by decide +kernel
theorem dL_law_2444 : decode cL_law 2444 = .ok (.aload_n 2, 1) := by decide +kernel
theorem dL_law_2445 : decode cL_law 2445 = .ok (.invokevirtual 189, 3) := by decide +kernel
theorem dL_law_2448 : decode cL_law 2448 = .ok (.iload 6, 2) := by decide +kernel
theorem dL_law_2450 : decode cL_law 2450 = .ok (.if_icmp .eq 5, 3) := by decide +kernel
theorem dL_law_2453 : decode cL_law 2453 = .ok (.iconst 0, 1) := by decide +kernel
theorem dL_law_2454 : decode cL_law 2454 = .ok (.ireturn, 1) := by decide +kernel
theorem dL_law_2455 : decode cL_law 2455 = .ok (.iload 6, 2) := by decide +kernel
theorem dL_law_2457 : decode cL_law 2457 = .ok (.ifCond .ne 15, 3) := by decide +kernel
theorem dL_law_2460 : decode cL_law 2460 = .ok (.aload_n 3, 1) := by decide +kernel
theorem dL_law_2461 : decode cL_law 2461 = .ok (.iconst 0, 1) := by decide +kernel
theorem dL_law_2462 : decode cL_law 2462 = .ok (.laload, 1) := by decide +kernel
theorem dL_law_2463 : decode cL_law 2463 = .ok (.iload 7, 2) := by decide +kernel
theorem dL_law_2465 : decode cL_law 2465 = .ok (.i2l, 1) := by decide +kernel
theorem dL_law_2466 : decode cL_law 2466 = .ok (.lcmp, 1) := by decide +kernel
theorem dL_law_2467 : decode cL_law 2467 = .ok (.ifCond .eq 5, 3) := by decide +kernel
theorem dL_law_2470 : decode cL_law 2470 = .ok (.iconst 0, 1) := by decide +kernel
theorem dL_law_2471 : decode cL_law 2471 = .ok (.ireturn, 1) := by decide +kernel
theorem dL_law_2472 : decode cL_law 2472 = .ok (.goto 932, 3) := by decide +kernel
theorem dL_law_2475 : decode cL_law 2475 = .ok (.aload_n 1, 1) := by decide +kernel
theorem dL_law_2476 : decode cL_law 2476 = .ok (.aload_n 0, 1) := by decide +kernel
theorem dL_law_2477 : decode cL_law 2477 = .ok (.iload 5, 2) := by decide +kernel
theorem dL_law_2479 : decode cL_law 2479 = .ok (.iconst 1, 1) := by decide +kernel
theorem dL_law_2480 : decode cL_law 2480 = .ok (.iadd, 1) := by decide +kernel
theorem dL_law_2481 : decode cL_law 2481 = .ok (.iaload, 1) := by decide +kernel
theorem dL_law_2482 : decode cL_law 2482 = .ok (.aload_n 0, 1) := by decide +kernel
theorem dL_law_2483 : decode cL_law 2483 = .ok (.iload 5, 2) := by decide +kernel
theorem dL_law_2485 : decode cL_law 2485 = .ok (.iconst 2, 1) := by decide +kernel
theorem dL_law_2486 : decode cL_law 2486 = .ok (.iadd, 1) := by decide +kernel
theorem dL_law_2487 : decode cL_law 2487 = .ok (.iaload, 1) := by decide +kernel
theorem dL_law_2488 : decode cL_law 2488 = .ok (.aload_n 3, 1) := by decide +kernel
theorem dL_law_2489 : decode cL_law 2489 = .ok (.invokestatic 311, 3) := by decide +kernel
theorem dL_law_2492 : decode cL_law 2492 = .ok (.istore 6, 2) := by decide +kernel
theorem dL_law_2494 : decode cL_law 2494 = .ok (.aload_n 2, 1) := by decide +kernel
theorem dL_law_2495 : decode cL_law 2495 = .ok (.aload_n 0, 1) := by decide +kernel
theorem dL_law_2496 : decode cL_law 2496 = .ok (.iload 5, 2) := by decide +kernel
theorem dL_law_2498 : decode cL_law 2498 = .ok (.iconst 1, 1) := by decide +kernel
theorem dL_law_2499 : decode cL_law 2499 = .ok (.iadd, 1) := by decide +kernel
theorem dL_law_2500 : decode cL_law 2500 = .ok (.iaload, 1) := by decide +kernel
theorem dL_law_2501 : decode cL_law 2501 = .ok (.aload_n 0, 1) := by decide +kernel
theorem dL_law_2502 : decode cL_law 2502 = .ok (.iload 5, 2) := by decide +kernel
theorem dL_law_2504 : decode cL_law 2504 = .ok (.iconst 2, 1) := by decide +kernel
theorem dL_law_2505 : decode cL_law 2505 = .ok (.iadd, 1) := by decide +kernel
theorem dL_law_2506 : decode cL_law 2506 = .ok (.iaload, 1) := by decide +kernel
theorem dL_law_2507 : decode cL_law 2507 = .ok (.invokevirtual 313, 3) := by decide +kernel
theorem dL_law_2510 : decode cL_law 2510 = .ok (.istore 7, 2) := by decide +kernel
theorem dL_law_2512 : decode cL_law 2512 = .ok (.aload_n 2, 1) := by decide +kernel
theorem dL_law_2513 : decode cL_law 2513 = .ok (.invokevirtual 189, 3) := by decide +kernel
theorem dL_law_2516 : decode cL_law 2516 = .ok (.iload 6, 2) := by decide +kernel
theorem dL_law_2518 : decode cL_law 2518 = .ok (.if_icmp .eq 5, 3) := by decide +kernel
theorem dL_law_2521 : decode cL_law 2521 = .ok (.iconst 0, 1) := by decide +kernel
theorem dL_law_2522 : decode cL_law 2522 = .ok (.ireturn, 1) := by decide +kernel
theorem dL_law_2523 : decode cL_law 2523 = .ok (.iload 6, 2) := by decide +kernel
theorem dL_law_2525 : decode cL_law 2525 = .ok (.ifCond .ne 15, 3) := by decide +kernel
theorem dL_law_2528 : decode cL_law 2528 = .ok (.aload_n 3, 1) := by decide +kernel
theorem dL_law_2529 : decode cL_law 2529 = .ok (.iconst 0, 1) := by decide +kernel
theorem dL_law_2530 : decode cL_law 2530 = .ok (.laload, 1) := by decide +kernel
theorem dL_law_2531 : decode cL_law 2531 = .ok (.iload 7, 2) := by decide +kernel
theorem dL_law_2533 : decode cL_law 2533 = .ok (.i2l, 1) := by decide +kernel
theorem dL_law_2534 : decode cL_law 2534 = .ok (.lcmp, 1) := by decide +kernel
theorem dL_law_2535 : decode cL_law 2535 = .ok (.ifCond .eq 5, 3) := by decide +kernel
theorem dL_law_2538 : decode cL_law 2538 = .ok (.iconst 0, 1) := by decide +kernel
theorem dL_law_2539 : decode cL_law 2539 = .ok (.ireturn, 1) := by decide +kernel
theorem dL_law_2540 : decode cL_law 2540 = .ok (.goto 864, 3) := by decide +kernel
theorem dL_law_2543 : decode cL_law 2543 = .ok (.aload_n 1, 1) := by decide +kernel
theorem dL_law_2544 : decode cL_law 2544 = .ok (.aload_n 0, 1) := by decide +kernel
theorem dL_law_2545 : decode cL_law 2545 = .ok (.iload 5, 2) := by decide +kernel
theorem dL_law_2547 : decode cL_law 2547 = .ok (.iconst 1, 1) := by decide +kernel
theorem dL_law_2548 : decode cL_law 2548 = .ok (.iadd, 1) := by decide +kernel
theorem dL_law_2549 : decode cL_law 2549 = .ok (.iaload, 1) := by decide +kernel
theorem dL_law_2550 : decode cL_law 2550 = .ok (.aload_n 0, 1) := by decide +kernel
theorem dL_law_2551 : decode cL_law 2551 = .ok (.iload 5, 2) := by decide +kernel
theorem dL_law_2553 : decode cL_law 2553 = .ok (.iconst 2, 1) := by decide +kernel
theorem dL_law_2554 : decode cL_law 2554 = .ok (.iadd, 1) := by decide +kernel
theorem dL_law_2555 : decode cL_law 2555 = .ok (.iaload, 1) := by decide +kernel
theorem dL_law_2556 : decode cL_law 2556 = .ok (.aload_n 3, 1) := by decide +kernel
theorem dL_law_2557 : decode cL_law 2557 = .ok (.invokestatic 314, 3) := by decide +kernel
theorem dL_law_2560 : decode cL_law 2560 = .ok (.istore 6, 2) := by decide +kernel
theorem dL_law_2562 : decode cL_law 2562 = .ok (.aload_n 2, 1) := by decide +kernel
theorem dL_law_2563 : decode cL_law 2563 = .ok (.aload_n 0, 1) := by decide +kernel
theorem dL_law_2564 : decode cL_law 2564 = .ok (.iload 5, 2) := by decide +kernel
theorem dL_law_2566 : decode cL_law 2566 = .ok (.iconst 1, 1) := by decide +kernel
theorem dL_law_2567 : decode cL_law 2567 = .ok (.iadd, 1) := by decide +kernel
theorem dL_law_2568 : decode cL_law 2568 = .ok (.iaload, 1) := by decide +kernel
theorem dL_law_2569 : decode cL_law 2569 = .ok (.aload_n 0, 1) := by decide +kernel
theorem dL_law_2570 : decode cL_law 2570 = .ok (.iload 5, 2) := by decide +kernel
theorem dL_law_2572 : decode cL_law 2572 = .ok (.iconst 2, 1) := by decide +kernel
theorem dL_law_2573 : decode cL_law 2573 = .ok (.iadd, 1) := by decide +kernel
theorem dL_law_2574 : decode cL_law 2574 = .ok (.iaload, 1) := by decide +kernel
theorem dL_law_2575 : decode cL_law 2575 = .ok (.invokevirtual 316, 3) := by decide +kernel
theorem dL_law_2578 : decode cL_law 2578 = .ok (.istore 7, 2) := by decide +kernel
theorem dL_law_2580 : decode cL_law 2580 = .ok (.aload_n 2, 1) := by decide +kernel
theorem dL_law_2581 : decode cL_law 2581 = .ok (.invokevirtual 189, 3) := by decide +kernel
theorem dL_law_2584 : decode cL_law 2584 = .ok (.iload 6, 2) := by decide +kernel
theorem dL_law_2586 : decode cL_law 2586 = .ok (.if_icmp .eq 5, 3) := by decide +kernel
theorem dL_law_2589 : decode cL_law 2589 = .ok (.iconst 0, 1) := by decide +kernel
theorem dL_law_2590 : decode cL_law 2590 = .ok (.ireturn, 1) := by decide +kernel
theorem dL_law_2591 : decode cL_law 2591 = .ok (.iload 6, 2) := by decide +kernel
theorem dL_law_2593 : decode cL_law 2593 = .ok (.ifCond .ne 15, 3) := by decide +kernel
theorem dL_law_2596 : decode cL_law 2596 = .ok (.aload_n 3, 1) := by decide +kernel
theorem dL_law_2597 : decode cL_law 2597 = .ok (.iconst 0, 1) := by decide +kernel
theorem dL_law_2598 : decode cL_law 2598 = .ok (.laload, 1) := by decide +kernel
theorem dL_law_2599 : decode cL_law 2599 = .ok (.iload 7, 2) := by decide +kernel
theorem dL_law_2601 : decode cL_law 2601 = .ok (.i2l, 1) := by decide +kernel
theorem dL_law_2602 : decode cL_law 2602 = .ok (.lcmp, 1) := by decide +kernel
theorem dL_law_2603 : decode cL_law 2603 = .ok (.ifCond .eq 5, 3) := by decide +kernel
theorem dL_law_2606 : decode cL_law 2606 = .ok (.iconst 0, 1) := by decide +kernel
theorem dL_law_2607 : decode cL_law 2607 = .ok (.ireturn, 1) := by decide +kernel
theorem dL_law_2608 : decode cL_law 2608 = .ok (.goto 796, 3) := by decide +kernel
theorem dL_law_2611 : decode cL_law 2611 = .ok (.aload_n 1, 1) := by decide +kernel
theorem dL_law_2612 : decode cL_law 2612 = .ok (.aload_n 0, 1) := by decide +kernel
theorem dL_law_2613 : decode cL_law 2613 = .ok (.iload 5, 2) := by decide +kernel
theorem dL_law_2615 : decode cL_law 2615 = .ok (.iconst 1, 1) := by decide +kernel
theorem dL_law_2616 : decode cL_law 2616 = .ok (.iadd, 1) := by decide +kernel
theorem dL_law_2617 : decode cL_law 2617 = .ok (.iaload, 1) := by decide +kernel
theorem dL_law_2618 : decode cL_law 2618 = .ok (.aload_n 0, 1) := by decide +kernel
theorem dL_law_2619 : decode cL_law 2619 = .ok (.iload 5, 2) := by decide +kernel
theorem dL_law_2621 : decode cL_law 2621 = .ok (.iconst 2, 1) := by decide +kernel
theorem dL_law_2622 : decode cL_law 2622 = .ok (.iadd, 1) := by decide +kernel
theorem dL_law_2623 : decode cL_law 2623 = .ok (.iaload, 1) := by decide +kernel
theorem dL_law_2624 : decode cL_law 2624 = .ok (.aload_n 3, 1) := by decide +kernel
theorem dL_law_2625 : decode cL_law 2625 = .ok (.invokestatic 317, 3) := by decide +kernel
theorem dL_law_2628 : decode cL_law 2628 = .ok (.istore 6, 2) := by decide +kernel
theorem dL_law_2630 : decode cL_law 2630 = .ok (.aload_n 2, 1) := by decide +kernel
theorem dL_law_2631 : decode cL_law 2631 = .ok (.aload_n 0, 1) := by decide +kernel
theorem dL_law_2632 : decode cL_law 2632 = .ok (.iload 5, 2) := by decide +kernel
theorem dL_law_2634 : decode cL_law 2634 = .ok (.iconst 1, 1) := by decide +kernel
theorem dL_law_2635 : decode cL_law 2635 = .ok (.iadd, 1) := by decide +kernel
theorem dL_law_2636 : decode cL_law 2636 = .ok (.iaload, 1) := by decide +kernel
theorem dL_law_2637 : decode cL_law 2637 = .ok (.aload_n 0, 1) := by decide +kernel
theorem dL_law_2638 : decode cL_law 2638 = .ok (.iload 5, 2) := by decide +kernel
theorem dL_law_2640 : decode cL_law 2640 = .ok (.iconst 2, 1) := by decide +kernel
theorem dL_law_2641 : decode cL_law 2641 = .ok (.iadd, 1) := by decide +kernel
theorem dL_law_2642 : decode cL_law 2642 = .ok (.iaload, 1) := by decide +kernel
theorem dL_law_2643 : decode cL_law 2643 = .ok (.invokevirtual 319, 3) := by decide +kernel
theorem dL_law_2646 : decode cL_law 2646 = .ok (.istore 7, 2) := by decide +kernel
theorem dL_law_2648 : decode cL_law 2648 = .ok (.aload_n 2, 1) := by decide +kernel
theorem dL_law_2649 : decode cL_law 2649 = .ok (.invokevirtual 189, 3) := by decide +kernel
theorem dL_law_2652 : decode cL_law 2652 = .ok (.iload 6, 2) := by decide +kernel
theorem dL_law_2654 : decode cL_law 2654 = .ok (.if_icmp .eq 5, 3) := by decide +kernel
theorem dL_law_2657 : decode cL_law 2657 = .ok (.iconst 0, 1) := by decide +kernel
theorem dL_law_2658 : decode cL_law 2658 = .ok (.ireturn, 1) := by decide +kernel
theorem dL_law_2659 : decode cL_law 2659 = .ok (.iload 6, 2) := by decide +kernel
theorem dL_law_2661 : decode cL_law 2661 = .ok (.ifCond .ne 15, 3) := by decide +kernel
theorem dL_law_2664 : decode cL_law 2664 = .ok (.aload_n 3, 1) := by decide +kernel
theorem dL_law_2665 : decode cL_law 2665 = .ok (.iconst 0, 1) := by decide +kernel
theorem dL_law_2666 : decode cL_law 2666 = .ok (.laload, 1) := by decide +kernel
theorem dL_law_2667 : decode cL_law 2667 = .ok (.iload 7, 2) := by decide +kernel
theorem dL_law_2669 : decode cL_law 2669 = .ok (.i2l, 1) := by decide +kernel
theorem dL_law_2670 : decode cL_law 2670 = .ok (.lcmp, 1) := by decide +kernel
theorem dL_law_2671 : decode cL_law 2671 = .ok (.ifCond .eq 5, 3) := by decide +kernel
theorem dL_law_2674 : decode cL_law 2674 = .ok (.iconst 0, 1) := by decide +kernel
theorem dL_law_2675 : decode cL_law 2675 = .ok (.ireturn, 1) := by decide +kernel
theorem dL_law_2676 : decode cL_law 2676 = .ok (.goto 728, 3) := by decide +kernel
theorem dL_law_2679 : decode cL_law 2679 = .ok (.aload_n 1, 1) := by decide +kernel
theorem dL_law_2680 : decode cL_law 2680 = .ok (.aload_n 0, 1) := by decide +kernel
theorem dL_law_2681 : decode cL_law 2681 = .ok (.iload 5, 2) := by decide +kernel
theorem dL_law_2683 : decode cL_law 2683 = .ok (.iconst 1, 1) := by decide +kernel
theorem dL_law_2684 : decode cL_law 2684 = .ok (.iadd, 1) := by decide +kernel
theorem dL_law_2685 : decode cL_law 2685 = .ok (.iaload, 1) := by decide +kernel
theorem dL_law_2686 : decode cL_law 2686 = .ok (.aload_n 0, 1) := by decide +kernel
theorem dL_law_2687 : decode cL_law 2687 = .ok (.iload 5, 2) := by decide +kernel
theorem dL_law_2689 : decode cL_law 2689 = .ok (.iconst 2, 1) := by decide +kernel
theorem dL_law_2690 : decode cL_law 2690 = .ok (.iadd, 1) := by decide +kernel
theorem dL_law_2691 : decode cL_law 2691 = .ok (.iaload, 1) := by decide +kernel
theorem dL_law_2692 : decode cL_law 2692 = .ok (.ifCond .eq 7, 3) := by decide +kernel
theorem dL_law_2695 : decode cL_law 2695 = .ok (.iconst 1, 1) := by decide +kernel
theorem dL_law_2696 : decode cL_law 2696 = .ok (.goto 4, 3) := by decide +kernel
theorem dL_law_2699 : decode cL_law 2699 = .ok (.iconst 0, 1) := by decide +kernel
theorem dL_law_2700 : decode cL_law 2700 = .ok (.aload_n 3, 1) := by decide +kernel
theorem dL_law_2701 : decode cL_law 2701 = .ok (.invokestatic 320, 3) := by decide +kernel
theorem dL_law_2704 : decode cL_law 2704 = .ok (.istore 6, 2) := by decide +kernel
theorem dL_law_2706 : decode cL_law 2706 = .ok (.aload_n 2, 1) := by decide +kernel
theorem dL_law_2707 : decode cL_law 2707 = .ok (.aload_n 0, 1) := by decide +kernel
theorem dL_law_2708 : decode cL_law 2708 = .ok (.iload 5, 2) := by decide +kernel
theorem dL_law_2710 : decode cL_law 2710 = .ok (.iconst 1, 1) := by decide +kernel
theorem dL_law_2711 : decode cL_law 2711 = .ok (.iadd, 1) := by decide +kernel
theorem dL_law_2712 : decode cL_law 2712 = .ok (.iaload, 1) := by decide +kernel
theorem dL_law_2713 : decode cL_law 2713 = .ok (.aload_n 0, 1) := by decide +kernel
theorem dL_law_2714 : decode cL_law 2714 = .ok (.iload 5, 2) := by decide +kernel
theorem dL_law_2716 : decode cL_law 2716 = .ok (.iconst 2, 1) := by decide +kernel
theorem dL_law_2717 : decode cL_law 2717 = .ok (.iadd, 1) := by decide +kernel
theorem dL_law_2718 : decode cL_law 2718 = .ok (.iaload, 1) := by decide +kernel
theorem dL_law_2719 : decode cL_law 2719 = .ok (.ifCond .eq 7, 3) := by decide +kernel
theorem dL_law_2722 : decode cL_law 2722 = .ok (.iconst 1, 1) := by decide +kernel
theorem dL_law_2723 : decode cL_law 2723 = .ok (.goto 4, 3) := by decide +kernel
theorem dL_law_2726 : decode cL_law 2726 = .ok (.iconst 0, 1) := by decide +kernel
theorem dL_law_2727 : decode cL_law 2727 = .ok (.invokevirtual 322, 3) := by decide +kernel
theorem dL_law_2730 : decode cL_law 2730 = .ok (.istore 7, 2) := by decide +kernel
theorem dL_law_2732 : decode cL_law 2732 = .ok (.aload_n 2, 1) := by decide +kernel
theorem dL_law_2733 : decode cL_law 2733 = .ok (.invokevirtual 189, 3) := by decide +kernel
theorem dL_law_2736 : decode cL_law 2736 = .ok (.iload 6, 2) := by decide +kernel
theorem dL_law_2738 : decode cL_law 2738 = .ok (.if_icmp .eq 5, 3) := by decide +kernel
theorem dL_law_2741 : decode cL_law 2741 = .ok (.iconst 0, 1) := by decide +kernel
theorem dL_law_2742 : decode cL_law 2742 = .ok (.ireturn, 1) := by decide +kernel
theorem dL_law_2743 : decode cL_law 2743 = .ok (.iload 6, 2) := by decide +kernel
theorem dL_law_2745 : decode cL_law 2745 = .ok (.ifCond .ne 15, 3) := by decide +kernel
theorem dL_law_2748 : decode cL_law 2748 = .ok (.aload_n 3, 1) := by decide +kernel
theorem dL_law_2749 : decode cL_law 2749 = .ok (.iconst 0, 1) := by decide +kernel
theorem dL_law_2750 : decode cL_law 2750 = .ok (.laload, 1) := by decide +kernel
theorem dL_law_2751 : decode cL_law 2751 = .ok (.iload 7, 2) := by decide +kernel
theorem dL_law_2753 : decode cL_law 2753 = .ok (.i2l, 1) := by decide +kernel
theorem dL_law_2754 : decode cL_law 2754 = .ok (.lcmp, 1) := by decide +kernel
theorem dL_law_2755 : decode cL_law 2755 = .ok (.ifCond .eq 5, 3) := by decide +kernel
theorem dL_law_2758 : decode cL_law 2758 = .ok (.iconst 0, 1) := by decide +kernel
theorem dL_law_2759 : decode cL_law 2759 = .ok (.ireturn, 1) := by decide +kernel
theorem dL_law_2760 : decode cL_law 2760 = .ok (.goto 644, 3) := by decide +kernel
theorem dL_law_2763 : decode cL_law 2763 = .ok (.aload_n 1, 1) := by decide +kernel
theorem dL_law_2764 : decode cL_law 2764 = .ok (.aload_n 0, 1) := by decide +kernel
theorem dL_law_2765 : decode cL_law 2765 = .ok (.iload 5, 2) := by decide +kernel
theorem dL_law_2767 : decode cL_law 2767 = .ok (.iconst 1, 1) := by decide +kernel
theorem dL_law_2768 : decode cL_law 2768 = .ok (.iadd, 1) := by decide +kernel
theorem dL_law_2769 : decode cL_law 2769 = .ok (.iaload, 1) := by decide +kernel
theorem dL_law_2770 : decode cL_law 2770 = .ok (.aload_n 0, 1) := by decide +kernel
theorem dL_law_2771 : decode cL_law 2771 = .ok (.iload 5, 2) := by decide +kernel
theorem dL_law_2773 : decode cL_law 2773 = .ok (.iconst 2, 1) := by decide +kernel
theorem dL_law_2774 : decode cL_law 2774 = .ok (.iadd, 1) := by decide +kernel
theorem dL_law_2775 : decode cL_law 2775 = .ok (.iaload, 1) := by decide +kernel
theorem dL_law_2776 : decode cL_law 2776 = .ok (.aload_n 3, 1) := by decide +kernel
theorem dL_law_2777 : decode cL_law 2777 = .ok (.invokestatic 323, 3) := by decide +kernel
theorem dL_law_2780 : decode cL_law 2780 = .ok (.istore 6, 2) := by decide +kernel
theorem dL_law_2782 : decode cL_law 2782 = .ok (.aload_n 2, 1) := by decide +kernel
theorem dL_law_2783 : decode cL_law 2783 = .ok (.aload_n 0, 1) := by decide +kernel
theorem dL_law_2784 : decode cL_law 2784 = .ok (.iload 5, 2) := by decide +kernel
theorem dL_law_2786 : decode cL_law 2786 = .ok (.iconst 1, 1) := by decide +kernel
theorem dL_law_2787 : decode cL_law 2787 = .ok (.iadd, 1) := by decide +kernel
theorem dL_law_2788 : decode cL_law 2788 = .ok (.iaload, 1) := by decide +kernel
theorem dL_law_2789 : decode cL_law 2789 = .ok (.aload_n 0, 1) := by decide +kernel
theorem dL_law_2790 : decode cL_law 2790 = .ok (.iload 5, 2) := by decide +kernel
theorem dL_law_2792 : decode cL_law 2792 = .ok (.iconst 2, 1) := by decide +kernel
theorem dL_law_2793 : decode cL_law 2793 = .ok (.iadd, 1) := by decide +kernel
theorem dL_law_2794 : decode cL_law 2794 = .ok (.iaload, 1) := by decide +kernel
theorem dL_law_2795 : decode cL_law 2795 = .ok (.invokevirtual 325, 3) := by decide +kernel
theorem dL_law_2798 : decode cL_law 2798 = .ok (.istore 7, 2) := by decide +kernel
theorem dL_law_2800 : decode cL_law 2800 = .ok (.aload_n 2, 1) := by decide +kernel
theorem dL_law_2801 : decode cL_law 2801 = .ok (.invokevirtual 189, 3) := by decide +kernel
theorem dL_law_2804 : decode cL_law 2804 = .ok (.iload 6, 2) := by decide +kernel
theorem dL_law_2806 : decode cL_law 2806 = .ok (.if_icmp .eq 5, 3) := by decide +kernel
theorem dL_law_2809 : decode cL_law 2809 = .ok (.iconst 0, 1) := by decide +kernel
theorem dL_law_2810 : decode cL_law 2810 = .ok (.ireturn, 1) := by decide +kernel
theorem dL_law_2811 : decode cL_law 2811 = .ok (.iload 6, 2) := by decide +kernel
theorem dL_law_2813 : decode cL_law 2813 = .ok (.ifCond .ne 15, 3) := by decide +kernel
theorem dL_law_2816 : decode cL_law 2816 = .ok (.aload_n 3, 1) := by decide +kernel
theorem dL_law_2817 : decode cL_law 2817 = .ok (.iconst 0, 1) := by decide +kernel
theorem dL_law_2818 : decode cL_law 2818 = .ok (.laload, 1) := by decide +kernel
theorem dL_law_2819 : decode cL_law 2819 = .ok (.iload 7, 2) := by decide +kernel
theorem dL_law_2821 : decode cL_law 2821 = .ok (.i2l, 1) := by decide +kernel
theorem dL_law_2822 : decode cL_law 2822 = .ok (.lcmp, 1) := by decide +kernel
theorem dL_law_2823 : decode cL_law 2823 = .ok (.ifCond .eq 5, 3) := by decide +kernel
theorem dL_law_2826 : decode cL_law 2826 = .ok (.iconst 0, 1) := by decide +kernel
theorem dL_law_2827 : decode cL_law 2827 = .ok (.ireturn, 1) := by decide +kernel
theorem dL_law_2828 : decode cL_law 2828 = .ok (.goto 576, 3) := by decide +kernel
theorem dL_law_2831 : decode cL_law 2831 = .ok (.aload_n 1, 1) := by decide +kernel
theorem dL_law_2832 : decode cL_law 2832 = .ok (.aload_n 0, 1) := by decide +kernel
theorem dL_law_2833 : decode cL_law 2833 = .ok (.iload 5, 2) := by decide +kernel
theorem dL_law_2835 : decode cL_law 2835 = .ok (.iconst 1, 1) := by decide +kernel
theorem dL_law_2836 : decode cL_law 2836 = .ok (.iadd, 1) := by decide +kernel
theorem dL_law_2837 : decode cL_law 2837 = .ok (.iaload, 1) := by decide +kernel
theorem dL_law_2838 : decode cL_law 2838 = .ok (.aload_n 3, 1) := by decide +kernel
theorem dL_law_2839 : decode cL_law 2839 = .ok (.invokestatic 326, 3) := by decide +kernel
theorem dL_law_2842 : decode cL_law 2842 = .ok (.istore 6, 2) := by decide +kernel
theorem dL_law_2844 : decode cL_law 2844 = .ok (.aload_n 2, 1) := by decide +kernel
theorem dL_law_2845 : decode cL_law 2845 = .ok (.aload_n 0, 1) := by decide +kernel
theorem dL_law_2846 : decode cL_law 2846 = .ok (.iload 5, 2) := by decide +kernel
theorem dL_law_2848 : decode cL_law 2848 = .ok (.iconst 1, 1) := by decide +kernel
theorem dL_law_2849 : decode cL_law 2849 = .ok (.iadd, 1) := by decide +kernel
theorem dL_law_2850 : decode cL_law 2850 = .ok (.iaload, 1) := by decide +kernel
theorem dL_law_2851 : decode cL_law 2851 = .ok (.invokevirtual 328, 3) := by decide +kernel
theorem dL_law_2854 : decode cL_law 2854 = .ok (.istore 7, 2) := by decide +kernel
theorem dL_law_2856 : decode cL_law 2856 = .ok (.aload_n 2, 1) := by decide +kernel
theorem dL_law_2857 : decode cL_law 2857 = .ok (.invokevirtual 189, 3) := by decide +kernel
theorem dL_law_2860 : decode cL_law 2860 = .ok (.iload 6, 2) := by decide +kernel
theorem dL_law_2862 : decode cL_law 2862 = .ok (.if_icmp .eq 5, 3) := by decide +kernel
theorem dL_law_2865 : decode cL_law 2865 = .ok (.iconst 0, 1) := by decide +kernel
theorem dL_law_2866 : decode cL_law 2866 = .ok (.ireturn, 1) := by decide +kernel
theorem dL_law_2867 : decode cL_law 2867 = .ok (.iload 6, 2) := by decide +kernel
theorem dL_law_2869 : decode cL_law 2869 = .ok (.ifCond .ne 15, 3) := by decide +kernel
theorem dL_law_2872 : decode cL_law 2872 = .ok (.aload_n 3, 1) := by decide +kernel
theorem dL_law_2873 : decode cL_law 2873 = .ok (.iconst 0, 1) := by decide +kernel
theorem dL_law_2874 : decode cL_law 2874 = .ok (.laload, 1) := by decide +kernel
theorem dL_law_2875 : decode cL_law 2875 = .ok (.iload 7, 2) := by decide +kernel
theorem dL_law_2877 : decode cL_law 2877 = .ok (.i2l, 1) := by decide +kernel
theorem dL_law_2878 : decode cL_law 2878 = .ok (.lcmp, 1) := by decide +kernel
theorem dL_law_2879 : decode cL_law 2879 = .ok (.ifCond .eq 5, 3) := by decide +kernel
theorem dL_law_2882 : decode cL_law 2882 = .ok (.iconst 0, 1) := by decide +kernel
theorem dL_law_2883 : decode cL_law 2883 = .ok (.ireturn, 1) := by decide +kernel
theorem dL_law_2884 : decode cL_law 2884 = .ok (.goto 520, 3) := by decide +kernel
theorem dL_law_2887 : decode cL_law 2887 = .ok (.aload_n 1, 1) := by decide +kernel
theorem dL_law_2888 : decode cL_law 2888 = .ok (.aload_n 0, 1) := by decide +kernel
theorem dL_law_2889 : decode cL_law 2889 = .ok (.iload 5, 2) := by decide +kernel
theorem dL_law_2891 : decode cL_law 2891 = .ok (.iconst 1, 1) := by decide +kernel
theorem dL_law_2892 : decode cL_law 2892 = .ok (.iadd, 1) := by decide +kernel
theorem dL_law_2893 : decode cL_law 2893 = .ok (.iaload, 1) := by decide +kernel
theorem dL_law_2894 : decode cL_law 2894 = .ok (.aload_n 3, 1) := by decide +kernel
theorem dL_law_2895 : decode cL_law 2895 = .ok (.invokestatic 329, 3) := by decide +kernel
theorem dL_law_2898 : decode cL_law 2898 = .ok (.istore 6, 2) := by decide +kernel
theorem dL_law_2900 : decode cL_law 2900 = .ok (.aload_n 2, 1) := by decide +kernel
theorem dL_law_2901 : decode cL_law 2901 = .ok (.aload_n 0, 1) := by decide +kernel
theorem dL_law_2902 : decode cL_law 2902 = .ok (.iload 5, 2) := by decide +kernel
theorem dL_law_2904 : decode cL_law 2904 = .ok (.iconst 1, 1) := by decide +kernel
theorem dL_law_2905 : decode cL_law 2905 = .ok (.iadd, 1) := by decide +kernel
theorem dL_law_2906 : decode cL_law 2906 = .ok (.iaload, 1) := by decide +kernel
theorem dL_law_2907 : decode cL_law 2907 = .ok (.invokevirtual 331, 3) := by decide +kernel
theorem dL_law_2910 : decode cL_law 2910 = .ok (.istore 7, 2) := by decide +kernel
theorem dL_law_2912 : decode cL_law 2912 = .ok (.aload_n 2, 1) := by decide +kernel
theorem dL_law_2913 : decode cL_law 2913 = .ok (.invokevirtual 189, 3) := by decide +kernel
theorem dL_law_2916 : decode cL_law 2916 = .ok (.iload 6, 2) := by decide +kernel
theorem dL_law_2918 : decode cL_law 2918 = .ok (.if_icmp .eq 5, 3) := by decide +kernel
theorem dL_law_2921 : decode cL_law 2921 = .ok (.iconst 0, 1) := by decide +kernel
theorem dL_law_2922 : decode cL_law 2922 = .ok (.ireturn, 1) := by decide +kernel
theorem dL_law_2923 : decode cL_law 2923 = .ok (.iload 6, 2) := by decide +kernel
theorem dL_law_2925 : decode cL_law 2925 = .ok (.ifCond .ne 15, 3) := by decide +kernel
theorem dL_law_2928 : decode cL_law 2928 = .ok (.aload_n 3, 1) := by decide +kernel
theorem dL_law_2929 : decode cL_law 2929 = .ok (.iconst 0, 1) := by decide +kernel
theorem dL_law_2930 : decode cL_law 2930 = .ok (.laload, 1) := by decide +kernel
theorem dL_law_2931 : decode cL_law 2931 = .ok (.iload 7, 2) := by decide +kernel
theorem dL_law_2933 : decode cL_law 2933 = .ok (.i2l, 1) := by decide +kernel
theorem dL_law_2934 : decode cL_law 2934 = .ok (.lcmp, 1) := by decide +kernel
theorem dL_law_2935 : decode cL_law 2935 = .ok (.ifCond .eq 5, 3) := by decide +kernel
theorem dL_law_2938 : decode cL_law 2938 = .ok (.iconst 0, 1) := by decide +kernel
theorem dL_law_2939 : decode cL_law 2939 = .ok (.ireturn, 1) := by decide +kernel
theorem dL_law_2940 : decode cL_law 2940 = .ok (.goto 464, 3) := by decide +kernel
theorem dL_law_2943 : decode cL_law 2943 = .ok (.aload_n 1, 1) := by decide +kernel
theorem dL_law_2944 : decode cL_law 2944 = .ok (.aload_n 0, 1) := by decide +kernel
theorem dL_law_2945 : decode cL_law 2945 = .ok (.iload 5, 2) := by decide +kernel
theorem dL_law_2947 : decode cL_law 2947 = .ok (.iconst 1, 1) := by decide +kernel
theorem dL_law_2948 : decode cL_law 2948 = .ok (.iadd, 1) := by decide +kernel
theorem dL_law_2949 : decode cL_law 2949 = .ok (.iaload, 1) := by decide +kernel
theorem dL_law_2950 : decode cL_law 2950 = .ok (.aload_n 3, 1) := by decide +kernel
theorem dL_law_2951 : decode cL_law 2951 = .ok (.invokestatic 332, 3) := by decide +kernel
theorem dL_law_2954 : decode cL_law 2954 = .ok (.istore 6, 2) := by decide +kernel
theorem dL_law_2956 : decode cL_law 2956 = .ok (.aload_n 2, 1) := by decide +kernel
theorem dL_law_2957 : decode cL_law 2957 = .ok (.aload_n 0, 1) := by decide +kernel
theorem dL_law_2958 : decode cL_law 2958 = .ok (.iload 5, 2) := by decide +kernel
theorem dL_law_2960 : decode cL_law 2960 = .ok (.iconst 1, 1) := by decide +kernel
theorem dL_law_2961 : decode cL_law 2961 = .ok (.iadd, 1) := by decide +kernel
theorem dL_law_2962 : decode cL_law 2962 = .ok (.iaload, 1) := by decide +kernel
theorem dL_law_2963 : decode cL_law 2963 = .ok (.invokevirtual 334, 3) := by decide +kernel
theorem dL_law_2966 : decode cL_law 2966 = .ok (.istore 7, 2) := by decide +kernel
theorem dL_law_2968 : decode cL_law 2968 = .ok (.aload_n 2, 1) := by decide +kernel
theorem dL_law_2969 : decode cL_law 2969 = .ok (.invokevirtual 189, 3) := by decide +kernel
theorem dL_law_2972 : decode cL_law 2972 = .ok (.iload 6, 2) := by decide +kernel
theorem dL_law_2974 : decode cL_law 2974 = .ok (.if_icmp .eq 5, 3) := by decide +kernel
theorem dL_law_2977 : decode cL_law 2977 = .ok (.iconst 0, 1) := by decide +kernel
theorem dL_law_2978 : decode cL_law 2978 = .ok (.ireturn, 1) := by decide +kernel
theorem dL_law_2979 : decode cL_law 2979 = .ok (.iload 6, 2) := by decide +kernel
theorem dL_law_2981 : decode cL_law 2981 = .ok (.ifCond .ne 15, 3) := by decide +kernel
theorem dL_law_2984 : decode cL_law 2984 = .ok (.aload_n 3, 1) := by decide +kernel
theorem dL_law_2985 : decode cL_law 2985 = .ok (.iconst 0, 1) := by decide +kernel
theorem dL_law_2986 : decode cL_law 2986 = .ok (.laload, 1) := by decide +kernel
theorem dL_law_2987 : decode cL_law 2987 = .ok (.iload 7, 2) := by decide +kernel
theorem dL_law_2989 : decode cL_law 2989 = .ok (.i2l, 1) := by decide +kernel
theorem dL_law_2990 : decode cL_law 2990 = .ok (.lcmp, 1) := by decide +kernel
theorem dL_law_2991 : decode cL_law 2991 = .ok (.ifCond .eq 5, 3) := by decide +kernel
theorem dL_law_2994 : decode cL_law 2994 = .ok (.iconst 0, 1) := by decide +kernel
theorem dL_law_2995 : decode cL_law 2995 = .ok (.ireturn, 1) := by decide +kernel
theorem dL_law_2996 : decode cL_law 2996 = .ok (.goto 408, 3) := by decide +kernel
theorem dL_law_2999 : decode cL_law 2999 = .ok (.aload_n 1, 1) := by decide +kernel
theorem dL_law_3000 : decode cL_law 3000 = .ok (.aload_n 0, 1) := by decide +kernel
theorem dL_law_3001 : decode cL_law 3001 = .ok (.iload 5, 2) := by decide +kernel
theorem dL_law_3003 : decode cL_law 3003 = .ok (.iconst 1, 1) := by decide +kernel
theorem dL_law_3004 : decode cL_law 3004 = .ok (.iadd, 1) := by decide +kernel
theorem dL_law_3005 : decode cL_law 3005 = .ok (.iaload, 1) := by decide +kernel
theorem dL_law_3006 : decode cL_law 3006 = .ok (.aload_n 3, 1) := by decide +kernel
theorem dL_law_3007 : decode cL_law 3007 = .ok (.invokestatic 335, 3) := by decide +kernel
theorem dL_law_3010 : decode cL_law 3010 = .ok (.istore 6, 2) := by decide +kernel
theorem dL_law_3012 : decode cL_law 3012 = .ok (.aload_n 2, 1) := by decide +kernel
theorem dL_law_3013 : decode cL_law 3013 = .ok (.aload_n 0, 1) := by decide +kernel
theorem dL_law_3014 : decode cL_law 3014 = .ok (.iload 5, 2) := by decide +kernel
theorem dL_law_3016 : decode cL_law 3016 = .ok (.iconst 1, 1) := by decide +kernel
theorem dL_law_3017 : decode cL_law 3017 = .ok (.iadd, 1) := by decide +kernel
theorem dL_law_3018 : decode cL_law 3018 = .ok (.iaload, 1) := by decide +kernel
theorem dL_law_3019 : decode cL_law 3019 = .ok (.invokevirtual 337, 3) := by decide +kernel
theorem dL_law_3022 : decode cL_law 3022 = .ok (.istore 7, 2) := by decide +kernel
theorem dL_law_3024 : decode cL_law 3024 = .ok (.aload_n 2, 1) := by decide +kernel
theorem dL_law_3025 : decode cL_law 3025 = .ok (.invokevirtual 189, 3) := by decide +kernel
theorem dL_law_3028 : decode cL_law 3028 = .ok (.iload 6, 2) := by decide +kernel
theorem dL_law_3030 : decode cL_law 3030 = .ok (.if_icmp .eq 5, 3) := by decide +kernel
theorem dL_law_3033 : decode cL_law 3033 = .ok (.iconst 0, 1) := by decide +kernel
theorem dL_law_3034 : decode cL_law 3034 = .ok (.ireturn, 1) := by decide +kernel
theorem dL_law_3035 : decode cL_law 3035 = .ok (.iload 6, 2) := by decide +kernel
theorem dL_law_3037 : decode cL_law 3037 = .ok (.ifCond .ne 15, 3) := by decide +kernel
theorem dL_law_3040 : decode cL_law 3040 = .ok (.aload_n 3, 1) := by decide +kernel
theorem dL_law_3041 : decode cL_law 3041 = .ok (.iconst 0, 1) := by decide +kernel
theorem dL_law_3042 : decode cL_law 3042 = .ok (.laload, 1) := by decide +kernel
theorem dL_law_3043 : decode cL_law 3043 = .ok (.iload 7, 2) := by decide +kernel
theorem dL_law_3045 : decode cL_law 3045 = .ok (.i2l, 1) := by decide +kernel
theorem dL_law_3046 : decode cL_law 3046 = .ok (.lcmp, 1) := by decide +kernel
theorem dL_law_3047 : decode cL_law 3047 = .ok (.ifCond .eq 5, 3) := by decide +kernel
theorem dL_law_3050 : decode cL_law 3050 = .ok (.iconst 0, 1) := by decide +kernel
theorem dL_law_3051 : decode cL_law 3051 = .ok (.ireturn, 1) := by decide +kernel
theorem dL_law_3052 : decode cL_law 3052 = .ok (.goto 352, 3) := by decide +kernel
theorem dL_law_3055 : decode cL_law 3055 = .ok (.aload_n 1, 1) := by decide +kernel
theorem dL_law_3056 : decode cL_law 3056 = .ok (.aload_n 0, 1) := by decide +kernel
theorem dL_law_3057 : decode cL_law 3057 = .ok (.iload 5, 2) := by decide +kernel
theorem dL_law_3059 : decode cL_law 3059 = .ok (.iconst 1, 1) := by decide +kernel
theorem dL_law_3060 : decode cL_law 3060 = .ok (.iadd, 1) := by decide +kernel
theorem dL_law_3061 : decode cL_law 3061 = .ok (.iaload, 1) := by decide +kernel
theorem dL_law_3062 : decode cL_law 3062 = .ok (.aload_n 3, 1) := by decide +kernel
theorem dL_law_3063 : decode cL_law 3063 = .ok (.invokestatic 338, 3) := by decide +kernel
theorem dL_law_3066 : decode cL_law 3066 = .ok (.istore 6, 2) := by decide +kernel
theorem dL_law_3068 : decode cL_law 3068 = .ok (.aload_n 2, 1) := by decide +kernel
theorem dL_law_3069 : decode cL_law 3069 = .ok (.aload_n 0, 1) := by decide +kernel
theorem dL_law_3070 : decode cL_law 3070 = .ok (.iload 5, 2) := by decide +kernel
theorem dL_law_3072 : decode cL_law 3072 = .ok (.iconst 1, 1) := by decide +kernel
theorem dL_law_3073 : decode cL_law 3073 = .ok (.iadd, 1) := by decide +kernel
theorem dL_law_3074 : decode cL_law 3074 = .ok (.iaload, 1) := by decide +kernel
theorem dL_law_3075 : decode cL_law 3075 = .ok (.invokevirtual 340, 3) := by decide +kernel
theorem dL_law_3078 : decode cL_law 3078 = .ok (.istore 7, 2) := by decide +kernel
theorem dL_law_3080 : decode cL_law 3080 = .ok (.aload_n 2, 1) := by decide +kernel
theorem dL_law_3081 : decode cL_law 3081 = .ok (.invokevirtual 189, 3) := by decide +kernel
theorem dL_law_3084 : decode cL_law 3084 = .ok (.iload 6, 2) := by decide +kernel
theorem dL_law_3086 : decode cL_law 3086 = .ok (.if_icmp .eq 5, 3) := by decide +kernel
theorem dL_law_3089 : decode cL_law 3089 = .ok (.iconst 0, 1) := by decide +kernel
theorem dL_law_3090 : decode cL_law 3090 = .ok (.ireturn, 1) := by decide +kernel
theorem dL_law_3091 : decode cL_law 3091 = .ok (.iload 6, 2) := by decide +kernel
theorem dL_law_3093 : decode cL_law 3093 = .ok (.ifCond .ne 15, 3) := by decide +kernel
theorem dL_law_3096 : decode cL_law 3096 = .ok (.aload_n 3, 1) := by decide +kernel
theorem dL_law_3097 : decode cL_law 3097 = .ok (.iconst 0, 1) := by decide +kernel
theorem dL_law_3098 : decode cL_law 3098 = .ok (.laload, 1) := by decide +kernel
theorem dL_law_3099 : decode cL_law 3099 = .ok (.iload 7, 2) := by decide +kernel
theorem dL_law_3101 : decode cL_law 3101 = .ok (.i2l, 1) := by decide +kernel
theorem dL_law_3102 : decode cL_law 3102 = .ok (.lcmp, 1) := by decide +kernel
theorem dL_law_3103 : decode cL_law 3103 = .ok (.ifCond .eq 5, 3) := by decide +kernel
theorem dL_law_3106 : decode cL_law 3106 = .ok (.iconst 0, 1) := by decide +kernel
theorem dL_law_3107 : decode cL_law 3107 = .ok (.ireturn, 1) := by decide +kernel
theorem dL_law_3108 : decode cL_law 3108 = .ok (.goto 296, 3) := by decide +kernel
theorem dL_law_3111 : decode cL_law 3111 = .ok (.aload_n 1, 1) := by decide +kernel
theorem dL_law_3112 : decode cL_law 3112 = .ok (.aload_n 0, 1) := by decide +kernel
theorem dL_law_3113 : decode cL_law 3113 = .ok (.iload 5, 2) := by decide +kernel
theorem dL_law_3115 : decode cL_law 3115 = .ok (.iconst 1, 1) := by decide +kernel
theorem dL_law_3116 : decode cL_law 3116 = .ok (.iadd, 1) := by decide +kernel
theorem dL_law_3117 : decode cL_law 3117 = .ok (.iaload, 1) := by decide +kernel
theorem dL_law_3118 : decode cL_law 3118 = .ok (.aload_n 3, 1) := by decide +kernel
theorem dL_law_3119 : decode cL_law 3119 = .ok (.invokestatic 341, 3) := by decide +kernel
theorem dL_law_3122 : decode cL_law 3122 = .ok (.istore 6, 2) := by decide +kernel
theorem dL_law_3124 : decode cL_law 3124 = .ok (.aload_n 2, 1) := by decide +kernel
theorem dL_law_3125 : decode cL_law 3125 = .ok (.aload_n 0, 1) := by decide +kernel
theorem dL_law_3126 : decode cL_law 3126 = .ok (.iload 5, 2) := by decide +kernel
theorem dL_law_3128 : decode cL_law 3128 = .ok (.iconst 1, 1) := by decide +kernel
theorem dL_law_3129 : decode cL_law 3129 = .ok (.iadd, 1) := by decide +kernel
theorem dL_law_3130 : decode cL_law 3130 = .ok (.iaload, 1) := by decide +kernel
theorem dL_law_3131 : decode cL_law 3131 = .ok (.invokevirtual 343, 3) := by decide +kernel
theorem dL_law_3134 : decode cL_law 3134 = .ok (.istore 7, 2) := by decide +kernel
theorem dL_law_3136 : decode cL_law 3136 = .ok (.aload_n 2, 1) := by decide +kernel
theorem dL_law_3137 : decode cL_law 3137 = .ok (.invokevirtual 189, 3) := by decide +kernel
theorem dL_law_3140 : decode cL_law 3140 = .ok (.iload 6, 2) := by decide +kernel
theorem dL_law_3142 : decode cL_law 3142 = .ok (.if_icmp .eq 5, 3) := by decide +kernel
theorem dL_law_3145 : decode cL_law 3145 = .ok (.iconst 0, 1) := by decide +kernel
theorem dL_law_3146 : decode cL_law 3146 = .ok (.ireturn, 1) := by decide +kernel
theorem dL_law_3147 : decode cL_law 3147 = .ok (.iload 6, 2) := by decide +kernel
theorem dL_law_3149 : decode cL_law 3149 = .ok (.ifCond .ne 15, 3) := by decide +kernel
theorem dL_law_3152 : decode cL_law 3152 = .ok (.aload_n 3, 1) := by decide +kernel
theorem dL_law_3153 : decode cL_law 3153 = .ok (.iconst 0, 1) := by decide +kernel
theorem dL_law_3154 : decode cL_law 3154 = .ok (.laload, 1) := by decide +kernel
theorem dL_law_3155 : decode cL_law 3155 = .ok (.iload 7, 2) := by decide +kernel
theorem dL_law_3157 : decode cL_law 3157 = .ok (.i2l, 1) := by decide +kernel
theorem dL_law_3158 : decode cL_law 3158 = .ok (.lcmp, 1) := by decide +kernel
theorem dL_law_3159 : decode cL_law 3159 = .ok (.ifCond .eq 5, 3) := by decide +kernel
theorem dL_law_3162 : decode cL_law 3162 = .ok (.iconst 0, 1) := by decide +kernel
theorem dL_law_3163 : decode cL_law 3163 = .ok (.ireturn, 1) := by decide +kernel
theorem dL_law_3164 : decode cL_law 3164 = .ok (.goto 240, 3) := by decide +kernel
theorem dL_law_3167 : decode cL_law 3167 = .ok (.aload_n 1, 1) := by decide +kernel
theorem dL_law_3168 : decode cL_law 3168 = .ok (.aload_n 0, 1) := by decide +kernel
theorem dL_law_3169 : decode cL_law 3169 = .ok (.iload 5, 2) := by decide +kernel
theorem dL_law_3171 : decode cL_law 3171 = .ok (.iconst 1, 1) := by decide +kernel
theorem dL_law_3172 : decode cL_law 3172 = .ok (.iadd, 1) := by decide +kernel
theorem dL_law_3173 : decode cL_law 3173 = .ok (.iaload, 1) := by decide +kernel
theorem dL_law_3174 : decode cL_law 3174 = .ok (.aload_n 0, 1) := by decide +kernel
theorem dL_law_3175 : decode cL_law 3175 = .ok (.iload 5, 2) := by decide +kernel
theorem dL_law_3177 : decode cL_law 3177 = .ok (.iconst 2, 1) := by decide +kernel
theorem dL_law_3178 : decode cL_law 3178 = .ok (.iadd, 1) := by decide +kernel
theorem dL_law_3179 : decode cL_law 3179 = .ok (.iaload, 1) := by decide +kernel
theorem dL_law_3180 : decode cL_law 3180 = .ok (.aload_n 3, 1) := by decide +kernel
theorem dL_law_3181 : decode cL_law 3181 = .ok (.invokestatic 344, 3) := by decide +kernel
theorem dL_law_3184 : decode cL_law 3184 = .ok (.istore 6, 2) := by decide +kernel
theorem dL_law_3186 : decode cL_law 3186 = .ok (.aload_n 2, 1) := by decide +kernel
theorem dL_law_3187 : decode cL_law 3187 = .ok (.aload_n 0, 1) := by decide +kernel
theorem dL_law_3188 : decode cL_law 3188 = .ok (.iload 5, 2) := by decide +kernel
theorem dL_law_3190 : decode cL_law 3190 = .ok (.iconst 1, 1) := by decide +kernel
theorem dL_law_3191 : decode cL_law 3191 = .ok (.iadd, 1) := by decide +kernel
theorem dL_law_3192 : decode cL_law 3192 = .ok (.iaload, 1) := by decide +kernel
theorem dL_law_3193 : decode cL_law 3193 = .ok (.aload_n 0, 1) := by decide +kernel
theorem dL_law_3194 : decode cL_law 3194 = .ok (.iload 5, 2) := by decide +kernel
theorem dL_law_3196 : decode cL_law 3196 = .ok (.iconst 2, 1) := by decide +kernel
theorem dL_law_3197 : decode cL_law 3197 = .ok (.iadd, 1) := by decide +kernel
theorem dL_law_3198 : decode cL_law 3198 = .ok (.iaload, 1) := by decide +kernel
theorem dL_law_3199 : decode cL_law 3199 = .ok (.invokevirtual 346, 3) := by decide +kernel
theorem dL_law_3202 : decode cL_law 3202 = .ok (.istore 7, 2) := by decide +kernel
theorem dL_law_3204 : decode cL_law 3204 = .ok (.aload_n 2, 1) := by decide +kernel
theorem dL_law_3205 : decode cL_law 3205 = .ok (.invokevirtual 189, 3) := by decide +kernel
theorem dL_law_3208 : decode cL_law 3208 = .ok (.iload 6, 2) := by decide +kernel
theorem dL_law_3210 : decode cL_law 3210 = .ok (.if_icmp .eq 5, 3) := by decide +kernel
theorem dL_law_3213 : decode cL_law 3213 = .ok (.iconst 0, 1) := by decide +kernel
theorem dL_law_3214 : decode cL_law 3214 = .ok (.ireturn, 1) := by decide +kernel
theorem dL_law_3215 : decode cL_law 3215 = .ok (.iload 6, 2) := by decide +kernel
theorem dL_law_3217 : decode cL_law 3217 = .ok (.ifCond .ne 15, 3) := by decide +kernel
theorem dL_law_3220 : decode cL_law 3220 = .ok (.aload_n 3, 1) := by decide +kernel
theorem dL_law_3221 : decode cL_law 3221 = .ok (.iconst 0, 1) := by decide +kernel
theorem dL_law_3222 : decode cL_law 3222 = .ok (.laload, 1) := by decide +kernel
theorem dL_law_3223 : decode cL_law 3223 = .ok (.iload 7, 2) := by decide +kernel
theorem dL_law_3225 : decode cL_law 3225 = .ok (.i2l, 1) := by decide +kernel
theorem dL_law_3226 : decode cL_law 3226 = .ok (.lcmp, 1) := by decide +kernel
theorem dL_law_3227 : decode cL_law 3227 = .ok (.ifCond .eq 5, 3) := by decide +kernel
theorem dL_law_3230 : decode cL_law 3230 = .ok (.iconst 0, 1) := by decide +kernel
theorem dL_law_3231 : decode cL_law 3231 = .ok (.ireturn, 1) := by decide +kernel
theorem dL_law_3232 : decode cL_law 3232 = .ok (.goto 172, 3) := by decide +kernel
theorem dL_law_3235 : decode cL_law 3235 = .ok (.aload_n 1, 1) := by decide +kernel
theorem dL_law_3236 : decode cL_law 3236 = .ok (.aload_n 3, 1) := by decide +kernel
theorem dL_law_3237 : decode cL_law 3237 = .ok (.invokestatic 347, 3) := by decide +kernel
theorem dL_law_3240 : decode cL_law 3240 = .ok (.istore 6, 2) := by decide +kernel
theorem dL_law_3242 : decode cL_law 3242 = .ok (.aload_n 2, 1) := by decide +kernel
theorem dL_law_3243 : decode cL_law 3243 = .ok (.invokevirtual 349, 3) := by decide +kernel
theorem dL_law_3246 : decode cL_law 3246 = .ok (.istore 7, 2) := by decide +kernel
theorem dL_law_3248 : decode cL_law 3248 = .ok (.aload_n 2, 1) := by decide +kernel
theorem dL_law_3249 : decode cL_law 3249 = .ok (.invokevirtual 189, 3) := by decide +kernel
theorem dL_law_3252 : decode cL_law 3252 = .ok (.iload 6, 2) := by decide +kernel
theorem dL_law_3254 : decode cL_law 3254 = .ok (.if_icmp .eq 5, 3) := by decide +kernel
theorem dL_law_3257 : decode cL_law 3257 = .ok (.iconst 0, 1) := by decide +kernel
theorem dL_law_3258 : decode cL_law 3258 = .ok (.ireturn, 1) := by decide +kernel
theorem dL_law_3259 : decode cL_law 3259 = .ok (.iload 6, 2) := by decide +kernel
theorem dL_law_3261 : decode cL_law 3261 = .ok (.ifCond .ne 15, 3) := by decide +kernel
theorem dL_law_3264 : decode cL_law 3264 = .ok (.aload_n 3, 1) := by decide +kernel
theorem dL_law_3265 : decode cL_law 3265 = .ok (.iconst 0, 1) := by decide +kernel
theorem dL_law_3266 : decode cL_law 3266 = .ok (.laload, 1) := by decide +kernel
theorem dL_law_3267 : decode cL_law 3267 = .ok (.iload 7, 2) := by decide +kernel
theorem dL_law_3269 : decode cL_law 3269 = .ok (.i2l, 1) := by decide +kernel
theorem dL_law_3270 : decode cL_law 3270 = .ok (.lcmp, 1) := by decide +kernel
theorem dL_law_3271 : decode cL_law 3271 = .ok (.ifCond .eq 5, 3) := by decide +kernel
theorem dL_law_3274 : decode cL_law 3274 = .ok (.iconst 0, 1) := by decide +kernel
theorem dL_law_3275 : decode cL_law 3275 = .ok (.ireturn, 1) := by decide +kernel
theorem dL_law_3276 : decode cL_law 3276 = .ok (.goto 128, 3) := by decide +kernel
theorem dL_law_3279 : decode cL_law 3279 = .ok (.aload_n 1, 1) := by decide +kernel
theorem dL_law_3280 : decode cL_law 3280 = .ok (.invokevirtual 350, 3) := by decide +kernel
theorem dL_law_3283 : decode cL_law 3283 = .ok (.aload_n 2, 1) := by decide +kernel
theorem dL_law_3284 : decode cL_law 3284 = .ok (.invokevirtual 353, 3) := by decide +kernel
theorem dL_law_3287 : decode cL_law 3287 = .ok (.if_icmp .eq 117, 3) := by decide +kernel
theorem dL_law_3290 : decode cL_law 3290 = .ok (.iconst 0, 1) := by decide +kernel
theorem dL_law_3291 : decode cL_law 3291 = .ok (.ireturn, 1) := by decide +kernel
theorem dL_law_3292 : decode cL_law 3292 = .ok (.aload_n 1, 1) := by decide +kernel
theorem dL_law_3293 : decode cL_law 3293 = .ok (.aload_n 0, 1) := by decide +kernel
theorem dL_law_3294 : decode cL_law 3294 = .ok (.iload 5, 2) := by decide +kernel
theorem dL_law_3296 : decode cL_law 3296 = .ok (.iconst 1, 1) := by decide +kernel
theorem dL_law_3297 : decode cL_law 3297 = .ok (.iadd, 1) := by decide +kernel
theorem dL_law_3298 : decode cL_law 3298 = .ok (.iaload, 1) := by decide +kernel
theorem dL_law_3299 : decode cL_law 3299 = .ok (.aload_n 3, 1) := by decide +kernel
theorem dL_law_3300 : decode cL_law 3300 = .ok (.invokestatic 354, 3) := by decide +kernel
theorem dL_law_3303 : decode cL_law 3303 = .ok (.istore 6, 2) := by decide +kernel
theorem dL_law_3305 : decode cL_law 3305 = .ok (.aload_n 2, 1) := by decide +kernel
theorem dL_law_3306 : decode cL_law 3306 = .ok (.aload_n 0, 1) := by decide +kernel
theorem dL_law_3307 : decode cL_law 3307 = .ok (.iload 5, 2) := by decide +kernel
theorem dL_law_3309 : decode cL_law 3309 = .ok (.iconst 1, 1) := by decide +kernel
theorem dL_law_3310 : decode cL_law 3310 = .ok (.iadd, 1) := by decide +kernel
theorem dL_law_3311 : decode cL_law 3311 = .ok (.iaload, 1) := by decide +kernel
theorem dL_law_3312 : decode cL_law 3312 = .ok (.invokevirtual 356, 3) := by decide +kernel
theorem dL_law_3315 : decode cL_law 3315 = .ok (.istore 7, 2) := by decide +kernel
theorem dL_law_3317 : decode cL_law 3317 = .ok (.aload_n 2, 1) := by decide +kernel
theorem dL_law_3318 : decode cL_law 3318 = .ok (.invokevirtual 189, 3) := by decide +kernel
theorem dL_law_3321 : decode cL_law 3321 = .ok (.iload 6, 2) := by decide +kernel
theorem dL_law_3323 : decode cL_law 3323 = .ok (.if_icmp .eq 5, 3) := by decide +kernel
theorem dL_law_3326 : decode cL_law 3326 = .ok (.iconst 0, 1) := by decide +kernel
theorem dL_law_3327 : decode cL_law 3327 = .ok (.ireturn, 1) := by decide +kernel
theorem dL_law_3328 : decode cL_law 3328 = .ok (.iload 6, 2) := by decide +kernel
theorem dL_law_3330 : decode cL_law 3330 = .ok (.ifCond .ne 15, 3) := by decide +kernel
theorem dL_law_3333 : decode cL_law 3333 = .ok (.aload_n 3, 1) := by decide +kernel
theorem dL_law_3334 : decode cL_law 3334 = .ok (.iconst 0, 1) := by decide +kernel
theorem dL_law_3335 : decode cL_law 3335 = .ok (.laload, 1) := by decide +kernel
theorem dL_law_3336 : decode cL_law 3336 = .ok (.iload 7, 2) := by decide +kernel
theorem dL_law_3338 : decode cL_law 3338 = .ok (.i2l, 1) := by decide +kernel
theorem dL_law_3339 : decode cL_law 3339 = .ok (.lcmp, 1) := by decide +kernel
theorem dL_law_3340 : decode cL_law 3340 = .ok (.ifCond .eq 5, 3) := by decide +kernel
theorem dL_law_3343 : decode cL_law 3343 = .ok (.iconst 0, 1) := by decide +kernel
theorem dL_law_3344 : decode cL_law 3344 = .ok (.ireturn, 1) := by decide +kernel
theorem dL_law_3345 : decode cL_law 3345 = .ok (.goto 59, 3) := by decide +kernel
theorem dL_law_3348 : decode cL_law 3348 = .ok (.aload_n 1, 1) := by decide +kernel
theorem dL_law_3349 : decode cL_law 3349 = .ok (.aload_n 0, 1) := by decide +kernel
theorem dL_law_3350 : decode cL_law 3350 = .ok (.iload 5, 2) := by decide +kernel
theorem dL_law_3352 : decode cL_law 3352 = .ok (.iconst 1, 1) := by decide +kernel
theorem dL_law_3353 : decode cL_law 3353 = .ok (.iadd, 1) := by decide +kernel
theorem dL_law_3354 : decode cL_law 3354 = .ok (.iaload, 1) := by decide +kernel
theorem dL_law_3355 : decode cL_law 3355 = .ok (.aload_n 3, 1) := by decide +kernel
theorem dL_law_3356 : decode cL_law 3356 = .ok (.invokestatic 357, 3) := by decide +kernel
theorem dL_law_3359 : decode cL_law 3359 = .ok (.istore 6, 2) := by decide +kernel
theorem dL_law_3361 : decode cL_law 3361 = .ok (.aload_n 2, 1) := by decide +kernel
theorem dL_law_3362 : decode cL_law 3362 = .ok (.aload_n 0, 1) := by decide +kernel
theorem dL_law_3363 : decode cL_law 3363 = .ok (.iload 5, 2) := by decide +kernel
theorem dL_law_3365 : decode cL_law 3365 = .ok (.iconst 1, 1) := by decide +kernel
theorem dL_law_3366 : decode cL_law 3366 = .ok (.iadd, 1) := by decide +kernel
theorem dL_law_3367 : decode cL_law 3367 = .ok (.iaload, 1) := by decide +kernel
theorem dL_law_3368 : decode cL_law 3368 = .ok (.invokevirtual 359, 3) := by decide +kernel
theorem dL_law_3371 : decode cL_law 3371 = .ok (.istore 7, 2) := by decide +kernel
theorem dL_law_3373 : decode cL_law 3373 = .ok (.aload_n 2, 1) := by decide +kernel
theorem dL_law_3374 : decode cL_law 3374 = .ok (.invokevirtual 189, 3) := by decide +kernel
theorem dL_law_3377 : decode cL_law 3377 = .ok (.iload 6, 2) := by decide +kernel
theorem dL_law_3379 : decode cL_law 3379 = .ok (.if_icmp .eq 5, 3) := by decide +kernel
theorem dL_law_3382 : decode cL_law 3382 = .ok (.iconst 0, 1) := by decide +kernel
theorem dL_law_3383 : decode cL_law 3383 = .ok (.ireturn, 1) := by decide +kernel
theorem dL_law_3384 : decode cL_law 3384 = .ok (.iload 6, 2) := by decide +kernel
theorem dL_law_3386 : decode cL_law 3386 = .ok (.ifCond .ne 15, 3) := by decide +kernel
theorem dL_law_3389 : decode cL_law 3389 = .ok (.aload_n 3, 1) := by decide +kernel
theorem dL_law_3390 : decode cL_law 3390 = .ok (.iconst 0, 1) := by decide +kernel
theorem dL_law_3391 : decode cL_law 3391 = .ok (.laload, 1) := by decide +kernel
theorem dL_law_3392 : decode cL_law 3392 = .ok (.iload 7, 2) := by decide +kernel
theorem dL_law_3394 : decode cL_law 3394 = .ok (.i2l, 1) := by decide +kernel
theorem dL_law_3395 : decode cL_law 3395 = .ok (.lcmp, 1) := by decide +kernel
theorem dL_law_3396 : decode cL_law 3396 = .ok (.ifCond .eq 5, 3) := by decide +kernel
theorem dL_law_3399 : decode cL_law 3399 = .ok (.iconst 0, 1) := by decide +kernel
theorem dL_law_3400 : decode cL_law 3400 = .ok (.ireturn, 1) := by decide +kernel
theorem dL_law_3401 : decode cL_law 3401 = .ok (.goto 3, 3) := by decide +kernel
theorem dL_law_3404 : decode cL_law 3404 = .ok (.iinc 5 6, 3) := by decide +kernel
theorem dL_law_3407 : decode cL_law 3407 = .ok (.goto (-3379), 3) := by decide +kernel
theorem dL_law_3410 : decode cL_law 3410 = .ok (.iconst 1, 1) := by decide +kernel
theorem dL_law_3411 : decode cL_law 3411 = .ok (.ireturn, 1) := by decide +kernel
abbrev vwCl : List vw_C := [(RJ0, TJ0, 4), (RJ4, TJ4, 4), (RJx00060, TJx00060, 6), (RJx7c733, TJx7c733, 6), (RX0, TX0, 3), (RX1, TX1, 11), (RX2, TX2, 9), (RX3, TX3, 10), (RX4, TX4, 8), (RX5, TX5, 8), (RX6, TX6, 11), (RX7, TX7, 41)]
