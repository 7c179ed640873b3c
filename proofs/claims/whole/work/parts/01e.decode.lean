theorem dX7_locks_33 : decode cX7_locks 33 = .ok (.iconst 1, 1) := by decide +kernel
theorem dX7_locks_34 : decode cX7_locks 34 = .ok (.goto 4, 3) := by decide +kernel
theorem dX7_locks_37 : decode cX7_locks 37 = .ok (.iconst 0, 1) := by decide +kernel
theorem dX7_locks_38 : decode cX7_locks 38 = .ok (.invokestatic 250, 3) := by decide +kernel
theorem dX7_locks_41 : decode cX7_locks 41 = .ok (.isub, 1) := by decide +kernel
theorem dX7_locks_42 : decode cX7_locks 42 = .ok (.iastore, 1) := by decide +kernel
theorem dX7_locks_43 : decode cX7_locks 43 = .ok (.aload_n 0, 1) := by decide +kernel
theorem dX7_locks_44 : decode cX7_locks 44 = .ok (.iload_n 1, 1) := by decide +kernel
theorem dX7_locks_45 : decode cX7_locks 45 = .ok (.iconst 2, 1) := by decide +kernel
theorem dX7_locks_46 : decode cX7_locks 46 = .ok (.aload_n 0, 1) := by decide +kernel
theorem dX7_locks_47 : decode cX7_locks 47 = .ok (.getfield 298, 3) := by decide +kernel
theorem dX7_locks_50 : decode cX7_locks 50 = .ok (.invokevirtual 178, 3) := by decide +kernel
theorem dX7_locks_53 : decode cX7_locks 53 = .ok (.aload_n 0, 1) := by decide +kernel
theorem dX7_locks_54 : decode cX7_locks 54 = .ok (.iload_n 1, 1) := by decide +kernel
theorem dX7_locks_55 : decode cX7_locks 55 = .ok (.iconst 3, 1) := by decide +kernel
theorem dX7_locks_56 : decode cX7_locks 56 = .ok (.iconst 0, 1) := by decide +kernel
theorem dX7_locks_57 : decode cX7_locks 57 = .ok (.invokevirtual 178, 3) := by decide +kernel
theorem dX7_locks_60 : decode cX7_locks 60 = .ok (.iconst 0, 1) := by decide +kernel
theorem dX7_locks_61 : decode cX7_locks 61 = .ok (.istore_n 2, 1) := by decide +kernel
theorem dX7_locks_62 : decode cX7_locks 62 = .ok (.iload_n 2, 1) := by decide +kernel
theorem dX7_locks_63 : decode cX7_locks 63 = .ok (.aload_n 0, 1) := by decide +kernel
theorem dX7_locks_64 : decode cX7_locks 64 = .ok (.getfield 172, 3) := by decide +kernel
theorem dX7_locks_67 : decode cX7_locks 67 = .ok (.if_icmp .ge 43, 3) := by decide +kernel
theorem dX7_locks_70 : decode cX7_locks 70 = .ok (.iconst 0, 1) := by decide +kernel
theorem dX7_locks_71 : decode cX7_locks 71 = .ok (.istore_n 3, 1) := by decide +kernel
theorem dX7_locks_72 : decode cX7_locks 72 = .ok (.iload_n 3, 1) := by decide +kernel
theorem dX7_locks_73 : decode cX7_locks 73 = .ok (.aload_n 0, 1) := by decide +kernel
theorem dX7_locks_74 : decode cX7_locks 74 = .ok (.getfield 55, 3) := by decide +kernel
theorem dX7_locks_77 : decode cX7_locks 77 = .ok (.aload_n 0, 1) := by decide +kernel
theorem dX7_locks_78 : decode cX7_locks 78 = .ok (.getfield 49, 3) := by decide +kernel
theorem dX7_locks_81 : decode cX7_locks 81 = .ok (.iload_n 2, 1) := by decide +kernel
theorem dX7_locks_82 : decode cX7_locks 82 = .ok (.iaload, 1) := by decide +kernel
theorem dX7_locks_83 : decode cX7_locks 83 = .ok (.iaload, 1) := by decide +kernel
theorem dX7_locks_84 : decode cX7_locks 84 = .ok (.if_icmp .ge 20, 3) := by decide +kernel
theorem dX7_locks_87 : decode cX7_locks 87 = .ok (.aload_n 0, 1) := by decide +kernel
theorem dX7_locks_88 : decode cX7_locks 88 = .ok (.iload_n 1, 1) := by decide +kernel
theorem dX7_locks_89 : decode cX7_locks 89 = .ok (.aload_n 0, 1) := by decide +kernel
theorem dX7_locks_90 : decode cX7_locks 90 = .ok (.getfield 49, 3) := by decide +kernel
theorem dX7_locks_93 : decode cX7_locks 93 = .ok (.iload_n 2, 1) := by decide +kernel
theorem dX7_locks_94 : decode cX7_locks 94 = .ok (.iaload, 1) := by decide +kernel
theorem dX7_locks_95 : decode cX7_locks 95 = .ok (.invokevirtual 314, 3) := by decide +kernel
theorem dX7_locks_98 : decode cX7_locks 98 = .ok (.iinc 3 1, 3) := by decide +kernel
theorem dX7_locks_101 : decode cX7_locks 101 = .ok (.goto (-29), 3) := by decide +kernel
theorem dX7_locks_104 : decode cX7_locks 104 = .ok (.iinc 2 1, 3) := by decide +kernel
theorem dX7_locks_107 : decode cX7_locks 107 = .ok (.goto (-45), 3) := by decide +kernel
theorem dX7_locks_110 : decode cX7_locks 110 = .ok (.aload_n 0, 1) := by decide +kernel
theorem dX7_locks_111 : decode cX7_locks 111 = .ok (.iload_n 1, 1) := by decide +kernel
theorem dX7_locks_112 : decode cX7_locks 112 = .ok (.iconst 4, 1) := by decide +kernel
theorem dX7_locks_113 : decode cX7_locks 113 = .ok (.iconst 0, 1) := by decide +kernel
theorem dX7_locks_114 : decode cX7_locks 114 = .ok (.invokevirtual 178, 3) := by decide +kernel
theorem dX7_locks_117 : decode cX7_locks 117 = .ok (.iconst 1, 1) := by decide +kernel
theorem dX7_locks_118 : decode cX7_locks 118 = .ok (.ireturn, 1) := by decide +kernel
theorem dX7_sumOver_0 : decode cX7_sumOver 0 = .ok (.iconst 0, 1) := by decide +kernel
theorem dX7_sumOver_1 : decode cX7_sumOver 1 = .ok (.istore_n 2, 1) := by decide +kernel
theorem dX7_sumOver_2 : decode cX7_sumOver 2 = .ok (.iconst 0, 1) := by decide +kernel
theorem dX7_sumOver_3 : decode cX7_sumOver 3 = .ok (.istore_n 3, 1) := by decide +kernel
theorem dX7_sumOver_4 : decode cX7_sumOver 4 = .ok (.iload_n 3, 1) := by decide +kernel
theorem dX7_sumOver_5 : decode cX7_sumOver 5 = .ok (.aload_n 0, 1) := by decide +kernel
theorem dX7_sumOver_6 : decode cX7_sumOver 6 = .ok (.getfield 154, 3) := by decide +kernel
theorem dX7_sumOver_9 : decode cX7_sumOver 9 = .ok (.if_icmp .ge 18, 3) := by decide +kernel
theorem dX7_sumOver_12 : decode cX7_sumOver 12 = .ok (.iload_n 2, 1) := by decide +kernel
theorem dX7_sumOver_13 : decode cX7_sumOver 13 = .ok (.aload_n 0, 1) := by decide +kernel
theorem dX7_sumOver_14 : decode cX7_sumOver 14 = .ok (.iload_n 3, 1) := by decide +kernel
theorem dX7_sumOver_15 : decode cX7_sumOver 15 = .ok (.iload_n 1, 1) := by decide +kernel
theorem dX7_sumOver_16 : decode cX7_sumOver 16 = .ok (.invokevirtual 189, 3) := by decide +kernel
theorem dX7_sumOver_19 : decode cX7_sumOver 19 = .ok (.iadd, 1) := by decide +kernel
theorem dX7_sumOver_20 : decode cX7_sumOver 20 = .ok (.istore_n 2, 1) := by decide +kernel
theorem dX7_sumOver_21 : decode cX7_sumOver 21 = .ok (.iinc 3 1, 3) := by decide +kernel
theorem dX7_sumOver_24 : decode cX7_sumOver 24 = .ok (.goto (-20), 3) := by decide +kernel
theorem dX7_sumOver_27 : decode cX7_sumOver 27 = .ok (.iload_n 2, 1) := by decide +kernel
theorem dX7_sumOver_28 : decode cX7_sumOver 28 = .ok (.ireturn, 1) := by decide +kernel
theorem dX7_tightRows_0 : decode cX7_tightRows 0 = .ok (.iconst 0, 1) := by decide +kernel
theorem dX7_tightRows_1 : decode cX7_tightRows 1 = .ok (.istore_n 1, 1) := by decide +kernel
theorem dX7_tightRows_2 : decode cX7_tightRows 2 = .ok (.iconst 0, 1) := by decide +kernel
theorem dX7_tightRows_3 : decode cX7_tightRows 3 = .ok (.istore_n 2, 1) := by decide +kernel
theorem dX7_tightRows_4 : decode cX7_tightRows 4 = .ok (.iload_n 2, 1) := by decide +kernel
theorem dX7_tightRows_5 : decode cX7_tightRows 5 = .ok (.aload_n 0, 1) := by decide +kernel
theorem dX7_tightRows_6 : decode cX7_tightRows 6 = .ok (.getfield 154, 3) := by decide +kernel
theorem dX7_tightRows_9 : decode cX7_tightRows 9 = .ok (.if_icmp .ge 20, 3) := by decide +kernel
theorem dX7_tightRows_12 : decode cX7_tightRows 12 = .ok (.iload_n 1, 1) := by decide +kernel
theorem dX7_tightRows_13 : decode cX7_tightRows 13 = .ok (.aload_n 0, 1) := by decide +kernel
theorem dX7_tightRows_14 : decode cX7_tightRows 14 = .ok (.iload_n 2, 1) := by decide +kernel
theorem dX7_tightRows_15 : decode cX7_tightRows 15 = .ok (.invokevirtual 317, 3) := by decide +kernel
theorem dX7_tightRows_18 : decode cX7_tightRows 18 = .ok (.invokestatic 250, 3) := by decide +kernel
theorem dX7_tightRows_21 : decode cX7_tightRows 21 = .ok (.iadd, 1) := by decide +kernel
theorem dX7_tightRows_22 : decode cX7_tightRows 22 = .ok (.istore_n 1, 1) := by decide +kernel
theorem dX7_tightRows_23 : decode cX7_tightRows 23 = .ok (.iinc 2 1, 3) := by decide +kernel
theorem dX7_tightRows_26 : decode cX7_tightRows 26 = .ok (.goto (-22), 3) := by decide +kernel
theorem dX7_tightRows_29 : decode cX7_tightRows 29 = .ok (.iload_n 1, 1) := by decide +kernel
theorem dX7_tightRows_30 : decode cX7_tightRows 30 = .ok (.ireturn, 1) := by decide +kernel
theorem dX7_leftAll_0 : decode cX7_leftAll 0 = .ok (.iconst 0, 1) := by decide +kernel
theorem dX7_leftAll_1 : decode cX7_leftAll 1 = .ok (.istore_n 2, 1) := by decide +kernel
theorem dX7_leftAll_2 : decode cX7_leftAll 2 = .ok (.iconst 0, 1) := by decide +kernel
theorem dX7_leftAll_3 : decode cX7_leftAll 3 = .ok (.istore_n 3, 1) := by decide +kernel
theorem dX7_leftAll_4 : decode cX7_leftAll 4 = .ok (.iload_n 3, 1) := by decide +kernel
theorem dX7_leftAll_5 : decode cX7_leftAll 5 = .ok (.aload_n 0, 1) := by decide +kernel
theorem dX7_leftAll_6 : decode cX7_leftAll 6 = .ok (.getfield 172, 3) := by decide +kernel
theorem dX7_leftAll_9 : decode cX7_leftAll 9 = .ok (.if_icmp .ge 36, 3) := by decide +kernel
theorem dX7_leftAll_12 : decode cX7_leftAll 12 = .ok (.iload_n 2, 1) := by decide +kernel
theorem dX7_leftAll_13 : decode cX7_leftAll 13 = .ok (.aload_n 0, 1) := by decide +kernel
theorem dX7_leftAll_14 : decode cX7_leftAll 14 = .ok (.getfield 17, 3) := by decide +kernel
theorem dX7_leftAll_17 : decode cX7_leftAll 17 = .ok (.bipush 6, 2) := by decide +kernel
theorem dX7_leftAll_19 : decode cX7_leftAll 19 = .ok (.iload_n 3, 1) := by decide +kernel
theorem dX7_leftAll_20 : decode cX7_leftAll 20 = .ok (.iadd, 1) := by decide +kernel
theorem dX7_leftAll_21 : decode cX7_leftAll 21 = .ok (.iaload, 1) := by decide +kernel
theorem dX7_leftAll_22 : decode cX7_leftAll 22 = .ok (.iload_n 1, 1) := by decide +kernel
theorem dX7_leftAll_23 : decode cX7_leftAll 23 = .ok (.ifCond .eq 12, 3) := by decide +kernel
theorem dX7_leftAll_26 : decode cX7_leftAll 26 = .ok (.aload_n 0, 1) := by decide +kernel
theorem dX7_leftAll_27 : decode cX7_leftAll 27 = .ok (.getfield 13, 3) := by decide +kernel
theorem dX7_leftAll_30 : decode cX7_leftAll 30 = .ok (.iload_n 3, 1) := by decide +kernel
theorem dX7_leftAll_31 : decode cX7_leftAll 31 = .ok (.iaload, 1) := by decide +kernel
theorem dX7_leftAll_32 : decode cX7_leftAll 32 = .ok (.goto 4, 3) := by decide +kernel
theorem dX7_leftAll_35 : decode cX7_leftAll 35 = .ok (.iconst 1, 1) := by decide +kernel
theorem dX7_leftAll_36 : decode cX7_leftAll 36 = .ok (.imul, 1) := by decide +kernel
theorem dX7_leftAll_37 : decode cX7_leftAll 37 = .ok (.iadd, 1) := by decide +kernel
theorem dX7_leftAll_38 : decode cX7_leftAll 38 = .ok (.istore_n 2, 1) := by decide +kernel
theorem dX7_leftAll_39 : decode cX7_leftAll 39 = .ok (.iinc 3 1, 3) := by decide +kernel
theorem dX7_leftAll_42 : decode cX7_leftAll 42 = .ok (.goto (-38), 3) := by decide +kernel
theorem dX7_leftAll_45 : decode cX7_leftAll 45 = .ok (.iload_n 2, 1) := by decide +kernel
theorem dX7_leftAll_46 : decode cX7_leftAll 46 = .ok (.ireturn, 1) := by decide +kernel
theorem dX7_count_0 : decode cX7_count 0 = .ok (.aload_n 0, 1) := by decide +kernel
theorem dX7_count_1 : decode cX7_count 1 = .ok (.invokevirtual 320, 3) := by decide +kernel
theorem dX7_count_4 : decode cX7_count 4 = .ok (.ifCond .ne 26, 3) := by decide +kernel
theorem dX7_count_7 : decode cX7_count 7 = .ok (.aload_n 0, 1) := by decide +kernel
theorem dX7_count_8 : decode cX7_count 8 = .ok (.iload_n 1, 1) := by decide +kernel
theorem dX7_count_9 : decode cX7_count 9 = .ok (.iconst 0, 1) := by decide +kernel
theorem dX7_count_10 : decode cX7_count 10 = .ok (.bipush 11, 2) := by decide +kernel
theorem dX7_count_12 : decode cX7_count 12 = .ok (.invokestatic 143, 3) := by decide +kernel
theorem dX7_count_15 : decode cX7_count 15 = .ok (.ifCond .ne 7, 3) := by decide +kernel
theorem dX7_count_18 : decode cX7_count 18 = .ok (.iconst 1, 1) := by decide +kernel
theorem dX7_count_19 : decode cX7_count 19 = .ok (.goto 4, 3) := by decide +kernel
theorem dX7_count_22 : decode cX7_count 22 = .ok (.iconst 0, 1) := by decide +kernel
theorem dX7_count_23 : decode cX7_count 23 = .ok (.iconst 2, 1) := by decide +kernel
theorem dX7_count_24 : decode cX7_count 24 = .ok (.invokevirtual 74, 3) := by decide +kernel
theorem dX7_count_27 : decode cX7_count 27 = .ok (.ifCond .eq 5, 3) := by decide +kernel
theorem dX7_count_30 : decode cX7_count 30 = .ok (.iconst 0, 1) := by decide +kernel
theorem dX7_count_31 : decode cX7_count 31 = .ok (.ireturn, 1) := by decide +kernel
theorem dX7_count_32 : decode cX7_count 32 = .ok (.iload_n 1, 1) := by decide +kernel
theorem dX7_count_33 : decode cX7_count 33 = .ok (.tableswitch 103 0 11 #[63, 68, 73, 80, 86, 92, 103, 103, 103, 103, 103, 97], 63) := by decide +kernel
theorem dX7_count_96 : decode cX7_count 96 = .ok (.aload_n 0, 1) := by decide +kernel
theorem dX7_count_97 : decode cX7_count 97 = .ok (.getfield 154, 3) := by decide +kernel
theorem dX7_count_100 : decode cX7_count 100 = .ok (.ireturn, 1) := by decide +kernel
theorem dX7_count_101 : decode cX7_count 101 = .ok (.aload_n 0, 1) := by decide +kernel
theorem dX7_count_102 : decode cX7_count 102 = .ok (.getfield 172, 3) := by decide +kernel
theorem dX7_count_105 : decode cX7_count 105 = .ok (.ireturn, 1) := by decide +kernel
theorem dX7_count_106 : decode cX7_count 106 = .ok (.aload_n 0, 1) := by decide +kernel
theorem dX7_count_107 : decode cX7_count 107 = .ok (.getfield 17, 3) := by decide +kernel
theorem dX7_count_110 : decode cX7_count 110 = .ok (.iconst 0, 1) := by decide +kernel
theorem dX7_count_111 : decode cX7_count 111 = .ok (.iaload, 1) := by decide +kernel
theorem dX7_count_112 : decode cX7_count 112 = .ok (.ireturn, 1) := by decide +kernel
theorem dX7_count_113 : decode cX7_count 113 = .ok (.aload_n 0, 1) := by decide +kernel
theorem dX7_count_114 : decode cX7_count 114 = .ok (.iconst 0, 1) := by decide +kernel
theorem dX7_count_115 : decode cX7_count 115 = .ok (.invokevirtual 323, 3) := by decide +kernel
theorem dX7_count_118 : decode cX7_count 118 = .ok (.ireturn, 1) := by decide +kernel
theorem dX7_count_119 : decode cX7_count 119 = .ok (.aload_n 0, 1) := by decide +kernel
theorem dX7_count_120 : decode cX7_count 120 = .ok (.iconst 1, 1) := by decide +kernel
theorem dX7_count_121 : decode cX7_count 121 = .ok (.invokevirtual 323, 3) := by decide +kernel
theorem dX7_count_124 : decode cX7_count 124 = .ok (.ireturn, 1) := by decide +kernel
theorem dX7_count_125 : decode cX7_count 125 = .ok (.aload_n 0, 1) := by decide +kernel
theorem dX7_count_126 : decode cX7_count 126 = .ok (.invokevirtual 326, 3) := by decide +kernel
theorem dX7_count_129 : decode cX7_count 129 = .ok (.ireturn, 1) := by decide +kernel
theorem dX7_count_130 : decode cX7_count 130 = .ok (.aload_n 0, 1) := by decide +kernel
theorem dX7_count_131 : decode cX7_count 131 = .ok (.iconst 0, 1) := by decide +kernel
theorem dX7_count_132 : decode cX7_count 132 = .ok (.invokevirtual 329, 3) := by decide +kernel
theorem dX7_count_135 : decode cX7_count 135 = .ok (.ireturn, 1) := by decide +kernel
theorem dX7_count_136 : decode cX7_count 136 = .ok (.aload_n 0, 1) := by decide +kernel
theorem dX7_count_137 : decode cX7_count 137 = .ok (.getfield 17, 3) := by decide +kernel
theorem dX7_count_140 : decode cX7_count 140 = .ok (.iconst 1, 1) := by decide +kernel
theorem dX7_count_141 : decode cX7_count 141 = .ok (.iload_n 1, 1) := by decide +kernel
theorem dX7_count_142 : decode cX7_count 142 = .ok (.iadd, 1) := by decide +kernel
theorem dX7_count_143 : decode cX7_count 143 = .ok (.bipush 6, 2) := by decide +kernel
theorem dX7_count_145 : decode cX7_count 145 = .ok (.isub, 1) := by decide +kernel
theorem dX7_count_146 : decode cX7_count 146 = .ok (.iaload, 1) := by decide +kernel
theorem dX7_count_147 : decode cX7_count 147 = .ok (.ireturn, 1) := by decide +kernel
theorem dX7_setting_0 : decode cX7_setting 0 = .ok (.aload_n 0, 1) := by decide +kernel
theorem dX7_setting_1 : decode cX7_setting 1 = .ok (.invokevirtual 320, 3) := by decide +kernel
theorem dX7_setting_4 : decode cX7_setting 4 = .ok (.ifCond .ne 25, 3) := by decide +kernel
theorem dX7_setting_7 : decode cX7_setting 7 = .ok (.aload_n 0, 1) := by decide +kernel
theorem dX7_setting_8 : decode cX7_setting 8 = .ok (.iload_n 1, 1) := by decide +kernel
theorem dX7_setting_9 : decode cX7_setting 9 = .ok (.iconst 0, 1) := by decide +kernel
theorem dX7_setting_10 : decode cX7_setting 10 = .ok (.iconst 5, 1) := by decide +kernel
theorem dX7_setting_11 : decode cX7_setting 11 = .ok (.invokestatic 143, 3) := by decide +kernel
theorem dX7_setting_14 : decode cX7_setting 14 = .ok (.ifCond .ne 7, 3) := by decide +kernel
theorem dX7_setting_17 : decode cX7_setting 17 = .ok (.iconst 1, 1) := by decide +kernel
theorem dX7_setting_18 : decode cX7_setting 18 = .ok (.goto 4, 3) := by decide +kernel
theorem dX7_setting_21 : decode cX7_setting 21 = .ok (.iconst 0, 1) := by decide +kernel
theorem dX7_setting_22 : decode cX7_setting 22 = .ok (.iconst 2, 1) := by decide +kernel
theorem dX7_setting_23 : decode cX7_setting 23 = .ok (.invokevirtual 74, 3) := by decide +kernel
theorem dX7_setting_26 : decode cX7_setting 26 = .ok (.ifCond .eq 5, 3) := by decide +kernel
theorem dX7_setting_29 : decode cX7_setting 29 = .ok (.iconst 0, 1) := by decide +kernel
theorem dX7_setting_30 : decode cX7_setting 30 = .ok (.ireturn, 1) := by decide +kernel
theorem dX7_setting_31 : decode cX7_setting 31 = .ok (.iload_n 1, 1) := by decide +kernel
theorem dX7_setting_32 : decode cX7_setting 32 = .ok (.ifCond .ne 10, 3) := by decide +kernel
theorem dX7_setting_35 : decode cX7_setting 35 = .ok (.aload_n 0, 1) := by decide +kernel
theorem dX7_setting_36 : decode cX7_setting 36 = .ok (.getfield 151, 3) := by decide +kernel
theorem dX7_setting_39 : decode cX7_setting 39 = .ok (.goto 55, 3) := by decide +kernel
theorem dX7_setting_42 : decode cX7_setting 42 = .ok (.iload_n 1, 1) := by decide +kernel
theorem dX7_setting_43 : decode cX7_setting 43 = .ok (.iconst 1, 1) := by decide +kernel
theorem dX7_setting_44 : decode cX7_setting 44 = .ok (.if_icmp .ne 10, 3) := by decide +kernel
theorem dX7_setting_47 : decode cX7_setting 47 = .ok (.aload_n 0, 1) := by decide +kernel
theorem dX7_setting_48 : decode cX7_setting 48 = .ok (.getfield 157, 3) := by decide +kernel
theorem dX7_setting_51 : decode cX7_setting 51 = .ok (.goto 43, 3) := by decide +kernel
theorem dX7_setting_54 : decode cX7_setting 54 = .ok (.iload_n 1, 1) := by decide +kernel
theorem dX7_setting_55 : decode cX7_setting 55 = .ok (.iconst 2, 1) := by decide +kernel
theorem dX7_setting_56 : decode cX7_setting 56 = .ok (.if_icmp .ne 10, 3) := by decide +kernel
theorem dX7_setting_59 : decode cX7_setting 59 = .ok (.aload_n 0, 1) := by decide +kernel
theorem dX7_setting_60 : decode cX7_setting 60 = .ok (.getfield 160, 3) := by decide +kernel
theorem dX7_setting_63 : decode cX7_setting 63 = .ok (.goto 31, 3) := by decide +kernel
theorem dX7_setting_66 : decode cX7_setting 66 = .ok (.iload_n 1, 1) := by decide +kernel
theorem dX7_setting_67 : decode cX7_setting 67 = .ok (.iconst 3, 1) := by decide +kernel
theorem dX7_setting_68 : decode cX7_setting 68 = .ok (.if_icmp .ne 10, 3) := by decide +kernel
theorem dX7_setting_71 : decode cX7_setting 71 = .ok (.aload_n 0, 1) := by decide +kernel
theorem dX7_setting_72 : decode cX7_setting 72 = .ok (.getfield 163, 3) := by decide +kernel
theorem dX7_setting_75 : decode cX7_setting 75 = .ok (.goto 19, 3) := by decide +kernel
theorem dX7_setting_78 : decode cX7_setting 78 = .ok (.iload_n 1, 1) := by decide +kernel
theorem dX7_setting_79 : decode cX7_setting 79 = .ok (.iconst 4, 1) := by decide +kernel
theorem dX7_setting_80 : decode cX7_setting 80 = .ok (.if_icmp .ne 10, 3) := by decide +kernel
theorem dX7_setting_83 : decode cX7_setting 83 = .ok (.aload_n 0, 1) := by decide +kernel
theorem dX7_setting_84 : decode cX7_setting 84 = .ok (.getfield 166, 3) := by decide +kernel
theorem dX7_setting_87 : decode cX7_setting 87 = .ok (.goto 7, 3) := by decide +kernel
theorem dX7_setting_90 : decode cX7_setting 90 = .ok (.aload_n 0, 1) := by decide +kernel
theorem dX7_setting_91 : decode cX7_setting 91 = .ok (.getfield 169, 3) := by decide +kernel
theorem dX7_setting_94 : decode cX7_setting 94 = .ok (.ireturn, 1) := by decide +kernel
theorem dX7_isRow_0 : decode cX7_isRow 0 = .ok (.iload_n 1, 1) := by decide +kernel
theorem dX7_isRow_1 : decode cX7_isRow 1 = .ok (.iconst 0, 1) := by decide +kernel
theorem dX7_isRow_2 : decode cX7_isRow 2 = .ok (.aload_n 0, 1) := by decide +kernel
theorem dX7_isRow_3 : decode cX7_isRow 3 = .ok (.getfield 154, 3) := by decide +kernel
theorem dX7_isRow_6 : decode cX7_isRow 6 = .ok (.iconst 1, 1) := by decide +kernel
theorem dX7_isRow_7 : decode cX7_isRow 7 = .ok (.isub, 1) := by decide +kernel
theorem dX7_isRow_8 : decode cX7_isRow 8 = .ok (.invokestatic 143, 3) := by decide +kernel
theorem dX7_isRow_11 : decode cX7_isRow 11 = .ok (.ireturn, 1) := by decide +kernel
theorem dX7_noRow_0 : decode cX7_noRow 0 = .ok (.aload_n 0, 1) := by decide +kernel
theorem dX7_noRow_1 : decode cX7_noRow 1 = .ok (.invokevirtual 320, 3) := by decide +kernel
theorem dX7_noRow_4 : decode cX7_noRow 4 = .ok (.ifCond .ne 24, 3) := by decide +kernel
theorem dX7_noRow_7 : decode cX7_noRow 7 = .ok (.aload_n 0, 1) := by decide +kernel
theorem dX7_noRow_8 : decode cX7_noRow 8 = .ok (.aload_n 0, 1) := by decide +kernel
theorem dX7_noRow_9 : decode cX7_noRow 9 = .ok (.iload_n 1, 1) := by decide +kernel
theorem dX7_noRow_10 : decode cX7_noRow 10 = .ok (.invokevirtual 332, 3) := by decide +kernel
theorem dX7_noRow_13 : decode cX7_noRow 13 = .ok (.ifCond .ne 7, 3) := by decide +kernel
theorem dX7_noRow_16 : decode cX7_noRow 16 = .ok (.iconst 1, 1) := by decide +kernel
theorem dX7_noRow_17 : decode cX7_noRow 17 = .ok (.goto 4, 3) := by decide +kernel
theorem dX7_noRow_20 : decode cX7_noRow 20 = .ok (.iconst 0, 1) := by decide +kernel
theorem dX7_noRow_21 : decode cX7_noRow 21 = .ok (.iconst 2, 1) := by decide +kernel
theorem dX7_noRow_22 : decode cX7_noRow 22 = .ok (.invokevirtual 74, 3) := by decide +kernel
theorem dX7_noRow_25 : decode cX7_noRow 25 = .ok (.ifCond .eq 7, 3) := by decide +kernel
theorem dX7_noRow_28 : decode cX7_noRow 28 = .ok (.iconst 1, 1) := by decide +kernel
theorem dX7_noRow_29 : decode cX7_noRow 29 = .ok (.goto 4, 3) := by decide +kernel
theorem dX7_noRow_32 : decode cX7_noRow 32 = .ok (.iconst 0, 1) := by decide +kernel
theorem dX7_noRow_33 : decode cX7_noRow 33 = .ok (.ireturn, 1) := by decide +kernel
theorem dX7_row_0 : decode cX7_row 0 = .ok (.aload_n 0, 1) := by decide +kernel
theorem dX7_row_1 : decode cX7_row 1 = .ok (.iload_n 1, 1) := by decide +kernel
theorem dX7_row_2 : decode cX7_row 2 = .ok (.invokevirtual 335, 3) := by decide +kernel
theorem dX7_row_5 : decode cX7_row 5 = .ok (.ifCond .ne 26, 3) := by decide +kernel
theorem dX7_row_8 : decode cX7_row 8 = .ok (.aload_n 0, 1) := by decide +kernel
theorem dX7_row_9 : decode cX7_row 9 = .ok (.iload_n 2, 1) := by decide +kernel
theorem dX7_row_10 : decode cX7_row 10 = .ok (.iconst 0, 1) := by decide +kernel
theorem dX7_row_11 : decode cX7_row 11 = .ok (.bipush 8, 2) := by decide +kernel
theorem dX7_row_13 : decode cX7_row 13 = .ok (.invokestatic 143, 3) := by decide +kernel
theorem dX7_row_16 : decode cX7_row 16 = .ok (.ifCond .ne 7, 3) := by decide +kernel
theorem dX7_row_19 : decode cX7_row 19 = .ok (.iconst 1, 1) := by decide +kernel
theorem dX7_row_20 : decode cX7_row 20 = .ok (.goto 4, 3) := by decide +kernel
theorem dX7_row_23 : decode cX7_row 23 = .ok (.iconst 0, 1) := by decide +kernel
theorem dX7_row_24 : decode cX7_row 24 = .ok (.iconst 3, 1) := by decide +kernel
theorem dX7_row_25 : decode cX7_row 25 = .ok (.invokevirtual 74, 3) := by decide +kernel
theorem dX7_row_28 : decode cX7_row 28 = .ok (.ifCond .eq 5, 3) := by decide +kernel
theorem dX7_row_31 : decode cX7_row 31 = .ok (.iconst 0, 1) := by decide +kernel
theorem dX7_row_32 : decode cX7_row 32 = .ok (.ireturn, 1) := by decide +kernel
theorem dX7_row_33 : decode cX7_row 33 = .ok (.iload_n 2, 1) := by decide +kernel
theorem dX7_row_34 : decode cX7_row 34 = .ok (.tableswitch 98 0 7 #[46, 53, 60, 66, 72, 79, 86, 92], 46) := by decide +kernel
theorem dX7_row_80 : decode cX7_row 80 = .ok (.aload_n 0, 1) := by decide +kernel
theorem dX7_row_81 : decode cX7_row 81 = .ok (.iload_n 1, 1) := by decide +kernel
theorem dX7_row_82 : decode cX7_row 82 = .ok (.iconst 0, 1) := by decide +kernel
theorem dX7_row_83 : decode cX7_row 83 = .ok (.invokevirtual 189, 3) := by decide +kernel
theorem dX7_row_86 : decode cX7_row 86 = .ok (.ireturn, 1) := by decide +kernel
theorem dX7_row_87 : decode cX7_row 87 = .ok (.aload_n 0, 1) := by decide +kernel
theorem dX7_row_88 : decode cX7_row 88 = .ok (.iload_n 1, 1) := by decide +kernel
theorem dX7_row_89 : decode cX7_row 89 = .ok (.iconst 1, 1) := by decide +kernel
theorem dX7_row_90 : decode cX7_row 90 = .ok (.invokevirtual 189, 3) := by decide +kernel
theorem dX7_row_93 : decode cX7_row 93 = .ok (.ireturn, 1) := by decide +kernel
theorem dX7_row_94 : decode cX7_row 94 = .ok (.aload_n 0, 1) := by decide +kernel
theorem dX7_row_95 : decode cX7_row 95 = .ok (.iload_n 1, 1) := by decide +kernel
theorem dX7_row_96 : decode cX7_row 96 = .ok (.invokevirtual 247, 3) := by decide +kernel
theorem dX7_row_99 : decode cX7_row 99 = .ok (.ireturn, 1) := by decide +kernel
theorem dX7_row_100 : decode cX7_row 100 = .ok (.aload_n 0, 1) := by decide +kernel
theorem dX7_row_101 : decode cX7_row 101 = .ok (.iload_n 1, 1) := by decide +kernel
theorem dX7_row_102 : decode cX7_row 102 = .ok (.invokevirtual 192, 3) := by decide +kernel
theorem dX7_row_105 : decode cX7_row 105 = .ok (.ireturn, 1) := by decide +kernel
theorem dX7_row_106 : decode cX7_row 106 = .ok (.aload_n 0, 1) := by decide +kernel
theorem dX7_row_107 : decode cX7_row 107 = .ok (.iload_n 1, 1) := by decide +kernel
theorem dX7_row_108 : decode cX7_row 108 = .ok (.iconst 2, 1) := by decide +kernel
theorem dX7_row_109 : decode cX7_row 109 = .ok (.invokevirtual 189, 3) := by decide +kernel
theorem dX7_row_112 : decode cX7_row 112 = .ok (.ireturn, 1) := by decide +kernel
theorem dX7_row_113 : decode cX7_row 113 = .ok (.aload_n 0, 1) := by decide +kernel
theorem dX7_row_114 : decode cX7_row 114 = .ok (.iload_n 1, 1) := by decide +kernel
theorem dX7_row_115 : decode cX7_row 115 = .ok (.iconst 4, 1) := by decide +kernel
theorem dX7_row_116 : decode cX7_row 116 = .ok (.invokevirtual 189, 3) := by decide +kernel
theorem dX7_row_119 : decode cX7_row 119 = .ok (.ireturn, 1) := by decide +kernel
theorem dX7_row_120 : decode cX7_row 120 = .ok (.aload_n 0, 1) := by decide +kernel
theorem dX7_row_121 : decode cX7_row 121 = .ok (.iload_n 1, 1) := by decide +kernel
theorem dX7_row_122 : decode cX7_row 122 = .ok (.invokevirtual 270, 3) := by decide +kernel
theorem dX7_row_125 : decode cX7_row 125 = .ok (.ireturn, 1) := by decide +kernel
theorem dX7_row_126 : decode cX7_row 126 = .ok (.aload_n 0, 1) := by decide +kernel
theorem dX7_row_127 : decode cX7_row 127 = .ok (.iload_n 1, 1) := by decide +kernel
theorem dX7_row_128 : decode cX7_row 128 = .ok (.invokevirtual 241, 3) := by decide +kernel
theorem dX7_row_131 : decode cX7_row 131 = .ok (.ireturn, 1) := by decide +kernel
theorem dX7_row_132 : decode cX7_row 132 = .ok (.aload_n 0, 1) := by decide +kernel
theorem dX7_row_133 : decode cX7_row 133 = .ok (.iload_n 1, 1) := by decide +kernel
theorem dX7_row_134 : decode cX7_row 134 = .ok (.invokevirtual 238, 3) := by decide +kernel
theorem dX7_row_137 : decode cX7_row 137 = .ok (.ifCond .eq 12, 3) := by decide +kernel
theorem dX7_row_140 : decode cX7_row 140 = .ok (.aload_n 0, 1) := by decide +kernel
theorem dX7_row_141 : decode cX7_row 141 = .ok (.iload_n 1, 1) := by decide +kernel
theorem dX7_row_142 : decode cX7_row 142 = .ok (.iconst 3, 1) := by decide +kernel
theorem dX7_row_143 : decode cX7_row 143 = .ok (.invokevirtual 189, 3) := by decide +kernel
theorem dX7_row_146 : decode cX7_row 146 = .ok (.goto 4, 3) := by decide +kernel
theorem dX7_row_149 : decode cX7_row 149 = .ok (.iconst (-1), 1) := by decide +kernel
theorem dX7_row_150 : decode cX7_row 150 = .ok (.ireturn, 1) := by decide +kernel
theorem dX7_block_0 : decode cX7_block 0 = .ok (.aload_n 0, 1) := by decide +kernel
theorem dX7_block_1 : decode cX7_block 1 = .ok (.iload_n 1, 1) := by decide +kernel
theorem dX7_block_2 : decode cX7_block 2 = .ok (.invokevirtual 335, 3) := by decide +kernel
theorem dX7_block_5 : decode cX7_block 5 = .ok (.ifCond .ne 32, 3) := by decide +kernel
theorem dX7_block_8 : decode cX7_block 8 = .ok (.aload_n 0, 1) := by decide +kernel
theorem dX7_block_9 : decode cX7_block 9 = .ok (.iload_n 2, 1) := by decide +kernel
theorem dX7_block_10 : decode cX7_block 10 = .ok (.iconst 0, 1) := by decide +kernel
theorem dX7_block_11 : decode cX7_block 11 = .ok (.aload_n 0, 1) := by decide +kernel
theorem dX7_block_12 : decode cX7_block 12 = .ok (.iload_n 1, 1) := by decide +kernel
theorem dX7_block_13 : decode cX7_block 13 = .ok (.iconst 0, 1) := by decide +kernel
theorem dX7_block_14 : decode cX7_block 14 = .ok (.invokevirtual 189, 3) := by decide +kernel
theorem dX7_block_17 : decode cX7_block 17 = .ok (.iconst 1, 1) := by decide +kernel
theorem dX7_block_18 : decode cX7_block 18 = .ok (.isub, 1) := by decide +kernel
theorem dX7_block_19 : decode cX7_block 19 = .ok (.invokestatic 143, 3) := by decide +kernel
theorem dX7_block_22 : decode cX7_block 22 = .ok (.ifCond .ne 7, 3) := by decide +kernel
theorem dX7_block_25 : decode cX7_block 25 = .ok (.iconst 1, 1) := by decide +kernel
theorem dX7_block_26 : decode cX7_block 26 = .ok (.goto 4, 3) := by decide +kernel
theorem dX7_block_29 : decode cX7_block 29 = .ok (.iconst 0, 1) := by decide +kernel
theorem dX7_block_30 : decode cX7_block 30 = .ok (.iconst 2, 1) := by decide +kernel
theorem dX7_block_31 : decode cX7_block 31 = .ok (.invokevirtual 74, 3) := by decide +kernel
theorem dX7_block_34 : decode cX7_block 34 = .ok (.ifCond .eq 5, 3) := by decide +kernel
theorem dX7_block_37 : decode cX7_block 37 = .ok (.iconst 0, 1) := by decide +kernel
theorem dX7_block_38 : decode cX7_block 38 = .ok (.ireturn, 1) := by decide +kernel
theorem dX7_block_39 : decode cX7_block 39 = .ok (.aload_n 0, 1) := by decide +kernel
theorem dX7_block_40 : decode cX7_block 40 = .ok (.iload_n 1, 1) := by decide +kernel
theorem dX7_block_41 : decode cX7_block 41 = .ok (.iconst 5, 1) := by decide +kernel
theorem dX7_block_42 : decode cX7_block 42 = .ok (.iload_n 2, 1) := by decide +kernel
theorem dX7_block_43 : decode cX7_block 43 = .ok (.iadd, 1) := by decide +kernel
theorem dX7_block_44 : decode cX7_block 44 = .ok (.invokevirtual 189, 3) := by decide +kernel
theorem dX7_block_47 : decode cX7_block 47 = .ok (.ireturn, 1) := by decide +kernel
theorem dX7_piece_0 : decode cX7_piece 0 = .ok (.aload_n 0, 1) := by decide +kernel
theorem dX7_piece_1 : decode cX7_piece 1 = .ok (.iload_n 1, 1) := by decide +kernel
theorem dX7_piece_2 : decode cX7_piece 2 = .ok (.invokevirtual 335, 3) := by decide +kernel
theorem dX7_piece_5 : decode cX7_piece 5 = .ok (.ifCond .ne 32, 3) := by decide +kernel
theorem dX7_piece_8 : decode cX7_piece 8 = .ok (.aload_n 0, 1) := by decide +kernel
theorem dX7_piece_9 : decode cX7_piece 9 = .ok (.iload_n 2, 1) := by decide +kernel
theorem dX7_piece_10 : decode cX7_piece 10 = .ok (.iconst 0, 1) := by decide +kernel
theorem dX7_piece_11 : decode cX7_piece 11 = .ok (.aload_n 0, 1) := by decide +kernel
theorem dX7_piece_12 : decode cX7_piece 12 = .ok (.iload_n 1, 1) := by decide +kernel
theorem dX7_piece_13 : decode cX7_piece 13 = .ok (.iconst 1, 1) := by decide +kernel
theorem dX7_piece_14 : decode cX7_piece 14 = .ok (.invokevirtual 189, 3) := by decide +kernel
theorem dX7_piece_17 : decode cX7_piece 17 = .ok (.iconst 1, 1) := by decide +kernel
theorem dX7_piece_18 : decode cX7_piece 18 = .ok (.isub, 1) := by decide +kernel
theorem dX7_piece_19 : decode cX7_piece 19 = .ok (.invokestatic 143, 3) := by decide +kernel
theorem dX7_piece_22 : decode cX7_piece 22 = .ok (.ifCond .ne 7, 3) := by decide +kernel
theorem dX7_piece_25 : decode cX7_piece 25 = .ok (.iconst 1, 1) := by decide +kernel
theorem dX7_piece_26 : decode cX7_piece 26 = .ok (.goto 4, 3) := by decide +kernel
theorem dX7_piece_29 : decode cX7_piece 29 = .ok (.iconst 0, 1) := by decide +kernel
theorem dX7_piece_30 : decode cX7_piece 30 = .ok (.iconst 2, 1) := by decide +kernel
theorem dX7_piece_31 : decode cX7_piece 31 = .ok (.invokevirtual 74, 3) := by decide +kernel
theorem dX7_piece_34 : decode cX7_piece 34 = .ok (.ifCond .eq 5, 3) := by decide +kernel
theorem dX7_piece_37 : decode cX7_piece 37 = .ok (.iconst 0, 1) := by decide +kernel
theorem dX7_piece_38 : decode cX7_piece 38 = .ok (.ireturn, 1) := by decide +kernel
theorem dX7_piece_39 : decode cX7_piece 39 = .ok (.aload_n 0, 1) := by decide +kernel
theorem dX7_piece_40 : decode cX7_piece 40 = .ok (.iload_n 1, 1) := by decide +kernel
theorem dX7_piece_41 : decode cX7_piece 41 = .ok (.bipush 11, 2) := by decide +kernel
theorem dX7_piece_43 : decode cX7_piece 43 = .ok (.iload_n 2, 1) := by decide +kernel
theorem dX7_piece_44 : decode cX7_piece 44 = .ok (.iadd, 1) := by decide +kernel
theorem dX7_piece_45 : decode cX7_piece 45 = .ok (.invokevirtual 189, 3) := by decide +kernel
theorem dX7_piece_48 : decode cX7_piece 48 = .ok (.ireturn, 1) := by decide +kernel
theorem dX7_isKind_0 : decode cX7_isKind 0 = .ok (.iload_n 1, 1) := by decide +kernel
theorem dX7_isKind_1 : decode cX7_isKind 1 = .ok (.iconst 0, 1) := by decide +kernel
theorem dX7_isKind_2 : decode cX7_isKind 2 = .ok (.aload_n 0, 1) := by decide +kernel
theorem dX7_isKind_3 : decode cX7_isKind 3 = .ok (.getfield 172, 3) := by decide +kernel
theorem dX7_isKind_6 : decode cX7_isKind 6 = .ok (.iconst 1, 1) := by decide +kernel
theorem dX7_isKind_7 : decode cX7_isKind 7 = .ok (.isub, 1) := by decide +kernel
theorem dX7_isKind_8 : decode cX7_isKind 8 = .ok (.invokestatic 143, 3) := by decide +kernel
theorem dX7_isKind_11 : decode cX7_isKind 11 = .ok (.ireturn, 1) := by decide +kernel
theorem dX7_usedOf_0 : decode cX7_usedOf 0 = .ok (.iconst 0, 1) := by decide +kernel
theorem dX7_usedOf_1 : decode cX7_usedOf 1 = .ok (.istore_n 2, 1) := by decide +kernel
theorem dX7_usedOf_2 : decode cX7_usedOf 2 = .ok (.iconst 0, 1) := by decide +kernel
theorem dX7_usedOf_3 : decode cX7_usedOf 3 = .ok (.istore_n 3, 1) := by decide +kernel
theorem dX7_usedOf_4 : decode cX7_usedOf 4 = .ok (.iload_n 3, 1) := by decide +kernel
theorem dX7_usedOf_5 : decode cX7_usedOf 5 = .ok (.aload_n 0, 1) := by decide +kernel
theorem dX7_usedOf_6 : decode cX7_usedOf 6 = .ok (.getfield 154, 3) := by decide +kernel
theorem dX7_usedOf_9 : decode cX7_usedOf 9 = .ok (.if_icmp .ge 54, 3) := by decide +kernel
theorem dX7_usedOf_12 : decode cX7_usedOf 12 = .ok (.iconst 0, 1) := by decide +kernel
theorem dX7_usedOf_13 : decode cX7_usedOf 13 = .ok (.istore 4, 2) := by decide +kernel
theorem dX7_usedOf_15 : decode cX7_usedOf 15 = .ok (.iload 4, 2) := by decide +kernel
theorem dX7_usedOf_17 : decode cX7_usedOf 17 = .ok (.aload_n 0, 1) := by decide +kernel
theorem dX7_usedOf_18 : decode cX7_usedOf 18 = .ok (.iload_n 3, 1) := by decide +kernel
theorem dX7_usedOf_19 : decode cX7_usedOf 19 = .ok (.iconst 1, 1) := by decide +kernel
theorem dX7_usedOf_20 : decode cX7_usedOf 20 = .ok (.invokevirtual 189, 3) := by decide +kernel
theorem dX7_usedOf_23 : decode cX7_usedOf 23 = .ok (.if_icmp .ge 34, 3) := by decide +kernel
theorem dX7_usedOf_26 : decode cX7_usedOf 26 = .ok (.iload_n 2, 1) := by decide +kernel
theorem dX7_usedOf_27 : decode cX7_usedOf 27 = .ok (.aload_n 0, 1) := by decide +kernel
theorem dX7_usedOf_28 : decode cX7_usedOf 28 = .ok (.iload_n 3, 1) := by decide +kernel
theorem dX7_usedOf_29 : decode cX7_usedOf 29 = .ok (.bipush 11, 2) := by decide +kernel
theorem dX7_usedOf_31 : decode cX7_usedOf 31 = .ok (.iload 4, 2) := by decide +kernel
theorem dX7_usedOf_33 : decode cX7_usedOf 33 = .ok (.iadd, 1) := by decide +kernel
theorem dX7_usedOf_34 : decode cX7_usedOf 34 = .ok (.invokevirtual 189, 3) := by decide +kernel
theorem dX7_usedOf_37 : decode cX7_usedOf 37 = .ok (.iload_n 1, 1) := by decide +kernel
theorem dX7_usedOf_38 : decode cX7_usedOf 38 = .ok (.if_icmp .ne 7, 3) := by decide +kernel
theorem dX7_usedOf_41 : decode cX7_usedOf 41 = .ok (.iconst 1, 1) := by decide +kernel
theorem dX7_usedOf_42 : decode cX7_usedOf 42 = .ok (.goto 4, 3) := by decide +kernel
theorem dX7_usedOf_45 : decode cX7_usedOf 45 = .ok (.iconst 0, 1) := by decide +kernel
theorem dX7_usedOf_46 : decode cX7_usedOf 46 = .ok (.invokestatic 250, 3) := by decide +kernel
theorem dX7_usedOf_49 : decode cX7_usedOf 49 = .ok (.iadd, 1) := by decide +kernel
theorem dX7_usedOf_50 : decode cX7_usedOf 50 = .ok (.istore_n 2, 1) := by decide +kernel
theorem dX7_usedOf_51 : decode cX7_usedOf 51 = .ok (.iinc 4 1, 3) := by decide +kernel
theorem dX7_usedOf_54 : decode cX7_usedOf 54 = .ok (.goto (-39), 3) := by decide +kernel
theorem dX7_usedOf_57 : decode cX7_usedOf 57 = .ok (.iinc 3 1, 3) := by decide +kernel
theorem dX7_usedOf_60 : decode cX7_usedOf 60 = .ok (.goto (-56), 3) := by decide +kernel
theorem dX7_usedOf_63 : decode cX7_usedOf 63 = .ok (.iload_n 2, 1) := by decide +kernel
theorem dX7_usedOf_64 : decode cX7_usedOf 64 = .ok (.ireturn, 1) := by decide +kernel
theorem dX7_kind_0 : decode cX7_kind 0 = .ok (.aload_n 0, 1) := by decide +kernel
theorem dX7_kind_1 : decode cX7_kind 1 = .ok (.invokevirtual 320, 3) := by decide +kernel
theorem dX7_kind_4 : decode cX7_kind 4 = .ok (.ifCond .ne 46, 3) := by decide +kernel
theorem dX7_kind_7 : decode cX7_kind 7 = .ok (.aload_n 0, 1) := by decide +kernel
theorem dX7_kind_8 : decode cX7_kind 8 = .ok (.aload_n 0, 1) := by decide +kernel
theorem dX7_kind_9 : decode cX7_kind 9 = .ok (.iload_n 1, 1) := by decide +kernel
theorem dX7_kind_10 : decode cX7_kind 10 = .ok (.invokevirtual 338, 3) := by decide +kernel
theorem dX7_kind_13 : decode cX7_kind 13 = .ok (.ifCond .ne 7, 3) := by decide +kernel
theorem dX7_kind_16 : decode cX7_kind 16 = .ok (.iconst 1, 1) := by decide +kernel
theorem dX7_kind_17 : decode cX7_kind 17 = .ok (.goto 4, 3) := by decide +kernel
theorem dX7_kind_20 : decode cX7_kind 20 = .ok (.iconst 0, 1) := by decide +kernel
theorem dX7_kind_21 : decode cX7_kind 21 = .ok (.iconst 2, 1) := by decide +kernel
theorem dX7_kind_22 : decode cX7_kind 22 = .ok (.invokevirtual 74, 3) := by decide +kernel
theorem dX7_kind_25 : decode cX7_kind 25 = .ok (.ifCond .ne 25, 3) := by decide +kernel
theorem dX7_kind_28 : decode cX7_kind 28 = .ok (.aload_n 0, 1) := by decide +kernel
theorem dX7_kind_29 : decode cX7_kind 29 = .ok (.iload_n 2, 1) := by decide +kernel
theorem dX7_kind_30 : decode cX7_kind 30 = .ok (.iconst 0, 1) := by decide +kernel
theorem dX7_kind_31 : decode cX7_kind 31 = .ok (.iconst 3, 1) := by decide +kernel
theorem dX7_kind_32 : decode cX7_kind 32 = .ok (.invokestatic 143, 3) := by decide +kernel
theorem dX7_kind_35 : decode cX7_kind 35 = .ok (.ifCond .ne 7, 3) := by decide +kernel
theorem dX7_kind_38 : decode cX7_kind 38 = .ok (.iconst 1, 1) := by decide +kernel
theorem dX7_kind_39 : decode cX7_kind 39 = .ok (.goto 4, 3) := by decide +kernel
theorem dX7_kind_42 : decode cX7_kind 42 = .ok (.iconst 0, 1) := by decide +kernel
theorem dX7_kind_43 : decode cX7_kind 43 = .ok (.iconst 3, 1) := by decide +kernel
theorem dX7_kind_44 : decode cX7_kind 44 = .ok (.invokevirtual 74, 3) := by decide +kernel
theorem dX7_kind_47 : decode cX7_kind 47 = .ok (.ifCond .eq 5, 3) := by decide +kernel
theorem dX7_kind_50 : decode cX7_kind 50 = .ok (.iconst 0, 1) := by decide +kernel
theorem dX7_kind_51 : decode cX7_kind 51 = .ok (.ireturn, 1) := by decide +kernel
theorem dX7_kind_52 : decode cX7_kind 52 = .ok (.iload_n 2, 1) := by decide +kernel
theorem dX7_kind_53 : decode cX7_kind 53 = .ok (.ifCond .ne 15, 3) := by decide +kernel
theorem dX7_kind_56 : decode cX7_kind 56 = .ok (.aload_n 0, 1) := by decide +kernel
theorem dX7_kind_57 : decode cX7_kind 57 = .ok (.getfield 7, 3) := by decide +kernel
theorem dX7_kind_60 : decode cX7_kind 60 = .ok (.iload_n 1, 1) := by decide +kernel
theorem dX7_kind_61 : decode cX7_kind 61 = .ok (.baload, 1) := by decide +kernel
theorem dX7_kind_62 : decode cX7_kind 62 = .ok (.invokestatic 250, 3) := by decide +kernel
theorem dX7_kind_65 : decode cX7_kind 65 = .ok (.goto 39, 3) := by decide +kernel
theorem dX7_kind_68 : decode cX7_kind 68 = .ok (.iload_n 2, 1) := by decide +kernel
theorem dX7_kind_69 : decode cX7_kind 69 = .ok (.iconst 1, 1) := by decide +kernel
theorem dX7_kind_70 : decode cX7_kind 70 = .ok (.if_icmp .ne 12, 3) := by decide +kernel
theorem dX7_kind_73 : decode cX7_kind 73 = .ok (.aload_n 0, 1) := by decide +kernel
theorem dX7_kind_74 : decode cX7_kind 74 = .ok (.getfield 13, 3) := by decide +kernel
theorem dX7_kind_77 : decode cX7_kind 77 = .ok (.iload_n 1, 1) := by decide +kernel
theorem dX7_kind_78 : decode cX7_kind 78 = .ok (.iaload, 1) := by decide +kernel
theorem dX7_kind_79 : decode cX7_kind 79 = .ok (.goto 25, 3) := by decide +kernel
theorem dX7_kind_82 : decode cX7_kind 82 = .ok (.iload_n 2, 1) := by decide +kernel
theorem dX7_kind_83 : decode cX7_kind 83 = .ok (.iconst 2, 1) := by decide +kernel
theorem dX7_kind_84 : decode cX7_kind 84 = .ok (.if_icmp .ne 15, 3) := by decide +kernel
theorem dX7_kind_87 : decode cX7_kind 87 = .ok (.aload_n 0, 1) := by decide +kernel
theorem dX7_kind_88 : decode cX7_kind 88 = .ok (.getfield 17, 3) := by decide +kernel
theorem dX7_kind_91 : decode cX7_kind 91 = .ok (.bipush 6, 2) := by decide +kernel
theorem dX7_kind_93 : decode cX7_kind 93 = .ok (.iload_n 1, 1) := by decide +kernel
theorem dX7_kind_94 : decode cX7_kind 94 = .ok (.iadd, 1) := by decide +kernel
theorem dX7_kind_95 : decode cX7_kind 95 = .ok (.iaload, 1) := by decide +kernel
theorem dX7_kind_96 : decode cX7_kind 96 = .ok (.goto 8, 3) := by decide +kernel
theorem dX7_kind_99 : decode cX7_kind 99 = .ok (.aload_n 0, 1) := by decide +kernel
theorem dX7_kind_100 : decode cX7_kind 100 = .ok (.iload_n 1, 1) := by decide +kernel
theorem dX7_kind_101 : decode cX7_kind 101 = .ok (.invokevirtual 341, 3) := by decide +kernel
theorem dX7_kind_104 : decode cX7_kind 104 = .ok (.ireturn, 1) := by decide +kernel
theorem dX7_kindOf_0 : decode cX7_kindOf 0 = .ok (.aload_n 0, 1) := by decide +kernel
theorem dX7_kindOf_1 : decode cX7_kindOf 1 = .ok (.invokevirtual 320, 3) := by decide +kernel
theorem dX7_kindOf_4 : decode cX7_kindOf 4 = .ok (.ifCond .eq 7, 3) := by decide +kernel
theorem dX7_kindOf_7 : decode cX7_kindOf 7 = .ok (.iconst 0, 1) := by decide +kernel
theorem dX7_kindOf_8 : decode cX7_kindOf 8 = .ok (.goto 9, 3) := by decide +kernel
theorem dX7_kindOf_11 : decode cX7_kindOf 11 = .ok (.aload_n 0, 1) := by decide +kernel
theorem dX7_kindOf_12 : decode cX7_kindOf 12 = .ok (.iload_n 1, 1) := by decide +kernel
theorem dX7_kindOf_13 : decode cX7_kindOf 13 = .ok (.iload_n 2, 1) := by decide +kernel
theorem dX7_kindOf_14 : decode cX7_kindOf 14 = .ok (.invokevirtual 182, 3) := by decide +kernel
theorem dX7_kindOf_17 : decode cX7_kindOf 17 = .ok (.ireturn, 1) := by decide +kernel
theorem dX7_isTight_0 : decode cX7_isTight 0 = .ok (.aload_n 0, 1) := by decide +kernel
theorem dX7_isTight_1 : decode cX7_isTight 1 = .ok (.iload_n 1, 1) := by decide +kernel
theorem dX7_isTight_2 : decode cX7_isTight 2 = .ok (.invokevirtual 335, 3) := by decide +kernel
theorem dX7_isTight_5 : decode cX7_isTight 5 = .ok (.ifCond .ne 15, 3) := by decide +kernel
theorem dX7_isTight_8 : decode cX7_isTight 8 = .ok (.aload_n 0, 1) := by decide +kernel
theorem dX7_isTight_9 : decode cX7_isTight 9 = .ok (.iload_n 1, 1) := by decide +kernel
theorem dX7_isTight_10 : decode cX7_isTight 10 = .ok (.invokevirtual 317, 3) := by decide +kernel
theorem dX7_isTight_13 : decode cX7_isTight 13 = .ok (.ifCond .eq 7, 3) := by decide +kernel
theorem dX7_isTight_16 : decode cX7_isTight 16 = .ok (.iconst 1, 1) := by decide +kernel
theorem dX7_isTight_17 : decode cX7_isTight 17 = .ok (.goto 4, 3) := by decide +kernel
theorem dX7_isTight_20 : decode cX7_isTight 20 = .ok (.iconst 0, 1) := by decide +kernel
theorem dX7_isTight_21 : decode cX7_isTight 21 = .ok (.ireturn, 1) := by decide +kernel
theorem dX7_canPut_0 : decode cX7_canPut 0 = .ok (.aload_n 0, 1) := by decide +kernel
theorem dX7_canPut_1 : decode cX7_canPut 1 = .ok (.iload_n 1, 1) := by decide +kernel
theorem dX7_canPut_2 : decode cX7_canPut 2 = .ok (.invokevirtual 335, 3) := by decide +kernel
theorem dX7_canPut_5 : decode cX7_canPut 5 = .ok (.ifCond .ne 54, 3) := by decide +kernel
theorem dX7_canPut_8 : decode cX7_canPut 8 = .ok (.aload_n 0, 1) := by decide +kernel
theorem dX7_canPut_9 : decode cX7_canPut 9 = .ok (.aload_n 0, 1) := by decide +kernel
theorem dX7_canPut_10 : decode cX7_canPut 10 = .ok (.iload_n 2, 1) := by decide +kernel
theorem dX7_canPut_11 : decode cX7_canPut 11 = .ok (.invokevirtual 338, 3) := by decide +kernel
theorem dX7_canPut_14 : decode cX7_canPut 14 = .ok (.ifCond .ne 7, 3) := by decide +kernel
theorem dX7_canPut_17 : decode cX7_canPut 17 = .ok (.iconst 1, 1) := by decide +kernel
theorem dX7_canPut_18 : decode cX7_canPut 18 = .ok (.goto 4, 3) := by decide +kernel
theorem dX7_canPut_21 : decode cX7_canPut 21 = .ok (.iconst 0, 1) := by decide +kernel
theorem dX7_canPut_22 : decode cX7_canPut 22 = .ok (.iconst 2, 1) := by decide +kernel
theorem dX7_canPut_23 : decode cX7_canPut 23 = .ok (.invokevirtual 74, 3) := by decide +kernel
theorem dX7_canPut_26 : decode cX7_canPut 26 = .ok (.ifCond .ne 33, 3) := by decide +kernel
theorem dX7_canPut_29 : decode cX7_canPut 29 = .ok (.aload_n 0, 1) := by decide +kernel
theorem dX7_canPut_30 : decode cX7_canPut 30 = .ok (.getfield 17, 3) := by decide +kernel
theorem dX7_canPut_33 : decode cX7_canPut 33 = .ok (.bipush 6, 2) := by decide +kernel
theorem dX7_canPut_35 : decode cX7_canPut 35 = .ok (.iload_n 2, 1) := by decide +kernel
theorem dX7_canPut_36 : decode cX7_canPut 36 = .ok (.iadd, 1) := by decide +kernel
theorem dX7_canPut_37 : decode cX7_canPut 37 = .ok (.iaload, 1) := by decide +kernel
theorem dX7_canPut_38 : decode cX7_canPut 38 = .ok (.ifCond .le 21, 3) := by decide +kernel
theorem dX7_canPut_41 : decode cX7_canPut 41 = .ok (.aload_n 0, 1) := by decide +kernel
theorem dX7_canPut_42 : decode cX7_canPut 42 = .ok (.iload_n 1, 1) := by decide +kernel
theorem dX7_canPut_43 : decode cX7_canPut 43 = .ok (.invokevirtual 192, 3) := by decide +kernel
theorem dX7_canPut_46 : decode cX7_canPut 46 = .ok (.aload_n 0, 1) := by decide +kernel
theorem dX7_canPut_47 : decode cX7_canPut 47 = .ok (.getfield 13, 3) := by decide +kernel
theorem dX7_canPut_50 : decode cX7_canPut 50 = .ok (.iload_n 2, 1) := by decide +kernel
theorem dX7_canPut_51 : decode cX7_canPut 51 = .ok (.iaload, 1) := by decide +kernel
theorem dX7_canPut_52 : decode cX7_canPut 52 = .ok (.if_icmp .lt 7, 3) := by decide +kernel
theorem dX7_canPut_55 : decode cX7_canPut 55 = .ok (.iconst 1, 1) := by decide +kernel
theorem dX7_canPut_56 : decode cX7_canPut 56 = .ok (.goto 4, 3) := by decide +kernel
theorem dX7_canPut_59 : decode cX7_canPut 59 = .ok (.iconst 0, 1) := by decide +kernel
theorem dX7_canPut_60 : decode cX7_canPut 60 = .ok (.ireturn, 1) := by decide +kernel
theorem dX7_widestGap_0 : decode cX7_widestGap 0 = .ok (.aload_n 0, 1) := by decide +kernel
theorem dX7_widestGap_1 : decode cX7_widestGap 1 = .ok (.invokevirtual 320, 3) := by decide +kernel
theorem dX7_widestGap_4 : decode cX7_widestGap 4 = .ok (.ifCond .eq 5, 3) := by decide +kernel
theorem dX7_widestGap_7 : decode cX7_widestGap 7 = .ok (.iconst 0, 1) := by decide +kernel
theorem dX7_widestGap_8 : decode cX7_widestGap 8 = .ok (.ireturn, 1) := by decide +kernel
theorem dX7_widestGap_9 : decode cX7_widestGap 9 = .ok (.iconst 0, 1) := by decide +kernel
theorem dX7_widestGap_10 : decode cX7_widestGap 10 = .ok (.istore_n 1, 1) := by decide +kernel
theorem dX7_widestGap_11 : decode cX7_widestGap 11 = .ok (.iconst 1, 1) := by decide +kernel
theorem dX7_widestGap_12 : decode cX7_widestGap 12 = .ok (.istore_n 2, 1) := by decide +kernel
theorem dX7_widestGap_13 : decode cX7_widestGap 13 = .ok (.iload_n 2, 1) := by decide +kernel
theorem dX7_widestGap_14 : decode cX7_widestGap 14 = .ok (.aload_n 0, 1) := by decide +kernel
theorem dX7_widestGap_15 : decode cX7_widestGap 15 = .ok (.getfield 154, 3) := by decide +kernel
theorem dX7_widestGap_18 : decode cX7_widestGap 18 = .ok (.if_icmp .ge 28, 3) := by decide +kernel
theorem dX7_widestGap_21 : decode cX7_widestGap 21 = .ok (.aload_n 0, 1) := by decide +kernel
theorem dX7_widestGap_22 : decode cX7_widestGap 22 = .ok (.iload_n 2, 1) := by decide +kernel
theorem dX7_widestGap_23 : decode cX7_widestGap 23 = .ok (.invokevirtual 192, 3) := by decide +kernel
theorem dX7_widestGap_26 : decode cX7_widestGap 26 = .ok (.aload_n 0, 1) := by decide +kernel
theorem dX7_widestGap_27 : decode cX7_widestGap 27 = .ok (.iload_n 1, 1) := by decide +kernel
theorem dX7_widestGap_28 : decode cX7_widestGap 28 = .ok (.invokevirtual 192, 3) := by decide +kernel
theorem dX7_widestGap_31 : decode cX7_widestGap 31 = .ok (.if_icmp .le 7, 3) := by decide +kernel
theorem dX7_widestGap_34 : decode cX7_widestGap 34 = .ok (.iload_n 2, 1) := by decide +kernel
theorem dX7_widestGap_35 : decode cX7_widestGap 35 = .ok (.goto 4, 3) := by decide +kernel
theorem dX7_widestGap_38 : decode cX7_widestGap 38 = .ok (.iload_n 1, 1) := by decide +kernel
theorem dX7_widestGap_39 : decode cX7_widestGap 39 = .ok (.istore_n 1, 1) := by decide +kernel
theorem dX7_widestGap_40 : decode cX7_widestGap 40 = .ok (.iinc 2 1, 3) := by decide +kernel
theorem dX7_widestGap_43 : decode cX7_widestGap 43 = .ok (.goto (-30), 3) := by decide +kernel
theorem dX7_widestGap_46 : decode cX7_widestGap 46 = .ok (.iload_n 1, 1) := by decide +kernel
theorem dX7_widestGap_47 : decode cX7_widestGap 47 = .ok (.ireturn, 1) := by decide +kernel
theorem dX7_loosest_0 : decode cX7_loosest 0 = .ok (.aload_n 0, 1) := by decide +kernel
theorem dX7_loosest_1 : decode cX7_loosest 1 = .ok (.invokevirtual 320, 3) := by decide +kernel
theorem dX7_loosest_4 : decode cX7_loosest 4 = .ok (.ifCond .eq 5, 3) := by decide +kernel
theorem dX7_loosest_7 : decode cX7_loosest 7 = .ok (.iconst 0, 1) := by decide +kernel
theorem dX7_loosest_8 : decode cX7_loosest 8 = .ok (.ireturn, 1) := by decide +kernel
theorem dX7_loosest_9 : decode cX7_loosest 9 = .ok (.iconst (-1), 1) := by decide +kernel
theorem dX7_loosest_10 : decode cX7_loosest 10 = .ok (.istore_n 1, 1) := by decide +kernel
theorem dX7_loosest_11 : decode cX7_loosest 11 = .ok (.iconst 0, 1) := by decide +kernel
theorem dX7_loosest_12 : decode cX7_loosest 12 = .ok (.istore_n 2, 1) := by decide +kernel
theorem dX7_loosest_13 : decode cX7_loosest 13 = .ok (.iload_n 2, 1) := by decide +kernel
theorem dX7_loosest_14 : decode cX7_loosest 14 = .ok (.aload_n 0, 1) := by decide +kernel
theorem dX7_loosest_15 : decode cX7_loosest 15 = .ok (.getfield 154, 3) := by decide +kernel
theorem dX7_loosest_18 : decode cX7_loosest 18 = .ok (.if_icmp .ge 38, 3) := by decide +kernel
theorem dX7_loosest_21 : decode cX7_loosest 21 = .ok (.aload_n 0, 1) := by decide +kernel
theorem dX7_loosest_22 : decode cX7_loosest 22 = .ok (.iload_n 2, 1) := by decide +kernel
theorem dX7_loosest_23 : decode cX7_loosest 23 = .ok (.iconst 0, 1) := by decide +kernel
theorem dX7_loosest_24 : decode cX7_loosest 24 = .ok (.invokevirtual 189, 3) := by decide +kernel
theorem dX7_loosest_27 : decode cX7_loosest 27 = .ok (.ifCond .le 23, 3) := by decide +kernel
theorem dX7_loosest_30 : decode cX7_loosest 30 = .ok (.iload_n 1, 1) := by decide +kernel
theorem dX7_loosest_31 : decode cX7_loosest 31 = .ok (.iconst (-1), 1) := by decide +kernel
theorem dX7_loosest_32 : decode cX7_loosest 32 = .ok (.if_icmp .eq 16, 3) := by decide +kernel
theorem dX7_loosest_35 : decode cX7_loosest 35 = .ok (.aload_n 0, 1) := by decide +kernel
theorem dX7_loosest_36 : decode cX7_loosest 36 = .ok (.iload_n 2, 1) := by decide +kernel
theorem dX7_loosest_37 : decode cX7_loosest 37 = .ok (.invokevirtual 257, 3) := by decide +kernel
theorem dX7_loosest_40 : decode cX7_loosest 40 = .ok (.aload_n 0, 1) := by decide +kernel
theorem dX7_loosest_41 : decode cX7_loosest 41 = .ok (.iload_n 1, 1) := by decide +kernel
theorem dX7_loosest_42 : decode cX7_loosest 42 = .ok (.invokevirtual 257, 3) := by decide +kernel
theorem dX7_loosest_45 : decode cX7_loosest 45 = .ok (.if_icmp .le 5, 3) := by decide +kernel
theorem dX7_loosest_48 : decode cX7_loosest 48 = .ok (.iload_n 2, 1) := by decide +kernel
theorem dX7_loosest_49 : decode cX7_loosest 49 = .ok (.istore_n 1, 1) := by decide +kernel
theorem dX7_loosest_50 : decode cX7_loosest 50 = .ok (.iinc 2 1, 3) := by decide +kernel
theorem dX7_loosest_53 : decode cX7_loosest 53 = .ok (.goto (-40), 3) := by decide +kernel
theorem dX7_loosest_56 : decode cX7_loosest 56 = .ok (.iload_n 1, 1) := by decide +kernel
theorem dX7_loosest_57 : decode cX7_loosest 57 = .ok (.ireturn, 1) := by decide +kernel
theorem dX7_longestLeft_0 : decode cX7_longestLeft 0 = .ok (.aload_n 0, 1) := by decide +kernel
theorem dX7_longestLeft_1 : decode cX7_longestLeft 1 = .ok (.invokevirtual 320, 3) := by decide +kernel
theorem dX7_longestLeft_4 : decode cX7_longestLeft 4 = .ok (.ifCond .eq 5, 3) := by decide +kernel
theorem dX7_longestLeft_7 : decode cX7_longestLeft 7 = .ok (.iconst 0, 1) := by decide +kernel
theorem dX7_longestLeft_8 : decode cX7_longestLeft 8 = .ok (.ireturn, 1) := by decide +kernel
theorem dX7_longestLeft_9 : decode cX7_longestLeft 9 = .ok (.iconst (-1), 1) := by decide +kernel
theorem dX7_longestLeft_10 : decode cX7_longestLeft 10 = .ok (.istore_n 1, 1) := by decide +kernel
theorem dX7_longestLeft_11 : decode cX7_longestLeft 11 = .ok (.iconst 0, 1) := by decide +kernel
theorem dX7_longestLeft_12 : decode cX7_longestLeft 12 = .ok (.istore_n 2, 1) := by decide +kernel
theorem dX7_longestLeft_13 : decode cX7_longestLeft 13 = .ok (.iload_n 2, 1) := by decide +kernel
theorem dX7_longestLeft_14 : decode cX7_longestLeft 14 = .ok (.aload_n 0, 1) := by decide +kernel
theorem dX7_longestLeft_15 : decode cX7_longestLeft 15 = .ok (.getfield 172, 3) := by decide +kernel
theorem dX7_longestLeft_18 : decode cX7_longestLeft 18 = .ok (.if_icmp .ge 37, 3) := by decide +kernel
theorem dX7_longestLeft_21 : decode cX7_longestLeft 21 = .ok (.aload_n 0, 1) := by decide +kernel
theorem dX7_longestLeft_22 : decode cX7_longestLeft 22 = .ok (.getfield 17, 3) := by decide +kernel
theorem dX7_longestLeft_25 : decode cX7_longestLeft 25 = .ok (.bipush 6, 2) := by decide +kernel
theorem dX7_longestLeft_27 : decode cX7_longestLeft 27 = .ok (.iload_n 2, 1) := by decide +kernel
theorem dX7_longestLeft_28 : decode cX7_longestLeft 28 = .ok (.iadd, 1) := by decide +kernel
theorem dX7_longestLeft_29 : decode cX7_longestLeft 29 = .ok (.iaload, 1) := by decide +kernel
theorem dX7_longestLeft_30 : decode cX7_longestLeft 30 = .ok (.ifCond .le 19, 3) := by decide +kernel
theorem dX7_longestLeft_33 : decode cX7_longestLeft 33 = .ok (.iload_n 1, 1) := by decide +kernel
theorem dX7_longestLeft_34 : decode cX7_longestLeft 34 = .ok (.iconst (-1), 1) := by decide +kernel
theorem dX7_longestLeft_35 : decode cX7_longestLeft 35 = .ok (.if_icmp .eq 12, 3) := by decide +kernel
theorem dX7_longestLeft_38 : decode cX7_longestLeft 38 = .ok (.aload_n 0, 1) := by decide +kernel
theorem dX7_longestLeft_39 : decode cX7_longestLeft 39 = .ok (.iload_n 2, 1) := by decide +kernel
theorem dX7_longestLeft_40 : decode cX7_longestLeft 40 = .ok (.iload_n 1, 1) := by decide +kernel
theorem dX7_longestLeft_41 : decode cX7_longestLeft 41 = .ok (.invokevirtual 273, 3) := by decide +kernel
theorem dX7_longestLeft_44 : decode cX7_longestLeft 44 = .ok (.ifCond .eq 5, 3) := by decide +kernel
theorem dX7_longestLeft_47 : decode cX7_longestLeft 47 = .ok (.iload_n 2, 1) := by decide +kernel
theorem dX7_longestLeft_48 : decode cX7_longestLeft 48 = .ok (.istore_n 1, 1) := by decide +kernel
theorem dX7_longestLeft_49 : decode cX7_longestLeft 49 = .ok (.iinc 2 1, 3) := by decide +kernel
theorem dX7_longestLeft_52 : decode cX7_longestLeft 52 = .ok (.goto (-39), 3) := by decide +kernel
theorem dX7_longestLeft_55 : decode cX7_longestLeft 55 = .ok (.iload_n 1, 1) := by decide +kernel
theorem dX7_longestLeft_56 : decode cX7_longestLeft 56 = .ok (.ireturn, 1) := by decide +kernel
theorem dX7_lengthLeft_0 : decode cX7_lengthLeft 0 = .ok (.aload_n 0, 1) := by decide +kernel
theorem dX7_lengthLeft_1 : decode cX7_lengthLeft 1 = .ok (.invokevirtual 320, 3) := by decide +kernel
theorem dX7_lengthLeft_4 : decode cX7_lengthLeft 4 = .ok (.ifCond .eq 7, 3) := by decide +kernel
theorem dX7_lengthLeft_7 : decode cX7_lengthLeft 7 = .ok (.iconst 0, 1) := by decide +kernel
theorem dX7_lengthLeft_8 : decode cX7_lengthLeft 8 = .ok (.goto 8, 3) := by decide +kernel
theorem dX7_lengthLeft_11 : decode cX7_lengthLeft 11 = .ok (.aload_n 0, 1) := by decide +kernel
theorem dX7_lengthLeft_12 : decode cX7_lengthLeft 12 = .ok (.iconst 1, 1) := by decide +kernel
theorem dX7_lengthLeft_13 : decode cX7_lengthLeft 13 = .ok (.invokevirtual 329, 3) := by decide +kernel
theorem dX7_lengthLeft_16 : decode cX7_lengthLeft 16 = .ok (.ireturn, 1) := by decide +kernel
theorem dX7_meanGap_0 : decode cX7_meanGap 0 = .ok (.aload_n 0, 1) := by decide +kernel
theorem dX7_meanGap_1 : decode cX7_meanGap 1 = .ok (.invokevirtual 320, 3) := by decide +kernel
theorem dX7_meanGap_4 : decode cX7_meanGap 4 = .ok (.ifCond .eq 5, 3) := by decide +kernel
theorem dX7_meanGap_7 : decode cX7_meanGap 7 = .ok (.dconst 0, 1) := by decide +kernel
theorem dX7_meanGap_8 : decode cX7_meanGap 8 = .ok (.dreturn, 1) := by decide +kernel
theorem dX7_meanGap_9 : decode cX7_meanGap 9 = .ok (.iconst 0, 1) := by decide +kernel
theorem dX7_meanGap_10 : decode cX7_meanGap 10 = .ok (.istore_n 1, 1) := by decide +kernel
theorem dX7_meanGap_11 : decode cX7_meanGap 11 = .ok (.iconst 0, 1) := by decide +kernel
theorem dX7_meanGap_12 : decode cX7_meanGap 12 = .ok (.istore_n 2, 1) := by decide +kernel
theorem dX7_meanGap_13 : decode cX7_meanGap 13 = .ok (.iload_n 2, 1) := by decide +kernel
theorem dX7_meanGap_14 : decode cX7_meanGap 14 = .ok (.aload_n 0, 1) := by decide +kernel
theorem dX7_meanGap_15 : decode cX7_meanGap 15 = .ok (.getfield 154, 3) := by decide +kernel
theorem dX7_meanGap_18 : decode cX7_meanGap 18 = .ok (.if_icmp .ge 17, 3) := by decide +kernel
theorem dX7_meanGap_21 : decode cX7_meanGap 21 = .ok (.iload_n 1, 1) := by decide +kernel
theorem dX7_meanGap_22 : decode cX7_meanGap 22 = .ok (.aload_n 0, 1) := by decide +kernel
theorem dX7_meanGap_23 : decode cX7_meanGap 23 = .ok (.iload_n 2, 1) := by decide +kernel
theorem dX7_meanGap_24 : decode cX7_meanGap 24 = .ok (.invokevirtual 192, 3) := by decide +kernel
theorem dX7_meanGap_27 : decode cX7_meanGap 27 = .ok (.iadd, 1) := by decide +kernel
theorem dX7_meanGap_28 : decode cX7_meanGap 28 = .ok (.istore_n 1, 1) := by decide +kernel
theorem dX7_meanGap_29 : decode cX7_meanGap 29 = .ok (.iinc 2 1, 3) := by decide +kernel
theorem dX7_meanGap_32 : decode cX7_meanGap 32 = .ok (.goto (-19), 3) := by decide +kernel
theorem dX7_meanGap_35 : decode cX7_meanGap 35 = .ok (.iload_n 1, 1) := by decide +kernel
theorem dX7_meanGap_36 : decode cX7_meanGap 36 = .ok (.i2d, 1) := by decide +kernel
theorem dX7_meanGap_37 : decode cX7_meanGap 37 = .ok (.aload_n 0, 1) := by decide +kernel
theorem dX7_meanGap_38 : decode cX7_meanGap 38 = .ok (.getfield 154, 3) := by decide +kernel
theorem dX7_meanGap_41 : decode cX7_meanGap 41 = .ok (.i2d, 1) := by decide +kernel
theorem dX7_meanGap_42 : decode cX7_meanGap 42 = .ok (.ddiv, 1) := by decide +kernel
theorem dX7_meanGap_43 : decode cX7_meanGap 43 = .ok (.dreturn, 1) := by decide +kernel
theorem dX7_woodShare_0 : decode cX7_woodShare 0 = .ok (.aload_n 0, 1) := by decide +kernel
theorem dX7_woodShare_1 : decode cX7_woodShare 1 = .ok (.invokevirtual 320, 3) := by decide +kernel
theorem dX7_woodShare_4 : decode cX7_woodShare 4 = .ok (.ifCond .ne 11, 3) := by decide +kernel
theorem dX7_woodShare_7 : decode cX7_woodShare 7 = .ok (.aload_n 0, 1) := by decide +kernel
theorem dX7_woodShare_8 : decode cX7_woodShare 8 = .ok (.iconst 1, 1) := by decide +kernel
theorem dX7_woodShare_9 : decode cX7_woodShare 9 = .ok (.invokevirtual 323, 3) := by decide +kernel
theorem dX7_woodShare_12 : decode cX7_woodShare 12 = .ok (.ifCond .ne 5, 3) := by decide +kernel
theorem dX7_woodShare_15 : decode cX7_woodShare 15 = .ok (.fconst 0, 1) := by decide +kernel
theorem dX7_woodShare_16 : decode cX7_woodShare 16 = .ok (.freturn, 1) := by decide +kernel
theorem dX7_woodShare_17 : decode cX7_woodShare 17 = .ok (.iconst 0, 1) := by decide +kernel
theorem dX7_woodShare_18 : decode cX7_woodShare 18 = .ok (.istore_n 1, 1) := by decide +kernel
theorem dX7_woodShare_19 : decode cX7_woodShare 19 = .ok (.iconst 0, 1) := by decide +kernel
theorem dX7_woodShare_20 : decode cX7_woodShare 20 = .ok (.istore_n 2, 1) := by decide +kernel
theorem dX7_woodShare_21 : decode cX7_woodShare 21 = .ok (.iload_n 2, 1) := by decide +kernel
theorem dX7_woodShare_22 : decode cX7_woodShare 22 = .ok (.aload_n 0, 1) := by decide +kernel
theorem dX7_woodShare_23 : decode cX7_woodShare 23 = .ok (.getfield 154, 3) := by decide +kernel
theorem dX7_woodShare_26 : decode cX7_woodShare 26 = .ok (.if_icmp .ge 17, 3) := by decide +kernel
theorem dX7_woodShare_29 : decode cX7_woodShare 29 = .ok (.iload_n 1, 1) := by decide +kernel
theorem dX7_woodShare_30 : decode cX7_woodShare 30 = .ok (.aload_n 0, 1) := by decide +kernel
theorem dX7_woodShare_31 : decode cX7_woodShare 31 = .ok (.iload_n 2, 1) := by decide +kernel
theorem dX7_woodShare_32 : decode cX7_woodShare 32 = .ok (.invokevirtual 270, 3) := by decide +kernel
theorem dX7_woodShare_35 : decode cX7_woodShare 35 = .ok (.iadd, 1) := by decide +kernel
theorem dX7_woodShare_36 : decode cX7_woodShare 36 = .ok (.istore_n 1, 1) := by decide +kernel
theorem dX7_woodShare_37 : decode cX7_woodShare 37 = .ok (.iinc 2 1, 3) := by decide +kernel
theorem dX7_woodShare_40 : decode cX7_woodShare 40 = .ok (.goto (-19), 3) := by decide +kernel
theorem dX7_woodShare_43 : decode cX7_woodShare 43 = .ok (.iload_n 1, 1) := by decide +kernel
theorem dX7_woodShare_44 : decode cX7_woodShare 44 = .ok (.i2f, 1) := by decide +kernel
theorem dX7_woodShare_45 : decode cX7_woodShare 45 = .ok (.aload_n 0, 1) := by decide +kernel
theorem dX7_woodShare_46 : decode cX7_woodShare 46 = .ok (.iconst 1, 1) := by decide +kernel
theorem dX7_woodShare_47 : decode cX7_woodShare 47 = .ok (.invokevirtual 323, 3) := by decide +kernel
theorem dX7_woodShare_50 : decode cX7_woodShare 50 = .ok (.i2f, 1) := by decide +kernel
theorem dX7_woodShare_51 : decode cX7_woodShare 51 = .ok (.fdiv, 1) := by decide +kernel
theorem dX7_woodShare_52 : decode cX7_woodShare 52 = .ok (.freturn, 1) := by decide +kernel
theorem dX7_goodShare_0 : decode cX7_goodShare 0 = .ok (.aload_n 0, 1) := by decide +kernel
theorem dX7_goodShare_1 : decode cX7_goodShare 1 = .ok (.invokevirtual 320, 3) := by decide +kernel
theorem dX7_goodShare_4 : decode cX7_goodShare 4 = .ok (.ifCond .ne 12, 3) := by decide +kernel
theorem dX7_goodShare_7 : decode cX7_goodShare 7 = .ok (.aload_n 0, 1) := by decide +kernel
theorem dX7_goodShare_8 : decode cX7_goodShare 8 = .ok (.getfield 17, 3) := by decide +kernel
theorem dX7_goodShare_11 : decode cX7_goodShare 11 = .ok (.iconst 1, 1) := by decide +kernel
theorem dX7_goodShare_12 : decode cX7_goodShare 12 = .ok (.iaload, 1) := by decide +kernel
theorem dX7_goodShare_13 : decode cX7_goodShare 13 = .ok (.ifCond .ne 7, 3) := by decide +kernel
theorem dX7_goodShare_16 : decode cX7_goodShare 16 = .ok (.fconst 0, 1) := by decide +kernel
theorem dX7_goodShare_17 : decode cX7_goodShare 17 = .ok (.goto 18, 3) := by decide +kernel
theorem dX7_goodShare_20 : decode cX7_goodShare 20 = .ok (.aload_n 0, 1) := by decide +kernel
theorem dX7_goodShare_21 : decode cX7_goodShare 21 = .ok (.getfield 17, 3) := by decide +kernel
theorem dX7_goodShare_24 : decode cX7_goodShare 24 = .ok (.iconst 2, 1) := by decide +kernel
theorem dX7_goodShare_25 : decode cX7_goodShare 25 = .ok (.iaload, 1) := by decide +kernel
theorem dX7_goodShare_26 : decode cX7_goodShare 26 = .ok (.i2f, 1) := by decide +kernel
theorem dX7_goodShare_27 : decode cX7_goodShare 27 = .ok (.aload_n 0, 1) := by decide +kernel
theorem dX7_goodShare_28 : decode cX7_goodShare 28 = .ok (.getfield 17, 3) := by decide +kernel
theorem dX7_goodShare_31 : decode cX7_goodShare 31 = .ok (.iconst 1, 1) := by decide +kernel
theorem dX7_goodShare_32 : decode cX7_goodShare 32 = .ok (.iaload, 1) := by decide +kernel
theorem dX7_goodShare_33 : decode cX7_goodShare 33 = .ok (.i2f, 1) := by decide +kernel
theorem dX7_goodShare_34 : decode cX7_goodShare 34 = .ok (.fdiv, 1) := by decide +kernel
theorem dX7_goodShare_35 : decode cX7_goodShare 35 = .ok (.freturn, 1) := by decide +kernel
theorem dX7_choice_0 : decode cX7_choice 0 = .ok (.aload_n 0, 1) := by decide +kernel
theorem dX7_choice_1 : decode cX7_choice 1 = .ok (.iload_n 1, 1) := by decide +kernel
theorem dX7_choice_2 : decode cX7_choice 2 = .ok (.invokevirtual 335, 3) := by decide +kernel
theorem dX7_choice_5 : decode cX7_choice 5 = .ok (.ifCond .ne 25, 3) := by decide +kernel
theorem dX7_choice_8 : decode cX7_choice 8 = .ok (.aload_n 0, 1) := by decide +kernel
theorem dX7_choice_9 : decode cX7_choice 9 = .ok (.iload_n 2, 1) := by decide +kernel
theorem dX7_choice_10 : decode cX7_choice 10 = .ok (.iconst 0, 1) := by decide +kernel
theorem dX7_choice_11 : decode cX7_choice 11 = .ok (.iconst 3, 1) := by decide +kernel
theorem dX7_choice_12 : decode cX7_choice 12 = .ok (.invokestatic 143, 3) := by decide +kernel
theorem dX7_choice_15 : decode cX7_choice 15 = .ok (.ifCond .ne 7, 3) := by decide +kernel
theorem dX7_choice_18 : decode cX7_choice 18 = .ok (.iconst 1, 1) := by decide +kernel
theorem dX7_choice_19 : decode cX7_choice 19 = .ok (.goto 4, 3) := by decide +kernel
theorem dX7_choice_22 : decode cX7_choice 22 = .ok (.iconst 0, 1) := by decide +kernel
theorem dX7_choice_23 : decode cX7_choice 23 = .ok (.iconst 3, 1) := by decide +kernel
theorem dX7_choice_24 : decode cX7_choice 24 = .ok (.invokevirtual 74, 3) := by decide +kernel
theorem dX7_choice_27 : decode cX7_choice 27 = .ok (.ifCond .eq 5, 3) := by decide +kernel
theorem dX7_choice_30 : decode cX7_choice 30 = .ok (.iconst 0, 1) := by decide +kernel
theorem dX7_choice_31 : decode cX7_choice 31 = .ok (.ireturn, 1) := by decide +kernel
theorem dX7_choice_32 : decode cX7_choice 32 = .ok (.aload_n 0, 1) := by decide +kernel
theorem dX7_choice_33 : decode cX7_choice 33 = .ok (.iload_n 1, 1) := by decide +kernel
theorem dX7_choice_34 : decode cX7_choice 34 = .ok (.invokevirtual 311, 3) := by decide +kernel
theorem dX7_choice_37 : decode cX7_choice 37 = .ok (.ifCond .ne 5, 3) := by decide +kernel
theorem dX7_choice_40 : decode cX7_choice 40 = .ok (.iconst (-1), 1) := by decide +kernel
theorem dX7_choice_41 : decode cX7_choice 41 = .ok (.ireturn, 1) := by decide +kernel
theorem dX7_choice_42 : decode cX7_choice 42 = .ok (.iload_n 2, 1) := by decide +kernel
theorem dX7_choice_43 : decode cX7_choice 43 = .ok (.ifCond .ne 11, 3) := by decide +kernel
theorem dX7_choice_46 : decode cX7_choice 46 = .ok (.aload_n 0, 1) := by decide +kernel
theorem dX7_choice_47 : decode cX7_choice 47 = .ok (.iconst 0, 1) := by decide +kernel
theorem dX7_choice_48 : decode cX7_choice 48 = .ok (.invokevirtual 344, 3) := by decide +kernel
theorem dX7_choice_51 : decode cX7_choice 51 = .ok (.goto 32, 3) := by decide +kernel
theorem dX7_choice_54 : decode cX7_choice 54 = .ok (.iload_n 2, 1) := by decide +kernel
theorem dX7_choice_55 : decode cX7_choice 55 = .ok (.iconst 1, 1) := by decide +kernel
theorem dX7_choice_56 : decode cX7_choice 56 = .ok (.if_icmp .ne 10, 3) := by decide +kernel
theorem dX7_choice_59 : decode cX7_choice 59 = .ok (.aload_n 0, 1) := by decide +kernel
theorem dX7_choice_60 : decode cX7_choice 60 = .ok (.getfield 298, 3) := by decide +kernel
theorem dX7_choice_63 : decode cX7_choice 63 = .ok (.goto 20, 3) := by decide +kernel
theorem dX7_choice_66 : decode cX7_choice 66 = .ok (.iload_n 2, 1) := by decide +kernel
theorem dX7_choice_67 : decode cX7_choice 67 = .ok (.iconst 2, 1) := by decide +kernel
theorem dX7_choice_68 : decode cX7_choice 68 = .ok (.if_icmp .ne 10, 3) := by decide +kernel
theorem dX7_choice_71 : decode cX7_choice 71 = .ok (.aload_n 0, 1) := by decide +kernel
theorem dX7_choice_72 : decode cX7_choice 72 = .ok (.invokevirtual 347, 3) := by decide +kernel
theorem dX7_choice_75 : decode cX7_choice 75 = .ok (.goto 8, 3) := by decide +kernel
theorem dX7_choice_78 : decode cX7_choice 78 = .ok (.aload_n 0, 1) := by decide +kernel
theorem dX7_choice_79 : decode cX7_choice 79 = .ok (.iconst 1, 1) := by decide +kernel
theorem dX7_choice_80 : decode cX7_choice 80 = .ok (.invokevirtual 344, 3) := by decide +kernel
theorem dX7_choice_83 : decode cX7_choice 83 = .ok (.ireturn, 1) := by decide +kernel
theorem dX7_chosen_0 : decode cX7_chosen 0 = .ok (.aload_n 0, 1) := by decide +kernel
theorem dX7_chosen_1 : decode cX7_chosen 1 = .ok (.iload_n 1, 1) := by decide +kernel
theorem dX7_chosen_2 : decode cX7_chosen 2 = .ok (.invokevirtual 335, 3) := by decide +kernel
theorem dX7_chosen_5 : decode cX7_chosen 5 = .ok (.ifCond .ne 24, 3) := by decide +kernel
theorem dX7_chosen_8 : decode cX7_chosen 8 = .ok (.aload_n 0, 1) := by decide +kernel
theorem dX7_chosen_9 : decode cX7_chosen 9 = .ok (.aload_n 0, 1) := by decide +kernel
theorem dX7_chosen_10 : decode cX7_chosen 10 = .ok (.iload_n 2, 1) := by decide +kernel
theorem dX7_chosen_11 : decode cX7_chosen 11 = .ok (.invokevirtual 338, 3) := by decide +kernel
theorem dX7_chosen_14 : decode cX7_chosen 14 = .ok (.ifCond .ne 7, 3) := by decide +kernel
theorem dX7_chosen_17 : decode cX7_chosen 17 = .ok (.iconst 1, 1) := by decide +kernel
theorem dX7_chosen_18 : decode cX7_chosen 18 = .ok (.goto 4, 3) := by decide +kernel
theorem dX7_chosen_21 : decode cX7_chosen 21 = .ok (.iconst 0, 1) := by decide +kernel
theorem dX7_chosen_22 : decode cX7_chosen 22 = .ok (.iconst 2, 1) := by decide +kernel
theorem dX7_chosen_23 : decode cX7_chosen 23 = .ok (.invokevirtual 74, 3) := by decide +kernel
theorem dX7_chosen_26 : decode cX7_chosen 26 = .ok (.ifCond .eq 5, 3) := by decide +kernel
theorem dX7_chosen_29 : decode cX7_chosen 29 = .ok (.iconst 0, 1) := by decide +kernel
theorem dX7_chosen_30 : decode cX7_chosen 30 = .ok (.ireturn, 1) := by decide +kernel
theorem dX7_chosen_31 : decode cX7_chosen 31 = .ok (.aload_n 0, 1) := by decide +kernel
theorem dX7_chosen_32 : decode cX7_chosen 32 = .ok (.iload_n 1, 1) := by decide +kernel
theorem dX7_chosen_33 : decode cX7_chosen 33 = .ok (.invokevirtual 311, 3) := by decide +kernel
theorem dX7_chosen_36 : decode cX7_chosen 36 = .ok (.ifCond .eq 12, 3) := by decide +kernel
theorem dX7_chosen_39 : decode cX7_chosen 39 = .ok (.aload_n 0, 1) := by decide +kernel
theorem dX7_chosen_40 : decode cX7_chosen 40 = .ok (.getfield 55, 3) := by decide +kernel
theorem dX7_chosen_43 : decode cX7_chosen 43 = .ok (.iload_n 2, 1) := by decide +kernel
theorem dX7_chosen_44 : decode cX7_chosen 44 = .ok (.iaload, 1) := by decide +kernel
theorem dX7_chosen_45 : decode cX7_chosen 45 = .ok (.goto 4, 3) := by decide +kernel
theorem dX7_chosen_48 : decode cX7_chosen 48 = .ok (.iconst (-1), 1) := by decide +kernel
theorem dX7_chosen_49 : decode cX7_chosen 49 = .ok (.ireturn, 1) := by decide +kernel
theorem dX7_ways_0 : decode cX7_ways 0 = .ok (.aload_n 0, 1) := by decide +kernel
theorem dX7_ways_1 : decode cX7_ways 1 = .ok (.iload_n 1, 1) := by decide +kernel
theorem dX7_ways_2 : decode cX7_ways 2 = .ok (.invokevirtual 335, 3) := by decide +kernel
theorem dX7_ways_5 : decode cX7_ways 5 = .ok (.ifCond .eq 5, 3) := by decide +kernel
theorem dX7_ways_8 : decode cX7_ways 8 = .ok (.iconst 0, 1) := by decide +kernel
theorem dX7_ways_9 : decode cX7_ways 9 = .ok (.ireturn, 1) := by decide +kernel
theorem dX7_ways_10 : decode cX7_ways 10 = .ok (.aload_n 0, 1) := by decide +kernel
theorem dX7_ways_11 : decode cX7_ways 11 = .ok (.aload_n 0, 1) := by decide +kernel
theorem dX7_ways_12 : decode cX7_ways 12 = .ok (.iload_n 1, 1) := by decide +kernel
theorem dX7_ways_13 : decode cX7_ways 13 = .ok (.invokevirtual 292, 3) := by decide +kernel
theorem dX7_ways_16 : decode cX7_ways 16 = .ok (.invokevirtual 350, 3) := by decide +kernel
theorem dX7_ways_19 : decode cX7_ways 19 = .ok (.aload_n 0, 1) := by decide +kernel
theorem dX7_ways_20 : decode cX7_ways 20 = .ok (.iload_n 1, 1) := by decide +kernel
theorem dX7_ways_21 : decode cX7_ways 21 = .ok (.invokevirtual 301, 3) := by decide +kernel
theorem dX7_ways_24 : decode cX7_ways 24 = .ok (.ifCond .eq 7, 3) := by decide +kernel
theorem dX7_ways_27 : decode cX7_ways 27 = .ok (.iconst 0, 1) := by decide +kernel
theorem dX7_ways_28 : decode cX7_ways 28 = .ok (.goto 4, 3) := by decide +kernel
theorem dX7_ways_31 : decode cX7_ways 31 = .ok (.iconst (-1), 1) := by decide +kernel
theorem dX7_ways_32 : decode cX7_ways 32 = .ok (.istore_n 2, 1) := by decide +kernel
theorem dX7_ways_33 : decode cX7_ways 33 = .ok (.aload_n 0, 1) := by decide +kernel
theorem dX7_ways_34 : decode cX7_ways 34 = .ok (.iload_n 1, 1) := by decide +kernel
theorem dX7_ways_35 : decode cX7_ways 35 = .ok (.invokevirtual 301, 3) := by decide +kernel
theorem dX7_ways_38 : decode cX7_ways 38 = .ok (.ifCond .eq 10, 3) := by decide +kernel
theorem dX7_ways_41 : decode cX7_ways 41 = .ok (.aload_n 0, 1) := by decide +kernel
theorem dX7_ways_42 : decode cX7_ways 42 = .ok (.getfield 160, 3) := by decide +kernel
theorem dX7_ways_45 : decode cX7_ways 45 = .ok (.goto 4, 3) := by decide +kernel
theorem dX7_ways_48 : decode cX7_ways 48 = .ok (.iconst (-1), 1) := by decide +kernel
theorem dX7_ways_49 : decode cX7_ways 49 = .ok (.istore_n 3, 1) := by decide +kernel
theorem dX7_ways_50 : decode cX7_ways 50 = .ok (.iconst 0, 1) := by decide +kernel
theorem dX7_ways_51 : decode cX7_ways 51 = .ok (.istore 4, 2) := by decide +kernel
theorem dX7_ways_53 : decode cX7_ways 53 = .ok (.iload_n 2, 1) := by decide +kernel
theorem dX7_ways_54 : decode cX7_ways 54 = .ok (.istore 5, 2) := by decide +kernel
theorem dX7_ways_56 : decode cX7_ways 56 = .ok (.iload 5, 2) := by decide +kernel
theorem dX7_ways_58 : decode cX7_ways 58 = .ok (.iload_n 3, 1) := by decide +kernel
theorem dX7_ways_59 : decode cX7_ways 59 = .ok (.if_icmp .gt 44, 3) := by decide +kernel
theorem dX7_ways_62 : decode cX7_ways 62 = .ok (.aload_n 0, 1) := by decide +kernel
theorem dX7_ways_63 : decode cX7_ways 63 = .ok (.iload_n 1, 1) := by decide +kernel
theorem dX7_ways_64 : decode cX7_ways 64 = .ok (.iload 5, 2) := by decide +kernel
theorem dX7_ways_66 : decode cX7_ways 66 = .ok (.invokevirtual 304, 3) := by decide +kernel
theorem dX7_ways_69 : decode cX7_ways 69 = .ok (.istore 6, 2) := by decide +kernel
theorem dX7_ways_71 : decode cX7_ways 71 = .ok (.iload 6, 2) := by decide +kernel
theorem dX7_ways_73 : decode cX7_ways 73 = .ok (.ifCond .ge 8, 3) := by decide +kernel
theorem dX7_ways_76 : decode cX7_ways 76 = .ok (.iload 4, 2) := by decide +kernel
theorem dX7_ways_78 : decode cX7_ways 78 = .ok (.goto 17, 3) := by decide +kernel
theorem dX7_ways_81 : decode cX7_ways 81 = .ok (.iload 4, 2) := by decide +kernel
theorem dX7_ways_83 : decode cX7_ways 83 = .ok (.aload_n 0, 1) := by decide +kernel
theorem dX7_ways_84 : decode cX7_ways 84 = .ok (.getfield 61, 3) := by decide +kernel
theorem dX7_ways_87 : decode cX7_ways 87 = .ok (.iload 6, 2) := by decide +kernel
theorem dX7_ways_89 : decode cX7_ways 89 = .ok (.iaload, 1) := by decide +kernel
theorem dX7_ways_90 : decode cX7_ways 90 = .ok (.iadd, 1) := by decide +kernel
theorem dX7_ways_91 : decode cX7_ways 91 = .ok (.ldc_w 310, 3) := by decide +kernel
theorem dX7_ways_94 : decode cX7_ways 94 = .ok (.irem, 1) := by decide +kernel
theorem dX7_ways_95 : decode cX7_ways 95 = .ok (.istore 4, 2) := by decide +kernel
theorem dX7_ways_97 : decode cX7_ways 97 = .ok (.iinc 5 1, 3) := by decide +kernel
theorem dX7_ways_100 : decode cX7_ways 100 = .ok (.goto (-44), 3) := by decide +kernel
theorem dX7_ways_103 : decode cX7_ways 103 = .ok (.iload 4, 2) := by decide +kernel
theorem dX7_ways_105 : decode cX7_ways 105 = .ok (.ireturn, 1) := by decide +kernel
theorem dX7_nearest_0 : decode cX7_nearest 0 = .ok (.aload_n 0, 1) := by decide +kernel
theorem dX7_nearest_1 : decode cX7_nearest 1 = .ok (.iload_n 1, 1) := by decide +kernel
theorem dX7_nearest_2 : decode cX7_nearest 2 = .ok (.invokevirtual 335, 3) := by decide +kernel
theorem dX7_nearest_5 : decode cX7_nearest 5 = .ok (.ifCond .eq 5, 3) := by decide +kernel
theorem dX7_nearest_8 : decode cX7_nearest 8 = .ok (.iconst 0, 1) := by decide +kernel
theorem dX7_nearest_9 : decode cX7_nearest 9 = .ok (.ireturn, 1) := by decide +kernel
theorem dX7_nearest_10 : decode cX7_nearest 10 = .ok (.aload_n 0, 1) := by decide +kernel
theorem dX7_nearest_11 : decode cX7_nearest 11 = .ok (.iload_n 1, 1) := by decide +kernel
theorem dX7_nearest_12 : decode cX7_nearest 12 = .ok (.invokevirtual 292, 3) := by decide +kernel
theorem dX7_nearest_15 : decode cX7_nearest 15 = .ok (.istore_n 2, 1) := by decide +kernel
theorem dX7_nearest_16 : decode cX7_nearest 16 = .ok (.aload_n 0, 1) := by decide +kernel
theorem dX7_nearest_17 : decode cX7_nearest 17 = .ok (.iload_n 2, 1) := by decide +kernel
theorem dX7_nearest_18 : decode cX7_nearest 18 = .ok (.invokevirtual 295, 3) := by decide +kernel
theorem dX7_nearest_21 : decode cX7_nearest 21 = .ok (.aload_n 0, 1) := by decide +kernel
theorem dX7_nearest_22 : decode cX7_nearest 22 = .ok (.iload_n 1, 1) := by decide +kernel
theorem dX7_nearest_23 : decode cX7_nearest 23 = .ok (.invokevirtual 238, 3) := by decide +kernel
theorem dX7_nearest_26 : decode cX7_nearest 26 = .ok (.ifCond .eq 7, 3) := by decide +kernel
theorem dX7_nearest_29 : decode cX7_nearest 29 = .ok (.iconst 0, 1) := by decide +kernel
theorem dX7_nearest_30 : decode cX7_nearest 30 = .ok (.goto 4, 3) := by decide +kernel
theorem dX7_nearest_33 : decode cX7_nearest 33 = .ok (.iconst (-1), 1) := by decide +kernel
theorem dX7_nearest_34 : decode cX7_nearest 34 = .ok (.istore_n 3, 1) := by decide +kernel
theorem dX7_nearest_35 : decode cX7_nearest 35 = .ok (.aload_n 0, 1) := by decide +kernel
theorem dX7_nearest_36 : decode cX7_nearest 36 = .ok (.iload_n 1, 1) := by decide +kernel
theorem dX7_nearest_37 : decode cX7_nearest 37 = .ok (.invokevirtual 238, 3) := by decide +kernel
theorem dX7_nearest_40 : decode cX7_nearest 40 = .ok (.ifCond .eq 10, 3) := by decide +kernel
theorem dX7_nearest_43 : decode cX7_nearest 43 = .ok (.aload_n 0, 1) := by decide +kernel
theorem dX7_nearest_44 : decode cX7_nearest 44 = .ok (.getfield 160, 3) := by decide +kernel
theorem dX7_nearest_47 : decode cX7_nearest 47 = .ok (.goto 4, 3) := by decide +kernel
theorem dX7_nearest_50 : decode cX7_nearest 50 = .ok (.iconst (-1), 1) := by decide +kernel
theorem dX7_nearest_51 : decode cX7_nearest 51 = .ok (.istore 4, 2) := by decide +kernel
theorem dX7_nearest_53 : decode cX7_nearest 53 = .ok (.ldc_w 280, 3) := by decide +kernel
theorem dX7_nearest_56 : decode cX7_nearest 56 = .ok (.istore 5, 2) := by decide +kernel
theorem dX7_nearest_58 : decode cX7_nearest 58 = .ok (.iload_n 3, 1) := by decide +kernel
theorem dX7_nearest_59 : decode cX7_nearest 59 = .ok (.istore 6, 2) := by decide +kernel
theorem dX7_nearest_61 : decode cX7_nearest 61 = .ok (.iload 6, 2) := by decide +kernel
theorem dX7_nearest_63 : decode cX7_nearest 63 = .ok (.iload 4, 2) := by decide +kernel
theorem dX7_nearest_65 : decode cX7_nearest 65 = .ok (.if_icmp .gt 64, 3) := by decide +kernel
theorem dX7_nearest_68 : decode cX7_nearest 68 = .ok (.aload_n 0, 1) := by decide +kernel
theorem dX7_nearest_69 : decode cX7_nearest 69 = .ok (.iload_n 1, 1) := by decide +kernel
theorem dX7_nearest_70 : decode cX7_nearest 70 = .ok (.iload 6, 2) := by decide +kernel
theorem dX7_nearest_72 : decode cX7_nearest 72 = .ok (.invokevirtual 304, 3) := by decide +kernel
theorem dX7_nearest_75 : decode cX7_nearest 75 = .ok (.istore 7, 2) := by decide +kernel
theorem dX7_nearest_77 : decode cX7_nearest 77 = .ok (.iconst 0, 1) := by decide +kernel
theorem dX7_nearest_78 : decode cX7_nearest 78 = .ok (.istore 8, 2) := by decide +kernel
theorem dX7_nearest_80 : decode cX7_nearest 80 = .ok (.iload 8, 2) := by decide +kernel
theorem dX7_nearest_82 : decode cX7_nearest 82 = .ok (.iload 7, 2) := by decide +kernel
theorem dX7_nearest_84 : decode cX7_nearest 84 = .ok (.if_icmp .gt 39, 3) := by decide +kernel
theorem dX7_nearest_87 : decode cX7_nearest 87 = .ok (.aload_n 0, 1) := by decide +kernel
theorem dX7_nearest_88 : decode cX7_nearest 88 = .ok (.getfield 52, 3) := by decide +kernel
theorem dX7_nearest_91 : decode cX7_nearest 91 = .ok (.iload 8, 2) := by decide +kernel
theorem dX7_nearest_93 : decode cX7_nearest 93 = .ok (.iaload, 1) := by decide +kernel
theorem dX7_nearest_94 : decode cX7_nearest 94 = .ok (.ldc_w 280, 3) := by decide +kernel
theorem dX7_nearest_97 : decode cX7_nearest 97 = .ok (.if_icmp .ge 16, 3) := by decide +kernel
theorem dX7_nearest_100 : decode cX7_nearest 100 = .ok (.iload 5, 2) := by decide +kernel
theorem dX7_nearest_102 : decode cX7_nearest 102 = .ok (.iload 7, 2) := by decide +kernel
theorem dX7_nearest_104 : decode cX7_nearest 104 = .ok (.iload 8, 2) := by decide +kernel
theorem dX7_nearest_106 : decode cX7_nearest 106 = .ok (.isub, 1) := by decide +kernel
theorem dX7_nearest_107 : decode cX7_nearest 107 = .ok (.invokestatic 287, 3) := by decide +kernel
theorem dX7_nearest_110 : decode cX7_nearest 110 = .ok (.goto 5, 3) := by decide +kernel
theorem dX7_nearest_113 : decode cX7_nearest 113 = .ok (.iload 5, 2) := by decide +kernel
theorem dX7_nearest_115 : decode cX7_nearest 115 = .ok (.istore 5, 2) := by decide +kernel
theorem dX7_nearest_117 : decode cX7_nearest 117 = .ok (.iinc 8 1, 3) := by decide +kernel
theorem dX7_nearest_120 : decode cX7_nearest 120 = .ok (.goto (-40), 3) := by decide +kernel
theorem dX7_nearest_123 : decode cX7_nearest 123 = .ok (.iinc 6 1, 3) := by decide +kernel
theorem dX7_nearest_126 : decode cX7_nearest 126 = .ok (.goto (-65), 3) := by decide +kernel
theorem dX7_nearest_129 : decode cX7_nearest 129 = .ok (.iload 5, 2) := by decide +kernel
theorem dX7_nearest_131 : decode cX7_nearest 131 = .ok (.ireturn, 1) := by decide +kernel
theorem dX7_putsAside_0 : decode cX7_putsAside 0 = .ok (.iconst 0, 1) := by decide +kernel
theorem dX7_putsAside_1 : decode cX7_putsAside 1 = .ok (.istore_n 1, 1) := by decide +kernel
theorem dX7_putsAside_2 : decode cX7_putsAside 2 = .ok (.iload_n 1, 1) := by decide +kernel
theorem dX7_putsAside_3 : decode cX7_putsAside 3 = .ok (.sipush 4112, 3) := by decide +kernel
theorem dX7_putsAside_6 : decode cX7_putsAside 6 = .ok (.if_icmp .ge 21, 3) := by decide +kernel
theorem dX7_putsAside_9 : decode cX7_putsAside 9 = .ok (.aload_n 0, 1) := by decide +kernel
theorem dX7_putsAside_10 : decode cX7_putsAside 10 = .ok (.getfield 20, 3) := by decide +kernel
theorem dX7_putsAside_13 : decode cX7_putsAside 13 = .ok (.iload_n 1, 1) := by decide +kernel
theorem dX7_putsAside_14 : decode cX7_putsAside 14 = .ok (.aload_n 0, 1) := by decide +kernel
theorem dX7_putsAside_15 : decode cX7_putsAside 15 = .ok (.getfield 17, 3) := by decide +kernel
theorem dX7_putsAside_18 : decode cX7_putsAside 18 = .ok (.iload_n 1, 1) := by decide +kernel
theorem dX7_putsAside_19 : decode cX7_putsAside 19 = .ok (.iaload, 1) := by decide +kernel
theorem dX7_putsAside_20 : decode cX7_putsAside 20 = .ok (.iastore, 1) := by decide +kernel
theorem dX7_putsAside_21 : decode cX7_putsAside 21 = .ok (.iinc 1 1, 3) := by decide +kernel
theorem dX7_putsAside_24 : decode cX7_putsAside 24 = .ok (.goto (-22), 3) := by decide +kernel
theorem dX7_putsAside_27 : decode cX7_putsAside 27 = .ok (.return_, 1) := by decide +kernel
theorem dX7_fetchesBack_0 : decode cX7_fetchesBack 0 = .ok (.iconst 0, 1) := by decide +kernel
theorem dX7_fetchesBack_1 : decode cX7_fetchesBack 1 = .ok (.istore_n 2, 1) := by decide +kernel
theorem dX7_fetchesBack_2 : decode cX7_fetchesBack 2 = .ok (.iload_n 2, 1) := by decide +kernel
theorem dX7_fetchesBack_3 : decode cX7_fetchesBack 3 = .ok (.sipush 4112, 3) := by decide +kernel
theorem dX7_fetchesBack_6 : decode cX7_fetchesBack 6 = .ok (.if_icmp .ge 21, 3) := by decide +kernel
theorem dX7_fetchesBack_9 : decode cX7_fetchesBack 9 = .ok (.aload_n 0, 1) := by decide +kernel
theorem dX7_fetchesBack_10 : decode cX7_fetchesBack 10 = .ok (.getfield 17, 3) := by decide +kernel
theorem dX7_fetchesBack_13 : decode cX7_fetchesBack 13 = .ok (.iload_n 2, 1) := by decide +kernel
theorem dX7_fetchesBack_14 : decode cX7_fetchesBack 14 = .ok (.aload_n 0, 1) := by decide +kernel
theorem dX7_fetchesBack_15 : decode cX7_fetchesBack 15 = .ok (.getfield 20, 3) := by decide +kernel
theorem dX7_fetchesBack_18 : decode cX7_fetchesBack 18 = .ok (.iload_n 2, 1) := by decide +kernel
theorem dX7_fetchesBack_19 : decode cX7_fetchesBack 19 = .ok (.iaload, 1) := by decide +kernel
theorem dX7_fetchesBack_20 : decode cX7_fetchesBack 20 = .ok (.iastore, 1) := by decide +kernel
theorem dX7_fetchesBack_21 : decode cX7_fetchesBack 21 = .ok (.iinc 2 1, 3) := by decide +kernel
theorem dX7_fetchesBack_24 : decode cX7_fetchesBack 24 = .ok (.goto (-22), 3) := by decide +kernel
theorem dX7_fetchesBack_27 : decode cX7_fetchesBack 27 = .ok (.iload_n 1, 1) := by decide +kernel
theorem dX7_fetchesBack_28 : decode cX7_fetchesBack 28 = .ok (.ireturn, 1) := by decide +kernel
theorem dX7_freshChoice_0 : decode cX7_freshChoice 0 = .ok (.aload_n 0, 1) := by decide +kernel
theorem dX7_freshChoice_1 : decode cX7_freshChoice 1 = .ok (.iload_n 1, 1) := by decide +kernel
theorem dX7_freshChoice_2 : decode cX7_freshChoice 2 = .ok (.invokevirtual 335, 3) := by decide +kernel
theorem dX7_freshChoice_5 : decode cX7_freshChoice 5 = .ok (.ifCond .eq 5, 3) := by decide +kernel
theorem dX7_freshChoice_8 : decode cX7_freshChoice 8 = .ok (.iconst 0, 1) := by decide +kernel
theorem dX7_freshChoice_9 : decode cX7_freshChoice 9 = .ok (.ireturn, 1) := by decide +kernel
theorem dX7_freshChoice_10 : decode cX7_freshChoice 10 = .ok (.aload_n 0, 1) := by decide +kernel
theorem dX7_freshChoice_11 : decode cX7_freshChoice 11 = .ok (.invokevirtual 353, 3) := by decide +kernel
theorem dX7_freshChoice_14 : decode cX7_freshChoice 14 = .ok (.aload_n 0, 1) := by decide +kernel
theorem dX7_freshChoice_15 : decode cX7_freshChoice 15 = .ok (.iload_n 1, 1) := by decide +kernel
theorem dX7_freshChoice_16 : decode cX7_freshChoice 16 = .ok (.invokevirtual 260, 3) := by decide +kernel
theorem dX7_freshChoice_19 : decode cX7_freshChoice 19 = .ok (.istore_n 2, 1) := by decide +kernel
theorem dX7_freshChoice_20 : decode cX7_freshChoice 20 = .ok (.aload_n 0, 1) := by decide +kernel
theorem dX7_freshChoice_21 : decode cX7_freshChoice 21 = .ok (.iload_n 1, 1) := by decide +kernel
theorem dX7_freshChoice_22 : decode cX7_freshChoice 22 = .ok (.invokevirtual 311, 3) := by decide +kernel
theorem dX7_freshChoice_25 : decode cX7_freshChoice 25 = .ok (.istore_n 3, 1) := by decide +kernel
theorem dX7_freshChoice_26 : decode cX7_freshChoice 26 = .ok (.aload_n 0, 1) := by decide +kernel
theorem dX7_freshChoice_27 : decode cX7_freshChoice 27 = .ok (.iload_n 3, 1) := by decide +kernel
theorem dX7_freshChoice_28 : decode cX7_freshChoice 28 = .ok (.ifCond .eq 11, 3) := by decide +kernel
theorem dX7_freshChoice_31 : decode cX7_freshChoice 31 = .ok (.aload_n 0, 1) := by decide +kernel
theorem dX7_freshChoice_32 : decode cX7_freshChoice 32 = .ok (.iconst 0, 1) := by decide +kernel
theorem dX7_freshChoice_33 : decode cX7_freshChoice 33 = .ok (.invokevirtual 344, 3) := by decide +kernel
theorem dX7_freshChoice_36 : decode cX7_freshChoice 36 = .ok (.goto 4, 3) := by decide +kernel
theorem dX7_freshChoice_39 : decode cX7_freshChoice 39 = .ok (.iconst (-1), 1) := by decide +kernel
theorem dX7_freshChoice_40 : decode cX7_freshChoice 40 = .ok (.invokevirtual 356, 3) := by decide +kernel
theorem dX7_freshChoice_43 : decode cX7_freshChoice 43 = .ok (.ireturn, 1) := by decide +kernel
theorem dX7_fillable_0 : decode cX7_fillable 0 = .ok (.aload_n 0, 1) := by decide +kernel
theorem dX7_fillable_1 : decode cX7_fillable 1 = .ok (.invokevirtual 320, 3) := by decide +kernel
theorem dX7_fillable_4 : decode cX7_fillable 4 = .ok (.ifCond .ne 28, 3) := by decide +kernel
theorem dX7_fillable_7 : decode cX7_fillable 7 = .ok (.aload_n 0, 1) := by decide +kernel
theorem dX7_fillable_8 : decode cX7_fillable 8 = .ok (.iload_n 1, 1) := by decide +kernel
theorem dX7_fillable_9 : decode cX7_fillable 9 = .ok (.iconst 0, 1) := by decide +kernel
theorem dX7_fillable_10 : decode cX7_fillable 10 = .ok (.aload_n 0, 1) := by decide +kernel
theorem dX7_fillable_11 : decode cX7_fillable 11 = .ok (.getfield 151, 3) := by decide +kernel
theorem dX7_fillable_14 : decode cX7_fillable 14 = .ok (.invokestatic 143, 3) := by decide +kernel
theorem dX7_fillable_17 : decode cX7_fillable 17 = .ok (.ifCond .ne 7, 3) := by decide +kernel
theorem dX7_fillable_20 : decode cX7_fillable 20 = .ok (.iconst 1, 1) := by decide +kernel
theorem dX7_fillable_21 : decode cX7_fillable 21 = .ok (.goto 4, 3) := by decide +kernel
theorem dX7_fillable_24 : decode cX7_fillable 24 = .ok (.iconst 0, 1) := by decide +kernel
theorem dX7_fillable_25 : decode cX7_fillable 25 = .ok (.iconst 2, 1) := by decide +kernel
theorem dX7_fillable_26 : decode cX7_fillable 26 = .ok (.invokevirtual 74, 3) := by decide +kernel
theorem dX7_fillable_29 : decode cX7_fillable 29 = .ok (.ifCond .eq 5, 3) := by decide +kernel
theorem dX7_fillable_32 : decode cX7_fillable 32 = .ok (.iconst 0, 1) := by decide +kernel
theorem dX7_fillable_33 : decode cX7_fillable 33 = .ok (.ireturn, 1) := by decide +kernel
theorem dX7_fillable_34 : decode cX7_fillable 34 = .ok (.aload_n 0, 1) := by decide +kernel
theorem dX7_fillable_35 : decode cX7_fillable 35 = .ok (.iload_n 1, 1) := by decide +kernel
theorem dX7_fillable_36 : decode cX7_fillable 36 = .ok (.invokevirtual 295, 3) := by decide +kernel
theorem dX7_fillable_39 : decode cX7_fillable 39 = .ok (.iconst 0, 1) := by decide +kernel
theorem dX7_fillable_40 : decode cX7_fillable 40 = .ok (.istore_n 2, 1) := by decide +kernel
theorem dX7_fillable_41 : decode cX7_fillable 41 = .ok (.iconst 0, 1) := by decide +kernel
theorem dX7_fillable_42 : decode cX7_fillable 42 = .ok (.istore_n 3, 1) := by decide +kernel
theorem dX7_fillable_43 : decode cX7_fillable 43 = .ok (.iload_n 3, 1) := by decide +kernel
theorem dX7_fillable_44 : decode cX7_fillable 44 = .ok (.iload_n 1, 1) := by decide +kernel
theorem dX7_fillable_45 : decode cX7_fillable 45 = .ok (.if_icmp .gt 32, 3) := by decide +kernel
theorem dX7_fillable_48 : decode cX7_fillable 48 = .ok (.iload_n 2, 1) := by decide +kernel
theorem dX7_fillable_49 : decode cX7_fillable 49 = .ok (.aload_n 0, 1) := by decide +kernel
theorem dX7_fillable_50 : decode cX7_fillable 50 = .ok (.getfield 52, 3) := by decide +kernel
theorem dX7_fillable_53 : decode cX7_fillable 53 = .ok (.iload_n 3, 1) := by decide +kernel
theorem dX7_fillable_54 : decode cX7_fillable 54 = .ok (.iaload, 1) := by decide +kernel
theorem dX7_fillable_55 : decode cX7_fillable 55 = .ok (.ldc_w 280, 3) := by decide +kernel
theorem dX7_fillable_58 : decode cX7_fillable 58 = .ok (.if_icmp .ge 7, 3) := by decide +kernel
theorem dX7_fillable_61 : decode cX7_fillable 61 = .ok (.iconst 1, 1) := by decide +kernel
theorem dX7_fillable_62 : decode cX7_fillable 62 = .ok (.goto 4, 3) := by decide +kernel
theorem dX7_fillable_65 : decode cX7_fillable 65 = .ok (.iconst 0, 1) := by decide +kernel
theorem dX7_fillable_66 : decode cX7_fillable 66 = .ok (.invokestatic 250, 3) := by decide +kernel
theorem dX7_fillable_69 : decode cX7_fillable 69 = .ok (.iadd, 1) := by decide +kernel
theorem dX7_fillable_70 : decode cX7_fillable 70 = .ok (.istore_n 2, 1) := by decide +kernel
theorem dX7_fillable_71 : decode cX7_fillable 71 = .ok (.iinc 3 1, 3) := by decide +kernel
theorem dX7_fillable_74 : decode cX7_fillable 74 = .ok (.goto (-31), 3) := by decide +kernel
theorem dX7_fillable_77 : decode cX7_fillable 77 = .ok (.iload_n 2, 1) := by decide +kernel
theorem dX7_fillable_78 : decode cX7_fillable 78 = .ok (.ireturn, 1) := by decide +kernel
theorem dX7_fewestIf_0 : decode cX7_fewestIf 0 = .ok (.aload_n 0, 1) := by decide +kernel
theorem dX7_fewestIf_1 : decode cX7_fewestIf 1 = .ok (.iload_n 1, 1) := by decide +kernel
theorem dX7_fewestIf_2 : decode cX7_fewestIf 2 = .ok (.iconst 0, 1) := by decide +kernel
theorem dX7_fewestIf_3 : decode cX7_fewestIf 3 = .ok (.invokevirtual 189, 3) := by decide +kernel
theorem dX7_fewestIf_6 : decode cX7_fewestIf 6 = .ok (.bipush 6, 2) := by decide +kernel
theorem dX7_fewestIf_8 : decode cX7_fewestIf 8 = .ok (.if_icmp .eq 12, 3) := by decide +kernel
theorem dX7_fewestIf_11 : decode cX7_fewestIf 11 = .ok (.aload_n 0, 1) := by decide +kernel
theorem dX7_fewestIf_12 : decode cX7_fewestIf 12 = .ok (.iload_n 1, 1) := by decide +kernel
theorem dX7_fewestIf_13 : decode cX7_fewestIf 13 = .ok (.invokevirtual 192, 3) := by decide +kernel
theorem dX7_fewestIf_16 : decode cX7_fewestIf 16 = .ok (.iload_n 2, 1) := by decide +kernel
theorem dX7_fewestIf_17 : decode cX7_fewestIf 17 = .ok (.if_icmp .ge 5, 3) := by decide +kernel
theorem dX7_fewestIf_20 : decode cX7_fewestIf 20 = .ok (.iconst (-1), 1) := by decide +kernel
theorem dX7_fewestIf_21 : decode cX7_fewestIf 21 = .ok (.ireturn, 1) := by decide +kernel
theorem dX7_fewestIf_22 : decode cX7_fewestIf 22 = .ok (.aload_n 0, 1) := by decide +kernel
theorem dX7_fewestIf_23 : decode cX7_fewestIf 23 = .ok (.invokevirtual 353, 3) := by decide +kernel
theorem dX7_fewestIf_26 : decode cX7_fewestIf 26 = .ok (.aload_n 0, 1) := by decide +kernel
theorem dX7_fewestIf_27 : decode cX7_fewestIf 27 = .ok (.iload_n 1, 1) := by decide +kernel
theorem dX7_fewestIf_28 : decode cX7_fewestIf 28 = .ok (.iload_n 2, 1) := by decide +kernel
theorem dX7_fewestIf_29 : decode cX7_fewestIf 29 = .ok (.invokevirtual 195, 3) := by decide +kernel
theorem dX7_fewestIf_32 : decode cX7_fewestIf 32 = .ok (.aload_n 0, 1) := by decide +kernel
theorem dX7_fewestIf_33 : decode cX7_fewestIf 33 = .ok (.iload_n 1, 1) := by decide +kernel
theorem dX7_fewestIf_34 : decode cX7_fewestIf 34 = .ok (.invokevirtual 311, 3) := by decide +kernel
theorem dX7_fewestIf_37 : decode cX7_fewestIf 37 = .ok (.istore_n 3, 1) := by decide +kernel
theorem dX7_fewestIf_38 : decode cX7_fewestIf 38 = .ok (.aload_n 0, 1) := by decide +kernel
theorem dX7_fewestIf_39 : decode cX7_fewestIf 39 = .ok (.iload_n 3, 1) := by decide +kernel
theorem dX7_fewestIf_40 : decode cX7_fewestIf 40 = .ok (.ifCond .eq 11, 3) := by decide +kernel
theorem dX7_fewestIf_43 : decode cX7_fewestIf 43 = .ok (.aload_n 0, 1) := by decide +kernel
theorem dX7_fewestIf_44 : decode cX7_fewestIf 44 = .ok (.iconst 0, 1) := by decide +kernel
theorem dX7_fewestIf_45 : decode cX7_fewestIf 45 = .ok (.invokevirtual 344, 3) := by decide +kernel
theorem dX7_fewestIf_48 : decode cX7_fewestIf 48 = .ok (.goto 4, 3) := by decide +kernel
theorem dX7_fewestIf_51 : decode cX7_fewestIf 51 = .ok (.iconst (-1), 1) := by decide +kernel
theorem dX7_fewestIf_52 : decode cX7_fewestIf 52 = .ok (.invokevirtual 356, 3) := by decide +kernel
theorem dX7_fewestIf_55 : decode cX7_fewestIf 55 = .ok (.ireturn, 1) := by decide +kernel
theorem dX7_fewestAt_0 : decode cX7_fewestAt 0 = .ok (.aload_n 0, 1) := by decide +kernel
theorem dX7_fewestAt_1 : decode cX7_fewestAt 1 = .ok (.iload_n 1, 1) := by decide +kernel
theorem dX7_fewestAt_2 : decode cX7_fewestAt 2 = .ok (.invokevirtual 335, 3) := by decide +kernel
theorem dX7_fewestAt_5 : decode cX7_fewestAt 5 = .ok (.ifCond .ne 27, 3) := by decide +kernel
theorem dX7_fewestAt_8 : decode cX7_fewestAt 8 = .ok (.aload_n 0, 1) := by decide +kernel
theorem dX7_fewestAt_9 : decode cX7_fewestAt 9 = .ok (.iload_n 2, 1) := by decide +kernel
theorem dX7_fewestAt_10 : decode cX7_fewestAt 10 = .ok (.iconst 1, 1) := by decide +kernel
theorem dX7_fewestAt_11 : decode cX7_fewestAt 11 = .ok (.sipush 200, 3) := by decide +kernel
theorem dX7_fewestAt_14 : decode cX7_fewestAt 14 = .ok (.invokestatic 143, 3) := by decide +kernel
theorem dX7_fewestAt_17 : decode cX7_fewestAt 17 = .ok (.ifCond .ne 7, 3) := by decide +kernel
theorem dX7_fewestAt_20 : decode cX7_fewestAt 20 = .ok (.iconst 1, 1) := by decide +kernel
theorem dX7_fewestAt_21 : decode cX7_fewestAt 21 = .ok (.goto 4, 3) := by decide +kernel
theorem dX7_fewestAt_24 : decode cX7_fewestAt 24 = .ok (.iconst 0, 1) := by decide +kernel
theorem dX7_fewestAt_25 : decode cX7_fewestAt 25 = .ok (.iconst 3, 1) := by decide +kernel
theorem dX7_fewestAt_26 : decode cX7_fewestAt 26 = .ok (.invokevirtual 74, 3) := by decide +kernel
theorem dX7_fewestAt_29 : decode cX7_fewestAt 29 = .ok (.ifCond .eq 7, 3) := by decide +kernel
theorem dX7_fewestAt_32 : decode cX7_fewestAt 32 = .ok (.iconst 0, 1) := by decide +kernel
theorem dX7_fewestAt_33 : decode cX7_fewestAt 33 = .ok (.goto 9, 3) := by decide +kernel
theorem dX7_fewestAt_36 : decode cX7_fewestAt 36 = .ok (.aload_n 0, 1) := by decide +kernel
theorem dX7_fewestAt_37 : decode cX7_fewestAt 37 = .ok (.iload_n 1, 1) := by decide +kernel
theorem dX7_fewestAt_38 : decode cX7_fewestAt 38 = .ok (.iload_n 2, 1) := by decide +kernel
theorem dX7_fewestAt_39 : decode cX7_fewestAt 39 = .ok (.invokevirtual 359, 3) := by decide +kernel
theorem dX7_fewestAt_42 : decode cX7_fewestAt 42 = .ok (.ireturn, 1) := by decide +kernel
theorem dX7_rowFor_0 : decode cX7_rowFor 0 = .ok (.aload_n 0, 1) := by decide +kernel
theorem dX7_rowFor_1 : decode cX7_rowFor 1 = .ok (.invokevirtual 320, 3) := by decide +kernel
theorem dX7_rowFor_4 : decode cX7_rowFor 4 = .ok (.ifCond .ne 27, 3) := by decide +kernel
theorem dX7_rowFor_7 : decode cX7_rowFor 7 = .ok (.aload_n 0, 1) := by decide +kernel
theorem dX7_rowFor_8 : decode cX7_rowFor 8 = .ok (.iload_n 1, 1) := by decide +kernel
theorem dX7_rowFor_9 : decode cX7_rowFor 9 = .ok (.iconst 1, 1) := by decide +kernel
theorem dX7_rowFor_10 : decode cX7_rowFor 10 = .ok (.sipush 200, 3) := by decide +kernel
theorem dX7_rowFor_13 : decode cX7_rowFor 13 = .ok (.invokestatic 143, 3) := by decide +kernel
theorem dX7_rowFor_16 : decode cX7_rowFor 16 = .ok (.ifCond .ne 7, 3) := by decide +kernel
theorem dX7_rowFor_19 : decode cX7_rowFor 19 = .ok (.iconst 1, 1) := by decide +kernel
theorem dX7_rowFor_20 : decode cX7_rowFor 20 = .ok (.goto 4, 3) := by decide +kernel
theorem dX7_rowFor_23 : decode cX7_rowFor 23 = .ok (.iconst 0, 1) := by decide +kernel
theorem dX7_rowFor_24 : decode cX7_rowFor 24 = .ok (.iconst 2, 1) := by decide +kernel
theorem dX7_rowFor_25 : decode cX7_rowFor 25 = .ok (.invokevirtual 74, 3) := by decide +kernel
theorem dX7_rowFor_28 : decode cX7_rowFor 28 = .ok (.ifCond .eq 5, 3) := by decide +kernel
theorem dX7_rowFor_31 : decode cX7_rowFor 31 = .ok (.iconst 0, 1) := by decide +kernel
theorem dX7_rowFor_32 : decode cX7_rowFor 32 = .ok (.ireturn, 1) := by decide +kernel
theorem dX7_rowFor_33 : decode cX7_rowFor 33 = .ok (.iconst (-1), 1) := by decide +kernel
theorem dX7_rowFor_34 : decode cX7_rowFor 34 = .ok (.istore_n 2, 1) := by decide +kernel
theorem dX7_rowFor_35 : decode cX7_rowFor 35 = .ok (.ldc_w 280, 3) := by decide +kernel
theorem dX7_rowFor_38 : decode cX7_rowFor 38 = .ok (.istore_n 3, 1) := by decide +kernel
theorem dX7_rowFor_39 : decode cX7_rowFor 39 = .ok (.iconst 0, 1) := by decide +kernel
theorem dX7_rowFor_40 : decode cX7_rowFor 40 = .ok (.istore 4, 2) := by decide +kernel
theorem dX7_rowFor_42 : decode cX7_rowFor 42 = .ok (.iload 4, 2) := by decide +kernel
theorem dX7_rowFor_44 : decode cX7_rowFor 44 = .ok (.aload_n 0, 1) := by decide +kernel
theorem dX7_rowFor_45 : decode cX7_rowFor 45 = .ok (.getfield 154, 3) := by decide +kernel
theorem dX7_rowFor_48 : decode cX7_rowFor 48 = .ok (.if_icmp .ge 36, 3) := by decide +kernel
theorem dX7_rowFor_51 : decode cX7_rowFor 51 = .ok (.aload_n 0, 1) := by decide +kernel
theorem dX7_rowFor_52 : decode cX7_rowFor 52 = .ok (.iload 4, 2) := by decide +kernel
theorem dX7_rowFor_54 : decode cX7_rowFor 54 = .ok (.iload_n 1, 1) := by decide +kernel
theorem dX7_rowFor_55 : decode cX7_rowFor 55 = .ok (.invokevirtual 359, 3) := by decide +kernel
theorem dX7_rowFor_58 : decode cX7_rowFor 58 = .ok (.istore 5, 2) := by decide +kernel
theorem dX7_rowFor_60 : decode cX7_rowFor 60 = .ok (.iload 5, 2) := by decide +kernel
theorem dX7_rowFor_62 : decode cX7_rowFor 62 = .ok (.iconst (-1), 1) := by decide +kernel
theorem dX7_rowFor_63 : decode cX7_rowFor 63 = .ok (.if_icmp .eq 15, 3) := by decide +kernel
theorem dX7_rowFor_66 : decode cX7_rowFor 66 = .ok (.iload 5, 2) := by decide +kernel
theorem dX7_rowFor_68 : decode cX7_rowFor 68 = .ok (.iload_n 3, 1) := by decide +kernel
theorem dX7_rowFor_69 : decode cX7_rowFor 69 = .ok (.if_icmp .ge 9, 3) := by decide +kernel
theorem dX7_rowFor_72 : decode cX7_rowFor 72 = .ok (.iload 4, 2) := by decide +kernel
theorem dX7_rowFor_74 : decode cX7_rowFor 74 = .ok (.istore_n 2, 1) := by decide +kernel
theorem dX7_rowFor_75 : decode cX7_rowFor 75 = .ok (.iload 5, 2) := by decide +kernel
theorem dX7_rowFor_77 : decode cX7_rowFor 77 = .ok (.istore_n 3, 1) := by decide +kernel
theorem dX7_rowFor_78 : decode cX7_rowFor 78 = .ok (.iinc 4 1, 3) := by decide +kernel
theorem dX7_rowFor_81 : decode cX7_rowFor 81 = .ok (.goto (-39), 3) := by decide +kernel
theorem dX7_rowFor_84 : decode cX7_rowFor 84 = .ok (.iload_n 2, 1) := by decide +kernel
theorem dX7_rowFor_85 : decode cX7_rowFor 85 = .ok (.ireturn, 1) := by decide +kernel
theorem dX7_missing_0 : decode cX7_missing 0 = .ok (.aload_n 0, 1) := by decide +kernel
theorem dX7_missing_1 : decode cX7_missing 1 = .ok (.iload_n 1, 1) := by decide +kernel
theorem dX7_missing_2 : decode cX7_missing 2 = .ok (.invokevirtual 335, 3) := by decide +kernel
theorem dX7_missing_5 : decode cX7_missing 5 = .ok (.ifCond .eq 5, 3) := by decide +kernel
theorem dX7_missing_8 : decode cX7_missing 8 = .ok (.iconst 0, 1) := by decide +kernel
theorem dX7_missing_9 : decode cX7_missing 9 = .ok (.ireturn, 1) := by decide +kernel
theorem dX7_missing_10 : decode cX7_missing 10 = .ok (.aload_n 0, 1) := by decide +kernel
theorem dX7_missing_11 : decode cX7_missing 11 = .ok (.iload_n 1, 1) := by decide +kernel
theorem dX7_missing_12 : decode cX7_missing 12 = .ok (.invokevirtual 311, 3) := by decide +kernel
theorem dX7_missing_15 : decode cX7_missing 15 = .ok (.ifCond .eq 5, 3) := by decide +kernel
theorem dX7_missing_18 : decode cX7_missing 18 = .ok (.iconst (-1), 1) := by decide +kernel
theorem dX7_missing_19 : decode cX7_missing 19 = .ok (.ireturn, 1) := by decide +kernel
theorem dX7_missing_20 : decode cX7_missing 20 = .ok (.iconst (-1), 1) := by decide +kernel
theorem dX7_missing_21 : decode cX7_missing 21 = .ok (.istore_n 2, 1) := by decide +kernel
theorem dX7_missing_22 : decode cX7_missing 22 = .ok (.iconst 0, 1) := by decide +kernel
theorem dX7_missing_23 : decode cX7_missing 23 = .ok (.istore_n 3, 1) := by decide +kernel
theorem dX7_missing_24 : decode cX7_missing 24 = .ok (.iload_n 3, 1) := by decide +kernel
theorem dX7_missing_25 : decode cX7_missing 25 = .ok (.aload_n 0, 1) := by decide +kernel
theorem dX7_missing_26 : decode cX7_missing 26 = .ok (.getfield 172, 3) := by decide +kernel
theorem dX7_missing_29 : decode cX7_missing 29 = .ok (.if_icmp .ge 47, 3) := by decide +kernel
theorem dX7_missing_32 : decode cX7_missing 32 = .ok (.aload_n 0, 1) := by decide +kernel
theorem dX7_missing_33 : decode cX7_missing 33 = .ok (.iload_n 3, 1) := by decide +kernel
theorem dX7_missing_34 : decode cX7_missing 34 = .ok (.putfield 58, 3) := by decide +kernel
theorem dX7_missing_37 : decode cX7_missing 37 = .ok (.aload_n 0, 1) := by decide +kernel
theorem dX7_missing_38 : decode cX7_missing 38 = .ok (.iload_n 1, 1) := by decide +kernel
theorem dX7_missing_39 : decode cX7_missing 39 = .ok (.invokevirtual 311, 3) := by decide +kernel
theorem dX7_missing_42 : decode cX7_missing 42 = .ok (.istore 4, 2) := by decide +kernel
theorem dX7_missing_44 : decode cX7_missing 44 = .ok (.aload_n 0, 1) := by decide +kernel
theorem dX7_missing_45 : decode cX7_missing 45 = .ok (.iconst (-1), 1) := by decide +kernel
theorem dX7_missing_46 : decode cX7_missing 46 = .ok (.putfield 58, 3) := by decide +kernel
theorem dX7_missing_49 : decode cX7_missing 49 = .ok (.iload 4, 2) := by decide +kernel
theorem dX7_missing_51 : decode cX7_missing 51 = .ok (.ifCond .eq 19, 3) := by decide +kernel
theorem dX7_missing_54 : decode cX7_missing 54 = .ok (.iload_n 2, 1) := by decide +kernel
theorem dX7_missing_55 : decode cX7_missing 55 = .ok (.iconst (-1), 1) := by decide +kernel
theorem dX7_missing_56 : decode cX7_missing 56 = .ok (.if_icmp .eq 12, 3) := by decide +kernel
theorem dX7_missing_59 : decode cX7_missing 59 = .ok (.aload_n 0, 1) := by decide +kernel
theorem dX7_missing_60 : decode cX7_missing 60 = .ok (.iload_n 3, 1) := by decide +kernel
theorem dX7_missing_61 : decode cX7_missing 61 = .ok (.iload_n 2, 1) := by decide +kernel
theorem dX7_missing_62 : decode cX7_missing 62 = .ok (.invokevirtual 273, 3) := by decide +kernel
theorem dX7_missing_65 : decode cX7_missing 65 = .ok (.ifCond .eq 5, 3) := by decide +kernel
theorem dX7_missing_68 : decode cX7_missing 68 = .ok (.iload_n 3, 1) := by decide +kernel
theorem dX7_missing_69 : decode cX7_missing 69 = .ok (.istore_n 2, 1) := by decide +kernel
theorem dX7_missing_70 : decode cX7_missing 70 = .ok (.iinc 3 1, 3) := by decide +kernel
theorem dX7_missing_73 : decode cX7_missing 73 = .ok (.goto (-49), 3) := by decide +kernel
theorem dX7_missing_76 : decode cX7_missing 76 = .ok (.iload_n 2, 1) := by decide +kernel
theorem dX7_missing_77 : decode cX7_missing 77 = .ok (.ireturn, 1) := by decide +kernel
theorem dX7_fallsIn_0 : decode cX7_fallsIn 0 = .ok (.aload_n 0, 1) := by decide +kernel
theorem dX7_fallsIn_1 : decode cX7_fallsIn 1 = .ok (.iload_n 1, 1) := by decide +kernel
theorem dX7_fallsIn_2 : decode cX7_fallsIn 2 = .ok (.invokevirtual 335, 3) := by decide +kernel
theorem dX7_fallsIn_5 : decode cX7_fallsIn 5 = .ok (.ifCond .eq 5, 3) := by decide +kernel
theorem dX7_fallsIn_8 : decode cX7_fallsIn 8 = .ok (.iconst 0, 1) := by decide +kernel
theorem dX7_fallsIn_9 : decode cX7_fallsIn 9 = .ok (.ireturn, 1) := by decide +kernel
theorem dX7_fallsIn_10 : decode cX7_fallsIn 10 = .ok (.aload_n 0, 1) := by decide +kernel
theorem dX7_fallsIn_11 : decode cX7_fallsIn 11 = .ok (.invokevirtual 353, 3) := by decide +kernel
theorem dX7_fallsIn_14 : decode cX7_fallsIn 14 = .ok (.iconst 1, 1) := by decide +kernel
theorem dX7_fallsIn_15 : decode cX7_fallsIn 15 = .ok (.istore_n 3, 1) := by decide +kernel
theorem dX7_fallsIn_16 : decode cX7_fallsIn 16 = .ok (.iload_n 3, 1) := by decide +kernel
theorem dX7_fallsIn_17 : decode cX7_fallsIn 17 = .ok (.sipush 200, 3) := by decide +kernel
theorem dX7_fallsIn_20 : decode cX7_fallsIn 20 = .ok (.if_icmp .gt 31, 3) := by decide +kernel
theorem dX7_fallsIn_23 : decode cX7_fallsIn 23 = .ok (.iload_n 2, 1) := by decide +kernel
theorem dX7_fallsIn_24 : decode cX7_fallsIn 24 = .ok (.ifCond .eq 10, 3) := by decide +kernel
theorem dX7_fallsIn_27 : decode cX7_fallsIn 27 = .ok (.aload_n 0, 1) := by decide +kernel
theorem dX7_fallsIn_28 : decode cX7_fallsIn 28 = .ok (.invokevirtual 362, 3) := by decide +kernel
theorem dX7_fallsIn_31 : decode cX7_fallsIn 31 = .ok (.goto 7, 3) := by decide +kernel
theorem dX7_fallsIn_34 : decode cX7_fallsIn 34 = .ok (.aload_n 0, 1) := by decide +kernel
theorem dX7_fallsIn_35 : decode cX7_fallsIn 35 = .ok (.invokevirtual 365, 3) := by decide +kernel
theorem dX7_fallsIn_38 : decode cX7_fallsIn 38 = .ok (.iload_n 1, 1) := by decide +kernel
theorem dX7_fallsIn_39 : decode cX7_fallsIn 39 = .ok (.ishr, 1) := by decide +kernel
theorem dX7_fallsIn_40 : decode cX7_fallsIn 40 = .ok (.iconst 1, 1) := by decide +kernel
theorem dX7_fallsIn_41 : decode cX7_fallsIn 41 = .ok (.iand, 1) := by decide +kernel
theorem dX7_fallsIn_42 : decode cX7_fallsIn 42 = .ok (.ifCond .ne 9, 3) := by decide +kernel
theorem dX7_fallsIn_45 : decode cX7_fallsIn 45 = .ok (.iinc 3 1, 3) := by decide +kernel
theorem dX7_fallsIn_48 : decode cX7_fallsIn 48 = .ok (.goto (-32), 3) := by decide +kernel
theorem dX7_fallsIn_51 : decode cX7_fallsIn 51 = .ok (.aload_n 0, 1) := by decide +kernel
theorem dX7_fallsIn_52 : decode cX7_fallsIn 52 = .ok (.iload_n 3, 1) := by decide +kernel
theorem dX7_fallsIn_53 : decode cX7_fallsIn 53 = .ok (.sipush 200, 3) := by decide +kernel
theorem dX7_fallsIn_56 : decode cX7_fallsIn 56 = .ok (.if_icmp .gt 7, 3) := by decide +kernel
theorem dX7_fallsIn_59 : decode cX7_fallsIn 59 = .ok (.iload_n 3, 1) := by decide +kernel
theorem dX7_fallsIn_60 : decode cX7_fallsIn 60 = .ok (.goto 4, 3) := by decide +kernel
theorem dX7_fallsIn_63 : decode cX7_fallsIn 63 = .ok (.iconst (-1), 1) := by decide +kernel
theorem dX7_fallsIn_64 : decode cX7_fallsIn 64 = .ok (.invokevirtual 356, 3) := by decide +kernel
theorem dX7_fallsIn_67 : decode cX7_fallsIn 67 = .ok (.ireturn, 1) := by decide +kernel
theorem dX7_goodIn_0 : decode cX7_goodIn 0 = .ok (.aload_n 0, 1) := by decide +kernel
theorem dX7_goodIn_1 : decode cX7_goodIn 1 = .ok (.invokevirtual 320, 3) := by decide +kernel
theorem dX7_goodIn_4 : decode cX7_goodIn 4 = .ok (.ifCond .ne 27, 3) := by decide +kernel
theorem dX7_goodIn_7 : decode cX7_goodIn 7 = .ok (.aload_n 0, 1) := by decide +kernel
theorem dX7_goodIn_8 : decode cX7_goodIn 8 = .ok (.iload_n 1, 1) := by decide +kernel
theorem dX7_goodIn_9 : decode cX7_goodIn 9 = .ok (.iconst 0, 1) := by decide +kernel
theorem dX7_goodIn_10 : decode cX7_goodIn 10 = .ok (.sipush 200, 3) := by decide +kernel
theorem dX7_goodIn_13 : decode cX7_goodIn 13 = .ok (.invokestatic 143, 3) := by decide +kernel
theorem dX7_goodIn_16 : decode cX7_goodIn 16 = .ok (.ifCond .ne 7, 3) := by decide +kernel
theorem dX7_goodIn_19 : decode cX7_goodIn 19 = .ok (.iconst 1, 1) := by decide +kernel
theorem dX7_goodIn_20 : decode cX7_goodIn 20 = .ok (.goto 4, 3) := by decide +kernel
theorem dX7_goodIn_23 : decode cX7_goodIn 23 = .ok (.iconst 0, 1) := by decide +kernel
theorem dX7_goodIn_24 : decode cX7_goodIn 24 = .ok (.iconst 2, 1) := by decide +kernel
theorem dX7_goodIn_25 : decode cX7_goodIn 25 = .ok (.invokevirtual 74, 3) := by decide +kernel
theorem dX7_goodIn_28 : decode cX7_goodIn 28 = .ok (.ifCond .eq 5, 3) := by decide +kernel
theorem dX7_goodIn_31 : decode cX7_goodIn 31 = .ok (.iconst 0, 1) := by decide +kernel
theorem dX7_goodIn_32 : decode cX7_goodIn 32 = .ok (.ireturn, 1) := by decide +kernel
theorem dX7_goodIn_33 : decode cX7_goodIn 33 = .ok (.aload_n 0, 1) := by decide +kernel
theorem dX7_goodIn_34 : decode cX7_goodIn 34 = .ok (.invokevirtual 353, 3) := by decide +kernel
theorem dX7_goodIn_37 : decode cX7_goodIn 37 = .ok (.aload_n 0, 1) := by decide +kernel
theorem dX7_goodIn_38 : decode cX7_goodIn 38 = .ok (.getfield 17, 3) := by decide +kernel
theorem dX7_goodIn_41 : decode cX7_goodIn 41 = .ok (.iconst 2, 1) := by decide +kernel
theorem dX7_goodIn_42 : decode cX7_goodIn 42 = .ok (.iaload, 1) := by decide +kernel
theorem dX7_goodIn_43 : decode cX7_goodIn 43 = .ok (.istore_n 2, 1) := by decide +kernel
theorem dX7_goodIn_44 : decode cX7_goodIn 44 = .ok (.iconst 0, 1) := by decide +kernel
theorem dX7_goodIn_45 : decode cX7_goodIn 45 = .ok (.istore_n 3, 1) := by decide +kernel
theorem dX7_goodIn_46 : decode cX7_goodIn 46 = .ok (.iload_n 3, 1) := by decide +kernel
theorem dX7_goodIn_47 : decode cX7_goodIn 47 = .ok (.iload_n 1, 1) := by decide +kernel
theorem dX7_goodIn_48 : decode cX7_goodIn 48 = .ok (.if_icmp .ge 15, 3) := by decide +kernel
theorem dX7_goodIn_51 : decode cX7_goodIn 51 = .ok (.aload_n 0, 1) := by decide +kernel
theorem dX7_goodIn_52 : decode cX7_goodIn 52 = .ok (.invokevirtual 365, 3) := by decide +kernel
theorem dX7_goodIn_55 : decode cX7_goodIn 55 = .ok (.istore 4, 2) := by decide +kernel
theorem dX7_goodIn_57 : decode cX7_goodIn 57 = .ok (.iinc 3 1, 3) := by decide +kernel
theorem dX7_goodIn_60 : decode cX7_goodIn 60 = .ok (.goto (-14), 3) := by decide +kernel
theorem dX7_goodIn_63 : decode cX7_goodIn 63 = .ok (.aload_n 0, 1) := by decide +kernel
theorem dX7_goodIn_64 : decode cX7_goodIn 64 = .ok (.aload_n 0, 1) := by decide +kernel
theorem dX7_goodIn_65 : decode cX7_goodIn 65 = .ok (.getfield 17, 3) := by decide +kernel
theorem dX7_goodIn_68 : decode cX7_goodIn 68 = .ok (.iconst 2, 1) := by decide +kernel
theorem dX7_goodIn_69 : decode cX7_goodIn 69 = .ok (.iaload, 1) := by decide +kernel
theorem dX7_goodIn_70 : decode cX7_goodIn 70 = .ok (.iload_n 2, 1) := by decide +kernel
theorem dX7_goodIn_71 : decode cX7_goodIn 71 = .ok (.isub, 1) := by decide +kernel
theorem dX7_goodIn_72 : decode cX7_goodIn 72 = .ok (.invokevirtual 356, 3) := by decide +kernel
theorem dX7_goodIn_75 : decode cX7_goodIn 75 = .ok (.ireturn, 1) := by decide +kernel
theorem dX7_lockable_0 : decode cX7_lockable 0 = .ok (.aload_n 0, 1) := by decide +kernel
theorem dX7_lockable_1 : decode cX7_lockable 1 = .ok (.invokevirtual 320, 3) := by decide +kernel
theorem dX7_lockable_4 : decode cX7_lockable 4 = .ok (.ifCond .eq 5, 3) := by decide +kernel
theorem dX7_lockable_7 : decode cX7_lockable 7 = .ok (.iconst 0, 1) := by decide +kernel
theorem dX7_lockable_8 : decode cX7_lockable 8 = .ok (.ireturn, 1) := by decide +kernel
theorem dX7_lockable_9 : decode cX7_lockable 9 = .ok (.iconst 0, 1) := by decide +kernel
theorem dX7_lockable_10 : decode cX7_lockable 10 = .ok (.istore_n 1, 1) := by decide +kernel
theorem dX7_lockable_11 : decode cX7_lockable 11 = .ok (.iconst 0, 1) := by decide +kernel
theorem dX7_lockable_12 : decode cX7_lockable 12 = .ok (.istore_n 2, 1) := by decide +kernel
theorem dX7_lockable_13 : decode cX7_lockable 13 = .ok (.iload_n 2, 1) := by decide +kernel
theorem dX7_lockable_14 : decode cX7_lockable 14 = .ok (.aload_n 0, 1) := by decide +kernel
theorem dX7_lockable_15 : decode cX7_lockable 15 = .ok (.getfield 154, 3) := by decide +kernel
theorem dX7_lockable_18 : decode cX7_lockable 18 = .ok (.if_icmp .ge 27, 3) := by decide +kernel
theorem dX7_lockable_21 : decode cX7_lockable 21 = .ok (.iload_n 1, 1) := by decide +kernel
theorem dX7_lockable_22 : decode cX7_lockable 22 = .ok (.aload_n 0, 1) := by decide +kernel
theorem dX7_lockable_23 : decode cX7_lockable 23 = .ok (.iload_n 2, 1) := by decide +kernel
theorem dX7_lockable_24 : decode cX7_lockable 24 = .ok (.invokevirtual 311, 3) := by decide +kernel
theorem dX7_lockable_27 : decode cX7_lockable 27 = .ok (.ifCond .eq 9, 3) := by decide +kernel
theorem dX7_lockable_30 : decode cX7_lockable 30 = .ok (.iconst 1, 1) := by decide +kernel
theorem dX7_lockable_31 : decode cX7_lockable 31 = .ok (.iload_n 2, 1) := by decide +kernel
theorem dX7_lockable_32 : decode cX7_lockable 32 = .ok (.ishl, 1) := by decide +kernel
theorem dX7_lockable_33 : decode cX7_lockable 33 = .ok (.goto 4, 3) := by decide +kernel
theorem dX7_lockable_36 : decode cX7_lockable 36 = .ok (.iconst 0, 1) := by decide +kernel
theorem dX7_lockable_37 : decode cX7_lockable 37 = .ok (.ior, 1) := by decide +kernel
theorem dX7_lockable_38 : decode cX7_lockable 38 = .ok (.istore_n 1, 1) := by decide +kernel
theorem dX7_lockable_39 : decode cX7_lockable 39 = .ok (.iinc 2 1, 3) := by decide +kernel
theorem dX7_lockable_42 : decode cX7_lockable 42 = .ok (.goto (-29), 3) := by decide +kernel
theorem dX7_lockable_45 : decode cX7_lockable 45 = .ok (.iload_n 1, 1) := by decide +kernel
theorem dX7_lockable_46 : decode cX7_lockable 46 = .ok (.ireturn, 1) := by decide +kernel
theorem dX7_lockedAll_0 : decode cX7_lockedAll 0 = .ok (.aload_n 0, 1) := by decide +kernel
theorem dX7_lockedAll_1 : decode cX7_lockedAll 1 = .ok (.invokevirtual 320, 3) := by decide +kernel
theorem dX7_lockedAll_4 : decode cX7_lockedAll 4 = .ok (.ifCond .eq 5, 3) := by decide +kernel
theorem dX7_lockedAll_7 : decode cX7_lockedAll 7 = .ok (.iconst 0, 1) := by decide +kernel
theorem dX7_lockedAll_8 : decode cX7_lockedAll 8 = .ok (.ireturn, 1) := by decide +kernel
theorem dX7_lockedAll_9 : decode cX7_lockedAll 9 = .ok (.aload_n 0, 1) := by decide +kernel
theorem dX7_lockedAll_10 : decode cX7_lockedAll 10 = .ok (.invokevirtual 353, 3) := by decide +kernel
theorem dX7_lockedAll_13 : decode cX7_lockedAll 13 = .ok (.iconst 0, 1) := by decide +kernel
theorem dX7_lockedAll_14 : decode cX7_lockedAll 14 = .ok (.istore_n 1, 1) := by decide +kernel
theorem dX7_lockedAll_15 : decode cX7_lockedAll 15 = .ok (.iload_n 1, 1) := by decide +kernel
theorem dX7_lockedAll_16 : decode cX7_lockedAll 16 = .ok (.aload_n 0, 1) := by decide +kernel
theorem dX7_lockedAll_17 : decode cX7_lockedAll 17 = .ok (.getfield 154, 3) := by decide +kernel
theorem dX7_lockedAll_20 : decode cX7_lockedAll 20 = .ok (.if_icmp .ge 15, 3) := by decide +kernel
theorem dX7_lockedAll_23 : decode cX7_lockedAll 23 = .ok (.aload_n 0, 1) := by decide +kernel
theorem dX7_lockedAll_24 : decode cX7_lockedAll 24 = .ok (.iload_n 1, 1) := by decide +kernel
theorem dX7_lockedAll_25 : decode cX7_lockedAll 25 = .ok (.invokevirtual 368, 3) := by decide +kernel
theorem dX7_lockedAll_28 : decode cX7_lockedAll 28 = .ok (.istore_n 2, 1) := by decide +kernel
theorem dX7_lockedAll_29 : decode cX7_lockedAll 29 = .ok (.iinc 1 1, 3) := by decide +kernel
theorem dX7_lockedAll_32 : decode cX7_lockedAll 32 = .ok (.goto (-17), 3) := by decide +kernel
theorem dX7_lockedAll_35 : decode cX7_lockedAll 35 = .ok (.aload_n 0, 1) := by decide +kernel
theorem dX7_lockedAll_36 : decode cX7_lockedAll 36 = .ok (.aload_n 0, 1) := by decide +kernel
theorem dX7_lockedAll_37 : decode cX7_lockedAll 37 = .ok (.invokevirtual 326, 3) := by decide +kernel
theorem dX7_lockedAll_40 : decode cX7_lockedAll 40 = .ok (.invokevirtual 356, 3) := by decide +kernel
theorem dX7_lockedAll_43 : decode cX7_lockedAll 43 = .ok (.ireturn, 1) := by decide +kernel
theorem dX7_says_0 : decode cX7_says 0 = .ok (.aload_n 0, 1) := by decide +kernel
theorem dX7_says_1 : decode cX7_says 1 = .ok (.getfield 64, 3) := by decide +kernel
theorem dX7_says_4 : decode cX7_says 4 = .ok (.aload_n 0, 1) := by decide +kernel
theorem dX7_says_5 : decode cX7_says 5 = .ok (.getfield 371, 3) := by decide +kernel
theorem dX7_says_8 : decode cX7_says 8 = .ok (.iload_n 1, 1) := by decide +kernel
theorem dX7_says_9 : decode cX7_says 9 = .ok (.iastore, 1) := by decide +kernel
theorem dX7_says_10 : decode cX7_says 10 = .ok (.aload_n 0, 1) := by decide +kernel
theorem dX7_says_11 : decode cX7_says 11 = .ok (.dup, 1) := by decide +kernel
theorem dX7_says_12 : decode cX7_says 12 = .ok (.getfield 371, 3) := by decide +kernel
theorem dX7_says_15 : decode cX7_says 15 = .ok (.iconst 1, 1) := by decide +kernel
theorem dX7_says_16 : decode cX7_says 16 = .ok (.iadd, 1) := by decide +kernel
theorem dX7_says_17 : decode cX7_says 17 = .ok (.putfield 371, 3) := by decide +kernel
theorem dX7_says_20 : decode cX7_says 20 = .ok (.return_, 1) := by decide +kernel
theorem dX7_saysNumber_0 : decode cX7_saysNumber 0 = .ok (.iconst 1, 1) := by decide +kernel
theorem dX7_saysNumber_1 : decode cX7_saysNumber 1 = .ok (.istore_n 2, 1) := by decide +kernel
theorem dX7_saysNumber_2 : decode cX7_saysNumber 2 = .ok (.iload_n 1, 1) := by decide +kernel
theorem dX7_saysNumber_3 : decode cX7_saysNumber 3 = .ok (.iload_n 2, 1) := by decide +kernel
theorem dX7_saysNumber_4 : decode cX7_saysNumber 4 = .ok (.idiv, 1) := by decide +kernel
theorem dX7_saysNumber_5 : decode cX7_saysNumber 5 = .ok (.bipush 10, 2) := by decide +kernel
theorem dX7_saysNumber_7 : decode cX7_saysNumber 7 = .ok (.if_icmp .lt 11, 3) := by decide +kernel
theorem dX7_saysNumber_10 : decode cX7_saysNumber 10 = .ok (.bipush 10, 2) := by decide +kernel
theorem dX7_saysNumber_12 : decode cX7_saysNumber 12 = .ok (.iload_n 2, 1) := by decide +kernel
theorem dX7_saysNumber_13 : decode cX7_saysNumber 13 = .ok (.imul, 1) := by decide +kernel
theorem dX7_saysNumber_14 : decode cX7_saysNumber 14 = .ok (.istore_n 2, 1) := by decide +kernel
theorem dX7_saysNumber_15 : decode cX7_saysNumber 15 = .ok (.goto (-13), 3) := by decide +kernel
theorem dX7_saysNumber_18 : decode cX7_saysNumber 18 = .ok (.iload_n 2, 1) := by decide +kernel
theorem dX7_saysNumber_19 : decode cX7_saysNumber 19 = .ok (.ifCond .le 24, 3) := by decide +kernel
theorem dX7_saysNumber_22 : decode cX7_saysNumber 22 = .ok (.aload_n 0, 1) := by decide +kernel
theorem dX7_saysNumber_23 : decode cX7_saysNumber 23 = .ok (.bipush 48, 2) := by decide +kernel
theorem dX7_saysNumber_25 : decode cX7_saysNumber 25 = .ok (.iload_n 1, 1) := by decide +kernel
theorem dX7_saysNumber_26 : decode cX7_saysNumber 26 = .ok (.iload_n 2, 1) := by decide +kernel
theorem dX7_saysNumber_27 : decode cX7_saysNumber 27 = .ok (.idiv, 1) := by decide +kernel
theorem dX7_saysNumber_28 : decode cX7_saysNumber 28 = .ok (.bipush 10, 2) := by decide +kernel
theorem dX7_saysNumber_30 : decode cX7_saysNumber 30 = .ok (.irem, 1) := by decide +kernel
theorem dX7_saysNumber_31 : decode cX7_saysNumber 31 = .ok (.iadd, 1) := by decide +kernel
theorem dX7_saysNumber_32 : decode cX7_saysNumber 32 = .ok (.invokevirtual 374, 3) := by decide +kernel
theorem dX7_saysNumber_35 : decode cX7_saysNumber 35 = .ok (.iload_n 2, 1) := by decide +kernel
theorem dX7_saysNumber_36 : decode cX7_saysNumber 36 = .ok (.bipush 10, 2) := by decide +kernel
theorem dX7_saysNumber_38 : decode cX7_saysNumber 38 = .ok (.idiv, 1) := by decide +kernel
theorem dX7_saysNumber_39 : decode cX7_saysNumber 39 = .ok (.istore_n 2, 1) := by decide +kernel
theorem dX7_saysNumber_40 : decode cX7_saysNumber 40 = .ok (.goto (-22), 3) := by decide +kernel
theorem dX7_saysNumber_43 : decode cX7_saysNumber 43 = .ok (.return_, 1) := by decide +kernel
theorem dX7_saysBlank_0 : decode cX7_saysBlank 0 = .ok (.aload_n 0, 1) := by decide +kernel
theorem dX7_saysBlank_1 : decode cX7_saysBlank 1 = .ok (.getfield 371, 3) := by decide +kernel
theorem dX7_saysBlank_4 : decode cX7_saysBlank 4 = .ok (.ifCond .le 9, 3) := by decide +kernel
theorem dX7_saysBlank_7 : decode cX7_saysBlank 7 = .ok (.aload_n 0, 1) := by decide +kernel
theorem dX7_saysBlank_8 : decode cX7_saysBlank 8 = .ok (.bipush 32, 2) := by decide +kernel
theorem dX7_saysBlank_10 : decode cX7_saysBlank 10 = .ok (.invokevirtual 374, 3) := by decide +kernel
theorem dX7_saysBlank_13 : decode cX7_saysBlank 13 = .ok (.return_, 1) := by decide +kernel
theorem dX7_saysKind_0 : decode cX7_saysKind 0 = .ok (.aload_n 0, 1) := by decide +kernel
theorem dX7_saysKind_1 : decode cX7_saysKind 1 = .ok (.aload_n 0, 1) := by decide +kernel
theorem dX7_saysKind_2 : decode cX7_saysKind 2 = .ok (.getfield 7, 3) := by decide +kernel
theorem dX7_saysKind_5 : decode cX7_saysKind 5 = .ok (.iload_n 1, 1) := by decide +kernel
theorem dX7_saysKind_6 : decode cX7_saysKind 6 = .ok (.baload, 1) := by decide +kernel
theorem dX7_saysKind_7 : decode cX7_saysKind 7 = .ok (.ifCond .eq 8, 3) := by decide +kernel
theorem dX7_saysKind_10 : decode cX7_saysKind 10 = .ok (.bipush 109, 2) := by decide +kernel
theorem dX7_saysKind_12 : decode cX7_saysKind 12 = .ok (.goto 5, 3) := by decide +kernel
theorem dX7_saysKind_15 : decode cX7_saysKind 15 = .ok (.bipush 119, 2) := by decide +kernel
theorem dX7_saysKind_17 : decode cX7_saysKind 17 = .ok (.invokevirtual 374, 3) := by decide +kernel
theorem dX7_saysKind_20 : decode cX7_saysKind 20 = .ok (.aload_n 0, 1) := by decide +kernel
theorem dX7_saysKind_21 : decode cX7_saysKind 21 = .ok (.aload_n 0, 1) := by decide +kernel
theorem dX7_saysKind_22 : decode cX7_saysKind 22 = .ok (.getfield 13, 3) := by decide +kernel
theorem dX7_saysKind_25 : decode cX7_saysKind 25 = .ok (.iload_n 1, 1) := by decide +kernel
theorem dX7_saysKind_26 : decode cX7_saysKind 26 = .ok (.iaload, 1) := by decide +kernel
theorem dX7_saysKind_27 : decode cX7_saysKind 27 = .ok (.invokevirtual 377, 3) := by decide +kernel
theorem dX7_saysKind_30 : decode cX7_saysKind 30 = .ok (.return_, 1) := by decide +kernel
theorem dX7_saysQuoin_0 : decode cX7_saysQuoin 0 = .ok (.iload_n 1, 1) := by decide +kernel
theorem dX7_saysQuoin_1 : decode cX7_saysQuoin 1 = .ok (.iconst (-1), 1) := by decide +kernel
theorem dX7_saysQuoin_2 : decode cX7_saysQuoin 2 = .ok (.if_icmp .eq 18, 3) := by decide +kernel
theorem dX7_saysQuoin_5 : decode cX7_saysQuoin 5 = .ok (.aload_n 0, 1) := by decide +kernel
theorem dX7_saysQuoin_6 : decode cX7_saysQuoin 6 = .ok (.invokevirtual 380, 3) := by decide +kernel
theorem dX7_saysQuoin_9 : decode cX7_saysQuoin 9 = .ok (.aload_n 0, 1) := by decide +kernel
theorem dX7_saysQuoin_10 : decode cX7_saysQuoin 10 = .ok (.bipush 113, 2) := by decide +kernel
theorem dX7_saysQuoin_12 : decode cX7_saysQuoin 12 = .ok (.invokevirtual 374, 3) := by decide +kernel
theorem dX7_saysQuoin_15 : decode cX7_saysQuoin 15 = .ok (.aload_n 0, 1) := by decide +kernel
theorem dX7_saysQuoin_16 : decode cX7_saysQuoin 16 = .ok (.iload_n 1, 1) := by decide +kernel
theorem dX7_saysQuoin_17 : decode cX7_saysQuoin 17 = .ok (.invokevirtual 377, 3) := by decide +kernel
theorem dX7_saysQuoin_20 : decode cX7_saysQuoin 20 = .ok (.return_, 1) := by decide +kernel
theorem dX7_writeRow_0 : decode cX7_writeRow 0 = .ok (.aload_n 0, 1) := by decide +kernel
theorem dX7_writeRow_1 : decode cX7_writeRow 1 = .ok (.iload_n 1, 1) := by decide +kernel
theorem dX7_writeRow_2 : decode cX7_writeRow 2 = .ok (.invokevirtual 335, 3) := by decide +kernel
theorem dX7_writeRow_5 : decode cX7_writeRow 5 = .ok (.ifCond .eq 5, 3) := by decide +kernel
theorem dX7_writeRow_8 : decode cX7_writeRow 8 = .ok (.iconst 0, 1) := by decide +kernel
theorem dX7_writeRow_9 : decode cX7_writeRow 9 = .ok (.ireturn, 1) := by decide +kernel
theorem dX7_writeRow_10 : decode cX7_writeRow 10 = .ok (.aload_n 0, 1) := by decide +kernel
theorem dX7_writeRow_11 : decode cX7_writeRow 11 = .ok (.iconst 0, 1) := by decide +kernel
theorem dX7_writeRow_12 : decode cX7_writeRow 12 = .ok (.putfield 371, 3) := by decide +kernel
theorem dX7_writeRow_15 : decode cX7_writeRow 15 = .ok (.iconst 0, 1) := by decide +kernel
theorem dX7_writeRow_16 : decode cX7_writeRow 16 = .ok (.istore_n 2, 1) := by decide +kernel
theorem dX7_writeRow_17 : decode cX7_writeRow 17 = .ok (.iload_n 2, 1) := by decide +kernel
theorem dX7_writeRow_18 : decode cX7_writeRow 18 = .ok (.aload_n 0, 1) := by decide +kernel
theorem dX7_writeRow_19 : decode cX7_writeRow 19 = .ok (.iload_n 1, 1) := by decide +kernel
theorem dX7_writeRow_20 : decode cX7_writeRow 20 = .ok (.iconst 0, 1) := by decide +kernel
theorem dX7_writeRow_21 : decode cX7_writeRow 21 = .ok (.invokevirtual 189, 3) := by decide +kernel
theorem dX7_writeRow_24 : decode cX7_writeRow 24 = .ok (.if_icmp .ge 37, 3) := by decide +kernel
theorem dX7_writeRow_27 : decode cX7_writeRow 27 = .ok (.aload_n 0, 1) := by decide +kernel
theorem dX7_writeRow_28 : decode cX7_writeRow 28 = .ok (.invokevirtual 380, 3) := by decide +kernel
theorem dX7_writeRow_31 : decode cX7_writeRow 31 = .ok (.aload_n 0, 1) := by decide +kernel
theorem dX7_writeRow_32 : decode cX7_writeRow 32 = .ok (.bipush 91, 2) := by decide +kernel
theorem dX7_writeRow_34 : decode cX7_writeRow 34 = .ok (.invokevirtual 374, 3) := by decide +kernel
theorem dX7_writeRow_37 : decode cX7_writeRow 37 = .ok (.aload_n 0, 1) := by decide +kernel
theorem dX7_writeRow_38 : decode cX7_writeRow 38 = .ok (.aload_n 0, 1) := by decide +kernel
theorem dX7_writeRow_39 : decode cX7_writeRow 39 = .ok (.iload_n 1, 1) := by decide +kernel
theorem dX7_writeRow_40 : decode cX7_writeRow 40 = .ok (.iconst 5, 1) := by decide +kernel
theorem dX7_writeRow_41 : decode cX7_writeRow 41 = .ok (.iload_n 2, 1) := by decide +kernel
theorem dX7_writeRow_42 : decode cX7_writeRow 42 = .ok (.iadd, 1) := by decide +kernel
theorem dX7_writeRow_43 : decode cX7_writeRow 43 = .ok (.invokevirtual 189, 3) := by decide +kernel
theorem dX7_writeRow_46 : decode cX7_writeRow 46 = .ok (.invokevirtual 377, 3) := by decide +kernel
theorem dX7_writeRow_49 : decode cX7_writeRow 49 = .ok (.aload_n 0, 1) := by decide +kernel
theorem dX7_writeRow_50 : decode cX7_writeRow 50 = .ok (.bipush 93, 2) := by decide +kernel
theorem dX7_writeRow_52 : decode cX7_writeRow 52 = .ok (.invokevirtual 374, 3) := by decide +kernel
theorem dX7_writeRow_55 : decode cX7_writeRow 55 = .ok (.iinc 2 1, 3) := by decide +kernel
theorem dX7_writeRow_58 : decode cX7_writeRow 58 = .ok (.goto (-41), 3) := by decide +kernel
theorem dX7_writeRow_61 : decode cX7_writeRow 61 = .ok (.iconst 0, 1) := by decide +kernel
theorem dX7_writeRow_62 : decode cX7_writeRow 62 = .ok (.istore_n 2, 1) := by decide +kernel
theorem dX7_writeRow_63 : decode cX7_writeRow 63 = .ok (.iload_n 2, 1) := by decide +kernel
theorem dX7_writeRow_64 : decode cX7_writeRow 64 = .ok (.aload_n 0, 1) := by decide +kernel
theorem dX7_writeRow_65 : decode cX7_writeRow 65 = .ok (.iload_n 1, 1) := by decide +kernel
theorem dX7_writeRow_66 : decode cX7_writeRow 66 = .ok (.iconst 1, 1) := by decide +kernel
theorem dX7_writeRow_67 : decode cX7_writeRow 67 = .ok (.invokevirtual 189, 3) := by decide +kernel
theorem dX7_writeRow_70 : decode cX7_writeRow 70 = .ok (.if_icmp .ge 26, 3) := by decide +kernel
theorem dX7_writeRow_73 : decode cX7_writeRow 73 = .ok (.aload_n 0, 1) := by decide +kernel
theorem dX7_writeRow_74 : decode cX7_writeRow 74 = .ok (.invokevirtual 380, 3) := by decide +kernel
theorem dX7_writeRow_77 : decode cX7_writeRow 77 = .ok (.aload_n 0, 1) := by decide +kernel
theorem dX7_writeRow_78 : decode cX7_writeRow 78 = .ok (.aload_n 0, 1) := by decide +kernel
theorem dX7_writeRow_79 : decode cX7_writeRow 79 = .ok (.iload_n 1, 1) := by decide +kernel
theorem dX7_writeRow_80 : decode cX7_writeRow 80 = .ok (.bipush 11, 2) := by decide +kernel
theorem dX7_writeRow_82 : decode cX7_writeRow 82 = .ok (.iload_n 2, 1) := by decide +kernel
theorem dX7_writeRow_83 : decode cX7_writeRow 83 = .ok (.iadd, 1) := by decide +kernel
theorem dX7_writeRow_84 : decode cX7_writeRow 84 = .ok (.invokevirtual 189, 3) := by decide +kernel
theorem dX7_writeRow_87 : decode cX7_writeRow 87 = .ok (.invokevirtual 383, 3) := by decide +kernel
theorem dX7_writeRow_90 : decode cX7_writeRow 90 = .ok (.iinc 2 1, 3) := by decide +kernel
theorem dX7_writeRow_93 : decode cX7_writeRow 93 = .ok (.goto (-30), 3) := by decide +kernel
theorem dX7_writeRow_96 : decode cX7_writeRow 96 = .ok (.aload_n 0, 1) := by decide +kernel
theorem dX7_writeRow_97 : decode cX7_writeRow 97 = .ok (.aload_n 0, 1) := by decide +kernel
theorem dX7_writeRow_98 : decode cX7_writeRow 98 = .ok (.iload_n 1, 1) := by decide +kernel
theorem dX7_writeRow_99 : decode cX7_writeRow 99 = .ok (.iconst 2, 1) := by decide +kernel
theorem dX7_writeRow_100 : decode cX7_writeRow 100 = .ok (.invokevirtual 189, 3) := by decide +kernel
theorem dX7_writeRow_103 : decode cX7_writeRow 103 = .ok (.invokevirtual 386, 3) := by decide +kernel
theorem dX7_writeRow_106 : decode cX7_writeRow 106 = .ok (.aload_n 0, 1) := by decide +kernel
theorem dX7_writeRow_107 : decode cX7_writeRow 107 = .ok (.getfield 371, 3) := by decide +kernel
theorem dX7_writeRow_110 : decode cX7_writeRow 110 = .ok (.ireturn, 1) := by decide +kernel
theorem dX7_writeChoice_0 : decode cX7_writeChoice 0 = .ok (.aload_n 0, 1) := by decide +kernel
theorem dX7_writeChoice_1 : decode cX7_writeChoice 1 = .ok (.iload_n 1, 1) := by decide +kernel
theorem dX7_writeChoice_2 : decode cX7_writeChoice 2 = .ok (.invokevirtual 335, 3) := by decide +kernel
theorem dX7_writeChoice_5 : decode cX7_writeChoice 5 = .ok (.ifCond .eq 5, 3) := by decide +kernel
theorem dX7_writeChoice_8 : decode cX7_writeChoice 8 = .ok (.iconst 0, 1) := by decide +kernel
theorem dX7_writeChoice_9 : decode cX7_writeChoice 9 = .ok (.ireturn, 1) := by decide +kernel
theorem dX7_writeChoice_10 : decode cX7_writeChoice 10 = .ok (.aload_n 0, 1) := by decide +kernel
theorem dX7_writeChoice_11 : decode cX7_writeChoice 11 = .ok (.iconst 0, 1) := by decide +kernel
theorem dX7_writeChoice_12 : decode cX7_writeChoice 12 = .ok (.putfield 371, 3) := by decide +kernel
theorem dX7_writeChoice_15 : decode cX7_writeChoice 15 = .ok (.aload_n 0, 1) := by decide +kernel
theorem dX7_writeChoice_16 : decode cX7_writeChoice 16 = .ok (.iload_n 1, 1) := by decide +kernel
theorem dX7_writeChoice_17 : decode cX7_writeChoice 17 = .ok (.invokevirtual 311, 3) := by decide +kernel
theorem dX7_writeChoice_20 : decode cX7_writeChoice 20 = .ok (.ifCond .ne 14, 3) := by decide +kernel
theorem dX7_writeChoice_23 : decode cX7_writeChoice 23 = .ok (.aload_n 0, 1) := by decide +kernel
theorem dX7_writeChoice_24 : decode cX7_writeChoice 24 = .ok (.bipush 45, 2) := by decide +kernel
theorem dX7_writeChoice_26 : decode cX7_writeChoice 26 = .ok (.invokevirtual 374, 3) := by decide +kernel
theorem dX7_writeChoice_29 : decode cX7_writeChoice 29 = .ok (.aload_n 0, 1) := by decide +kernel
theorem dX7_writeChoice_30 : decode cX7_writeChoice 30 = .ok (.getfield 371, 3) := by decide +kernel
theorem dX7_writeChoice_33 : decode cX7_writeChoice 33 = .ok (.ireturn, 1) := by decide +kernel
theorem dX7_writeChoice_34 : decode cX7_writeChoice 34 = .ok (.iconst 0, 1) := by decide +kernel
theorem dX7_writeChoice_35 : decode cX7_writeChoice 35 = .ok (.istore_n 2, 1) := by decide +kernel
theorem dX7_writeChoice_36 : decode cX7_writeChoice 36 = .ok (.iload_n 2, 1) := by decide +kernel
theorem dX7_writeChoice_37 : decode cX7_writeChoice 37 = .ok (.aload_n 0, 1) := by decide +kernel
theorem dX7_writeChoice_38 : decode cX7_writeChoice 38 = .ok (.getfield 172, 3) := by decide +kernel
theorem dX7_writeChoice_41 : decode cX7_writeChoice 41 = .ok (.if_icmp .ge 58, 3) := by decide +kernel
theorem dX7_writeChoice_44 : decode cX7_writeChoice 44 = .ok (.aload_n 0, 1) := by decide +kernel
theorem dX7_writeChoice_45 : decode cX7_writeChoice 45 = .ok (.getfield 55, 3) := by decide +kernel
theorem dX7_writeChoice_48 : decode cX7_writeChoice 48 = .ok (.aload_n 0, 1) := by decide +kernel
theorem dX7_writeChoice_49 : decode cX7_writeChoice 49 = .ok (.getfield 49, 3) := by decide +kernel
theorem dX7_writeChoice_52 : decode cX7_writeChoice 52 = .ok (.iload_n 2, 1) := by decide +kernel
theorem dX7_writeChoice_53 : decode cX7_writeChoice 53 = .ok (.iaload, 1) := by decide +kernel
theorem dX7_writeChoice_54 : decode cX7_writeChoice 54 = .ok (.iaload, 1) := by decide +kernel
theorem dX7_writeChoice_55 : decode cX7_writeChoice 55 = .ok (.ifCond .le 38, 3) := by decide +kernel
theorem dX7_writeChoice_58 : decode cX7_writeChoice 58 = .ok (.aload_n 0, 1) := by decide +kernel
theorem dX7_writeChoice_59 : decode cX7_writeChoice 59 = .ok (.invokevirtual 380, 3) := by decide +kernel
theorem dX7_writeChoice_62 : decode cX7_writeChoice 62 = .ok (.aload_n 0, 1) := by decide +kernel
theorem dX7_writeChoice_63 : decode cX7_writeChoice 63 = .ok (.aload_n 0, 1) := by decide +kernel
theorem dX7_writeChoice_64 : decode cX7_writeChoice 64 = .ok (.getfield 55, 3) := by decide +kernel
theorem dX7_writeChoice_67 : decode cX7_writeChoice 67 = .ok (.aload_n 0, 1) := by decide +kernel
theorem dX7_writeChoice_68 : decode cX7_writeChoice 68 = .ok (.getfield 49, 3) := by decide +kernel
theorem dX7_writeChoice_71 : decode cX7_writeChoice 71 = .ok (.iload_n 2, 1) := by decide +kernel
theorem dX7_writeChoice_72 : decode cX7_writeChoice 72 = .ok (.iaload, 1) := by decide +kernel
theorem dX7_writeChoice_73 : decode cX7_writeChoice 73 = .ok (.iaload, 1) := by decide +kernel
theorem dX7_writeChoice_74 : decode cX7_writeChoice 74 = .ok (.invokevirtual 377, 3) := by decide +kernel
theorem dX7_writeChoice_77 : decode cX7_writeChoice 77 = .ok (.aload_n 0, 1) := by decide +kernel
theorem dX7_writeChoice_78 : decode cX7_writeChoice 78 = .ok (.bipush 120, 2) := by decide +kernel
theorem dX7_writeChoice_80 : decode cX7_writeChoice 80 = .ok (.invokevirtual 374, 3) := by decide +kernel
theorem dX7_writeChoice_83 : decode cX7_writeChoice 83 = .ok (.aload_n 0, 1) := by decide +kernel
theorem dX7_writeChoice_84 : decode cX7_writeChoice 84 = .ok (.aload_n 0, 1) := by decide +kernel
theorem dX7_writeChoice_85 : decode cX7_writeChoice 85 = .ok (.getfield 49, 3) := by decide +kernel
theorem dX7_writeChoice_88 : decode cX7_writeChoice 88 = .ok (.iload_n 2, 1) := by decide +kernel
theorem dX7_writeChoice_89 : decode cX7_writeChoice 89 = .ok (.iaload, 1) := by decide +kernel
theorem dX7_writeChoice_90 : decode cX7_writeChoice 90 = .ok (.invokevirtual 383, 3) := by decide +kernel
theorem dX7_writeChoice_93 : decode cX7_writeChoice 93 = .ok (.iinc 2 1, 3) := by decide +kernel
theorem dX7_writeChoice_96 : decode cX7_writeChoice 96 = .ok (.goto (-60), 3) := by decide +kernel
theorem dX7_writeChoice_99 : decode cX7_writeChoice 99 = .ok (.aload_n 0, 1) := by decide +kernel
theorem dX7_writeChoice_100 : decode cX7_writeChoice 100 = .ok (.aload_n 0, 1) := by decide +kernel
theorem dX7_writeChoice_101 : decode cX7_writeChoice 101 = .ok (.getfield 298, 3) := by decide +kernel
theorem dX7_writeChoice_104 : decode cX7_writeChoice 104 = .ok (.invokevirtual 386, 3) := by decide +kernel
theorem dX7_writeChoice_107 : decode cX7_writeChoice 107 = .ok (.aload_n 0, 1) := by decide +kernel
theorem dX7_writeChoice_108 : decode cX7_writeChoice 108 = .ok (.getfield 371, 3) := by decide +kernel
theorem dX7_writeChoice_111 : decode cX7_writeChoice 111 = .ok (.ireturn, 1) := by decide +kernel
theorem dX7_writeStock_0 : decode cX7_writeStock 0 = .ok (.aload_n 0, 1) := by decide +kernel
theorem dX7_writeStock_1 : decode cX7_writeStock 1 = .ok (.invokevirtual 320, 3) := by decide +kernel
theorem dX7_writeStock_4 : decode cX7_writeStock 4 = .ok (.ifCond .eq 5, 3) := by decide +kernel
theorem dX7_writeStock_7 : decode cX7_writeStock 7 = .ok (.iconst 0, 1) := by decide +kernel
theorem dX7_writeStock_8 : decode cX7_writeStock 8 = .ok (.ireturn, 1) := by decide +kernel
theorem dX7_writeStock_9 : decode cX7_writeStock 9 = .ok (.aload_n 0, 1) := by decide +kernel
theorem dX7_writeStock_10 : decode cX7_writeStock 10 = .ok (.iconst 0, 1) := by decide +kernel
theorem dX7_writeStock_11 : decode cX7_writeStock 11 = .ok (.putfield 371, 3) := by decide +kernel
theorem dX7_writeStock_14 : decode cX7_writeStock 14 = .ok (.iconst 0, 1) := by decide +kernel
theorem dX7_writeStock_15 : decode cX7_writeStock 15 = .ok (.istore_n 1, 1) := by decide +kernel
theorem dX7_writeStock_16 : decode cX7_writeStock 16 = .ok (.iload_n 1, 1) := by decide +kernel
theorem dX7_writeStock_17 : decode cX7_writeStock 17 = .ok (.aload_n 0, 1) := by decide +kernel
theorem dX7_writeStock_18 : decode cX7_writeStock 18 = .ok (.getfield 172, 3) := by decide +kernel
theorem dX7_writeStock_21 : decode cX7_writeStock 21 = .ok (.if_icmp .ge 43, 3) := by decide +kernel
theorem dX7_writeStock_24 : decode cX7_writeStock 24 = .ok (.iload_n 1, 1) := by decide +kernel
theorem dX7_writeStock_25 : decode cX7_writeStock 25 = .ok (.ifCond .le 9, 3) := by decide +kernel
theorem dX7_writeStock_28 : decode cX7_writeStock 28 = .ok (.aload_n 0, 1) := by decide +kernel
theorem dX7_writeStock_29 : decode cX7_writeStock 29 = .ok (.bipush 44, 2) := by decide +kernel
theorem dX7_writeStock_31 : decode cX7_writeStock 31 = .ok (.invokevirtual 374, 3) := by decide +kernel
theorem dX7_writeStock_34 : decode cX7_writeStock 34 = .ok (.aload_n 0, 1) := by decide +kernel
theorem dX7_writeStock_35 : decode cX7_writeStock 35 = .ok (.iload_n 1, 1) := by decide +kernel
theorem dX7_writeStock_36 : decode cX7_writeStock 36 = .ok (.invokevirtual 383, 3) := by decide +kernel
theorem dX7_writeStock_39 : decode cX7_writeStock 39 = .ok (.aload_n 0, 1) := by decide +kernel
theorem dX7_writeStock_40 : decode cX7_writeStock 40 = .ok (.bipush 58, 2) := by decide +kernel
theorem dX7_writeStock_42 : decode cX7_writeStock 42 = .ok (.invokevirtual 374, 3) := by decide +kernel
theorem dX7_writeStock_45 : decode cX7_writeStock 45 = .ok (.aload_n 0, 1) := by decide +kernel
theorem dX7_writeStock_46 : decode cX7_writeStock 46 = .ok (.aload_n 0, 1) := by decide +kernel
theorem dX7_writeStock_47 : decode cX7_writeStock 47 = .ok (.getfield 17, 3) := by decide +kernel
theorem dX7_writeStock_50 : decode cX7_writeStock 50 = .ok (.bipush 6, 2) := by decide +kernel
theorem dX7_writeStock_52 : decode cX7_writeStock 52 = .ok (.iload_n 1, 1) := by decide +kernel
theorem dX7_writeStock_53 : decode cX7_writeStock 53 = .ok (.iadd, 1) := by decide +kernel
theorem dX7_writeStock_54 : decode cX7_writeStock 54 = .ok (.iaload, 1) := by decide +kernel
theorem dX7_writeStock_55 : decode cX7_writeStock 55 = .ok (.invokevirtual 377, 3) := by decide +kernel
theorem dX7_writeStock_58 : decode cX7_writeStock 58 = .ok (.iinc 1 1, 3) := by decide +kernel
theorem dX7_writeStock_61 : decode cX7_writeStock 61 = .ok (.goto (-45), 3) := by decide +kernel
theorem dX7_writeStock_64 : decode cX7_writeStock 64 = .ok (.aload_n 0, 1) := by decide +kernel
theorem dX7_writeStock_65 : decode cX7_writeStock 65 = .ok (.getfield 371, 3) := by decide +kernel
theorem dX7_writeStock_68 : decode cX7_writeStock 68 = .ok (.ireturn, 1) := by decide +kernel
theorem dX7_textByte_0 : decode cX7_textByte 0 = .ok (.aload_n 0, 1) := by decide +kernel
theorem dX7_textByte_1 : decode cX7_textByte 1 = .ok (.iconst 0, 1) := by decide +kernel
theorem dX7_textByte_2 : decode cX7_textByte 2 = .ok (.putfield 67, 3) := by decide +kernel
theorem dX7_textByte_5 : decode cX7_textByte 5 = .ok (.aload_n 0, 1) := by decide +kernel
theorem dX7_textByte_6 : decode cX7_textByte 6 = .ok (.iload_n 1, 1) := by decide +kernel
theorem dX7_textByte_7 : decode cX7_textByte 7 = .ok (.iconst 0, 1) := by decide +kernel
theorem dX7_textByte_8 : decode cX7_textByte 8 = .ok (.aload_n 0, 1) := by decide +kernel
theorem dX7_textByte_9 : decode cX7_textByte 9 = .ok (.getfield 371, 3) := by decide +kernel
theorem dX7_textByte_12 : decode cX7_textByte 12 = .ok (.iconst 1, 1) := by decide +kernel
theorem dX7_textByte_13 : decode cX7_textByte 13 = .ok (.isub, 1) := by decide +kernel
theorem dX7_textByte_14 : decode cX7_textByte 14 = .ok (.invokestatic 143, 3) := by decide +kernel
theorem dX7_textByte_17 : decode cX7_textByte 17 = .ok (.ifCond .ne 7, 3) := by decide +kernel
theorem dX7_textByte_20 : decode cX7_textByte 20 = .ok (.iconst 1, 1) := by decide +kernel
theorem dX7_textByte_21 : decode cX7_textByte 21 = .ok (.goto 4, 3) := by decide +kernel
theorem dX7_textByte_24 : decode cX7_textByte 24 = .ok (.iconst 0, 1) := by decide +kernel
theorem dX7_textByte_25 : decode cX7_textByte 25 = .ok (.iconst 1, 1) := by decide +kernel
theorem dX7_textByte_26 : decode cX7_textByte 26 = .ok (.invokevirtual 74, 3) := by decide +kernel
theorem dX7_textByte_29 : decode cX7_textByte 29 = .ok (.ifCond .eq 7, 3) := by decide +kernel
theorem dX7_textByte_32 : decode cX7_textByte 32 = .ok (.iconst 0, 1) := by decide +kernel
theorem dX7_textByte_33 : decode cX7_textByte 33 = .ok (.goto 9, 3) := by decide +kernel
theorem dX7_textByte_36 : decode cX7_textByte 36 = .ok (.aload_n 0, 1) := by decide +kernel
theorem dX7_textByte_37 : decode cX7_textByte 37 = .ok (.getfield 64, 3) := by decide +kernel
theorem dX7_textByte_40 : decode cX7_textByte 40 = .ok (.iload_n 1, 1) := by decide +kernel
theorem dX7_textByte_41 : decode cX7_textByte 41 = .ok (.iaload, 1) := by decide +kernel
theorem dX7_textByte_42 : decode cX7_textByte 42 = .ok (.ireturn, 1) := by decide +kernel
theorem dX7_keeps_0 : decode cX7_keeps 0 = .ok (.iconst 0, 1) := by decide +kernel
theorem dX7_keeps_1 : decode cX7_keeps 1 = .ok (.istore_n 2, 1) := by decide +kernel
theorem dX7_keeps_2 : decode cX7_keeps 2 = .ok (.iload_n 2, 1) := by decide +kernel
theorem dX7_keeps_3 : decode cX7_keeps 3 = .ok (.sipush 4112, 3) := by decide +kernel
theorem dX7_keeps_6 : decode cX7_keeps 6 = .ok (.if_icmp .ge 27, 3) := by decide +kernel
theorem dX7_keeps_9 : decode cX7_keeps 9 = .ok (.aload_n 0, 1) := by decide +kernel
theorem dX7_keeps_10 : decode cX7_keeps 10 = .ok (.getfield 24, 3) := by decide +kernel
theorem dX7_keeps_13 : decode cX7_keeps 13 = .ok (.sipush 4112, 3) := by decide +kernel
theorem dX7_keeps_16 : decode cX7_keeps 16 = .ok (.iload_n 1, 1) := by decide +kernel
theorem dX7_keeps_17 : decode cX7_keeps 17 = .ok (.imul, 1) := by decide +kernel
theorem dX7_keeps_18 : decode cX7_keeps 18 = .ok (.iload_n 2, 1) := by decide +kernel
theorem dX7_keeps_19 : decode cX7_keeps 19 = .ok (.iadd, 1) := by decide +kernel
theorem dX7_keeps_20 : decode cX7_keeps 20 = .ok (.aload_n 0, 1) := by decide +kernel
theorem dX7_keeps_21 : decode cX7_keeps 21 = .ok (.getfield 17, 3) := by decide +kernel
theorem dX7_keeps_24 : decode cX7_keeps 24 = .ok (.iload_n 2, 1) := by decide +kernel
theorem dX7_keeps_25 : decode cX7_keeps 25 = .ok (.iaload, 1) := by decide +kernel
theorem dX7_keeps_26 : decode cX7_keeps 26 = .ok (.iastore, 1) := by decide +kernel
theorem dX7_keeps_27 : decode cX7_keeps 27 = .ok (.iinc 2 1, 3) := by decide +kernel
theorem dX7_keeps_30 : decode cX7_keeps 30 = .ok (.goto (-28), 3) := by decide +kernel
theorem dX7_keeps_33 : decode cX7_keeps 33 = .ok (.return_, 1) := by decide +kernel
theorem dX7_fetches_0 : decode cX7_fetches 0 = .ok (.iconst 0, 1) := by decide +kernel
theorem dX7_fetches_1 : decode cX7_fetches 1 = .ok (.istore_n 2, 1) := by decide +kernel
theorem dX7_fetches_2 : decode cX7_fetches 2 = .ok (.iload_n 2, 1) := by decide +kernel
theorem dX7_fetches_3 : decode cX7_fetches 3 = .ok (.sipush 4112, 3) := by decide +kernel
theorem dX7_fetches_6 : decode cX7_fetches 6 = .ok (.if_icmp .ge 27, 3) := by decide +kernel
theorem dX7_fetches_9 : decode cX7_fetches 9 = .ok (.aload_n 0, 1) := by decide +kernel
theorem dX7_fetches_10 : decode cX7_fetches 10 = .ok (.getfield 17, 3) := by decide +kernel
theorem dX7_fetches_13 : decode cX7_fetches 13 = .ok (.iload_n 2, 1) := by decide +kernel
theorem dX7_fetches_14 : decode cX7_fetches 14 = .ok (.aload_n 0, 1) := by decide +kernel
theorem dX7_fetches_15 : decode cX7_fetches 15 = .ok (.getfield 24, 3) := by decide +kernel
theorem dX7_fetches_18 : decode cX7_fetches 18 = .ok (.sipush 4112, 3) := by decide +kernel
theorem dX7_fetches_21 : decode cX7_fetches 21 = .ok (.iload_n 1, 1) := by decide +kernel
theorem dX7_fetches_22 : decode cX7_fetches 22 = .ok (.imul, 1) := by decide +kernel
theorem dX7_fetches_23 : decode cX7_fetches 23 = .ok (.iload_n 2, 1) := by decide +kernel
theorem dX7_fetches_24 : decode cX7_fetches 24 = .ok (.iadd, 1) := by decide +kernel
theorem dX7_fetches_25 : decode cX7_fetches 25 = .ok (.iaload, 1) := by decide +kernel
theorem dX7_fetches_26 : decode cX7_fetches 26 = .ok (.iastore, 1) := by decide +kernel
theorem dX7_fetches_27 : decode cX7_fetches 27 = .ok (.iinc 2 1, 3) := by decide +kernel
theorem dX7_fetches_30 : decode cX7_fetches 30 = .ok (.goto (-28), 3) := by decide +kernel
theorem dX7_fetches_33 : decode cX7_fetches 33 = .ok (.return_, 1) := by decide +kernel
theorem dX7_keepsAll_0 : decode cX7_keepsAll 0 = .ok (.aload_n 0, 1) := by decide +kernel
theorem dX7_keepsAll_1 : decode cX7_keepsAll 1 = .ok (.getfield 235, 3) := by decide +kernel
theorem dX7_keepsAll_4 : decode cX7_keepsAll 4 = .ok (.bipush 8, 2) := by decide +kernel
theorem dX7_keepsAll_6 : decode cX7_keepsAll 6 = .ok (.if_icmp .ne 44, 3) := by decide +kernel
theorem dX7_keepsAll_9 : decode cX7_keepsAll 9 = .ok (.iconst 0, 1) := by decide +kernel
theorem dX7_keepsAll_10 : decode cX7_keepsAll 10 = .ok (.istore_n 1, 1) := by decide +kernel
theorem dX7_keepsAll_11 : decode cX7_keepsAll 11 = .ok (.iload_n 1, 1) := by decide +kernel
theorem dX7_keepsAll_12 : decode cX7_keepsAll 12 = .ok (.sipush 28784, 3) := by decide +kernel
theorem dX7_keepsAll_15 : decode cX7_keepsAll 15 = .ok (.if_icmp .ge 25, 3) := by decide +kernel
theorem dX7_keepsAll_18 : decode cX7_keepsAll 18 = .ok (.aload_n 0, 1) := by decide +kernel
theorem dX7_keepsAll_19 : decode cX7_keepsAll 19 = .ok (.getfield 24, 3) := by decide +kernel
theorem dX7_keepsAll_22 : decode cX7_keepsAll 22 = .ok (.iload_n 1, 1) := by decide +kernel
theorem dX7_keepsAll_23 : decode cX7_keepsAll 23 = .ok (.aload_n 0, 1) := by decide +kernel
theorem dX7_keepsAll_24 : decode cX7_keepsAll 24 = .ok (.getfield 24, 3) := by decide +kernel
theorem dX7_keepsAll_27 : decode cX7_keepsAll 27 = .ok (.iload_n 1, 1) := by decide +kernel
theorem dX7_keepsAll_28 : decode cX7_keepsAll 28 = .ok (.sipush 4112, 3) := by decide +kernel
theorem dX7_keepsAll_31 : decode cX7_keepsAll 31 = .ok (.iadd, 1) := by decide +kernel
theorem dX7_keepsAll_32 : decode cX7_keepsAll 32 = .ok (.iaload, 1) := by decide +kernel
theorem dX7_keepsAll_33 : decode cX7_keepsAll 33 = .ok (.iastore, 1) := by decide +kernel
theorem dX7_keepsAll_34 : decode cX7_keepsAll 34 = .ok (.iinc 1 1, 3) := by decide +kernel
theorem dX7_keepsAll_37 : decode cX7_keepsAll 37 = .ok (.goto (-26), 3) := by decide +kernel
theorem dX7_keepsAll_40 : decode cX7_keepsAll 40 = .ok (.aload_n 0, 1) := by decide +kernel
theorem dX7_keepsAll_41 : decode cX7_keepsAll 41 = .ok (.dup, 1) := by decide +kernel
theorem dX7_keepsAll_42 : decode cX7_keepsAll 42 = .ok (.getfield 235, 3) := by decide +kernel
theorem dX7_keepsAll_45 : decode cX7_keepsAll 45 = .ok (.iconst 1, 1) := by decide +kernel
theorem dX7_keepsAll_46 : decode cX7_keepsAll 46 = .ok (.isub, 1) := by decide +kernel
theorem dX7_keepsAll_47 : decode cX7_keepsAll 47 = .ok (.putfield 235, 3) := by decide +kernel
theorem dX7_keepsAll_50 : decode cX7_keepsAll 50 = .ok (.aload_n 0, 1) := by decide +kernel
theorem dX7_keepsAll_51 : decode cX7_keepsAll 51 = .ok (.iconst 0, 1) := by decide +kernel
theorem dX7_keepsAll_52 : decode cX7_keepsAll 52 = .ok (.aload_n 0, 1) := by decide +kernel
theorem dX7_keepsAll_53 : decode cX7_keepsAll 53 = .ok (.getfield 235, 3) := by decide +kernel
theorem dX7_keepsAll_56 : decode cX7_keepsAll 56 = .ok (.iadd, 1) := by decide +kernel
theorem dX7_keepsAll_57 : decode cX7_keepsAll 57 = .ok (.invokevirtual 389, 3) := by decide +kernel
theorem dX7_keepsAll_60 : decode cX7_keepsAll 60 = .ok (.aload_n 0, 1) := by decide +kernel
theorem dX7_keepsAll_61 : decode cX7_keepsAll 61 = .ok (.dup, 1) := by decide +kernel
theorem dX7_keepsAll_62 : decode cX7_keepsAll 62 = .ok (.getfield 235, 3) := by decide +kernel
theorem dX7_keepsAll_65 : decode cX7_keepsAll 65 = .ok (.iconst 1, 1) := by decide +kernel
theorem dX7_keepsAll_66 : decode cX7_keepsAll 66 = .ok (.iadd, 1) := by decide +kernel
theorem dX7_keepsAll_67 : decode cX7_keepsAll 67 = .ok (.putfield 235, 3) := by decide +kernel
theorem dX7_keepsAll_70 : decode cX7_keepsAll 70 = .ok (.return_, 1) := by decide +kernel
theorem dX7_place_0 : decode cX7_place 0 = .ok (.aload_n 0, 1) := by decide +kernel
theorem dX7_place_1 : decode cX7_place 1 = .ok (.iload_n 1, 1) := by decide +kernel
theorem dX7_place_2 : decode cX7_place 2 = .ok (.invokevirtual 335, 3) := by decide +kernel
theorem dX7_place_5 : decode cX7_place 5 = .ok (.ifCond .ne 47, 3) := by decide +kernel
theorem dX7_place_8 : decode cX7_place 8 = .ok (.aload_n 0, 1) := by decide +kernel
theorem dX7_place_9 : decode cX7_place 9 = .ok (.iload_n 2, 1) := by decide +kernel
theorem dX7_place_10 : decode cX7_place 10 = .ok (.iconst 1, 1) := by decide +kernel
theorem dX7_place_11 : decode cX7_place 11 = .ok (.sipush 200, 3) := by decide +kernel
theorem dX7_place_14 : decode cX7_place 14 = .ok (.invokestatic 143, 3) := by decide +kernel
theorem dX7_place_17 : decode cX7_place 17 = .ok (.ifCond .eq 23, 3) := by decide +kernel
theorem dX7_place_20 : decode cX7_place 20 = .ok (.aload_n 0, 1) := by decide +kernel
theorem dX7_place_21 : decode cX7_place 21 = .ok (.iload_n 1, 1) := by decide +kernel
theorem dX7_place_22 : decode cX7_place 22 = .ok (.iconst 0, 1) := by decide +kernel
theorem dX7_place_23 : decode cX7_place 23 = .ok (.invokevirtual 189, 3) := by decide +kernel
theorem dX7_place_26 : decode cX7_place 26 = .ok (.bipush 6, 2) := by decide +kernel
theorem dX7_place_28 : decode cX7_place 28 = .ok (.if_icmp .eq 12, 3) := by decide +kernel
theorem dX7_place_31 : decode cX7_place 31 = .ok (.aload_n 0, 1) := by decide +kernel
theorem dX7_place_32 : decode cX7_place 32 = .ok (.iload_n 1, 1) := by decide +kernel
theorem dX7_place_33 : decode cX7_place 33 = .ok (.invokevirtual 192, 3) := by decide +kernel
theorem dX7_place_36 : decode cX7_place 36 = .ok (.iload_n 2, 1) := by decide +kernel
theorem dX7_place_37 : decode cX7_place 37 = .ok (.if_icmp .ge 7, 3) := by decide +kernel
theorem dX7_place_40 : decode cX7_place 40 = .ok (.iconst 1, 1) := by decide +kernel
theorem dX7_place_41 : decode cX7_place 41 = .ok (.goto 4, 3) := by decide +kernel
theorem dX7_place_44 : decode cX7_place 44 = .ok (.iconst 0, 1) := by decide +kernel
theorem dX7_place_45 : decode cX7_place 45 = .ok (.iconst 3, 1) := by decide +kernel
theorem dX7_place_46 : decode cX7_place 46 = .ok (.invokevirtual 74, 3) := by decide +kernel
theorem dX7_place_49 : decode cX7_place 49 = .ok (.ifCond .eq 5, 3) := by decide +kernel
theorem dX7_place_52 : decode cX7_place 52 = .ok (.iconst 0, 1) := by decide +kernel
theorem dX7_place_53 : decode cX7_place 53 = .ok (.ireturn, 1) := by decide +kernel
theorem dX7_place_54 : decode cX7_place 54 = .ok (.aload_n 0, 1) := by decide +kernel
theorem dX7_place_55 : decode cX7_place 55 = .ok (.invokevirtual 392, 3) := by decide +kernel
theorem dX7_place_58 : decode cX7_place 58 = .ok (.aload_n 0, 1) := by decide +kernel
theorem dX7_place_59 : decode cX7_place 59 = .ok (.iload_n 1, 1) := by decide +kernel
theorem dX7_place_60 : decode cX7_place 60 = .ok (.iload_n 2, 1) := by decide +kernel
theorem dX7_place_61 : decode cX7_place 61 = .ok (.invokevirtual 195, 3) := by decide +kernel
theorem dX7_place_64 : decode cX7_place 64 = .ok (.aload_n 0, 1) := by decide +kernel
theorem dX7_place_65 : decode cX7_place 65 = .ok (.iload_n 1, 1) := by decide +kernel
theorem dX7_place_66 : decode cX7_place 66 = .ok (.invokevirtual 192, 3) := by decide +kernel
theorem dX7_place_69 : decode cX7_place 69 = .ok (.ireturn, 1) := by decide +kernel
theorem dX7_lift_0 : decode cX7_lift 0 = .ok (.aload_n 0, 1) := by decide +kernel
theorem dX7_lift_1 : decode cX7_lift 1 = .ok (.iload_n 1, 1) := by decide +kernel
theorem dX7_lift_2 : decode cX7_lift 2 = .ok (.invokevirtual 335, 3) := by decide +kernel
theorem dX7_lift_5 : decode cX7_lift 5 = .ok (.ifCond .ne 32, 3) := by decide +kernel
theorem dX7_lift_8 : decode cX7_lift 8 = .ok (.aload_n 0, 1) := by decide +kernel
theorem dX7_lift_9 : decode cX7_lift 9 = .ok (.iload_n 2, 1) := by decide +kernel
theorem dX7_lift_10 : decode cX7_lift 10 = .ok (.iconst 0, 1) := by decide +kernel
theorem dX7_lift_11 : decode cX7_lift 11 = .ok (.aload_n 0, 1) := by decide +kernel
theorem dX7_lift_12 : decode cX7_lift 12 = .ok (.iload_n 1, 1) := by decide +kernel
theorem dX7_lift_13 : decode cX7_lift 13 = .ok (.iconst 0, 1) := by decide +kernel
theorem dX7_lift_14 : decode cX7_lift 14 = .ok (.invokevirtual 189, 3) := by decide +kernel
theorem dX7_lift_17 : decode cX7_lift 17 = .ok (.iconst 1, 1) := by decide +kernel
theorem dX7_lift_18 : decode cX7_lift 18 = .ok (.isub, 1) := by decide +kernel
theorem dX7_lift_19 : decode cX7_lift 19 = .ok (.invokestatic 143, 3) := by decide +kernel
theorem dX7_lift_22 : decode cX7_lift 22 = .ok (.ifCond .ne 7, 3) := by decide +kernel
theorem dX7_lift_25 : decode cX7_lift 25 = .ok (.iconst 1, 1) := by decide +kernel
theorem dX7_lift_26 : decode cX7_lift 26 = .ok (.goto 4, 3) := by decide +kernel
theorem dX7_lift_29 : decode cX7_lift 29 = .ok (.iconst 0, 1) := by decide +kernel
theorem dX7_lift_30 : decode cX7_lift 30 = .ok (.iconst 2, 1) := by decide +kernel
theorem dX7_lift_31 : decode cX7_lift 31 = .ok (.invokevirtual 74, 3) := by decide +kernel
theorem dX7_lift_34 : decode cX7_lift 34 = .ok (.ifCond .eq 5, 3) := by decide +kernel
theorem dX7_lift_37 : decode cX7_lift 37 = .ok (.iconst 0, 1) := by decide +kernel
theorem dX7_lift_38 : decode cX7_lift 38 = .ok (.ireturn, 1) := by decide +kernel
theorem dX7_lift_39 : decode cX7_lift 39 = .ok (.aload_n 0, 1) := by decide +kernel
theorem dX7_lift_40 : decode cX7_lift 40 = .ok (.invokevirtual 392, 3) := by decide +kernel
theorem dX7_lift_43 : decode cX7_lift 43 = .ok (.aload_n 0, 1) := by decide +kernel
theorem dX7_lift_44 : decode cX7_lift 44 = .ok (.iload_n 1, 1) := by decide +kernel
theorem dX7_lift_45 : decode cX7_lift 45 = .ok (.iconst 5, 1) := by decide +kernel
theorem dX7_lift_46 : decode cX7_lift 46 = .ok (.iload_n 2, 1) := by decide +kernel
theorem dX7_lift_47 : decode cX7_lift 47 = .ok (.iadd, 1) := by decide +kernel
theorem dX7_lift_48 : decode cX7_lift 48 = .ok (.invokevirtual 189, 3) := by decide +kernel
theorem dX7_lift_51 : decode cX7_lift 51 = .ok (.istore_n 3, 1) := by decide +kernel
theorem dX7_lift_52 : decode cX7_lift 52 = .ok (.iload_n 2, 1) := by decide +kernel
theorem dX7_lift_53 : decode cX7_lift 53 = .ok (.istore 4, 2) := by decide +kernel
theorem dX7_lift_55 : decode cX7_lift 55 = .ok (.iload 4, 2) := by decide +kernel
theorem dX7_lift_57 : decode cX7_lift 57 = .ok (.aload_n 0, 1) := by decide +kernel
theorem dX7_lift_58 : decode cX7_lift 58 = .ok (.iload_n 1, 1) := by decide +kernel
theorem dX7_lift_59 : decode cX7_lift 59 = .ok (.iconst 0, 1) := by decide +kernel
theorem dX7_lift_60 : decode cX7_lift 60 = .ok (.invokevirtual 189, 3) := by decide +kernel
theorem dX7_lift_63 : decode cX7_lift 63 = .ok (.iconst 1, 1) := by decide +kernel
theorem dX7_lift_64 : decode cX7_lift 64 = .ok (.isub, 1) := by decide +kernel
theorem dX7_lift_65 : decode cX7_lift 65 = .ok (.if_icmp .ge 29, 3) := by decide +kernel
theorem dX7_lift_68 : decode cX7_lift 68 = .ok (.aload_n 0, 1) := by decide +kernel
theorem dX7_lift_69 : decode cX7_lift 69 = .ok (.iload_n 1, 1) := by decide +kernel
theorem dX7_lift_70 : decode cX7_lift 70 = .ok (.iconst 5, 1) := by decide +kernel
theorem dX7_lift_71 : decode cX7_lift 71 = .ok (.iload 4, 2) := by decide +kernel
theorem dX7_lift_73 : decode cX7_lift 73 = .ok (.iadd, 1) := by decide +kernel
theorem dX7_lift_74 : decode cX7_lift 74 = .ok (.aload_n 0, 1) := by decide +kernel
theorem dX7_lift_75 : decode cX7_lift 75 = .ok (.iload_n 1, 1) := by decide +kernel
theorem dX7_lift_76 : decode cX7_lift 76 = .ok (.iconst 5, 1) := by decide +kernel
theorem dX7_lift_77 : decode cX7_lift 77 = .ok (.iload 4, 2) := by decide +kernel
theorem dX7_lift_79 : decode cX7_lift 79 = .ok (.iadd, 1) := by decide +kernel
theorem dX7_lift_80 : decode cX7_lift 80 = .ok (.iconst 1, 1) := by decide +kernel
theorem dX7_lift_81 : decode cX7_lift 81 = .ok (.iadd, 1) := by decide +kernel
theorem dX7_lift_82 : decode cX7_lift 82 = .ok (.invokevirtual 189, 3) := by decide +kernel
theorem dX7_lift_85 : decode cX7_lift 85 = .ok (.invokevirtual 178, 3) := by decide +kernel
theorem dX7_lift_88 : decode cX7_lift 88 = .ok (.iinc 4 1, 3) := by decide +kernel
theorem dX7_lift_91 : decode cX7_lift 91 = .ok (.goto (-36), 3) := by decide +kernel
theorem dX7_lift_94 : decode cX7_lift 94 = .ok (.aload_n 0, 1) := by decide +kernel
theorem dX7_lift_95 : decode cX7_lift 95 = .ok (.iload_n 1, 1) := by decide +kernel
theorem dX7_lift_96 : decode cX7_lift 96 = .ok (.iconst 0, 1) := by decide +kernel
theorem dX7_lift_97 : decode cX7_lift 97 = .ok (.aload_n 0, 1) := by decide +kernel
theorem dX7_lift_98 : decode cX7_lift 98 = .ok (.iload_n 1, 1) := by decide +kernel
theorem dX7_lift_99 : decode cX7_lift 99 = .ok (.iconst 0, 1) := by decide +kernel
theorem dX7_lift_100 : decode cX7_lift 100 = .ok (.invokevirtual 189, 3) := by decide +kernel
theorem dX7_lift_103 : decode cX7_lift 103 = .ok (.iconst 1, 1) := by decide +kernel
theorem dX7_lift_104 : decode cX7_lift 104 = .ok (.isub, 1) := by decide +kernel
theorem dX7_lift_105 : decode cX7_lift 105 = .ok (.invokevirtual 178, 3) := by decide +kernel
theorem dX7_lift_108 : decode cX7_lift 108 = .ok (.iload_n 3, 1) := by decide +kernel
theorem dX7_lift_109 : decode cX7_lift 109 = .ok (.ireturn, 1) := by decide +kernel
theorem dX7_put_0 : decode cX7_put 0 = .ok (.aload_n 0, 1) := by decide +kernel
theorem dX7_put_1 : decode cX7_put 1 = .ok (.iload_n 1, 1) := by decide +kernel
theorem dX7_put_2 : decode cX7_put 2 = .ok (.invokevirtual 335, 3) := by decide +kernel
theorem dX7_put_5 : decode cX7_put 5 = .ok (.ifCond .ne 63, 3) := by decide +kernel
theorem dX7_put_8 : decode cX7_put 8 = .ok (.aload_n 0, 1) := by decide +kernel
theorem dX7_put_9 : decode cX7_put 9 = .ok (.aload_n 0, 1) := by decide +kernel
theorem dX7_put_10 : decode cX7_put 10 = .ok (.iload_n 2, 1) := by decide +kernel
theorem dX7_put_11 : decode cX7_put 11 = .ok (.invokevirtual 338, 3) := by decide +kernel
theorem dX7_put_14 : decode cX7_put 14 = .ok (.ifCond .ne 7, 3) := by decide +kernel
theorem dX7_put_17 : decode cX7_put 17 = .ok (.iconst 1, 1) := by decide +kernel
theorem dX7_put_18 : decode cX7_put 18 = .ok (.goto 4, 3) := by decide +kernel
theorem dX7_put_21 : decode cX7_put 21 = .ok (.iconst 0, 1) := by decide +kernel
theorem dX7_put_22 : decode cX7_put 22 = .ok (.iconst 2, 1) := by decide +kernel
theorem dX7_put_23 : decode cX7_put 23 = .ok (.invokevirtual 74, 3) := by decide +kernel
theorem dX7_put_26 : decode cX7_put 26 = .ok (.ifCond .ne 42, 3) := by decide +kernel
theorem dX7_put_29 : decode cX7_put 29 = .ok (.aload_n 0, 1) := by decide +kernel
theorem dX7_put_30 : decode cX7_put 30 = .ok (.aload_n 0, 1) := by decide +kernel
theorem dX7_put_31 : decode cX7_put 31 = .ok (.getfield 17, 3) := by decide +kernel
theorem dX7_put_34 : decode cX7_put 34 = .ok (.bipush 6, 2) := by decide +kernel
theorem dX7_put_36 : decode cX7_put 36 = .ok (.iload_n 2, 1) := by decide +kernel
theorem dX7_put_37 : decode cX7_put 37 = .ok (.iadd, 1) := by decide +kernel
theorem dX7_put_38 : decode cX7_put 38 = .ok (.iaload, 1) := by decide +kernel
theorem dX7_put_39 : decode cX7_put 39 = .ok (.ifCond .eq 17, 3) := by decide +kernel
theorem dX7_put_42 : decode cX7_put 42 = .ok (.aload_n 0, 1) := by decide +kernel
theorem dX7_put_43 : decode cX7_put 43 = .ok (.iload_n 1, 1) := by decide +kernel
theorem dX7_put_44 : decode cX7_put 44 = .ok (.invokevirtual 192, 3) := by decide +kernel
theorem dX7_put_47 : decode cX7_put 47 = .ok (.aload_n 0, 1) := by decide +kernel
theorem dX7_put_48 : decode cX7_put 48 = .ok (.getfield 13, 3) := by decide +kernel
theorem dX7_put_51 : decode cX7_put 51 = .ok (.iload_n 2, 1) := by decide +kernel
theorem dX7_put_52 : decode cX7_put 52 = .ok (.iaload, 1) := by decide +kernel
theorem dX7_put_53 : decode cX7_put 53 = .ok (.if_icmp .ge 7, 3) := by decide +kernel
theorem dX7_put_56 : decode cX7_put 56 = .ok (.iconst 1, 1) := by decide +kernel
theorem dX7_put_57 : decode cX7_put 57 = .ok (.goto 4, 3) := by decide +kernel
theorem dX7_put_60 : decode cX7_put 60 = .ok (.iconst 0, 1) := by decide +kernel
theorem dX7_put_61 : decode cX7_put 61 = .ok (.iconst 3, 1) := by decide +kernel
theorem dX7_put_62 : decode cX7_put 62 = .ok (.invokevirtual 74, 3) := by decide +kernel
theorem dX7_put_65 : decode cX7_put 65 = .ok (.ifCond .eq 5, 3) := by decide +kernel
theorem dX7_put_68 : decode cX7_put 68 = .ok (.iconst 0, 1) := by decide +kernel
theorem dX7_put_69 : decode cX7_put 69 = .ok (.ireturn, 1) := by decide +kernel
theorem dX7_put_70 : decode cX7_put 70 = .ok (.aload_n 0, 1) := by decide +kernel
theorem dX7_put_71 : decode cX7_put 71 = .ok (.invokevirtual 392, 3) := by decide +kernel
theorem dX7_put_74 : decode cX7_put 74 = .ok (.aload_n 0, 1) := by decide +kernel
theorem dX7_put_75 : decode cX7_put 75 = .ok (.iload_n 1, 1) := by decide +kernel
theorem dX7_put_76 : decode cX7_put 76 = .ok (.iload_n 2, 1) := by decide +kernel
theorem dX7_put_77 : decode cX7_put 77 = .ok (.invokevirtual 314, 3) := by decide +kernel
theorem dX7_put_80 : decode cX7_put 80 = .ok (.aload_n 0, 1) := by decide +kernel
theorem dX7_put_81 : decode cX7_put 81 = .ok (.iload_n 1, 1) := by decide +kernel
theorem dX7_put_82 : decode cX7_put 82 = .ok (.invokevirtual 192, 3) := by decide +kernel
theorem dX7_put_85 : decode cX7_put 85 = .ok (.ireturn, 1) := by decide +kernel
theorem dX7_take_0 : decode cX7_take 0 = .ok (.aload_n 0, 1) := by decide +kernel
theorem dX7_take_1 : decode cX7_take 1 = .ok (.iload_n 1, 1) := by decide +kernel
theorem dX7_take_2 : decode cX7_take 2 = .ok (.invokevirtual 335, 3) := by decide +kernel
theorem dX7_take_5 : decode cX7_take 5 = .ok (.ifCond .ne 32, 3) := by decide +kernel
theorem dX7_take_8 : decode cX7_take 8 = .ok (.aload_n 0, 1) := by decide +kernel
theorem dX7_take_9 : decode cX7_take 9 = .ok (.iload_n 2, 1) := by decide +kernel
theorem dX7_take_10 : decode cX7_take 10 = .ok (.iconst 0, 1) := by decide +kernel
theorem dX7_take_11 : decode cX7_take 11 = .ok (.aload_n 0, 1) := by decide +kernel
theorem dX7_take_12 : decode cX7_take 12 = .ok (.iload_n 1, 1) := by decide +kernel
theorem dX7_take_13 : decode cX7_take 13 = .ok (.iconst 1, 1) := by decide +kernel
theorem dX7_take_14 : decode cX7_take 14 = .ok (.invokevirtual 189, 3) := by decide +kernel
theorem dX7_take_17 : decode cX7_take 17 = .ok (.iconst 1, 1) := by decide +kernel
theorem dX7_take_18 : decode cX7_take 18 = .ok (.isub, 1) := by decide +kernel
theorem dX7_take_19 : decode cX7_take 19 = .ok (.invokestatic 143, 3) := by decide +kernel
theorem dX7_take_22 : decode cX7_take 22 = .ok (.ifCond .ne 7, 3) := by decide +kernel
theorem dX7_take_25 : decode cX7_take 25 = .ok (.iconst 1, 1) := by decide +kernel
theorem dX7_take_26 : decode cX7_take 26 = .ok (.goto 4, 3) := by decide +kernel
theorem dX7_take_29 : decode cX7_take 29 = .ok (.iconst 0, 1) := by decide +kernel
theorem dX7_take_30 : decode cX7_take 30 = .ok (.iconst 2, 1) := by decide +kernel
theorem dX7_take_31 : decode cX7_take 31 = .ok (.invokevirtual 74, 3) := by decide +kernel
theorem dX7_take_34 : decode cX7_take 34 = .ok (.ifCond .eq 5, 3) := by decide +kernel
theorem dX7_take_37 : decode cX7_take 37 = .ok (.iconst 0, 1) := by decide +kernel
theorem dX7_take_38 : decode cX7_take 38 = .ok (.ireturn, 1) := by decide +kernel
theorem dX7_take_39 : decode cX7_take 39 = .ok (.aload_n 0, 1) := by decide +kernel
theorem dX7_take_40 : decode cX7_take 40 = .ok (.invokevirtual 392, 3) := by decide +kernel
theorem dX7_take_43 : decode cX7_take 43 = .ok (.aload_n 0, 1) := by decide +kernel
theorem dX7_take_44 : decode cX7_take 44 = .ok (.iload_n 1, 1) := by decide +kernel
theorem dX7_take_45 : decode cX7_take 45 = .ok (.bipush 11, 2) := by decide +kernel
theorem dX7_take_47 : decode cX7_take 47 = .ok (.iload_n 2, 1) := by decide +kernel
theorem dX7_take_48 : decode cX7_take 48 = .ok (.iadd, 1) := by decide +kernel
theorem dX7_take_49 : decode cX7_take 49 = .ok (.invokevirtual 189, 3) := by decide +kernel
theorem dX7_take_52 : decode cX7_take 52 = .ok (.istore_n 3, 1) := by decide +kernel
theorem dX7_take_53 : decode cX7_take 53 = .ok (.iload_n 2, 1) := by decide +kernel
theorem dX7_take_54 : decode cX7_take 54 = .ok (.istore 4, 2) := by decide +kernel
theorem dX7_take_56 : decode cX7_take 56 = .ok (.iload 4, 2) := by decide +kernel
theorem dX7_take_58 : decode cX7_take 58 = .ok (.aload_n 0, 1) := by decide +kernel
theorem dX7_take_59 : decode cX7_take 59 = .ok (.iload_n 1, 1) := by decide +kernel
theorem dX7_take_60 : decode cX7_take 60 = .ok (.iconst 1, 1) := by decide +kernel
theorem dX7_take_61 : decode cX7_take 61 = .ok (.invokevirtual 189, 3) := by decide +kernel
theorem dX7_take_64 : decode cX7_take 64 = .ok (.iconst 1, 1) := by decide +kernel
theorem dX7_take_65 : decode cX7_take 65 = .ok (.isub, 1) := by decide +kernel
theorem dX7_take_66 : decode cX7_take 66 = .ok (.if_icmp .ge 31, 3) := by decide +kernel
theorem dX7_take_69 : decode cX7_take 69 = .ok (.aload_n 0, 1) := by decide +kernel
theorem dX7_take_70 : decode cX7_take 70 = .ok (.iload_n 1, 1) := by decide +kernel
theorem dX7_take_71 : decode cX7_take 71 = .ok (.bipush 11, 2) := by decide +kernel
theorem dX7_take_73 : decode cX7_take 73 = .ok (.iload 4, 2) := by decide +kernel
theorem dX7_take_75 : decode cX7_take 75 = .ok (.iadd, 1) := by decide +kernel
theorem dX7_take_76 : decode cX7_take 76 = .ok (.aload_n 0, 1) := by decide +kernel
theorem dX7_take_77 : decode cX7_take 77 = .ok (.iload_n 1, 1) := by decide +kernel
theorem dX7_take_78 : decode cX7_take 78 = .ok (.bipush 11, 2) := by decide +kernel
theorem dX7_take_80 : decode cX7_take 80 = .ok (.iload 4, 2) := by decide +kernel
theorem dX7_take_82 : decode cX7_take 82 = .ok (.iadd, 1) := by decide +kernel
theorem dX7_take_83 : decode cX7_take 83 = .ok (.iconst 1, 1) := by decide +kernel
theorem dX7_take_84 : decode cX7_take 84 = .ok (.iadd, 1) := by decide +kernel
theorem dX7_take_85 : decode cX7_take 85 = .ok (.invokevirtual 189, 3) := by decide +kernel
theorem dX7_take_88 : decode cX7_take 88 = .ok (.invokevirtual 178, 3) := by decide +kernel
theorem dX7_take_91 : decode cX7_take 91 = .ok (.iinc 4 1, 3) := by decide +kernel
theorem dX7_take_94 : decode cX7_take 94 = .ok (.goto (-38), 3) := by decide +kernel
theorem dX7_take_97 : decode cX7_take 97 = .ok (.aload_n 0, 1) := by decide +kernel
theorem dX7_take_98 : decode cX7_take 98 = .ok (.iload_n 1, 1) := by decide +kernel
theorem dX7_take_99 : decode cX7_take 99 = .ok (.iconst 1, 1) := by decide +kernel
theorem dX7_take_100 : decode cX7_take 100 = .ok (.aload_n 0, 1) := by decide +kernel
theorem dX7_take_101 : decode cX7_take 101 = .ok (.iload_n 1, 1) := by decide +kernel
theorem dX7_take_102 : decode cX7_take 102 = .ok (.iconst 1, 1) := by decide +kernel
theorem dX7_take_103 : decode cX7_take 103 = .ok (.invokevirtual 189, 3) := by decide +kernel
theorem dX7_take_106 : decode cX7_take 106 = .ok (.iconst 1, 1) := by decide +kernel
theorem dX7_take_107 : decode cX7_take 107 = .ok (.isub, 1) := by decide +kernel
theorem dX7_take_108 : decode cX7_take 108 = .ok (.invokevirtual 178, 3) := by decide +kernel
theorem dX7_take_111 : decode cX7_take 111 = .ok (.aload_n 0, 1) := by decide +kernel
theorem dX7_take_112 : decode cX7_take 112 = .ok (.getfield 17, 3) := by decide +kernel
theorem dX7_take_115 : decode cX7_take 115 = .ok (.bipush 6, 2) := by decide +kernel
theorem dX7_take_117 : decode cX7_take 117 = .ok (.iload_n 3, 1) := by decide +kernel
theorem dX7_take_118 : decode cX7_take 118 = .ok (.iadd, 1) := by decide +kernel
theorem dX7_take_119 : decode cX7_take 119 = .ok (.dup2, 1) := by decide +kernel
theorem dX7_take_120 : decode cX7_take 120 = .ok (.iaload, 1) := by decide +kernel
theorem dX7_take_121 : decode cX7_take 121 = .ok (.iconst 1, 1) := by decide +kernel
theorem dX7_take_122 : decode cX7_take 122 = .ok (.iadd, 1) := by decide +kernel
theorem dX7_take_123 : decode cX7_take 123 = .ok (.iastore, 1) := by decide +kernel
theorem dX7_take_124 : decode cX7_take 124 = .ok (.iload_n 3, 1) := by decide +kernel
theorem dX7_take_125 : decode cX7_take 125 = .ok (.ireturn, 1) := by decide +kernel
theorem dX7_quoin_0 : decode cX7_quoin 0 = .ok (.aload_n 0, 1) := by decide +kernel
theorem dX7_quoin_1 : decode cX7_quoin 1 = .ok (.iload_n 1, 1) := by decide +kernel
theorem dX7_quoin_2 : decode cX7_quoin 2 = .ok (.invokevirtual 335, 3) := by decide +kernel
theorem dX7_quoin_5 : decode cX7_quoin 5 = .ok (.ifCond .ne 50, 3) := by decide +kernel
theorem dX7_quoin_8 : decode cX7_quoin 8 = .ok (.aload_n 0, 1) := by decide +kernel
theorem dX7_quoin_9 : decode cX7_quoin 9 = .ok (.aload_n 0, 1) := by decide +kernel
theorem dX7_quoin_10 : decode cX7_quoin 10 = .ok (.iload_n 1, 1) := by decide +kernel
theorem dX7_quoin_11 : decode cX7_quoin 11 = .ok (.invokevirtual 238, 3) := by decide +kernel
theorem dX7_quoin_14 : decode cX7_quoin 14 = .ok (.iload_n 2, 1) := by decide +kernel
theorem dX7_quoin_15 : decode cX7_quoin 15 = .ok (.if_icmp .eq 28, 3) := by decide +kernel
theorem dX7_quoin_18 : decode cX7_quoin 18 = .ok (.iload_n 2, 1) := by decide +kernel
theorem dX7_quoin_19 : decode cX7_quoin 19 = .ok (.ifCond .eq 28, 3) := by decide +kernel
theorem dX7_quoin_22 : decode cX7_quoin 22 = .ok (.aload_n 0, 1) := by decide +kernel
theorem dX7_quoin_23 : decode cX7_quoin 23 = .ok (.getfield 17, 3) := by decide +kernel
theorem dX7_quoin_26 : decode cX7_quoin 26 = .ok (.iconst 0, 1) := by decide +kernel
theorem dX7_quoin_27 : decode cX7_quoin 27 = .ok (.iaload, 1) := by decide +kernel
theorem dX7_quoin_28 : decode cX7_quoin 28 = .ok (.ifCond .eq 15, 3) := by decide +kernel
theorem dX7_quoin_31 : decode cX7_quoin 31 = .ok (.aload_n 0, 1) := by decide +kernel
theorem dX7_quoin_32 : decode cX7_quoin 32 = .ok (.iload_n 1, 1) := by decide +kernel
theorem dX7_quoin_33 : decode cX7_quoin 33 = .ok (.invokevirtual 192, 3) := by decide +kernel
theorem dX7_quoin_36 : decode cX7_quoin 36 = .ok (.aload_n 0, 1) := by decide +kernel
theorem dX7_quoin_37 : decode cX7_quoin 37 = .ok (.getfield 157, 3) := by decide +kernel
theorem dX7_quoin_40 : decode cX7_quoin 40 = .ok (.if_icmp .ge 7, 3) := by decide +kernel
theorem dX7_quoin_43 : decode cX7_quoin 43 = .ok (.iconst 1, 1) := by decide +kernel
theorem dX7_quoin_44 : decode cX7_quoin 44 = .ok (.goto 4, 3) := by decide +kernel
theorem dX7_quoin_47 : decode cX7_quoin 47 = .ok (.iconst 0, 1) := by decide +kernel
theorem dX7_quoin_48 : decode cX7_quoin 48 = .ok (.iconst 3, 1) := by decide +kernel
theorem dX7_quoin_49 : decode cX7_quoin 49 = .ok (.invokevirtual 74, 3) := by decide +kernel
theorem dX7_quoin_52 : decode cX7_quoin 52 = .ok (.ifCond .eq 5, 3) := by decide +kernel
theorem dX7_quoin_55 : decode cX7_quoin 55 = .ok (.iconst 0, 1) := by decide +kernel
theorem dX7_quoin_56 : decode cX7_quoin 56 = .ok (.ireturn, 1) := by decide +kernel
theorem dX7_quoin_57 : decode cX7_quoin 57 = .ok (.aload_n 0, 1) := by decide +kernel
theorem dX7_quoin_58 : decode cX7_quoin 58 = .ok (.invokevirtual 392, 3) := by decide +kernel
theorem dX7_quoin_61 : decode cX7_quoin 61 = .ok (.iload_n 2, 1) := by decide +kernel
theorem dX7_quoin_62 : decode cX7_quoin 62 = .ok (.ifCond .eq 23, 3) := by decide +kernel
theorem dX7_quoin_65 : decode cX7_quoin 65 = .ok (.aload_n 0, 1) := by decide +kernel
theorem dX7_quoin_66 : decode cX7_quoin 66 = .ok (.iload_n 1, 1) := by decide +kernel
theorem dX7_quoin_67 : decode cX7_quoin 67 = .ok (.iconst 2, 1) := by decide +kernel
theorem dX7_quoin_68 : decode cX7_quoin 68 = .ok (.iconst 0, 1) := by decide +kernel
theorem dX7_quoin_69 : decode cX7_quoin 69 = .ok (.invokevirtual 178, 3) := by decide +kernel
theorem dX7_quoin_72 : decode cX7_quoin 72 = .ok (.aload_n 0, 1) := by decide +kernel
theorem dX7_quoin_73 : decode cX7_quoin 73 = .ok (.getfield 17, 3) := by decide +kernel
theorem dX7_quoin_76 : decode cX7_quoin 76 = .ok (.iconst 0, 1) := by decide +kernel
theorem dX7_quoin_77 : decode cX7_quoin 77 = .ok (.dup2, 1) := by decide +kernel
theorem dX7_quoin_78 : decode cX7_quoin 78 = .ok (.iaload, 1) := by decide +kernel
theorem dX7_quoin_79 : decode cX7_quoin 79 = .ok (.iconst 1, 1) := by decide +kernel
theorem dX7_quoin_80 : decode cX7_quoin 80 = .ok (.isub, 1) := by decide +kernel
theorem dX7_quoin_81 : decode cX7_quoin 81 = .ok (.iastore, 1) := by decide +kernel
theorem dX7_quoin_82 : decode cX7_quoin 82 = .ok (.goto 8, 3) := by decide +kernel
theorem dX7_quoin_85 : decode cX7_quoin 85 = .ok (.aload_n 0, 1) := by decide +kernel
theorem dX7_quoin_86 : decode cX7_quoin 86 = .ok (.iload_n 1, 1) := by decide +kernel
theorem dX7_quoin_87 : decode cX7_quoin 87 = .ok (.invokevirtual 254, 3) := by decide +kernel
theorem dX7_quoin_90 : decode cX7_quoin 90 = .ok (.aload_n 0, 1) := by decide +kernel
theorem dX7_quoin_91 : decode cX7_quoin 91 = .ok (.iload_n 1, 1) := by decide +kernel
theorem dX7_quoin_92 : decode cX7_quoin 92 = .ok (.invokevirtual 192, 3) := by decide +kernel
theorem dX7_quoin_95 : decode cX7_quoin 95 = .ok (.ireturn, 1) := by decide +kernel
theorem dX7_open_0 : decode cX7_open 0 = .ok (.aload_n 0, 1) := by decide +kernel
theorem dX7_open_1 : decode cX7_open 1 = .ok (.iload_n 1, 1) := by decide +kernel
theorem dX7_open_2 : decode cX7_open 2 = .ok (.invokevirtual 335, 3) := by decide +kernel
theorem dX7_open_5 : decode cX7_open 5 = .ok (.ifCond .ne 45, 3) := by decide +kernel
theorem dX7_open_8 : decode cX7_open 8 = .ok (.aload_n 0, 1) := by decide +kernel
theorem dX7_open_9 : decode cX7_open 9 = .ok (.aload_n 0, 1) := by decide +kernel
theorem dX7_open_10 : decode cX7_open 10 = .ok (.iload_n 1, 1) := by decide +kernel
theorem dX7_open_11 : decode cX7_open 11 = .ok (.invokevirtual 238, 3) := by decide +kernel
theorem dX7_open_14 : decode cX7_open 14 = .ok (.ifCond .eq 24, 3) := by decide +kernel
theorem dX7_open_17 : decode cX7_open 17 = .ok (.iload_n 2, 1) := by decide +kernel
theorem dX7_open_18 : decode cX7_open 18 = .ok (.iconst 0, 1) := by decide +kernel
theorem dX7_open_19 : decode cX7_open 19 = .ok (.aload_n 0, 1) := by decide +kernel
theorem dX7_open_20 : decode cX7_open 20 = .ok (.getfield 160, 3) := by decide +kernel
theorem dX7_open_23 : decode cX7_open 23 = .ok (.invokestatic 143, 3) := by decide +kernel
theorem dX7_open_26 : decode cX7_open 26 = .ok (.ifCond .eq 12, 3) := by decide +kernel
theorem dX7_open_29 : decode cX7_open 29 = .ok (.aload_n 0, 1) := by decide +kernel
theorem dX7_open_30 : decode cX7_open 30 = .ok (.iload_n 1, 1) := by decide +kernel
theorem dX7_open_31 : decode cX7_open 31 = .ok (.iload_n 2, 1) := by decide +kernel
theorem dX7_open_32 : decode cX7_open 32 = .ok (.invokevirtual 304, 3) := by decide +kernel
theorem dX7_open_35 : decode cX7_open 35 = .ok (.ifCond .ge 7, 3) := by decide +kernel
theorem dX7_open_38 : decode cX7_open 38 = .ok (.iconst 1, 1) := by decide +kernel
theorem dX7_open_39 : decode cX7_open 39 = .ok (.goto 4, 3) := by decide +kernel
theorem dX7_open_42 : decode cX7_open 42 = .ok (.iconst 0, 1) := by decide +kernel
theorem dX7_open_43 : decode cX7_open 43 = .ok (.iconst 3, 1) := by decide +kernel
theorem dX7_open_44 : decode cX7_open 44 = .ok (.invokevirtual 74, 3) := by decide +kernel
theorem dX7_open_47 : decode cX7_open 47 = .ok (.ifCond .eq 5, 3) := by decide +kernel
theorem dX7_open_50 : decode cX7_open 50 = .ok (.iconst 0, 1) := by decide +kernel
theorem dX7_open_51 : decode cX7_open 51 = .ok (.ireturn, 1) := by decide +kernel
theorem dX7_open_52 : decode cX7_open 52 = .ok (.aload_n 0, 1) := by decide +kernel
theorem dX7_open_53 : decode cX7_open 53 = .ok (.invokevirtual 392, 3) := by decide +kernel
theorem dX7_open_56 : decode cX7_open 56 = .ok (.aload_n 0, 1) := by decide +kernel
theorem dX7_open_57 : decode cX7_open 57 = .ok (.iload_n 1, 1) := by decide +kernel
theorem dX7_open_58 : decode cX7_open 58 = .ok (.iconst 2, 1) := by decide +kernel
theorem dX7_open_59 : decode cX7_open 59 = .ok (.iload_n 2, 1) := by decide +kernel
theorem dX7_open_60 : decode cX7_open 60 = .ok (.invokevirtual 178, 3) := by decide +kernel
theorem dX7_open_63 : decode cX7_open 63 = .ok (.aload_n 0, 1) := by decide +kernel
theorem dX7_open_64 : decode cX7_open 64 = .ok (.iload_n 1, 1) := by decide +kernel
theorem dX7_open_65 : decode cX7_open 65 = .ok (.iconst 3, 1) := by decide +kernel
theorem dX7_open_66 : decode cX7_open 66 = .ok (.iconst 0, 1) := by decide +kernel
theorem dX7_open_67 : decode cX7_open 67 = .ok (.invokevirtual 178, 3) := by decide +kernel
theorem dX7_open_70 : decode cX7_open 70 = .ok (.aload_n 0, 1) := by decide +kernel
theorem dX7_open_71 : decode cX7_open 71 = .ok (.iload_n 1, 1) := by decide +kernel
theorem dX7_open_72 : decode cX7_open 72 = .ok (.invokevirtual 192, 3) := by decide +kernel
theorem dX7_open_75 : decode cX7_open 75 = .ok (.ireturn, 1) := by decide +kernel
theorem dX7_lock_0 : decode cX7_lock 0 = .ok (.aload_n 0, 1) := by decide +kernel
theorem dX7_lock_1 : decode cX7_lock 1 = .ok (.iload_n 1, 1) := by decide +kernel
theorem dX7_lock_2 : decode cX7_lock 2 = .ok (.invokevirtual 335, 3) := by decide +kernel
theorem dX7_lock_5 : decode cX7_lock 5 = .ok (.ifCond .ne 24, 3) := by decide +kernel
theorem dX7_lock_8 : decode cX7_lock 8 = .ok (.aload_n 0, 1) := by decide +kernel
theorem dX7_lock_9 : decode cX7_lock 9 = .ok (.aload_n 0, 1) := by decide +kernel
theorem dX7_lock_10 : decode cX7_lock 10 = .ok (.iload_n 1, 1) := by decide +kernel
theorem dX7_lock_11 : decode cX7_lock 11 = .ok (.invokevirtual 311, 3) := by decide +kernel
theorem dX7_lock_14 : decode cX7_lock 14 = .ok (.ifCond .ne 7, 3) := by decide +kernel
theorem dX7_lock_17 : decode cX7_lock 17 = .ok (.iconst 1, 1) := by decide +kernel
theorem dX7_lock_18 : decode cX7_lock 18 = .ok (.goto 4, 3) := by decide +kernel
theorem dX7_lock_21 : decode cX7_lock 21 = .ok (.iconst 0, 1) := by decide +kernel
theorem dX7_lock_22 : decode cX7_lock 22 = .ok (.iconst 3, 1) := by decide +kernel
theorem dX7_lock_23 : decode cX7_lock 23 = .ok (.invokevirtual 74, 3) := by decide +kernel
theorem dX7_lock_26 : decode cX7_lock 26 = .ok (.ifCond .eq 5, 3) := by decide +kernel
theorem dX7_lock_29 : decode cX7_lock 29 = .ok (.iconst 0, 1) := by decide +kernel
theorem dX7_lock_30 : decode cX7_lock 30 = .ok (.ireturn, 1) := by decide +kernel
theorem dX7_lock_31 : decode cX7_lock 31 = .ok (.aload_n 0, 1) := by decide +kernel
theorem dX7_lock_32 : decode cX7_lock 32 = .ok (.invokevirtual 392, 3) := by decide +kernel
theorem dX7_lock_35 : decode cX7_lock 35 = .ok (.aload_n 0, 1) := by decide +kernel
theorem dX7_lock_36 : decode cX7_lock 36 = .ok (.iload_n 1, 1) := by decide +kernel
theorem dX7_lock_37 : decode cX7_lock 37 = .ok (.invokevirtual 368, 3) := by decide +kernel
theorem dX7_lock_40 : decode cX7_lock 40 = .ok (.istore_n 2, 1) := by decide +kernel
theorem dX7_lock_41 : decode cX7_lock 41 = .ok (.aload_n 0, 1) := by decide +kernel
theorem dX7_lock_42 : decode cX7_lock 42 = .ok (.iconst 0, 1) := by decide +kernel
theorem dX7_lock_43 : decode cX7_lock 43 = .ok (.invokevirtual 344, 3) := by decide +kernel
theorem dX7_lock_46 : decode cX7_lock 46 = .ok (.ireturn, 1) := by decide +kernel
theorem dX7_unlock_0 : decode cX7_unlock 0 = .ok (.aload_n 0, 1) := by decide +kernel
theorem dX7_unlock_1 : decode cX7_unlock 1 = .ok (.iload_n 1, 1) := by decide +kernel
theorem dX7_unlock_2 : decode cX7_unlock 2 = .ok (.invokevirtual 335, 3) := by decide +kernel
theorem dX7_unlock_5 : decode cX7_unlock 5 = .ok (.ifCond .eq 5, 3) := by decide +kernel
theorem dX7_unlock_8 : decode cX7_unlock 8 = .ok (.iconst 0, 1) := by decide +kernel
theorem dX7_unlock_9 : decode cX7_unlock 9 = .ok (.ireturn, 1) := by decide +kernel
theorem dX7_unlock_10 : decode cX7_unlock 10 = .ok (.aload_n 0, 1) := by decide +kernel
theorem dX7_unlock_11 : decode cX7_unlock 11 = .ok (.invokevirtual 392, 3) := by decide +kernel
theorem dX7_unlock_14 : decode cX7_unlock 14 = .ok (.aload_n 0, 1) := by decide +kernel
theorem dX7_unlock_15 : decode cX7_unlock 15 = .ok (.iload_n 1, 1) := by decide +kernel
theorem dX7_unlock_16 : decode cX7_unlock 16 = .ok (.invokevirtual 260, 3) := by decide +kernel
theorem dX7_unlock_19 : decode cX7_unlock 19 = .ok (.ireturn, 1) := by decide +kernel
theorem dX7_relock_0 : decode cX7_relock 0 = .ok (.aload_n 0, 1) := by decide +kernel
theorem dX7_relock_1 : decode cX7_relock 1 = .ok (.iload_n 1, 1) := by decide +kernel
theorem dX7_relock_2 : decode cX7_relock 2 = .ok (.invokevirtual 335, 3) := by decide +kernel
theorem dX7_relock_5 : decode cX7_relock 5 = .ok (.ifCond .eq 5, 3) := by decide +kernel
theorem dX7_relock_8 : decode cX7_relock 8 = .ok (.iconst 0, 1) := by decide +kernel
theorem dX7_relock_9 : decode cX7_relock 9 = .ok (.ireturn, 1) := by decide +kernel
theorem dX7_relock_10 : decode cX7_relock 10 = .ok (.aload_n 0, 1) := by decide +kernel
theorem dX7_relock_11 : decode cX7_relock 11 = .ok (.invokevirtual 353, 3) := by decide +kernel
theorem dX7_relock_14 : decode cX7_relock 14 = .ok (.aload_n 0, 1) := by decide +kernel
theorem dX7_relock_15 : decode cX7_relock 15 = .ok (.iload_n 1, 1) := by decide +kernel
theorem dX7_relock_16 : decode cX7_relock 16 = .ok (.invokevirtual 260, 3) := by decide +kernel
theorem dX7_relock_19 : decode cX7_relock 19 = .ok (.istore_n 2, 1) := by decide +kernel
theorem dX7_relock_20 : decode cX7_relock 20 = .ok (.aload_n 0, 1) := by decide +kernel
theorem dX7_relock_21 : decode cX7_relock 21 = .ok (.aload_n 0, 1) := by decide +kernel
theorem dX7_relock_22 : decode cX7_relock 22 = .ok (.iload_n 1, 1) := by decide +kernel
theorem dX7_relock_23 : decode cX7_relock 23 = .ok (.invokevirtual 311, 3) := by decide +kernel
theorem dX7_relock_26 : decode cX7_relock 26 = .ok (.invokestatic 250, 3) := by decide +kernel
theorem dX7_relock_29 : decode cX7_relock 29 = .ok (.invokevirtual 356, 3) := by decide +kernel
theorem dX7_relock_32 : decode cX7_relock 32 = .ok (.istore_n 3, 1) := by decide +kernel
theorem dX7_relock_33 : decode cX7_relock 33 = .ok (.aload_n 0, 1) := by decide +kernel
theorem dX7_relock_34 : decode cX7_relock 34 = .ok (.iload_n 3, 1) := by decide +kernel
theorem dX7_relock_35 : decode cX7_relock 35 = .ok (.ifCond .ne 7, 3) := by decide +kernel
theorem dX7_relock_38 : decode cX7_relock 38 = .ok (.iconst 1, 1) := by decide +kernel
theorem dX7_relock_39 : decode cX7_relock 39 = .ok (.goto 4, 3) := by decide +kernel
theorem dX7_relock_42 : decode cX7_relock 42 = .ok (.iconst 0, 1) := by decide +kernel
theorem dX7_relock_43 : decode cX7_relock 43 = .ok (.iconst 3, 1) := by decide +kernel
theorem dX7_relock_44 : decode cX7_relock 44 = .ok (.invokevirtual 74, 3) := by decide +kernel
theorem dX7_relock_47 : decode cX7_relock 47 = .ok (.ifCond .eq 5, 3) := by decide +kernel
theorem dX7_relock_50 : decode cX7_relock 50 = .ok (.iconst 0, 1) := by decide +kernel
theorem dX7_relock_51 : decode cX7_relock 51 = .ok (.ireturn, 1) := by decide +kernel
theorem dX7_relock_52 : decode cX7_relock 52 = .ok (.aload_n 0, 1) := by decide +kernel
theorem dX7_relock_53 : decode cX7_relock 53 = .ok (.invokevirtual 392, 3) := by decide +kernel
theorem dX7_relock_56 : decode cX7_relock 56 = .ok (.aload_n 0, 1) := by decide +kernel
theorem dX7_relock_57 : decode cX7_relock 57 = .ok (.iload_n 1, 1) := by decide +kernel
theorem dX7_relock_58 : decode cX7_relock 58 = .ok (.invokevirtual 260, 3) := by decide +kernel
theorem dX7_relock_61 : decode cX7_relock 61 = .ok (.istore_n 2, 1) := by decide +kernel
theorem dX7_relock_62 : decode cX7_relock 62 = .ok (.aload_n 0, 1) := by decide +kernel
theorem dX7_relock_63 : decode cX7_relock 63 = .ok (.iload_n 1, 1) := by decide +kernel
theorem dX7_relock_64 : decode cX7_relock 64 = .ok (.invokevirtual 368, 3) := by decide +kernel
theorem dX7_relock_67 : decode cX7_relock 67 = .ok (.istore 4, 2) := by decide +kernel
theorem dX7_relock_69 : decode cX7_relock 69 = .ok (.aload_n 0, 1) := by decide +kernel
theorem dX7_relock_70 : decode cX7_relock 70 = .ok (.iconst 0, 1) := by decide +kernel
theorem dX7_relock_71 : decode cX7_relock 71 = .ok (.invokevirtual 344, 3) := by decide +kernel
theorem dX7_relock_74 : decode cX7_relock 74 = .ok (.ireturn, 1) := by decide +kernel
theorem dX7_tighten_0 : decode cX7_tighten 0 = .ok (.aload_n 0, 1) := by decide +kernel
theorem dX7_tighten_1 : decode cX7_tighten 1 = .ok (.iload_n 1, 1) := by decide +kernel
theorem dX7_tighten_2 : decode cX7_tighten 2 = .ok (.invokevirtual 335, 3) := by decide +kernel
theorem dX7_tighten_5 : decode cX7_tighten 5 = .ok (.ifCond .ne 24, 3) := by decide +kernel
theorem dX7_tighten_8 : decode cX7_tighten 8 = .ok (.aload_n 0, 1) := by decide +kernel
theorem dX7_tighten_9 : decode cX7_tighten 9 = .ok (.aload_n 0, 1) := by decide +kernel
theorem dX7_tighten_10 : decode cX7_tighten 10 = .ok (.iload_n 1, 1) := by decide +kernel
theorem dX7_tighten_11 : decode cX7_tighten 11 = .ok (.invokevirtual 238, 3) := by decide +kernel
theorem dX7_tighten_14 : decode cX7_tighten 14 = .ok (.ifCond .ne 7, 3) := by decide +kernel
theorem dX7_tighten_17 : decode cX7_tighten 17 = .ok (.iconst 1, 1) := by decide +kernel
theorem dX7_tighten_18 : decode cX7_tighten 18 = .ok (.goto 4, 3) := by decide +kernel
theorem dX7_tighten_21 : decode cX7_tighten 21 = .ok (.iconst 0, 1) := by decide +kernel
theorem dX7_tighten_22 : decode cX7_tighten 22 = .ok (.iconst 3, 1) := by decide +kernel
theorem dX7_tighten_23 : decode cX7_tighten 23 = .ok (.invokevirtual 74, 3) := by decide +kernel
theorem dX7_tighten_26 : decode cX7_tighten 26 = .ok (.ifCond .eq 5, 3) := by decide +kernel
theorem dX7_tighten_29 : decode cX7_tighten 29 = .ok (.iconst 0, 1) := by decide +kernel
theorem dX7_tighten_30 : decode cX7_tighten 30 = .ok (.ireturn, 1) := by decide +kernel
theorem dX7_tighten_31 : decode cX7_tighten 31 = .ok (.aload_n 0, 1) := by decide +kernel
theorem dX7_tighten_32 : decode cX7_tighten 32 = .ok (.invokevirtual 392, 3) := by decide +kernel
theorem dX7_tighten_35 : decode cX7_tighten 35 = .ok (.aload_n 0, 1) := by decide +kernel
theorem dX7_tighten_36 : decode cX7_tighten 36 = .ok (.iload_n 1, 1) := by decide +kernel
theorem dX7_tighten_37 : decode cX7_tighten 37 = .ok (.iconst 2, 1) := by decide +kernel
theorem dX7_tighten_38 : decode cX7_tighten 38 = .ok (.invokevirtual 189, 3) := by decide +kernel
theorem dX7_tighten_41 : decode cX7_tighten 41 = .ok (.aload_n 0, 1) := by decide +kernel
theorem dX7_tighten_42 : decode cX7_tighten 42 = .ok (.getfield 160, 3) := by decide +kernel
theorem dX7_tighten_45 : decode cX7_tighten 45 = .ok (.if_icmp .ge 62, 3) := by decide +kernel
theorem dX7_tighten_48 : decode cX7_tighten 48 = .ok (.aload_n 0, 1) := by decide +kernel
theorem dX7_tighten_49 : decode cX7_tighten 49 = .ok (.iload_n 1, 1) := by decide +kernel
theorem dX7_tighten_50 : decode cX7_tighten 50 = .ok (.iconst 4, 1) := by decide +kernel
theorem dX7_tighten_51 : decode cX7_tighten 51 = .ok (.invokevirtual 189, 3) := by decide +kernel
theorem dX7_tighten_54 : decode cX7_tighten 54 = .ok (.ifCond .le 53, 3) := by decide +kernel
theorem dX7_tighten_57 : decode cX7_tighten 57 = .ok (.aload_n 0, 1) := by decide +kernel
theorem dX7_tighten_58 : decode cX7_tighten 58 = .ok (.iload_n 1, 1) := by decide +kernel
theorem dX7_tighten_59 : decode cX7_tighten 59 = .ok (.iconst 2, 1) := by decide +kernel
theorem dX7_tighten_60 : decode cX7_tighten 60 = .ok (.aload_n 0, 1) := by decide +kernel
theorem dX7_tighten_61 : decode cX7_tighten 61 = .ok (.iload_n 1, 1) := by decide +kernel
theorem dX7_tighten_62 : decode cX7_tighten 62 = .ok (.iconst 2, 1) := by decide +kernel
theorem dX7_tighten_63 : decode cX7_tighten 63 = .ok (.invokevirtual 189, 3) := by decide +kernel
theorem dX7_tighten_66 : decode cX7_tighten 66 = .ok (.iconst 1, 1) := by decide +kernel
theorem dX7_tighten_67 : decode cX7_tighten 67 = .ok (.iadd, 1) := by decide +kernel
theorem dX7_tighten_68 : decode cX7_tighten 68 = .ok (.invokevirtual 178, 3) := by decide +kernel
theorem dX7_tighten_71 : decode cX7_tighten 71 = .ok (.aload_n 0, 1) := by decide +kernel
theorem dX7_tighten_72 : decode cX7_tighten 72 = .ok (.iload_n 1, 1) := by decide +kernel
theorem dX7_tighten_73 : decode cX7_tighten 73 = .ok (.iconst 3, 1) := by decide +kernel
theorem dX7_tighten_74 : decode cX7_tighten 74 = .ok (.aload_n 0, 1) := by decide +kernel
theorem dX7_tighten_75 : decode cX7_tighten 75 = .ok (.iload_n 1, 1) := by decide +kernel
theorem dX7_tighten_76 : decode cX7_tighten 76 = .ok (.iconst 3, 1) := by decide +kernel
theorem dX7_tighten_77 : decode cX7_tighten 77 = .ok (.invokevirtual 189, 3) := by decide +kernel
theorem dX7_tighten_80 : decode cX7_tighten 80 = .ok (.iconst 1, 1) := by decide +kernel
theorem dX7_tighten_81 : decode cX7_tighten 81 = .ok (.iadd, 1) := by decide +kernel
theorem dX7_tighten_82 : decode cX7_tighten 82 = .ok (.invokevirtual 178, 3) := by decide +kernel
theorem dX7_tighten_85 : decode cX7_tighten 85 = .ok (.aload_n 0, 1) := by decide +kernel
theorem dX7_tighten_86 : decode cX7_tighten 86 = .ok (.iload_n 1, 1) := by decide +kernel
theorem dX7_tighten_87 : decode cX7_tighten 87 = .ok (.iconst 4, 1) := by decide +kernel
theorem dX7_tighten_88 : decode cX7_tighten 88 = .ok (.iconst 0, 1) := by decide +kernel
theorem dX7_tighten_89 : decode cX7_tighten 89 = .ok (.aload_n 0, 1) := by decide +kernel
theorem dX7_tighten_90 : decode cX7_tighten 90 = .ok (.iload_n 1, 1) := by decide +kernel
theorem dX7_tighten_91 : decode cX7_tighten 91 = .ok (.iconst 4, 1) := by decide +kernel
theorem dX7_tighten_92 : decode cX7_tighten 92 = .ok (.invokevirtual 189, 3) := by decide +kernel
theorem dX7_tighten_95 : decode cX7_tighten 95 = .ok (.bipush 10, 2) := by decide +kernel
theorem dX7_tighten_97 : decode cX7_tighten 97 = .ok (.isub, 1) := by decide +kernel
theorem dX7_tighten_98 : decode cX7_tighten 98 = .ok (.invokestatic 395, 3) := by decide +kernel
theorem dX7_tighten_101 : decode cX7_tighten 101 = .ok (.invokevirtual 178, 3) := by decide +kernel
theorem dX7_tighten_104 : decode cX7_tighten 104 = .ok (.goto (-69), 3) := by decide +kernel
theorem dX7_tighten_107 : decode cX7_tighten 107 = .ok (.aload_n 0, 1) := by decide +kernel
theorem dX7_tighten_108 : decode cX7_tighten 108 = .ok (.iload_n 1, 1) := by decide +kernel
theorem dX7_tighten_109 : decode cX7_tighten 109 = .ok (.iconst 4, 1) := by decide +kernel
theorem dX7_tighten_110 : decode cX7_tighten 110 = .ok (.invokevirtual 189, 3) := by decide +kernel
theorem dX7_tighten_113 : decode cX7_tighten 113 = .ok (.ireturn, 1) := by decide +kernel
theorem dX7_print_0 : decode cX7_print 0 = .ok (.aload_n 0, 1) := by decide +kernel
theorem dX7_print_1 : decode cX7_print 1 = .ok (.invokevirtual 320, 3) := by decide +kernel
theorem dX7_print_4 : decode cX7_print 4 = .ok (.ifCond .ne 26, 3) := by decide +kernel
theorem dX7_print_7 : decode cX7_print 7 = .ok (.aload_n 0, 1) := by decide +kernel
theorem dX7_print_8 : decode cX7_print 8 = .ok (.iload_n 1, 1) := by decide +kernel
theorem dX7_print_9 : decode cX7_print 9 = .ok (.iconst 1, 1) := by decide +kernel
theorem dX7_print_10 : decode cX7_print 10 = .ok (.bipush 100, 2) := by decide +kernel
theorem dX7_print_12 : decode cX7_print 12 = .ok (.invokestatic 143, 3) := by decide +kernel
theorem dX7_print_15 : decode cX7_print 15 = .ok (.ifCond .ne 7, 3) := by decide +kernel
theorem dX7_print_18 : decode cX7_print 18 = .ok (.iconst 1, 1) := by decide +kernel
theorem dX7_print_19 : decode cX7_print 19 = .ok (.goto 4, 3) := by decide +kernel
theorem dX7_print_22 : decode cX7_print 22 = .ok (.iconst 0, 1) := by decide +kernel
theorem dX7_print_23 : decode cX7_print 23 = .ok (.iconst 2, 1) := by decide +kernel
theorem dX7_print_24 : decode cX7_print 24 = .ok (.invokevirtual 74, 3) := by decide +kernel
theorem dX7_print_27 : decode cX7_print 27 = .ok (.ifCond .eq 5, 3) := by decide +kernel
theorem dX7_print_30 : decode cX7_print 30 = .ok (.iconst 0, 1) := by decide +kernel
theorem dX7_print_31 : decode cX7_print 31 = .ok (.ireturn, 1) := by decide +kernel
theorem dX7_print_32 : decode cX7_print 32 = .ok (.aload_n 0, 1) := by decide +kernel
theorem dX7_print_33 : decode cX7_print 33 = .ok (.invokevirtual 392, 3) := by decide +kernel
theorem dX7_print_36 : decode cX7_print 36 = .ok (.aload_n 0, 1) := by decide +kernel
theorem dX7_print_37 : decode cX7_print 37 = .ok (.getfield 17, 3) := by decide +kernel
theorem dX7_print_40 : decode cX7_print 40 = .ok (.iconst 2, 1) := by decide +kernel
theorem dX7_print_41 : decode cX7_print 41 = .ok (.iaload, 1) := by decide +kernel
theorem dX7_print_42 : decode cX7_print 42 = .ok (.istore_n 2, 1) := by decide +kernel
theorem dX7_print_43 : decode cX7_print 43 = .ok (.iconst 0, 1) := by decide +kernel
theorem dX7_print_44 : decode cX7_print 44 = .ok (.istore_n 3, 1) := by decide +kernel
theorem dX7_print_45 : decode cX7_print 45 = .ok (.iload_n 3, 1) := by decide +kernel
theorem dX7_print_46 : decode cX7_print 46 = .ok (.iload_n 1, 1) := by decide +kernel
theorem dX7_print_47 : decode cX7_print 47 = .ok (.if_icmp .ge 15, 3) := by decide +kernel
theorem dX7_print_50 : decode cX7_print 50 = .ok (.aload_n 0, 1) := by decide +kernel
theorem dX7_print_51 : decode cX7_print 51 = .ok (.invokevirtual 365, 3) := by decide +kernel
theorem dX7_print_54 : decode cX7_print 54 = .ok (.istore 4, 2) := by decide +kernel
theorem dX7_print_56 : decode cX7_print 56 = .ok (.iinc 3 1, 3) := by decide +kernel
theorem dX7_print_59 : decode cX7_print 59 = .ok (.goto (-14), 3) := by decide +kernel
theorem dX7_print_62 : decode cX7_print 62 = .ok (.aload_n 0, 1) := by decide +kernel
theorem dX7_print_63 : decode cX7_print 63 = .ok (.getfield 17, 3) := by decide +kernel
theorem dX7_print_66 : decode cX7_print 66 = .ok (.iconst 2, 1) := by decide +kernel
theorem dX7_print_67 : decode cX7_print 67 = .ok (.iaload, 1) := by decide +kernel
theorem dX7_print_68 : decode cX7_print 68 = .ok (.iload_n 2, 1) := by decide +kernel
theorem dX7_print_69 : decode cX7_print 69 = .ok (.isub, 1) := by decide +kernel
theorem dX7_print_70 : decode cX7_print 70 = .ok (.ireturn, 1) := by decide +kernel
theorem dX7_rest_0 : decode cX7_rest 0 = .ok (.aload_n 0, 1) := by decide +kernel
theorem dX7_rest_1 : decode cX7_rest 1 = .ok (.invokevirtual 320, 3) := by decide +kernel
theorem dX7_rest_4 : decode cX7_rest 4 = .ok (.ifCond .ne 26, 3) := by decide +kernel
theorem dX7_rest_7 : decode cX7_rest 7 = .ok (.aload_n 0, 1) := by decide +kernel
theorem dX7_rest_8 : decode cX7_rest 8 = .ok (.iload_n 1, 1) := by decide +kernel
theorem dX7_rest_9 : decode cX7_rest 9 = .ok (.iconst 1, 1) := by decide +kernel
theorem dX7_rest_10 : decode cX7_rest 10 = .ok (.bipush 100, 2) := by decide +kernel
theorem dX7_rest_12 : decode cX7_rest 12 = .ok (.invokestatic 143, 3) := by decide +kernel
theorem dX7_rest_15 : decode cX7_rest 15 = .ok (.ifCond .ne 7, 3) := by decide +kernel
theorem dX7_rest_18 : decode cX7_rest 18 = .ok (.iconst 1, 1) := by decide +kernel
theorem dX7_rest_19 : decode cX7_rest 19 = .ok (.goto 4, 3) := by decide +kernel
theorem dX7_rest_22 : decode cX7_rest 22 = .ok (.iconst 0, 1) := by decide +kernel
theorem dX7_rest_23 : decode cX7_rest 23 = .ok (.iconst 2, 1) := by decide +kernel
theorem dX7_rest_24 : decode cX7_rest 24 = .ok (.invokevirtual 74, 3) := by decide +kernel
theorem dX7_rest_27 : decode cX7_rest 27 = .ok (.ifCond .eq 5, 3) := by decide +kernel
theorem dX7_rest_30 : decode cX7_rest 30 = .ok (.iconst 0, 1) := by decide +kernel
theorem dX7_rest_31 : decode cX7_rest 31 = .ok (.ireturn, 1) := by decide +kernel
theorem dX7_rest_32 : decode cX7_rest 32 = .ok (.aload_n 0, 1) := by decide +kernel
theorem dX7_rest_33 : decode cX7_rest 33 = .ok (.invokevirtual 392, 3) := by decide +kernel
theorem dX7_rest_36 : decode cX7_rest 36 = .ok (.iconst 0, 1) := by decide +kernel
theorem dX7_rest_37 : decode cX7_rest 37 = .ok (.istore_n 2, 1) := by decide +kernel
theorem dX7_rest_38 : decode cX7_rest 38 = .ok (.iconst 0, 1) := by decide +kernel
theorem dX7_rest_39 : decode cX7_rest 39 = .ok (.istore_n 3, 1) := by decide +kernel
theorem dX7_rest_40 : decode cX7_rest 40 = .ok (.iload_n 3, 1) := by decide +kernel
theorem dX7_rest_41 : decode cX7_rest 41 = .ok (.iload_n 1, 1) := by decide +kernel
theorem dX7_rest_42 : decode cX7_rest 42 = .ok (.if_icmp .ge 19, 3) := by decide +kernel
theorem dX7_rest_45 : decode cX7_rest 45 = .ok (.iload_n 2, 1) := by decide +kernel
theorem dX7_rest_46 : decode cX7_rest 46 = .ok (.aload_n 0, 1) := by decide +kernel
theorem dX7_rest_47 : decode cX7_rest 47 = .ok (.invokevirtual 362, 3) := by decide +kernel
theorem dX7_rest_50 : decode cX7_rest 50 = .ok (.invokestatic 398, 3) := by decide +kernel
theorem dX7_rest_53 : decode cX7_rest 53 = .ok (.iadd, 1) := by decide +kernel
theorem dX7_rest_54 : decode cX7_rest 54 = .ok (.istore_n 2, 1) := by decide +kernel
theorem dX7_rest_55 : decode cX7_rest 55 = .ok (.iinc 3 1, 3) := by decide +kernel
theorem dX7_rest_58 : decode cX7_rest 58 = .ok (.goto (-18), 3) := by decide +kernel
theorem dX7_rest_61 : decode cX7_rest 61 = .ok (.iload_n 2, 1) := by decide +kernel
theorem dX7_rest_62 : decode cX7_rest 62 = .ok (.ireturn, 1) := by decide +kernel
theorem dX7_buy_0 : decode cX7_buy 0 = .ok (.aload_n 0, 1) := by decide +kernel
theorem dX7_buy_1 : decode cX7_buy 1 = .ok (.invokevirtual 320, 3) := by decide +kernel
theorem dX7_buy_4 : decode cX7_buy 4 = .ok (.ifCond .ne 63, 3) := by decide +kernel
theorem dX7_buy_7 : decode cX7_buy 7 = .ok (.aload_n 0, 1) := by decide +kernel
theorem dX7_buy_8 : decode cX7_buy 8 = .ok (.aload_n 0, 1) := by decide +kernel
theorem dX7_buy_9 : decode cX7_buy 9 = .ok (.iload_n 1, 1) := by decide +kernel
theorem dX7_buy_10 : decode cX7_buy 10 = .ok (.invokevirtual 338, 3) := by decide +kernel
theorem dX7_buy_13 : decode cX7_buy 13 = .ok (.ifCond .ne 7, 3) := by decide +kernel
theorem dX7_buy_16 : decode cX7_buy 16 = .ok (.iconst 1, 1) := by decide +kernel
theorem dX7_buy_17 : decode cX7_buy 17 = .ok (.goto 4, 3) := by decide +kernel
theorem dX7_buy_20 : decode cX7_buy 20 = .ok (.iconst 0, 1) := by decide +kernel
theorem dX7_buy_21 : decode cX7_buy 21 = .ok (.iconst 2, 1) := by decide +kernel
theorem dX7_buy_22 : decode cX7_buy 22 = .ok (.invokevirtual 74, 3) := by decide +kernel
theorem dX7_buy_25 : decode cX7_buy 25 = .ok (.ifCond .ne 42, 3) := by decide +kernel
theorem dX7_buy_28 : decode cX7_buy 28 = .ok (.aload_n 0, 1) := by decide +kernel
theorem dX7_buy_29 : decode cX7_buy 29 = .ok (.iload_n 2, 1) := by decide +kernel
theorem dX7_buy_30 : decode cX7_buy 30 = .ok (.iconst 1, 1) := by decide +kernel
theorem dX7_buy_31 : decode cX7_buy 31 = .ok (.bipush 99, 2) := by decide +kernel
theorem dX7_buy_33 : decode cX7_buy 33 = .ok (.invokestatic 143, 3) := by decide +kernel
theorem dX7_buy_36 : decode cX7_buy 36 = .ok (.ifCond .eq 19, 3) := by decide +kernel
theorem dX7_buy_39 : decode cX7_buy 39 = .ok (.aload_n 0, 1) := by decide +kernel
theorem dX7_buy_40 : decode cX7_buy 40 = .ok (.getfield 17, 3) := by decide +kernel
theorem dX7_buy_43 : decode cX7_buy 43 = .ok (.bipush 6, 2) := by decide +kernel
theorem dX7_buy_45 : decode cX7_buy 45 = .ok (.iload_n 1, 1) := by decide +kernel
theorem dX7_buy_46 : decode cX7_buy 46 = .ok (.iadd, 1) := by decide +kernel
theorem dX7_buy_47 : decode cX7_buy 47 = .ok (.iaload, 1) := by decide +kernel
theorem dX7_buy_48 : decode cX7_buy 48 = .ok (.iload_n 2, 1) := by decide +kernel
theorem dX7_buy_49 : decode cX7_buy 49 = .ok (.iadd, 1) := by decide +kernel
theorem dX7_buy_50 : decode cX7_buy 50 = .ok (.bipush 99, 2) := by decide +kernel
theorem dX7_buy_52 : decode cX7_buy 52 = .ok (.if_icmp .le 7, 3) := by decide +kernel
theorem dX7_buy_55 : decode cX7_buy 55 = .ok (.iconst 1, 1) := by decide +kernel
theorem dX7_buy_56 : decode cX7_buy 56 = .ok (.goto 4, 3) := by decide +kernel
theorem dX7_buy_59 : decode cX7_buy 59 = .ok (.iconst 0, 1) := by decide +kernel
theorem dX7_buy_60 : decode cX7_buy 60 = .ok (.iconst 3, 1) := by decide +kernel
theorem dX7_buy_61 : decode cX7_buy 61 = .ok (.invokevirtual 74, 3) := by decide +kernel
theorem dX7_buy_64 : decode cX7_buy 64 = .ok (.ifCond .eq 5, 3) := by decide +kernel
theorem dX7_buy_67 : decode cX7_buy 67 = .ok (.iconst 0, 1) := by decide +kernel
theorem dX7_buy_68 : decode cX7_buy 68 = .ok (.ireturn, 1) := by decide +kernel
theorem dX7_buy_69 : decode cX7_buy 69 = .ok (.aload_n 0, 1) := by decide +kernel
theorem dX7_buy_70 : decode cX7_buy 70 = .ok (.invokevirtual 392, 3) := by decide +kernel
theorem dX7_buy_73 : decode cX7_buy 73 = .ok (.aload_n 0, 1) := by decide +kernel
theorem dX7_buy_74 : decode cX7_buy 74 = .ok (.getfield 17, 3) := by decide +kernel
theorem dX7_buy_77 : decode cX7_buy 77 = .ok (.bipush 6, 2) := by decide +kernel
theorem dX7_buy_79 : decode cX7_buy 79 = .ok (.iload_n 1, 1) := by decide +kernel
theorem dX7_buy_80 : decode cX7_buy 80 = .ok (.iadd, 1) := by decide +kernel
theorem dX7_buy_81 : decode cX7_buy 81 = .ok (.dup2, 1) := by decide +kernel
theorem dX7_buy_82 : decode cX7_buy 82 = .ok (.iaload, 1) := by decide +kernel
theorem dX7_buy_83 : decode cX7_buy 83 = .ok (.iload_n 2, 1) := by decide +kernel
theorem dX7_buy_84 : decode cX7_buy 84 = .ok (.iadd, 1) := by decide +kernel
theorem dX7_buy_85 : decode cX7_buy 85 = .ok (.iastore, 1) := by decide +kernel
theorem dX7_buy_86 : decode cX7_buy 86 = .ok (.aload_n 0, 1) := by decide +kernel
theorem dX7_buy_87 : decode cX7_buy 87 = .ok (.getfield 17, 3) := by decide +kernel
theorem dX7_buy_90 : decode cX7_buy 90 = .ok (.bipush 6, 2) := by decide +kernel
theorem dX7_buy_92 : decode cX7_buy 92 = .ok (.iload_n 1, 1) := by decide +kernel
theorem dX7_buy_93 : decode cX7_buy 93 = .ok (.iadd, 1) := by decide +kernel
theorem dX7_buy_94 : decode cX7_buy 94 = .ok (.iaload, 1) := by decide +kernel
theorem dX7_buy_95 : decode cX7_buy 95 = .ok (.ireturn, 1) := by decide +kernel
theorem dX7_undo_0 : decode cX7_undo 0 = .ok (.aload_n 0, 1) := by decide +kernel
theorem dX7_undo_1 : decode cX7_undo 1 = .ok (.iconst 0, 1) := by decide +kernel
theorem dX7_undo_2 : decode cX7_undo 2 = .ok (.putfield 67, 3) := by decide +kernel
theorem dX7_undo_5 : decode cX7_undo 5 = .ok (.aload_n 0, 1) := by decide +kernel
theorem dX7_undo_6 : decode cX7_undo 6 = .ok (.aload_n 0, 1) := by decide +kernel
theorem dX7_undo_7 : decode cX7_undo 7 = .ok (.getfield 235, 3) := by decide +kernel
theorem dX7_undo_10 : decode cX7_undo 10 = .ok (.ifCond .ne 7, 3) := by decide +kernel
theorem dX7_undo_13 : decode cX7_undo 13 = .ok (.iconst 1, 1) := by decide +kernel
theorem dX7_undo_14 : decode cX7_undo 14 = .ok (.goto 4, 3) := by decide +kernel
theorem dX7_undo_17 : decode cX7_undo 17 = .ok (.iconst 0, 1) := by decide +kernel
theorem dX7_undo_18 : decode cX7_undo 18 = .ok (.iconst 1, 1) := by decide +kernel
theorem dX7_undo_19 : decode cX7_undo 19 = .ok (.invokevirtual 74, 3) := by decide +kernel
theorem dX7_undo_22 : decode cX7_undo 22 = .ok (.ifCond .eq 5, 3) := by decide +kernel
theorem dX7_undo_25 : decode cX7_undo 25 = .ok (.iconst 0, 1) := by decide +kernel
theorem dX7_undo_26 : decode cX7_undo 26 = .ok (.ireturn, 1) := by decide +kernel
theorem dX7_undo_27 : decode cX7_undo 27 = .ok (.aload_n 0, 1) := by decide +kernel
theorem dX7_undo_28 : decode cX7_undo 28 = .ok (.dup, 1) := by decide +kernel
theorem dX7_undo_29 : decode cX7_undo 29 = .ok (.getfield 235, 3) := by decide +kernel
theorem dX7_undo_32 : decode cX7_undo 32 = .ok (.iconst 1, 1) := by decide +kernel
theorem dX7_undo_33 : decode cX7_undo 33 = .ok (.isub, 1) := by decide +kernel
theorem dX7_undo_34 : decode cX7_undo 34 = .ok (.putfield 235, 3) := by decide +kernel
theorem dX7_undo_37 : decode cX7_undo 37 = .ok (.aload_n 0, 1) := by decide +kernel
theorem dX7_undo_38 : decode cX7_undo 38 = .ok (.iconst 0, 1) := by decide +kernel
theorem dX7_undo_39 : decode cX7_undo 39 = .ok (.aload_n 0, 1) := by decide +kernel
theorem dX7_undo_40 : decode cX7_undo 40 = .ok (.getfield 235, 3) := by decide +kernel
theorem dX7_undo_43 : decode cX7_undo 43 = .ok (.iadd, 1) := by decide +kernel
theorem dX7_undo_44 : decode cX7_undo 44 = .ok (.invokevirtual 401, 3) := by decide +kernel
theorem dX7_undo_47 : decode cX7_undo 47 = .ok (.aload_n 0, 1) := by decide +kernel
theorem dX7_undo_48 : decode cX7_undo 48 = .ok (.getfield 235, 3) := by decide +kernel
theorem dX7_undo_51 : decode cX7_undo 51 = .ok (.ireturn, 1) := by decide +kernel
theorem dX7_undoable_0 : decode cX7_undoable 0 = .ok (.aload_n 0, 1) := by decide +kernel
theorem dX7_undoable_1 : decode cX7_undoable 1 = .ok (.iconst 0, 1) := by decide +kernel
theorem dX7_undoable_2 : decode cX7_undoable 2 = .ok (.putfield 67, 3) := by decide +kernel
theorem dX7_undoable_5 : decode cX7_undoable 5 = .ok (.aload_n 0, 1) := by decide +kernel
theorem dX7_undoable_6 : decode cX7_undoable 6 = .ok (.getfield 235, 3) := by decide +kernel
theorem dX7_undoable_9 : decode cX7_undoable 9 = .ok (.ireturn, 1) := by decide +kernel
theorem dX7_save_0 : decode cX7_save 0 = .ok (.aload_n 0, 1) := by decide +kernel
theorem dX7_save_1 : decode cX7_save 1 = .ok (.invokevirtual 320, 3) := by decide +kernel
theorem dX7_save_4 : decode cX7_save 4 = .ok (.ifCond .ne 25, 3) := by decide +kernel
theorem dX7_save_7 : decode cX7_save 7 = .ok (.aload_n 0, 1) := by decide +kernel
theorem dX7_save_8 : decode cX7_save 8 = .ok (.iload_n 1, 1) := by decide +kernel
theorem dX7_save_9 : decode cX7_save 9 = .ok (.iconst 0, 1) := by decide +kernel
theorem dX7_save_10 : decode cX7_save 10 = .ok (.iconst 1, 1) := by decide +kernel
theorem dX7_save_11 : decode cX7_save 11 = .ok (.invokestatic 143, 3) := by decide +kernel
theorem dX7_save_14 : decode cX7_save 14 = .ok (.ifCond .ne 7, 3) := by decide +kernel
theorem dX7_save_17 : decode cX7_save 17 = .ok (.iconst 1, 1) := by decide +kernel
theorem dX7_save_18 : decode cX7_save 18 = .ok (.goto 4, 3) := by decide +kernel
theorem dX7_save_21 : decode cX7_save 21 = .ok (.iconst 0, 1) := by decide +kernel
theorem dX7_save_22 : decode cX7_save 22 = .ok (.iconst 2, 1) := by decide +kernel
theorem dX7_save_23 : decode cX7_save 23 = .ok (.invokevirtual 74, 3) := by decide +kernel
theorem dX7_save_26 : decode cX7_save 26 = .ok (.ifCond .eq 5, 3) := by decide +kernel
theorem dX7_save_29 : decode cX7_save 29 = .ok (.iconst 0, 1) := by decide +kernel
theorem dX7_save_30 : decode cX7_save 30 = .ok (.ireturn, 1) := by decide +kernel
theorem dX7_save_31 : decode cX7_save 31 = .ok (.aload_n 0, 1) := by decide +kernel
theorem dX7_save_32 : decode cX7_save 32 = .ok (.bipush 8, 2) := by decide +kernel
theorem dX7_save_34 : decode cX7_save 34 = .ok (.iload_n 1, 1) := by decide +kernel
theorem dX7_save_35 : decode cX7_save 35 = .ok (.iadd, 1) := by decide +kernel
theorem dX7_save_36 : decode cX7_save 36 = .ok (.invokevirtual 389, 3) := by decide +kernel
theorem dX7_save_39 : decode cX7_save 39 = .ok (.aload_n 0, 1) := by decide +kernel
theorem dX7_save_40 : decode cX7_save 40 = .ok (.getfield 27, 3) := by decide +kernel
theorem dX7_save_43 : decode cX7_save 43 = .ok (.iload_n 1, 1) := by decide +kernel
theorem dX7_save_44 : decode cX7_save 44 = .ok (.iconst 1, 1) := by decide +kernel
theorem dX7_save_45 : decode cX7_save 45 = .ok (.bastore, 1) := by decide +kernel
theorem dX7_save_46 : decode cX7_save 46 = .ok (.aload_n 0, 1) := by decide +kernel
theorem dX7_save_47 : decode cX7_save 47 = .ok (.getfield 17, 3) := by decide +kernel
theorem dX7_save_50 : decode cX7_save 50 = .ok (.iconst 1, 1) := by decide +kernel
theorem dX7_save_51 : decode cX7_save 51 = .ok (.iaload, 1) := by decide +kernel
theorem dX7_save_52 : decode cX7_save 52 = .ok (.ireturn, 1) := by decide +kernel
theorem dX7_restore_0 : decode cX7_restore 0 = .ok (.aload_n 0, 1) := by decide +kernel
theorem dX7_restore_1 : decode cX7_restore 1 = .ok (.iconst 0, 1) := by decide +kernel
theorem dX7_restore_2 : decode cX7_restore 2 = .ok (.putfield 67, 3) := by decide +kernel
theorem dX7_restore_5 : decode cX7_restore 5 = .ok (.aload_n 0, 1) := by decide +kernel
theorem dX7_restore_6 : decode cX7_restore 6 = .ok (.iload_n 1, 1) := by decide +kernel
theorem dX7_restore_7 : decode cX7_restore 7 = .ok (.iconst 0, 1) := by decide +kernel
theorem dX7_restore_8 : decode cX7_restore 8 = .ok (.iconst 1, 1) := by decide +kernel
theorem dX7_restore_9 : decode cX7_restore 9 = .ok (.invokestatic 143, 3) := by decide +kernel
theorem dX7_restore_12 : decode cX7_restore 12 = .ok (.ifCond .ne 7, 3) := by decide +kernel
theorem dX7_restore_15 : decode cX7_restore 15 = .ok (.iconst 1, 1) := by decide +kernel
theorem dX7_restore_16 : decode cX7_restore 16 = .ok (.goto 4, 3) := by decide +kernel
theorem dX7_restore_19 : decode cX7_restore 19 = .ok (.iconst 0, 1) := by decide +kernel
theorem dX7_restore_20 : decode cX7_restore 20 = .ok (.iconst 1, 1) := by decide +kernel
theorem dX7_restore_21 : decode cX7_restore 21 = .ok (.invokevirtual 74, 3) := by decide +kernel
theorem dX7_restore_24 : decode cX7_restore 24 = .ok (.ifCond .ne 25, 3) := by decide +kernel
theorem dX7_restore_27 : decode cX7_restore 27 = .ok (.aload_n 0, 1) := by decide +kernel
theorem dX7_restore_28 : decode cX7_restore 28 = .ok (.aload_n 0, 1) := by decide +kernel
theorem dX7_restore_29 : decode cX7_restore 29 = .ok (.getfield 27, 3) := by decide +kernel
theorem dX7_restore_32 : decode cX7_restore 32 = .ok (.iload_n 1, 1) := by decide +kernel
theorem dX7_restore_33 : decode cX7_restore 33 = .ok (.baload, 1) := by decide +kernel
theorem dX7_restore_34 : decode cX7_restore 34 = .ok (.ifCond .ne 7, 3) := by decide +kernel
theorem dX7_restore_37 : decode cX7_restore 37 = .ok (.iconst 1, 1) := by decide +kernel
theorem dX7_restore_38 : decode cX7_restore 38 = .ok (.goto 4, 3) := by decide +kernel
theorem dX7_restore_41 : decode cX7_restore 41 = .ok (.iconst 0, 1) := by decide +kernel
theorem dX7_restore_42 : decode cX7_restore 42 = .ok (.iconst 2, 1) := by decide +kernel
theorem dX7_restore_43 : decode cX7_restore 43 = .ok (.invokevirtual 74, 3) := by decide +kernel
theorem dX7_restore_46 : decode cX7_restore 46 = .ok (.ifCond .eq 5, 3) := by decide +kernel
theorem dX7_restore_49 : decode cX7_restore 49 = .ok (.iconst 0, 1) := by decide +kernel
theorem dX7_restore_50 : decode cX7_restore 50 = .ok (.ireturn, 1) := by decide +kernel
theorem dX7_restore_51 : decode cX7_restore 51 = .ok (.aload_n 0, 1) := by decide +kernel
theorem dX7_restore_52 : decode cX7_restore 52 = .ok (.bipush 8, 2) := by decide +kernel
theorem dX7_restore_54 : decode cX7_restore 54 = .ok (.iload_n 1, 1) := by decide +kernel
theorem dX7_restore_55 : decode cX7_restore 55 = .ok (.iadd, 1) := by decide +kernel
theorem dX7_restore_56 : decode cX7_restore 56 = .ok (.invokevirtual 401, 3) := by decide +kernel
theorem dX7_restore_59 : decode cX7_restore 59 = .ok (.aload_n 0, 1) := by decide +kernel
theorem dX7_restore_60 : decode cX7_restore 60 = .ok (.iconst 0, 1) := by decide +kernel
theorem dX7_restore_61 : decode cX7_restore 61 = .ok (.putfield 235, 3) := by decide +kernel
theorem dX7_restore_64 : decode cX7_restore 64 = .ok (.aload_n 0, 1) := by decide +kernel
theorem dX7_restore_65 : decode cX7_restore 65 = .ok (.getfield 17, 3) := by decide +kernel
theorem dX7_restore_68 : decode cX7_restore 68 = .ok (.iconst 1, 1) := by decide +kernel
theorem dX7_restore_69 : decode cX7_restore 69 = .ok (.iaload, 1) := by decide +kernel
theorem dX7_restore_70 : decode cX7_restore 70 = .ok (.ireturn, 1) := by decide +kernel
theorem dJ5_init_d00df_0 : decode cJ5_init_d00df 0 = .ok (.aload_n 0, 1) := by decide +kernel
theorem dJ5_init_d00df_1 : decode cJ5_init_d00df 1 = .ok (.invokespecial 3, 3) := by decide +kernel
theorem dJ5_init_d00df_4 : decode cJ5_init_d00df 4 = .ok (.getstatic 18, 3) := by decide +kernel
theorem dJ5_init_d00df_7 : decode cJ5_init_d00df 7 = .ok (.ifCond .eq 18, 3) := by decide +kernel
theorem dJ5_init_d00df_10 : decode cJ5_init_d00df 10 = .ok (.aload_n 0, 1) := by decide +kernel
theorem dJ5_init_d00df_11 : decode cJ5_init_d00df 11 = .ok (.iload_n 1, 1) := by decide +kernel
theorem dJ5_init_d00df_12 : decode cJ5_init_d00df 12 = .ok (.newarray .byte, 2) := by decide +kernel
theorem dJ5_init_d00df_14 : decode cJ5_init_d00df 14 = .ok (.putfield 15, 3) := by decide +kernel
theorem dJ5_init_d00df_17 : decode cJ5_init_d00df 17 = .ok (.aload_n 0, 1) := by decide +kernel
theorem dJ5_init_d00df_18 : decode cJ5_init_d00df 18 = .ok (.iconst 0, 1) := by decide +kernel
theorem dJ5_init_d00df_19 : decode cJ5_init_d00df 19 = .ok (.putfield 22, 3) := by decide +kernel
theorem dJ5_init_d00df_22 : decode cJ5_init_d00df 22 = .ok (.goto 16, 3) := by decide +kernel
theorem dJ5_init_d00df_25 : decode cJ5_init_d00df 25 = .ok (.aload_n 0, 1) := by decide +kernel
theorem dJ5_init_d00df_26 : decode cJ5_init_d00df 26 = .ok (.iload_n 1, 1) := by decide +kernel
theorem dJ5_init_d00df_27 : decode cJ5_init_d00df 27 = .ok (.invokestatic 26, 3) := by decide +kernel
theorem dJ5_init_d00df_30 : decode cJ5_init_d00df 30 = .ok (.putfield 15, 3) := by decide +kernel
theorem dJ5_init_d00df_33 : decode cJ5_init_d00df 33 = .ok (.aload_n 0, 1) := by decide +kernel
theorem dJ5_init_d00df_34 : decode cJ5_init_d00df 34 = .ok (.iconst 1, 1) := by decide +kernel
theorem dJ5_init_d00df_35 : decode cJ5_init_d00df 35 = .ok (.putfield 22, 3) := by decide +kernel
theorem dJ5_init_d00df_38 : decode cJ5_init_d00df 38 = .ok (.return_, 1) := by decide +kernel
theorem dJ5_length_8abf5_0 : decode cJ5_length_8abf5 0 = .ok (.aload_n 0, 1) := by decide +kernel
theorem dJ5_length_8abf5_1 : decode cJ5_length_8abf5 1 = .ok (.getfield 79, 3) := by decide +kernel
theorem dJ5_length_8abf5_4 : decode cJ5_length_8abf5 4 = .ok (.ireturn, 1) := by decide +kernel
theorem dJ5_ensureCapacityInternal_d00df_0 : decode cJ5_ensureCapacityInternal_d00df 0 = .ok (.aload_n 0, 1) := by decide +kernel
theorem dJ5_ensureCapacityInternal_d00df_1 : decode cJ5_ensureCapacityInternal_d00df 1 = .ok (.getfield 15, 3) := by decide +kernel
theorem dJ5_ensureCapacityInternal_d00df_4 : decode cJ5_ensureCapacityInternal_d00df 4 = .ok (.arraylength, 1) := by decide +kernel
theorem dJ5_ensureCapacityInternal_d00df_5 : decode cJ5_ensureCapacityInternal_d00df 5 = .ok (.aload_n 0, 1) := by decide +kernel
theorem dJ5_ensureCapacityInternal_d00df_6 : decode cJ5_ensureCapacityInternal_d00df 6 = .ok (.getfield 22, 3) := by decide +kernel
theorem dJ5_ensureCapacityInternal_d00df_9 : decode cJ5_ensureCapacityInternal_d00df 9 = .ok (.ishr, 1) := by decide +kernel
theorem dJ5_ensureCapacityInternal_d00df_10 : decode cJ5_ensureCapacityInternal_d00df 10 = .ok (.istore_n 2, 1) := by decide +kernel
theorem dJ5_ensureCapacityInternal_d00df_11 : decode cJ5_ensureCapacityInternal_d00df 11 = .ok (.iload_n 1, 1) := by decide +kernel
theorem dJ5_ensureCapacityInternal_d00df_12 : decode cJ5_ensureCapacityInternal_d00df 12 = .ok (.iload_n 2, 1) := by decide +kernel
theorem dJ5_ensureCapacityInternal_d00df_13 : decode cJ5_ensureCapacityInternal_d00df 13 = .ok (.isub, 1) := by decide +kernel
theorem dJ5_ensureCapacityInternal_d00df_14 : decode cJ5_ensureCapacityInternal_d00df 14 = .ok (.ifCond .le 24, 3) := by decide +kernel
theorem dJ5_ensureCapacityInternal_d00df_17 : decode cJ5_ensureCapacityInternal_d00df 17 = .ok (.aload_n 0, 1) := by decide +kernel
theorem dJ5_ensureCapacityInternal_d00df_18 : decode cJ5_ensureCapacityInternal_d00df 18 = .ok (.aload_n 0, 1) := by decide +kernel
theorem dJ5_ensureCapacityInternal_d00df_19 : decode cJ5_ensureCapacityInternal_d00df 19 = .ok (.getfield 15, 3) := by decide +kernel
theorem dJ5_ensureCapacityInternal_d00df_22 : decode cJ5_ensureCapacityInternal_d00df 22 = .ok (.aload_n 0, 1) := by decide +kernel
theorem dJ5_ensureCapacityInternal_d00df_23 : decode cJ5_ensureCapacityInternal_d00df 23 = .ok (.iload_n 1, 1) := by decide +kernel
theorem dJ5_ensureCapacityInternal_d00df_24 : decode cJ5_ensureCapacityInternal_d00df 24 = .ok (.invokevirtual 104, 3) := by decide +kernel
theorem dJ5_ensureCapacityInternal_d00df_27 : decode cJ5_ensureCapacityInternal_d00df 27 = .ok (.aload_n 0, 1) := by decide +kernel
theorem dJ5_ensureCapacityInternal_d00df_28 : decode cJ5_ensureCapacityInternal_d00df 28 = .ok (.getfield 22, 3) := by decide +kernel
theorem dJ5_ensureCapacityInternal_d00df_31 : decode cJ5_ensureCapacityInternal_d00df 31 = .ok (.ishl, 1) := by decide +kernel
theorem dJ5_ensureCapacityInternal_d00df_32 : decode cJ5_ensureCapacityInternal_d00df 32 = .ok (.invokestatic 108, 3) := by decide +kernel
theorem dJ5_ensureCapacityInternal_d00df_35 : decode cJ5_ensureCapacityInternal_d00df 35 = .ok (.putfield 15, 3) := by decide +kernel
theorem dJ5_ensureCapacityInternal_d00df_38 : decode cJ5_ensureCapacityInternal_d00df 38 = .ok (.return_, 1) := by decide +kernel
theorem dJ5_newCapacity_0f7a4_0 : decode cJ5_newCapacity_0f7a4 0 = .ok (.aload_n 0, 1) := by decide +kernel
theorem dJ5_newCapacity_0f7a4_1 : decode cJ5_newCapacity_0f7a4 1 = .ok (.getfield 15, 3) := by decide +kernel
theorem dJ5_newCapacity_0f7a4_4 : decode cJ5_newCapacity_0f7a4 4 = .ok (.arraylength, 1) := by decide +kernel
theorem dJ5_newCapacity_0f7a4_5 : decode cJ5_newCapacity_0f7a4 5 = .ok (.istore_n 2, 1) := by decide +kernel
theorem dJ5_newCapacity_0f7a4_6 : decode cJ5_newCapacity_0f7a4 6 = .ok (.iload_n 1, 1) := by decide +kernel
theorem dJ5_newCapacity_0f7a4_7 : decode cJ5_newCapacity_0f7a4 7 = .ok (.aload_n 0, 1) := by decide +kernel
theorem dJ5_newCapacity_0f7a4_8 : decode cJ5_newCapacity_0f7a4 8 = .ok (.getfield 22, 3) := by decide +kernel
theorem dJ5_newCapacity_0f7a4_11 : decode cJ5_newCapacity_0f7a4 11 = .ok (.ishl, 1) := by decide +kernel
theorem dJ5_newCapacity_0f7a4_12 : decode cJ5_newCapacity_0f7a4 12 = .ok (.istore_n 3, 1) := by decide +kernel
theorem dJ5_newCapacity_0f7a4_13 : decode cJ5_newCapacity_0f7a4 13 = .ok (.iload_n 3, 1) := by decide +kernel
theorem dJ5_newCapacity_0f7a4_14 : decode cJ5_newCapacity_0f7a4 14 = .ok (.iload_n 2, 1) := by decide +kernel
theorem dJ5_newCapacity_0f7a4_15 : decode cJ5_newCapacity_0f7a4 15 = .ok (.isub, 1) := by decide +kernel
theorem dJ5_newCapacity_0f7a4_16 : decode cJ5_newCapacity_0f7a4 16 = .ok (.istore 4, 2) := by decide +kernel
theorem dJ5_newCapacity_0f7a4_18 : decode cJ5_newCapacity_0f7a4 18 = .ok (.iload_n 2, 1) := by decide +kernel
theorem dJ5_newCapacity_0f7a4_19 : decode cJ5_newCapacity_0f7a4 19 = .ok (.iload 4, 2) := by decide +kernel
theorem dJ5_newCapacity_0f7a4_21 : decode cJ5_newCapacity_0f7a4 21 = .ok (.iload_n 2, 1) := by decide +kernel
theorem dJ5_newCapacity_0f7a4_22 : decode cJ5_newCapacity_0f7a4 22 = .ok (.iconst 2, 1) := by decide +kernel
theorem dJ5_newCapacity_0f7a4_23 : decode cJ5_newCapacity_0f7a4 23 = .ok (.aload_n 0, 1) := by decide +kernel
theorem dJ5_newCapacity_0f7a4_24 : decode cJ5_newCapacity_0f7a4 24 = .ok (.getfield 22, 3) := by decide +kernel
theorem dJ5_newCapacity_0f7a4_27 : decode cJ5_newCapacity_0f7a4 27 = .ok (.ishl, 1) := by decide +kernel
theorem dJ5_newCapacity_0f7a4_28 : decode cJ5_newCapacity_0f7a4 28 = .ok (.iadd, 1) := by decide +kernel
theorem dJ5_newCapacity_0f7a4_29 : decode cJ5_newCapacity_0f7a4 29 = .ok (.invokestatic 114, 3) := by decide +kernel
theorem dJ5_newCapacity_0f7a4_32 : decode cJ5_newCapacity_0f7a4 32 = .ok (.istore 5, 2) := by decide +kernel
theorem dJ5_newCapacity_0f7a4_34 : decode cJ5_newCapacity_0f7a4 34 = .ok (.iload 5, 2) := by decide +kernel
theorem dJ5_newCapacity_0f7a4_36 : decode cJ5_newCapacity_0f7a4 36 = .ok (.ldc 39, 2) := by decide +kernel
theorem dJ5_newCapacity_0f7a4_38 : decode cJ5_newCapacity_0f7a4 38 = .ok (.if_icmp .ne 13, 3) := by decide +kernel
theorem dJ5_newCapacity_0f7a4_41 : decode cJ5_newCapacity_0f7a4 41 = .ok (.new 120, 3) := by decide +kernel
theorem dJ5_newCapacity_0f7a4_44 : decode cJ5_newCapacity_0f7a4 44 = .ok (.dup, 1) := by decide +kernel
theorem dJ5_newCapacity_0f7a4_45 : decode cJ5_newCapacity_0f7a4 45 = .ok (.ldc 122, 2) := by decide +kernel
theorem dJ5_newCapacity_0f7a4_47 : decode cJ5_newCapacity_0f7a4 47 = .ok (.invokespecial 124, 3) := by decide +kernel
theorem dJ5_newCapacity_0f7a4_50 : decode cJ5_newCapacity_0f7a4 50 = .ok (.athrow, 1) := by decide +kernel
theorem dJ5_newCapacity_0f7a4_51 : decode cJ5_newCapacity_0f7a4 51 = .ok (.iload 5, 2) := by decide +kernel
theorem dJ5_newCapacity_0f7a4_53 : decode cJ5_newCapacity_0f7a4 53 = .ok (.aload_n 0, 1) := by decide +kernel
theorem dJ5_newCapacity_0f7a4_54 : decode cJ5_newCapacity_0f7a4 54 = .ok (.getfield 22, 3) := by decide +kernel
theorem dJ5_newCapacity_0f7a4_57 : decode cJ5_newCapacity_0f7a4 57 = .ok (.ishr, 1) := by decide +kernel
theorem dJ5_newCapacity_0f7a4_58 : decode cJ5_newCapacity_0f7a4 58 = .ok (.ireturn, 1) := by decide +kernel
theorem dJ5_inflate_da8c8_0 : decode cJ5_inflate_da8c8 0 = .ok (.aload_n 0, 1) := by decide +kernel
theorem dJ5_inflate_da8c8_1 : decode cJ5_inflate_da8c8 1 = .ok (.invokevirtual 83, 3) := by decide +kernel
theorem dJ5_inflate_da8c8_4 : decode cJ5_inflate_da8c8 4 = .ok (.ifCond .ne 4, 3) := by decide +kernel
theorem dJ5_inflate_da8c8_7 : decode cJ5_inflate_da8c8 7 = .ok (.return_, 1) := by decide +kernel
theorem dJ5_inflate_da8c8_8 : decode cJ5_inflate_da8c8 8 = .ok (.aload_n 0, 1) := by decide +kernel
theorem dJ5_inflate_da8c8_9 : decode cJ5_inflate_da8c8 9 = .ok (.getfield 15, 3) := by decide +kernel
theorem dJ5_inflate_da8c8_12 : decode cJ5_inflate_da8c8 12 = .ok (.arraylength, 1) := by decide +kernel
theorem dJ5_inflate_da8c8_13 : decode cJ5_inflate_da8c8 13 = .ok (.invokestatic 26, 3) := by decide +kernel
theorem dJ5_inflate_da8c8_16 : decode cJ5_inflate_da8c8 16 = .ok (.astore_n 1, 1) := by decide +kernel
theorem dJ5_inflate_da8c8_17 : decode cJ5_inflate_da8c8 17 = .ok (.aload_n 0, 1) := by decide +kernel
theorem dJ5_inflate_da8c8_18 : decode cJ5_inflate_da8c8 18 = .ok (.getfield 15, 3) := by decide +kernel
theorem dJ5_inflate_da8c8_21 : decode cJ5_inflate_da8c8 21 = .ok (.iconst 0, 1) := by decide +kernel
theorem dJ5_inflate_da8c8_22 : decode cJ5_inflate_da8c8 22 = .ok (.aload_n 1, 1) := by decide +kernel
theorem dJ5_inflate_da8c8_23 : decode cJ5_inflate_da8c8 23 = .ok (.iconst 0, 1) := by decide +kernel
theorem dJ5_inflate_da8c8_24 : decode cJ5_inflate_da8c8 24 = .ok (.aload_n 0, 1) := by decide +kernel
theorem dJ5_inflate_da8c8_25 : decode cJ5_inflate_da8c8 25 = .ok (.getfield 79, 3) := by decide +kernel
theorem dJ5_inflate_da8c8_28 : decode cJ5_inflate_da8c8 28 = .ok (.invokestatic 125, 3) := by decide +kernel
theorem dJ5_inflate_da8c8_31 : decode cJ5_inflate_da8c8 31 = .ok (.aload_n 0, 1) := by decide +kernel
theorem dJ5_inflate_da8c8_32 : decode cJ5_inflate_da8c8 32 = .ok (.aload_n 1, 1) := by decide +kernel
theorem dJ5_inflate_da8c8_33 : decode cJ5_inflate_da8c8 33 = .ok (.putfield 15, 3) := by decide +kernel
theorem dJ5_inflate_da8c8_36 : decode cJ5_inflate_da8c8 36 = .ok (.aload_n 0, 1) := by decide +kernel
theorem dJ5_inflate_da8c8_37 : decode cJ5_inflate_da8c8 37 = .ok (.iconst 1, 1) := by decide +kernel
theorem dJ5_inflate_da8c8_38 : decode cJ5_inflate_da8c8 38 = .ok (.putfield 22, 3) := by decide +kernel
theorem dJ5_inflate_da8c8_41 : decode cJ5_inflate_da8c8 41 = .ok (.return_, 1) := by decide +kernel
theorem dJ5_setLength_d00df_0 : decode cJ5_setLength_d00df 0 = .ok (.iload_n 1, 1) := by decide +kernel
theorem dJ5_setLength_d00df_1 : decode cJ5_setLength_d00df 1 = .ok (.ifCond .ge 12, 3) := by decide +kernel
theorem dJ5_setLength_d00df_4 : decode cJ5_setLength_d00df 4 = .ok (.new 129, 3) := by decide +kernel
theorem dJ5_setLength_d00df_7 : decode cJ5_setLength_d00df 7 = .ok (.dup, 1) := by decide +kernel
theorem dJ5_setLength_d00df_8 : decode cJ5_setLength_d00df 8 = .ok (.iload_n 1, 1) := by decide +kernel
theorem dJ5_setLength_d00df_9 : decode cJ5_setLength_d00df 9 = .ok (.invokespecial 131, 3) := by decide +kernel
theorem dJ5_setLength_d00df_12 : decode cJ5_setLength_d00df 12 = .ok (.athrow, 1) := by decide +kernel
theorem dJ5_setLength_d00df_13 : decode cJ5_setLength_d00df 13 = .ok (.aload_n 0, 1) := by decide +kernel
theorem dJ5_setLength_d00df_14 : decode cJ5_setLength_d00df 14 = .ok (.iload_n 1, 1) := by decide +kernel
theorem dJ5_setLength_d00df_15 : decode cJ5_setLength_d00df 15 = .ok (.invokevirtual 100, 3) := by decide +kernel
theorem dJ5_setLength_d00df_18 : decode cJ5_setLength_d00df 18 = .ok (.aload_n 0, 1) := by decide +kernel
theorem dJ5_setLength_d00df_19 : decode cJ5_setLength_d00df 19 = .ok (.getfield 79, 3) := by decide +kernel
theorem dJ5_setLength_d00df_22 : decode cJ5_setLength_d00df 22 = .ok (.iload_n 1, 1) := by decide +kernel
theorem dJ5_setLength_d00df_23 : decode cJ5_setLength_d00df 23 = .ok (.if_icmp .ge 40, 3) := by decide +kernel
theorem dJ5_setLength_d00df_26 : decode cJ5_setLength_d00df 26 = .ok (.aload_n 0, 1) := by decide +kernel
theorem dJ5_setLength_d00df_27 : decode cJ5_setLength_d00df 27 = .ok (.invokevirtual 83, 3) := by decide +kernel
theorem dJ5_setLength_d00df_30 : decode cJ5_setLength_d00df 30 = .ok (.ifCond .eq 18, 3) := by decide +kernel
theorem dJ5_setLength_d00df_33 : decode cJ5_setLength_d00df 33 = .ok (.aload_n 0, 1) := by decide +kernel
theorem dJ5_setLength_d00df_34 : decode cJ5_setLength_d00df 34 = .ok (.getfield 15, 3) := by decide +kernel
theorem dJ5_setLength_d00df_37 : decode cJ5_setLength_d00df 37 = .ok (.aload_n 0, 1) := by decide +kernel
theorem dJ5_setLength_d00df_38 : decode cJ5_setLength_d00df 38 = .ok (.getfield 79, 3) := by decide +kernel
theorem dJ5_setLength_d00df_41 : decode cJ5_setLength_d00df 41 = .ok (.iload_n 1, 1) := by decide +kernel
theorem dJ5_setLength_d00df_42 : decode cJ5_setLength_d00df 42 = .ok (.invokestatic 133, 3) := by decide +kernel
theorem dJ5_setLength_d00df_45 : decode cJ5_setLength_d00df 45 = .ok (.goto 31, 3) := by decide +kernel
theorem dJ5_setLength_d00df_48 : decode cJ5_setLength_d00df 48 = .ok (.aload_n 0, 1) := by decide +kernel
theorem dJ5_setLength_d00df_49 : decode cJ5_setLength_d00df 49 = .ok (.getfield 15, 3) := by decide +kernel
theorem dJ5_setLength_d00df_52 : decode cJ5_setLength_d00df 52 = .ok (.aload_n 0, 1) := by decide +kernel
theorem dJ5_setLength_d00df_53 : decode cJ5_setLength_d00df 53 = .ok (.getfield 79, 3) := by decide +kernel
theorem dJ5_setLength_d00df_56 : decode cJ5_setLength_d00df 56 = .ok (.iload_n 1, 1) := by decide +kernel
theorem dJ5_setLength_d00df_57 : decode cJ5_setLength_d00df 57 = .ok (.invokestatic 137, 3) := by decide +kernel
theorem dJ5_setLength_d00df_60 : decode cJ5_setLength_d00df 60 = .ok (.goto 16, 3) := by decide +kernel
theorem dJ5_setLength_d00df_63 : decode cJ5_setLength_d00df 63 = .ok (.aload_n 0, 1) := by decide +kernel
theorem dJ5_setLength_d00df_64 : decode cJ5_setLength_d00df 64 = .ok (.getfield 79, 3) := by decide +kernel
theorem dJ5_setLength_d00df_67 : decode cJ5_setLength_d00df 67 = .ok (.iload_n 1, 1) := by decide +kernel
theorem dJ5_setLength_d00df_68 : decode cJ5_setLength_d00df 68 = .ok (.if_icmp .le 8, 3) := by decide +kernel
theorem dJ5_setLength_d00df_71 : decode cJ5_setLength_d00df 71 = .ok (.aload_n 0, 1) := by decide +kernel
theorem dJ5_setLength_d00df_72 : decode cJ5_setLength_d00df 72 = .ok (.iconst 1, 1) := by decide +kernel
theorem dJ5_setLength_d00df_73 : decode cJ5_setLength_d00df 73 = .ok (.putfield 73, 3) := by decide +kernel
theorem dJ5_setLength_d00df_76 : decode cJ5_setLength_d00df 76 = .ok (.aload_n 0, 1) := by decide +kernel
theorem dJ5_setLength_d00df_77 : decode cJ5_setLength_d00df 77 = .ok (.iload_n 1, 1) := by decide +kernel
theorem dJ5_setLength_d00df_78 : decode cJ5_setLength_d00df 78 = .ok (.putfield 79, 3) := by decide +kernel
theorem dJ5_setLength_d00df_81 : decode cJ5_setLength_d00df 81 = .ok (.return_, 1) := by decide +kernel
theorem dJ5_charAt_5068e_0 : decode cJ5_charAt_5068e 0 = .ok (.aload_n 0, 1) := by decide +kernel
theorem dJ5_charAt_5068e_1 : decode cJ5_charAt_5068e 1 = .ok (.getfield 22, 3) := by decide +kernel
theorem dJ5_charAt_5068e_4 : decode cJ5_charAt_5068e 4 = .ok (.istore_n 2, 1) := by decide +kernel
theorem dJ5_charAt_5068e_5 : decode cJ5_charAt_5068e 5 = .ok (.aload_n 0, 1) := by decide +kernel
theorem dJ5_charAt_5068e_6 : decode cJ5_charAt_5068e 6 = .ok (.getfield 15, 3) := by decide +kernel
theorem dJ5_charAt_5068e_9 : decode cJ5_charAt_5068e 9 = .ok (.astore_n 3, 1) := by decide +kernel
theorem dJ5_charAt_5068e_10 : decode cJ5_charAt_5068e 10 = .ok (.aload_n 0, 1) := by decide +kernel
theorem dJ5_charAt_5068e_11 : decode cJ5_charAt_5068e 11 = .ok (.getfield 79, 3) := by decide +kernel
theorem dJ5_charAt_5068e_14 : decode cJ5_charAt_5068e 14 = .ok (.aload_n 3, 1) := by decide +kernel
theorem dJ5_charAt_5068e_15 : decode cJ5_charAt_5068e 15 = .ok (.arraylength, 1) := by decide +kernel
theorem dJ5_charAt_5068e_16 : decode cJ5_charAt_5068e 16 = .ok (.iload_n 2, 1) := by decide +kernel
theorem dJ5_charAt_5068e_17 : decode cJ5_charAt_5068e 17 = .ok (.ishr, 1) := by decide +kernel
theorem dJ5_charAt_5068e_18 : decode cJ5_charAt_5068e 18 = .ok (.invokestatic 138, 3) := by decide +kernel
theorem dJ5_charAt_5068e_21 : decode cJ5_charAt_5068e 21 = .ok (.istore 4, 2) := by decide +kernel
theorem dJ5_charAt_5068e_23 : decode cJ5_charAt_5068e 23 = .ok (.iload_n 1, 1) := by decide +kernel
theorem dJ5_charAt_5068e_24 : decode cJ5_charAt_5068e 24 = .ok (.iload 4, 2) := by decide +kernel
theorem dJ5_charAt_5068e_26 : decode cJ5_charAt_5068e 26 = .ok (.invokestatic 144, 3) := by decide +kernel
theorem dJ5_charAt_5068e_29 : decode cJ5_charAt_5068e 29 = .ok (.iload_n 2, 1) := by decide +kernel
theorem dJ5_charAt_5068e_30 : decode cJ5_charAt_5068e 30 = .ok (.ifCond .ne 12, 3) := by decide +kernel
theorem dJ5_charAt_5068e_33 : decode cJ5_charAt_5068e 33 = .ok (.aload_n 3, 1) := by decide +kernel
theorem dJ5_charAt_5068e_34 : decode cJ5_charAt_5068e 34 = .ok (.iload_n 1, 1) := by decide +kernel
theorem dJ5_charAt_5068e_35 : decode cJ5_charAt_5068e 35 = .ok (.baload, 1) := by decide +kernel
theorem dJ5_charAt_5068e_36 : decode cJ5_charAt_5068e 36 = .ok (.sipush 255, 3) := by decide +kernel
theorem dJ5_charAt_5068e_39 : decode cJ5_charAt_5068e 39 = .ok (.iand, 1) := by decide +kernel
theorem dJ5_charAt_5068e_40 : decode cJ5_charAt_5068e 40 = .ok (.i2c, 1) := by decide +kernel
theorem dJ5_charAt_5068e_41 : decode cJ5_charAt_5068e 41 = .ok (.ireturn, 1) := by decide +kernel
theorem dJ5_charAt_5068e_42 : decode cJ5_charAt_5068e 42 = .ok (.aload_n 3, 1) := by decide +kernel
theorem dJ5_charAt_5068e_43 : decode cJ5_charAt_5068e 43 = .ok (.iload_n 1, 1) := by decide +kernel
theorem dJ5_charAt_5068e_44 : decode cJ5_charAt_5068e 44 = .ok (.invokestatic 148, 3) := by decide +kernel
theorem dJ5_charAt_5068e_47 : decode cJ5_charAt_5068e 47 = .ok (.ireturn, 1) := by decide +kernel
theorem dJ5_append_cf1ce_0 : decode cJ5_append_cf1ce 0 = .ok (.aload_n 1, 1) := by decide +kernel
theorem dJ5_append_cf1ce_1 : decode cJ5_append_cf1ce 1 = .ok (.ifnonnull 8, 3) := by decide +kernel
theorem dJ5_append_cf1ce_4 : decode cJ5_append_cf1ce 4 = .ok (.aload_n 0, 1) := by decide +kernel
theorem dJ5_append_cf1ce_5 : decode cJ5_append_cf1ce 5 = .ok (.invokevirtual 204, 3) := by decide +kernel
theorem dJ5_append_cf1ce_8 : decode cJ5_append_cf1ce 8 = .ok (.areturn, 1) := by decide +kernel
theorem dJ5_append_cf1ce_9 : decode cJ5_append_cf1ce 9 = .ok (.aload_n 1, 1) := by decide +kernel
theorem dJ5_append_cf1ce_10 : decode cJ5_append_cf1ce 10 = .ok (.invokevirtual 32, 3) := by decide +kernel
theorem dJ5_append_cf1ce_13 : decode cJ5_append_cf1ce 13 = .ok (.istore_n 2, 1) := by decide +kernel
theorem dJ5_append_cf1ce_14 : decode cJ5_append_cf1ce 14 = .ok (.aload_n 0, 1) := by decide +kernel
theorem dJ5_append_cf1ce_15 : decode cJ5_append_cf1ce 15 = .ok (.aload_n 0, 1) := by decide +kernel
theorem dJ5_append_cf1ce_16 : decode cJ5_append_cf1ce 16 = .ok (.getfield 79, 3) := by decide +kernel
theorem dJ5_append_cf1ce_19 : decode cJ5_append_cf1ce 19 = .ok (.iload_n 2, 1) := by decide +kernel
theorem dJ5_append_cf1ce_20 : decode cJ5_append_cf1ce 20 = .ok (.iadd, 1) := by decide +kernel
theorem dJ5_append_cf1ce_21 : decode cJ5_append_cf1ce 21 = .ok (.invokevirtual 100, 3) := by decide +kernel
theorem dJ5_append_cf1ce_24 : decode cJ5_append_cf1ce 24 = .ok (.aload_n 0, 1) := by decide +kernel
theorem dJ5_append_cf1ce_25 : decode cJ5_append_cf1ce 25 = .ok (.aload_n 0, 1) := by decide +kernel
theorem dJ5_append_cf1ce_26 : decode cJ5_append_cf1ce 26 = .ok (.getfield 79, 3) := by decide +kernel
theorem dJ5_append_cf1ce_29 : decode cJ5_append_cf1ce 29 = .ok (.aload_n 1, 1) := by decide +kernel
theorem dJ5_append_cf1ce_30 : decode cJ5_append_cf1ce 30 = .ok (.invokevirtual 208, 3) := by decide +kernel
theorem dJ5_append_cf1ce_33 : decode cJ5_append_cf1ce 33 = .ok (.aload_n 0, 1) := by decide +kernel
theorem dJ5_append_cf1ce_34 : decode cJ5_append_cf1ce 34 = .ok (.dup, 1) := by decide +kernel
theorem dJ5_append_cf1ce_35 : decode cJ5_append_cf1ce 35 = .ok (.getfield 79, 3) := by decide +kernel
theorem dJ5_append_cf1ce_38 : decode cJ5_append_cf1ce 38 = .ok (.iload_n 2, 1) := by decide +kernel
theorem dJ5_append_cf1ce_39 : decode cJ5_append_cf1ce 39 = .ok (.iadd, 1) := by decide +kernel
theorem dJ5_append_cf1ce_40 : decode cJ5_append_cf1ce 40 = .ok (.putfield 79, 3) := by decide +kernel
theorem dJ5_append_cf1ce_43 : decode cJ5_append_cf1ce 43 = .ok (.aload_n 0, 1) := by decide +kernel
theorem dJ5_append_cf1ce_44 : decode cJ5_append_cf1ce 44 = .ok (.areturn, 1) := by decide +kernel
theorem dJ5_appendNull_278bc_0 : decode cJ5_appendNull_278bc 0 = .ok (.aload_n 0, 1) := by decide +kernel
theorem dJ5_appendNull_278bc_1 : decode cJ5_appendNull_278bc 1 = .ok (.aload_n 0, 1) := by decide +kernel
theorem dJ5_appendNull_278bc_2 : decode cJ5_appendNull_278bc 2 = .ok (.getfield 79, 3) := by decide +kernel
theorem dJ5_appendNull_278bc_5 : decode cJ5_appendNull_278bc 5 = .ok (.iconst 4, 1) := by decide +kernel
theorem dJ5_appendNull_278bc_6 : decode cJ5_appendNull_278bc 6 = .ok (.iadd, 1) := by decide +kernel
theorem dJ5_appendNull_278bc_7 : decode cJ5_appendNull_278bc 7 = .ok (.invokevirtual 100, 3) := by decide +kernel
theorem dJ5_appendNull_278bc_10 : decode cJ5_appendNull_278bc 10 = .ok (.aload_n 0, 1) := by decide +kernel
theorem dJ5_appendNull_278bc_11 : decode cJ5_appendNull_278bc 11 = .ok (.getfield 79, 3) := by decide +kernel
theorem dJ5_appendNull_278bc_14 : decode cJ5_appendNull_278bc 14 = .ok (.istore_n 1, 1) := by decide +kernel
theorem dJ5_appendNull_278bc_15 : decode cJ5_appendNull_278bc 15 = .ok (.aload_n 0, 1) := by decide +kernel
theorem dJ5_appendNull_278bc_16 : decode cJ5_appendNull_278bc 16 = .ok (.getfield 15, 3) := by decide +kernel
theorem dJ5_appendNull_278bc_19 : decode cJ5_appendNull_278bc 19 = .ok (.astore_n 2, 1) := by decide +kernel
theorem dJ5_appendNull_278bc_20 : decode cJ5_appendNull_278bc 20 = .ok (.aload_n 0, 1) := by decide +kernel
theorem dJ5_appendNull_278bc_21 : decode cJ5_appendNull_278bc 21 = .ok (.invokevirtual 83, 3) := by decide +kernel
theorem dJ5_appendNull_278bc_24 : decode cJ5_appendNull_278bc 24 = .ok (.ifCond .eq 38, 3) := by decide +kernel
theorem dJ5_appendNull_278bc_27 : decode cJ5_appendNull_278bc 27 = .ok (.aload_n 2, 1) := by decide +kernel
theorem dJ5_appendNull_278bc_28 : decode cJ5_appendNull_278bc 28 = .ok (.iload_n 1, 1) := by decide +kernel
theorem dJ5_appendNull_278bc_29 : decode cJ5_appendNull_278bc 29 = .ok (.iinc 1 1, 3) := by decide +kernel
theorem dJ5_appendNull_278bc_32 : decode cJ5_appendNull_278bc 32 = .ok (.bipush 110, 2) := by decide +kernel
theorem dJ5_appendNull_278bc_34 : decode cJ5_appendNull_278bc 34 = .ok (.bastore, 1) := by decide +kernel
theorem dJ5_appendNull_278bc_35 : decode cJ5_appendNull_278bc 35 = .ok (.aload_n 2, 1) := by decide +kernel
theorem dJ5_appendNull_278bc_36 : decode cJ5_appendNull_278bc 36 = .ok (.iload_n 1, 1) := by decide +kernel
theorem dJ5_appendNull_278bc_37 : decode cJ5_appendNull_278bc 37 = .ok (.iinc 1 1, 3) := by decide +kernel
theorem dJ5_appendNull_278bc_40 : decode cJ5_appendNull_278bc 40 = .ok (.bipush 117, 2) := by decide +kernel
theorem dJ5_appendNull_278bc_42 : decode cJ5_appendNull_278bc 42 = .ok (.bastore, 1) := by decide +kernel
theorem dJ5_appendNull_278bc_43 : decode cJ5_appendNull_278bc 43 = .ok (.aload_n 2, 1) := by decide +kernel
theorem dJ5_appendNull_278bc_44 : decode cJ5_appendNull_278bc 44 = .ok (.iload_n 1, 1) := by decide +kernel
theorem dJ5_appendNull_278bc_45 : decode cJ5_appendNull_278bc 45 = .ok (.iinc 1 1, 3) := by decide +kernel
theorem dJ5_appendNull_278bc_48 : decode cJ5_appendNull_278bc 48 = .ok (.bipush 108, 2) := by decide +kernel
theorem dJ5_appendNull_278bc_50 : decode cJ5_appendNull_278bc 50 = .ok (.bastore, 1) := by decide +kernel
theorem dJ5_appendNull_278bc_51 : decode cJ5_appendNull_278bc 51 = .ok (.aload_n 2, 1) := by decide +kernel
theorem dJ5_appendNull_278bc_52 : decode cJ5_appendNull_278bc 52 = .ok (.iload_n 1, 1) := by decide +kernel
theorem dJ5_appendNull_278bc_53 : decode cJ5_appendNull_278bc 53 = .ok (.iinc 1 1, 3) := by decide +kernel
theorem dJ5_appendNull_278bc_56 : decode cJ5_appendNull_278bc 56 = .ok (.bipush 108, 2) := by decide +kernel
theorem dJ5_appendNull_278bc_58 : decode cJ5_appendNull_278bc 58 = .ok (.bastore, 1) := by decide +kernel
theorem dJ5_appendNull_278bc_59 : decode cJ5_appendNull_278bc 59 = .ok (.goto 17, 3) := by decide +kernel
theorem dJ5_appendNull_278bc_62 : decode cJ5_appendNull_278bc 62 = .ok (.aload_n 2, 1) := by decide +kernel
theorem dJ5_appendNull_278bc_63 : decode cJ5_appendNull_278bc 63 = .ok (.iload_n 1, 1) := by decide +kernel
theorem dJ5_appendNull_278bc_64 : decode cJ5_appendNull_278bc 64 = .ok (.bipush 110, 2) := by decide +kernel
theorem dJ5_appendNull_278bc_66 : decode cJ5_appendNull_278bc 66 = .ok (.bipush 117, 2) := by decide +kernel
theorem dJ5_appendNull_278bc_68 : decode cJ5_appendNull_278bc 68 = .ok (.bipush 108, 2) := by decide +kernel
theorem dJ5_appendNull_278bc_70 : decode cJ5_appendNull_278bc 70 = .ok (.bipush 108, 2) := by decide +kernel
theorem dJ5_appendNull_278bc_72 : decode cJ5_appendNull_278bc 72 = .ok (.invokestatic 226, 3) := by decide +kernel
theorem dJ5_appendNull_278bc_75 : decode cJ5_appendNull_278bc 75 = .ok (.istore_n 1, 1) := by decide +kernel
theorem dJ5_appendNull_278bc_76 : decode cJ5_appendNull_278bc 76 = .ok (.aload_n 0, 1) := by decide +kernel
theorem dJ5_appendNull_278bc_77 : decode cJ5_appendNull_278bc 77 = .ok (.iload_n 1, 1) := by decide +kernel
theorem dJ5_appendNull_278bc_78 : decode cJ5_appendNull_278bc 78 = .ok (.putfield 79, 3) := by decide +kernel
theorem dJ5_appendNull_278bc_81 : decode cJ5_appendNull_278bc 81 = .ok (.aload_n 0, 1) := by decide +kernel
theorem dJ5_appendNull_278bc_82 : decode cJ5_appendNull_278bc 82 = .ok (.areturn, 1) := by decide +kernel
theorem dJ5_append_3fe6f_0 : decode cJ5_append_3fe6f 0 = .ok (.aload_n 0, 1) := by decide +kernel
theorem dJ5_append_3fe6f_1 : decode cJ5_append_3fe6f 1 = .ok (.aload_n 0, 1) := by decide +kernel
theorem dJ5_append_3fe6f_2 : decode cJ5_append_3fe6f 2 = .ok (.getfield 79, 3) := by decide +kernel
theorem dJ5_append_3fe6f_5 : decode cJ5_append_3fe6f 5 = .ok (.iconst 1, 1) := by decide +kernel
theorem dJ5_append_3fe6f_6 : decode cJ5_append_3fe6f 6 = .ok (.iadd, 1) := by decide +kernel
theorem dJ5_append_3fe6f_7 : decode cJ5_append_3fe6f 7 = .ok (.invokevirtual 100, 3) := by decide +kernel
theorem dJ5_append_3fe6f_10 : decode cJ5_append_3fe6f 10 = .ok (.aload_n 0, 1) := by decide +kernel
theorem dJ5_append_3fe6f_11 : decode cJ5_append_3fe6f 11 = .ok (.invokevirtual 83, 3) := by decide +kernel
theorem dJ5_append_3fe6f_14 : decode cJ5_append_3fe6f 14 = .ok (.ifCond .eq 31, 3) := by decide +kernel
theorem dJ5_append_3fe6f_17 : decode cJ5_append_3fe6f 17 = .ok (.iload_n 1, 1) := by decide +kernel
theorem dJ5_append_3fe6f_18 : decode cJ5_append_3fe6f 18 = .ok (.invokestatic 191, 3) := by decide +kernel
theorem dJ5_append_3fe6f_21 : decode cJ5_append_3fe6f 21 = .ok (.ifCond .eq 24, 3) := by decide +kernel
theorem dJ5_append_3fe6f_24 : decode cJ5_append_3fe6f 24 = .ok (.aload_n 0, 1) := by decide +kernel
theorem dJ5_append_3fe6f_25 : decode cJ5_append_3fe6f 25 = .ok (.getfield 15, 3) := by decide +kernel
theorem dJ5_append_3fe6f_28 : decode cJ5_append_3fe6f 28 = .ok (.aload_n 0, 1) := by decide +kernel
theorem dJ5_append_3fe6f_29 : decode cJ5_append_3fe6f 29 = .ok (.dup, 1) := by decide +kernel
theorem dJ5_append_3fe6f_30 : decode cJ5_append_3fe6f 30 = .ok (.getfield 79, 3) := by decide +kernel
theorem dJ5_append_3fe6f_33 : decode cJ5_append_3fe6f 33 = .ok (.dup_x1, 1) := by decide +kernel
theorem dJ5_append_3fe6f_34 : decode cJ5_append_3fe6f 34 = .ok (.iconst 1, 1) := by decide +kernel
theorem dJ5_append_3fe6f_35 : decode cJ5_append_3fe6f 35 = .ok (.iadd, 1) := by decide +kernel
theorem dJ5_append_3fe6f_36 : decode cJ5_append_3fe6f 36 = .ok (.putfield 79, 3) := by decide +kernel
theorem dJ5_append_3fe6f_39 : decode cJ5_append_3fe6f 39 = .ok (.iload_n 1, 1) := by decide +kernel
theorem dJ5_append_3fe6f_40 : decode cJ5_append_3fe6f 40 = .ok (.i2b, 1) := by decide +kernel
theorem dJ5_append_3fe6f_41 : decode cJ5_append_3fe6f 41 = .ok (.bastore, 1) := by decide +kernel
theorem dJ5_append_3fe6f_42 : decode cJ5_append_3fe6f 42 = .ok (.goto 33, 3) := by decide +kernel
theorem dJ5_append_3fe6f_45 : decode cJ5_append_3fe6f 45 = .ok (.aload_n 0, 1) := by decide +kernel
theorem dJ5_append_3fe6f_46 : decode cJ5_append_3fe6f 46 = .ok (.invokevirtual 83, 3) := by decide +kernel
theorem dJ5_append_3fe6f_49 : decode cJ5_append_3fe6f 49 = .ok (.ifCond .eq 7, 3) := by decide +kernel
theorem dJ5_append_3fe6f_52 : decode cJ5_append_3fe6f 52 = .ok (.aload_n 0, 1) := by decide +kernel
theorem dJ5_append_3fe6f_53 : decode cJ5_append_3fe6f 53 = .ok (.invokevirtual 195, 3) := by decide +kernel
theorem dJ5_append_3fe6f_56 : decode cJ5_append_3fe6f 56 = .ok (.aload_n 0, 1) := by decide +kernel
theorem dJ5_append_3fe6f_57 : decode cJ5_append_3fe6f 57 = .ok (.getfield 15, 3) := by decide +kernel
theorem dJ5_append_3fe6f_60 : decode cJ5_append_3fe6f 60 = .ok (.aload_n 0, 1) := by decide +kernel
theorem dJ5_append_3fe6f_61 : decode cJ5_append_3fe6f 61 = .ok (.dup, 1) := by decide +kernel
theorem dJ5_append_3fe6f_62 : decode cJ5_append_3fe6f 62 = .ok (.getfield 79, 3) := by decide +kernel
theorem dJ5_append_3fe6f_65 : decode cJ5_append_3fe6f 65 = .ok (.dup_x1, 1) := by decide +kernel
theorem dJ5_append_3fe6f_66 : decode cJ5_append_3fe6f 66 = .ok (.iconst 1, 1) := by decide +kernel
theorem dJ5_append_3fe6f_67 : decode cJ5_append_3fe6f 67 = .ok (.iadd, 1) := by decide +kernel
theorem dJ5_append_3fe6f_68 : decode cJ5_append_3fe6f 68 = .ok (.putfield 79, 3) := by decide +kernel
theorem dJ5_append_3fe6f_71 : decode cJ5_append_3fe6f 71 = .ok (.iload_n 1, 1) := by decide +kernel
theorem dJ5_append_3fe6f_72 : decode cJ5_append_3fe6f 72 = .ok (.invokestatic 197, 3) := by decide +kernel
theorem dJ5_append_3fe6f_75 : decode cJ5_append_3fe6f 75 = .ok (.aload_n 0, 1) := by decide +kernel
theorem dJ5_append_3fe6f_76 : decode cJ5_append_3fe6f 76 = .ok (.areturn, 1) := by decide +kernel
theorem dJ5_append_c97b9_0 : decode cJ5_append_c97b9 0 = .ok (.aload_n 0, 1) := by decide +kernel
theorem dJ5_append_c97b9_1 : decode cJ5_append_c97b9 1 = .ok (.getfield 79, 3) := by decide +kernel
theorem dJ5_append_c97b9_4 : decode cJ5_append_c97b9 4 = .ok (.istore_n 2, 1) := by decide +kernel
theorem dJ5_append_c97b9_5 : decode cJ5_append_c97b9 5 = .ok (.iload_n 2, 1) := by decide +kernel
theorem dJ5_append_c97b9_6 : decode cJ5_append_c97b9 6 = .ok (.iload_n 1, 1) := by decide +kernel
theorem dJ5_append_c97b9_7 : decode cJ5_append_c97b9 7 = .ok (.invokestatic 245, 3) := by decide +kernel
theorem dJ5_append_c97b9_10 : decode cJ5_append_c97b9 10 = .ok (.iadd, 1) := by decide +kernel
theorem dJ5_append_c97b9_11 : decode cJ5_append_c97b9 11 = .ok (.istore_n 3, 1) := by decide +kernel
theorem dJ5_append_c97b9_12 : decode cJ5_append_c97b9 12 = .ok (.aload_n 0, 1) := by decide +kernel
theorem dJ5_append_c97b9_13 : decode cJ5_append_c97b9 13 = .ok (.iload_n 3, 1) := by decide +kernel
theorem dJ5_append_c97b9_14 : decode cJ5_append_c97b9 14 = .ok (.invokevirtual 100, 3) := by decide +kernel
theorem dJ5_append_c97b9_17 : decode cJ5_append_c97b9 17 = .ok (.aload_n 0, 1) := by decide +kernel
theorem dJ5_append_c97b9_18 : decode cJ5_append_c97b9 18 = .ok (.invokevirtual 83, 3) := by decide +kernel
theorem dJ5_append_c97b9_21 : decode cJ5_append_c97b9 21 = .ok (.ifCond .eq 16, 3) := by decide +kernel
theorem dJ5_append_c97b9_24 : decode cJ5_append_c97b9 24 = .ok (.iload_n 1, 1) := by decide +kernel
theorem dJ5_append_c97b9_25 : decode cJ5_append_c97b9 25 = .ok (.iload_n 3, 1) := by decide +kernel
theorem dJ5_append_c97b9_26 : decode cJ5_append_c97b9 26 = .ok (.aload_n 0, 1) := by decide +kernel
theorem dJ5_append_c97b9_27 : decode cJ5_append_c97b9 27 = .ok (.getfield 15, 3) := by decide +kernel
theorem dJ5_append_c97b9_30 : decode cJ5_append_c97b9 30 = .ok (.invokestatic 248, 3) := by decide +kernel
theorem dJ5_append_c97b9_33 : decode cJ5_append_c97b9 33 = .ok (.pop, 1) := by decide +kernel
theorem dJ5_append_c97b9_34 : decode cJ5_append_c97b9 34 = .ok (.goto 14, 3) := by decide +kernel
theorem dJ5_append_c97b9_37 : decode cJ5_append_c97b9 37 = .ok (.iload_n 1, 1) := by decide +kernel
theorem dJ5_append_c97b9_38 : decode cJ5_append_c97b9 38 = .ok (.iload_n 2, 1) := by decide +kernel
theorem dJ5_append_c97b9_39 : decode cJ5_append_c97b9 39 = .ok (.iload_n 3, 1) := by decide +kernel
theorem dJ5_append_c97b9_40 : decode cJ5_append_c97b9 40 = .ok (.aload_n 0, 1) := by decide +kernel
theorem dJ5_append_c97b9_41 : decode cJ5_append_c97b9 41 = .ok (.getfield 15, 3) := by decide +kernel
theorem dJ5_append_c97b9_44 : decode cJ5_append_c97b9 44 = .ok (.invokestatic 251, 3) := by decide +kernel
theorem dJ5_append_c97b9_47 : decode cJ5_append_c97b9 47 = .ok (.pop, 1) := by decide +kernel
theorem dJ5_append_c97b9_48 : decode cJ5_append_c97b9 48 = .ok (.aload_n 0, 1) := by decide +kernel
theorem dJ5_append_c97b9_49 : decode cJ5_append_c97b9 49 = .ok (.iload_n 3, 1) := by decide +kernel
theorem dJ5_append_c97b9_50 : decode cJ5_append_c97b9 50 = .ok (.putfield 79, 3) := by decide +kernel
theorem dJ5_append_c97b9_53 : decode cJ5_append_c97b9 53 = .ok (.aload_n 0, 1) := by decide +kernel
theorem dJ5_append_c97b9_54 : decode cJ5_append_c97b9 54 = .ok (.areturn, 1) := by decide +kernel
theorem dJ5_getValue_6d5f1_0 : decode cJ5_getValue_6d5f1 0 = .ok (.aload_n 0, 1) := by decide +kernel
theorem dJ5_getValue_6d5f1_1 : decode cJ5_getValue_6d5f1 1 = .ok (.getfield 15, 3) := by decide +kernel
theorem dJ5_getValue_6d5f1_4 : decode cJ5_getValue_6d5f1 4 = .ok (.areturn, 1) := by decide +kernel
theorem dJ5_isLatin1_aae02_0 : decode cJ5_isLatin1_aae02 0 = .ok (.getstatic 18, 3) := by decide +kernel
theorem dJ5_isLatin1_aae02_3 : decode cJ5_isLatin1_aae02 3 = .ok (.ifCond .eq 14, 3) := by decide +kernel
theorem dJ5_isLatin1_aae02_6 : decode cJ5_isLatin1_aae02 6 = .ok (.aload_n 0, 1) := by decide +kernel
theorem dJ5_isLatin1_aae02_7 : decode cJ5_isLatin1_aae02 7 = .ok (.getfield 22, 3) := by decide +kernel
theorem dJ5_isLatin1_aae02_10 : decode cJ5_isLatin1_aae02 10 = .ok (.ifCond .ne 7, 3) := by decide +kernel
theorem dJ5_isLatin1_aae02_13 : decode cJ5_isLatin1_aae02 13 = .ok (.iconst 1, 1) := by decide +kernel
theorem dJ5_isLatin1_aae02_14 : decode cJ5_isLatin1_aae02 14 = .ok (.goto 4, 3) := by decide +kernel
theorem dJ5_isLatin1_aae02_17 : decode cJ5_isLatin1_aae02 17 = .ok (.iconst 0, 1) := by decide +kernel
theorem dJ5_isLatin1_aae02_18 : decode cJ5_isLatin1_aae02 18 = .ok (.ireturn, 1) := by decide +kernel
theorem dJ5_inflateIfNeededFor_a7421_0 : decode cJ5_inflateIfNeededFor_a7421 0 = .ok (.getstatic 18, 3) := by decide +kernel
theorem dJ5_inflateIfNeededFor_a7421_3 : decode cJ5_inflateIfNeededFor_a7421 3 = .ok (.ifCond .eq 18, 3) := by decide +kernel
theorem dJ5_inflateIfNeededFor_a7421_6 : decode cJ5_inflateIfNeededFor_a7421 6 = .ok (.aload_n 0, 1) := by decide +kernel
theorem dJ5_inflateIfNeededFor_a7421_7 : decode cJ5_inflateIfNeededFor_a7421 7 = .ok (.getfield 22, 3) := by decide +kernel
theorem dJ5_inflateIfNeededFor_a7421_10 : decode cJ5_inflateIfNeededFor_a7421 10 = .ok (.aload_n 1, 1) := by decide +kernel
theorem dJ5_inflateIfNeededFor_a7421_11 : decode cJ5_inflateIfNeededFor_a7421 11 = .ok (.invokevirtual 40, 3) := by decide +kernel
theorem dJ5_inflateIfNeededFor_a7421_14 : decode cJ5_inflateIfNeededFor_a7421 14 = .ok (.if_icmp .eq 7, 3) := by decide +kernel
theorem dJ5_inflateIfNeededFor_a7421_17 : decode cJ5_inflateIfNeededFor_a7421 17 = .ok (.aload_n 0, 1) := by decide +kernel
theorem dJ5_inflateIfNeededFor_a7421_18 : decode cJ5_inflateIfNeededFor_a7421 18 = .ok (.invokevirtual 195, 3) := by decide +kernel
theorem dJ5_inflateIfNeededFor_a7421_21 : decode cJ5_inflateIfNeededFor_a7421 21 = .ok (.return_, 1) := by decide +kernel
theorem dJ5_putStringAt_47b60_0 : decode cJ5_putStringAt_47b60 0 = .ok (.aload_n 0, 1) := by decide +kernel
theorem dJ5_putStringAt_47b60_1 : decode cJ5_putStringAt_47b60 1 = .ok (.aload_n 2, 1) := by decide +kernel
theorem dJ5_putStringAt_47b60_2 : decode cJ5_putStringAt_47b60 2 = .ok (.invokevirtual 397, 3) := by decide +kernel
theorem dJ5_putStringAt_47b60_5 : decode cJ5_putStringAt_47b60 5 = .ok (.aload_n 2, 1) := by decide +kernel
theorem dJ5_putStringAt_47b60_6 : decode cJ5_putStringAt_47b60 6 = .ok (.aload_n 0, 1) := by decide +kernel
theorem dJ5_putStringAt_47b60_7 : decode cJ5_putStringAt_47b60 7 = .ok (.getfield 15, 3) := by decide +kernel
theorem dJ5_putStringAt_47b60_10 : decode cJ5_putStringAt_47b60 10 = .ok (.iload_n 1, 1) := by decide +kernel
theorem dJ5_putStringAt_47b60_11 : decode cJ5_putStringAt_47b60 11 = .ok (.aload_n 0, 1) := by decide +kernel
theorem dJ5_putStringAt_47b60_12 : decode cJ5_putStringAt_47b60 12 = .ok (.getfield 22, 3) := by decide +kernel
theorem dJ5_putStringAt_47b60_15 : decode cJ5_putStringAt_47b60 15 = .ok (.invokevirtual 399, 3) := by decide +kernel
theorem dJ5_putStringAt_47b60_18 : decode cJ5_putStringAt_47b60 18 = .ok (.return_, 1) := by decide +kernel
theorem dJx00060_init_d00df_0 : decode cJx00060_init_d00df 0 = .ok (.aload_n 0, 1) := by decide +kernel
theorem dJx00060_init_d00df_1 : decode cJx00060_init_d00df 1 = .ok (.new 10, 3) := by decide +kernel
theorem dJx00060_init_d00df_4 : decode cJx00060_init_d00df 4 = .ok (.dup, 1) := by decide +kernel
theorem dJx00060_init_d00df_5 : decode cJx00060_init_d00df 5 = .ok (.invokespecial 12, 3) := by decide +kernel
theorem dJx00060_init_d00df_8 : decode cJx00060_init_d00df 8 = .ok (.ldc 13, 2) := by decide +kernel
theorem dJx00060_init_d00df_10 : decode cJx00060_init_d00df 10 = .ok (.invokevirtual 15, 3) := by decide +kernel
theorem dJx00060_init_d00df_13 : decode cJx00060_init_d00df 13 = .ok (.iload_n 1, 1) := by decide +kernel
theorem dJx00060_init_d00df_14 : decode cJx00060_init_d00df 14 = .ok (.invokevirtual 19, 3) := by decide +kernel
theorem dJx00060_init_d00df_17 : decode cJx00060_init_d00df 17 = .ok (.invokevirtual 22, 3) := by decide +kernel
theorem dJx00060_init_d00df_20 : decode cJx00060_init_d00df 20 = .ok (.invokespecial 7, 3) := by decide +kernel
theorem dJx00060_init_d00df_23 : decode cJx00060_init_d00df 23 = .ok (.return_, 1) := by decide +kernel
theorem dJ6_getChars_ba4f3_0 : decode cJ6_getChars_ba4f3 0 = .ok (.iload_n 1, 1) := by decide +kernel
theorem dJ6_getChars_ba4f3_1 : decode cJ6_getChars_ba4f3 1 = .ok (.istore 5, 2) := by decide +kernel
theorem dJ6_getChars_ba4f3_3 : decode cJ6_getChars_ba4f3 3 = .ok (.iload_n 0, 1) := by decide +kernel
theorem dJ6_getChars_ba4f3_4 : decode cJ6_getChars_ba4f3 4 = .ok (.ifCond .ge 7, 3) := by decide +kernel
theorem dJ6_getChars_ba4f3_7 : decode cJ6_getChars_ba4f3 7 = .ok (.iconst 1, 1) := by decide +kernel
theorem dJ6_getChars_ba4f3_8 : decode cJ6_getChars_ba4f3 8 = .ok (.goto 4, 3) := by decide +kernel
theorem dJ6_getChars_ba4f3_11 : decode cJ6_getChars_ba4f3 11 = .ok (.iconst 0, 1) := by decide +kernel
theorem dJ6_getChars_ba4f3_12 : decode cJ6_getChars_ba4f3 12 = .ok (.istore 6, 2) := by decide +kernel
theorem dJ6_getChars_ba4f3_14 : decode cJ6_getChars_ba4f3 14 = .ok (.iload 6, 2) := by decide +kernel
theorem dJ6_getChars_ba4f3_16 : decode cJ6_getChars_ba4f3 16 = .ok (.ifCond .ne 6, 3) := by decide +kernel
theorem dJ6_getChars_ba4f3_19 : decode cJ6_getChars_ba4f3 19 = .ok (.iload_n 0, 1) := by decide +kernel
theorem dJ6_getChars_ba4f3_20 : decode cJ6_getChars_ba4f3 20 = .ok (.ineg, 1) := by decide +kernel
theorem dJ6_getChars_ba4f3_21 : decode cJ6_getChars_ba4f3 21 = .ok (.istore_n 0, 1) := by decide +kernel
theorem dJ6_getChars_ba4f3_22 : decode cJ6_getChars_ba4f3 22 = .ok (.iload_n 0, 1) := by decide +kernel
theorem dJ6_getChars_ba4f3_23 : decode cJ6_getChars_ba4f3 23 = .ok (.bipush (-100), 2) := by decide +kernel
theorem dJ6_getChars_ba4f3_25 : decode cJ6_getChars_ba4f3 25 = .ok (.if_icmp .gt 47, 3) := by decide +kernel
theorem dJ6_getChars_ba4f3_28 : decode cJ6_getChars_ba4f3 28 = .ok (.iload_n 0, 1) := by decide +kernel
theorem dJ6_getChars_ba4f3_29 : decode cJ6_getChars_ba4f3 29 = .ok (.bipush 100, 2) := by decide +kernel
theorem dJ6_getChars_ba4f3_31 : decode cJ6_getChars_ba4f3 31 = .ok (.idiv, 1) := by decide +kernel
theorem dJ6_getChars_ba4f3_32 : decode cJ6_getChars_ba4f3 32 = .ok (.istore_n 3, 1) := by decide +kernel
theorem dJ6_getChars_ba4f3_33 : decode cJ6_getChars_ba4f3 33 = .ok (.iload_n 3, 1) := by decide +kernel
theorem dJ6_getChars_ba4f3_34 : decode cJ6_getChars_ba4f3 34 = .ok (.bipush 100, 2) := by decide +kernel
theorem dJ6_getChars_ba4f3_36 : decode cJ6_getChars_ba4f3 36 = .ok (.imul, 1) := by decide +kernel
theorem dJ6_getChars_ba4f3_37 : decode cJ6_getChars_ba4f3 37 = .ok (.iload_n 0, 1) := by decide +kernel
theorem dJ6_getChars_ba4f3_38 : decode cJ6_getChars_ba4f3 38 = .ok (.isub, 1) := by decide +kernel
theorem dJ6_getChars_ba4f3_39 : decode cJ6_getChars_ba4f3 39 = .ok (.istore 4, 2) := by decide +kernel
theorem dJ6_getChars_ba4f3_41 : decode cJ6_getChars_ba4f3 41 = .ok (.iload_n 3, 1) := by decide +kernel
theorem dJ6_getChars_ba4f3_42 : decode cJ6_getChars_ba4f3 42 = .ok (.istore_n 0, 1) := by decide +kernel
theorem dJ6_getChars_ba4f3_43 : decode cJ6_getChars_ba4f3 43 = .ok (.aload_n 2, 1) := by decide +kernel
theorem dJ6_getChars_ba4f3_44 : decode cJ6_getChars_ba4f3 44 = .ok (.iinc 5 (-1), 3) := by decide +kernel
theorem dJ6_getChars_ba4f3_47 : decode cJ6_getChars_ba4f3 47 = .ok (.iload 5, 2) := by decide +kernel
theorem dJ6_getChars_ba4f3_49 : decode cJ6_getChars_ba4f3 49 = .ok (.getstatic 83, 3) := by decide +kernel
theorem dJ6_getChars_ba4f3_52 : decode cJ6_getChars_ba4f3 52 = .ok (.iload 4, 2) := by decide +kernel
theorem dJ6_getChars_ba4f3_54 : decode cJ6_getChars_ba4f3 54 = .ok (.baload, 1) := by decide +kernel
theorem dJ6_getChars_ba4f3_55 : decode cJ6_getChars_ba4f3 55 = .ok (.bastore, 1) := by decide +kernel
theorem dJ6_getChars_ba4f3_56 : decode cJ6_getChars_ba4f3 56 = .ok (.aload_n 2, 1) := by decide +kernel
theorem dJ6_getChars_ba4f3_57 : decode cJ6_getChars_ba4f3 57 = .ok (.iinc 5 (-1), 3) := by decide +kernel
theorem dJ6_getChars_ba4f3_60 : decode cJ6_getChars_ba4f3 60 = .ok (.iload 5, 2) := by decide +kernel
theorem dJ6_getChars_ba4f3_62 : decode cJ6_getChars_ba4f3 62 = .ok (.getstatic 87, 3) := by decide +kernel
theorem dJ6_getChars_ba4f3_65 : decode cJ6_getChars_ba4f3 65 = .ok (.iload 4, 2) := by decide +kernel
theorem dJ6_getChars_ba4f3_67 : decode cJ6_getChars_ba4f3 67 = .ok (.baload, 1) := by decide +kernel
theorem dJ6_getChars_ba4f3_68 : decode cJ6_getChars_ba4f3 68 = .ok (.bastore, 1) := by decide +kernel
theorem dJ6_getChars_ba4f3_69 : decode cJ6_getChars_ba4f3 69 = .ok (.goto (-47), 3) := by decide +kernel
theorem dJ6_getChars_ba4f3_72 : decode cJ6_getChars_ba4f3 72 = .ok (.aload_n 2, 1) := by decide +kernel
theorem dJ6_getChars_ba4f3_73 : decode cJ6_getChars_ba4f3 73 = .ok (.iinc 5 (-1), 3) := by decide +kernel
theorem dJ6_getChars_ba4f3_76 : decode cJ6_getChars_ba4f3 76 = .ok (.iload 5, 2) := by decide +kernel
theorem dJ6_getChars_ba4f3_78 : decode cJ6_getChars_ba4f3 78 = .ok (.getstatic 83, 3) := by decide +kernel
theorem dJ6_getChars_ba4f3_81 : decode cJ6_getChars_ba4f3 81 = .ok (.iload_n 0, 1) := by decide +kernel
theorem dJ6_getChars_ba4f3_82 : decode cJ6_getChars_ba4f3 82 = .ok (.ineg, 1) := by decide +kernel
theorem dJ6_getChars_ba4f3_83 : decode cJ6_getChars_ba4f3 83 = .ok (.baload, 1) := by decide +kernel
theorem dJ6_getChars_ba4f3_84 : decode cJ6_getChars_ba4f3 84 = .ok (.bastore, 1) := by decide +kernel
theorem dJ6_getChars_ba4f3_85 : decode cJ6_getChars_ba4f3 85 = .ok (.iload_n 0, 1) := by decide +kernel
theorem dJ6_getChars_ba4f3_86 : decode cJ6_getChars_ba4f3 86 = .ok (.bipush (-9), 2) := by decide +kernel
theorem dJ6_getChars_ba4f3_88 : decode cJ6_getChars_ba4f3 88 = .ok (.if_icmp .ge 16, 3) := by decide +kernel
theorem dJ6_getChars_ba4f3_91 : decode cJ6_getChars_ba4f3 91 = .ok (.aload_n 2, 1) := by decide +kernel
theorem dJ6_getChars_ba4f3_92 : decode cJ6_getChars_ba4f3 92 = .ok (.iinc 5 (-1), 3) := by decide +kernel
theorem dJ6_getChars_ba4f3_95 : decode cJ6_getChars_ba4f3 95 = .ok (.iload 5, 2) := by decide +kernel
theorem dJ6_getChars_ba4f3_97 : decode cJ6_getChars_ba4f3 97 = .ok (.getstatic 87, 3) := by decide +kernel
theorem dJ6_getChars_ba4f3_100 : decode cJ6_getChars_ba4f3 100 = .ok (.iload_n 0, 1) := by decide +kernel
theorem dJ6_getChars_ba4f3_101 : decode cJ6_getChars_ba4f3 101 = .ok (.ineg, 1) := by decide +kernel
theorem dJ6_getChars_ba4f3_102 : decode cJ6_getChars_ba4f3 102 = .ok (.baload, 1) := by decide +kernel
theorem dJ6_getChars_ba4f3_103 : decode cJ6_getChars_ba4f3 103 = .ok (.bastore, 1) := by decide +kernel
theorem dJ6_getChars_ba4f3_104 : decode cJ6_getChars_ba4f3 104 = .ok (.iload 6, 2) := by decide +kernel
theorem dJ6_getChars_ba4f3_106 : decode cJ6_getChars_ba4f3 106 = .ok (.ifCond .eq 12, 3) := by decide +kernel
theorem dJ6_getChars_ba4f3_109 : decode cJ6_getChars_ba4f3 109 = .ok (.aload_n 2, 1) := by decide +kernel
theorem dJ6_getChars_ba4f3_110 : decode cJ6_getChars_ba4f3 110 = .ok (.iinc 5 (-1), 3) := by decide +kernel
theorem dJ6_getChars_ba4f3_113 : decode cJ6_getChars_ba4f3 113 = .ok (.iload 5, 2) := by decide +kernel
theorem dJ6_getChars_ba4f3_115 : decode cJ6_getChars_ba4f3 115 = .ok (.bipush 45, 2) := by decide +kernel
theorem dJ6_getChars_ba4f3_117 : decode cJ6_getChars_ba4f3 117 = .ok (.bastore, 1) := by decide +kernel
theorem dJ6_getChars_ba4f3_118 : decode cJ6_getChars_ba4f3 118 = .ok (.iload 5, 2) := by decide +kernel
theorem dJ6_getChars_ba4f3_120 : decode cJ6_getChars_ba4f3 120 = .ok (.ireturn, 1) := by decide +kernel
theorem dJ6_stringSize_0f7a4_0 : decode cJ6_stringSize_0f7a4 0 = .ok (.iconst 1, 1) := by decide +kernel
theorem dJ6_stringSize_0f7a4_1 : decode cJ6_stringSize_0f7a4 1 = .ok (.istore_n 1, 1) := by decide +kernel
theorem dJ6_stringSize_0f7a4_2 : decode cJ6_stringSize_0f7a4 2 = .ok (.iload_n 0, 1) := by decide +kernel
theorem dJ6_stringSize_0f7a4_3 : decode cJ6_stringSize_0f7a4 3 = .ok (.ifCond .lt 8, 3) := by decide +kernel
theorem dJ6_stringSize_0f7a4_6 : decode cJ6_stringSize_0f7a4 6 = .ok (.iconst 0, 1) := by decide +kernel
theorem dJ6_stringSize_0f7a4_7 : decode cJ6_stringSize_0f7a4 7 = .ok (.istore_n 1, 1) := by decide +kernel
theorem dJ6_stringSize_0f7a4_8 : decode cJ6_stringSize_0f7a4 8 = .ok (.iload_n 0, 1) := by decide +kernel
theorem dJ6_stringSize_0f7a4_9 : decode cJ6_stringSize_0f7a4 9 = .ok (.ineg, 1) := by decide +kernel
theorem dJ6_stringSize_0f7a4_10 : decode cJ6_stringSize_0f7a4 10 = .ok (.istore_n 0, 1) := by decide +kernel
theorem dJ6_stringSize_0f7a4_11 : decode cJ6_stringSize_0f7a4 11 = .ok (.bipush (-10), 2) := by decide +kernel
theorem dJ6_stringSize_0f7a4_13 : decode cJ6_stringSize_0f7a4 13 = .ok (.istore_n 2, 1) := by decide +kernel
theorem dJ6_stringSize_0f7a4_14 : decode cJ6_stringSize_0f7a4 14 = .ok (.iconst 1, 1) := by decide +kernel
theorem dJ6_stringSize_0f7a4_15 : decode cJ6_stringSize_0f7a4 15 = .ok (.istore_n 3, 1) := by decide +kernel
theorem dJ6_stringSize_0f7a4_16 : decode cJ6_stringSize_0f7a4 16 = .ok (.iload_n 3, 1) := by decide +kernel
theorem dJ6_stringSize_0f7a4_17 : decode cJ6_stringSize_0f7a4 17 = .ok (.bipush 10, 2) := by decide +kernel
theorem dJ6_stringSize_0f7a4_19 : decode cJ6_stringSize_0f7a4 19 = .ok (.if_icmp .ge 23, 3) := by decide +kernel
theorem dJ6_stringSize_0f7a4_22 : decode cJ6_stringSize_0f7a4 22 = .ok (.iload_n 0, 1) := by decide +kernel
theorem dJ6_stringSize_0f7a4_23 : decode cJ6_stringSize_0f7a4 23 = .ok (.iload_n 2, 1) := by decide +kernel
theorem dJ6_stringSize_0f7a4_24 : decode cJ6_stringSize_0f7a4 24 = .ok (.if_icmp .le 7, 3) := by decide +kernel
theorem dJ6_stringSize_0f7a4_27 : decode cJ6_stringSize_0f7a4 27 = .ok (.iload_n 3, 1) := by decide +kernel
theorem dJ6_stringSize_0f7a4_28 : decode cJ6_stringSize_0f7a4 28 = .ok (.iload_n 1, 1) := by decide +kernel
theorem dJ6_stringSize_0f7a4_29 : decode cJ6_stringSize_0f7a4 29 = .ok (.iadd, 1) := by decide +kernel
theorem dJ6_stringSize_0f7a4_30 : decode cJ6_stringSize_0f7a4 30 = .ok (.ireturn, 1) := by decide +kernel
theorem dJ6_stringSize_0f7a4_31 : decode cJ6_stringSize_0f7a4 31 = .ok (.bipush 10, 2) := by decide +kernel
theorem dJ6_stringSize_0f7a4_33 : decode cJ6_stringSize_0f7a4 33 = .ok (.iload_n 2, 1) := by decide +kernel
theorem dJ6_stringSize_0f7a4_34 : decode cJ6_stringSize_0f7a4 34 = .ok (.imul, 1) := by decide +kernel
theorem dJ6_stringSize_0f7a4_35 : decode cJ6_stringSize_0f7a4 35 = .ok (.istore_n 2, 1) := by decide +kernel
theorem dJ6_stringSize_0f7a4_36 : decode cJ6_stringSize_0f7a4 36 = .ok (.iinc 3 1, 3) := by decide +kernel
theorem dJ6_stringSize_0f7a4_39 : decode cJ6_stringSize_0f7a4 39 = .ok (.goto (-23), 3) := by decide +kernel
theorem dJ6_stringSize_0f7a4_42 : decode cJ6_stringSize_0f7a4 42 = .ok (.bipush 10, 2) := by decide +kernel
theorem dJ6_stringSize_0f7a4_44 : decode cJ6_stringSize_0f7a4 44 = .ok (.iload_n 1, 1) := by decide +kernel
theorem dJ6_stringSize_0f7a4_45 : decode cJ6_stringSize_0f7a4 45 = .ok (.iadd, 1) := by decide +kernel
theorem dJ6_stringSize_0f7a4_46 : decode cJ6_stringSize_0f7a4 46 = .ok (.ireturn, 1) := by decide +kernel
theorem dJ9_max_7cf53_0 : decode cJ9_max_7cf53 0 = .ok (.iload_n 0, 1) := by decide +kernel
theorem dJ9_max_7cf53_1 : decode cJ9_max_7cf53 1 = .ok (.iload_n 1, 1) := by decide +kernel
theorem dJ9_max_7cf53_2 : decode cJ9_max_7cf53 2 = .ok (.if_icmp .lt 7, 3) := by decide +kernel
theorem dJ9_max_7cf53_5 : decode cJ9_max_7cf53 5 = .ok (.iload_n 0, 1) := by decide +kernel
theorem dJ9_max_7cf53_6 : decode cJ9_max_7cf53 6 = .ok (.goto 4, 3) := by decide +kernel
theorem dJ9_max_7cf53_9 : decode cJ9_max_7cf53 9 = .ok (.iload_n 1, 1) := by decide +kernel
theorem dJ9_max_7cf53_10 : decode cJ9_max_7cf53 10 = .ok (.ireturn, 1) := by decide +kernel
theorem dJ9_min_7cf53_0 : decode cJ9_min_7cf53 0 = .ok (.iload_n 0, 1) := by decide +kernel
theorem dJ9_min_7cf53_1 : decode cJ9_min_7cf53 1 = .ok (.iload_n 1, 1) := by decide +kernel
theorem dJ9_min_7cf53_2 : decode cJ9_min_7cf53 2 = .ok (.if_icmp .gt 7, 3) := by decide +kernel
theorem dJ9_min_7cf53_5 : decode cJ9_min_7cf53 5 = .ok (.iload_n 0, 1) := by decide +kernel
theorem dJ9_min_7cf53_6 : decode cJ9_min_7cf53 6 = .ok (.goto 4, 3) := by decide +kernel
theorem dJ9_min_7cf53_9 : decode cJ9_min_7cf53 9 = .ok (.iload_n 1, 1) := by decide +kernel
theorem dJ9_min_7cf53_10 : decode cJ9_min_7cf53 10 = .ok (.ireturn, 1) := by decide +kernel
theorem dJ0_init_81219_0 : decode cJ0_init_81219 0 = .ok (.aload_n 0, 1) := by decide +kernel
theorem dJ0_init_81219_1 : decode cJ0_init_81219 1 = .ok (.aload_n 1, 1) := by decide +kernel
theorem dJ0_init_81219_2 : decode cJ0_init_81219 2 = .ok (.aconst_null, 1) := by decide +kernel
theorem dJ0_init_81219_3 : decode cJ0_init_81219 3 = .ok (.invokespecial 489, 3) := by decide +kernel
theorem dJ0_init_81219_6 : decode cJ0_init_81219 6 = .ok (.return_, 1) := by decide +kernel
theorem dJ0_length_8abf5_0 : decode cJ0_length_8abf5 0 = .ok (.aload_n 0, 1) := by decide +kernel
theorem dJ0_length_8abf5_1 : decode cJ0_length_8abf5 1 = .ok (.getfield 9, 3) := by decide +kernel
theorem dJ0_length_8abf5_4 : decode cJ0_length_8abf5 4 = .ok (.arraylength, 1) := by decide +kernel
theorem dJ0_length_8abf5_5 : decode cJ0_length_8abf5 5 = .ok (.aload_n 0, 1) := by decide +kernel
theorem dJ0_length_8abf5_6 : decode cJ0_length_8abf5 6 = .ok (.invokevirtual 335, 3) := by decide +kernel
theorem dJ0_length_8abf5_9 : decode cJ0_length_8abf5 9 = .ok (.ishr, 1) := by decide +kernel
theorem dJ0_length_8abf5_10 : decode cJ0_length_8abf5 10 = .ok (.ireturn, 1) := by decide +kernel
theorem dJ0_charAt_5068e_0 : decode cJ0_charAt_5068e 0 = .ok (.aload_n 0, 1) := by decide +kernel
theorem dJ0_charAt_5068e_1 : decode cJ0_charAt_5068e 1 = .ok (.invokevirtual 492, 3) := by decide +kernel
theorem dJ0_charAt_5068e_4 : decode cJ0_charAt_5068e 4 = .ok (.ifCond .eq 12, 3) := by decide +kernel
theorem dJ0_charAt_5068e_7 : decode cJ0_charAt_5068e 7 = .ok (.aload_n 0, 1) := by decide +kernel
theorem dJ0_charAt_5068e_8 : decode cJ0_charAt_5068e 8 = .ok (.getfield 9, 3) := by decide +kernel
theorem dJ0_charAt_5068e_11 : decode cJ0_charAt_5068e 11 = .ok (.iload_n 1, 1) := by decide +kernel
theorem dJ0_charAt_5068e_12 : decode cJ0_charAt_5068e 12 = .ok (.invokestatic 495, 3) := by decide +kernel
theorem dJ0_charAt_5068e_15 : decode cJ0_charAt_5068e 15 = .ok (.ireturn, 1) := by decide +kernel
theorem dJ0_charAt_5068e_16 : decode cJ0_charAt_5068e 16 = .ok (.aload_n 0, 1) := by decide +kernel
theorem dJ0_charAt_5068e_17 : decode cJ0_charAt_5068e 17 = .ok (.getfield 9, 3) := by decide +kernel
theorem dJ0_charAt_5068e_20 : decode cJ0_charAt_5068e 20 = .ok (.iload_n 1, 1) := by decide +kernel
theorem dJ0_charAt_5068e_21 : decode cJ0_charAt_5068e 21 = .ok (.invokestatic 498, 3) := by decide +kernel
theorem dJ0_charAt_5068e_24 : decode cJ0_charAt_5068e 24 = .ok (.ireturn, 1) := by decide +kernel
theorem dJ0_getBytes_840e7_0 : decode cJ0_getBytes_840e7 0 = .ok (.aload_n 0, 1) := by decide +kernel
theorem dJ0_getBytes_840e7_1 : decode cJ0_getBytes_840e7 1 = .ok (.invokevirtual 335, 3) := by decide +kernel
theorem dJ0_getBytes_840e7_4 : decode cJ0_getBytes_840e7 4 = .ok (.iload_n 3, 1) := by decide +kernel
theorem dJ0_getBytes_840e7_5 : decode cJ0_getBytes_840e7 5 = .ok (.if_icmp .ne 23, 3) := by decide +kernel
theorem dJ0_getBytes_840e7_8 : decode cJ0_getBytes_840e7 8 = .ok (.aload_n 0, 1) := by decide +kernel
theorem dJ0_getBytes_840e7_9 : decode cJ0_getBytes_840e7 9 = .ok (.getfield 9, 3) := by decide +kernel
theorem dJ0_getBytes_840e7_12 : decode cJ0_getBytes_840e7 12 = .ok (.iconst 0, 1) := by decide +kernel
theorem dJ0_getBytes_840e7_13 : decode cJ0_getBytes_840e7 13 = .ok (.aload_n 1, 1) := by decide +kernel
theorem dJ0_getBytes_840e7_14 : decode cJ0_getBytes_840e7 14 = .ok (.iload_n 2, 1) := by decide +kernel
theorem dJ0_getBytes_840e7_15 : decode cJ0_getBytes_840e7 15 = .ok (.iload_n 3, 1) := by decide +kernel
theorem dJ0_getBytes_840e7_16 : decode cJ0_getBytes_840e7 16 = .ok (.ishl, 1) := by decide +kernel
theorem dJ0_getBytes_840e7_17 : decode cJ0_getBytes_840e7 17 = .ok (.aload_n 0, 1) := by decide +kernel
theorem dJ0_getBytes_840e7_18 : decode cJ0_getBytes_840e7 18 = .ok (.getfield 9, 3) := by decide +kernel
theorem dJ0_getBytes_840e7_21 : decode cJ0_getBytes_840e7 21 = .ok (.arraylength, 1) := by decide +kernel
theorem dJ0_getBytes_840e7_22 : decode cJ0_getBytes_840e7 22 = .ok (.invokestatic 212, 3) := by decide +kernel
theorem dJ0_getBytes_840e7_25 : decode cJ0_getBytes_840e7 25 = .ok (.goto 18, 3) := by decide +kernel
theorem dJ0_getBytes_840e7_28 : decode cJ0_getBytes_840e7 28 = .ok (.aload_n 0, 1) := by decide +kernel
theorem dJ0_getBytes_840e7_29 : decode cJ0_getBytes_840e7 29 = .ok (.getfield 9, 3) := by decide +kernel
theorem dJ0_getBytes_840e7_32 : decode cJ0_getBytes_840e7 32 = .ok (.iconst 0, 1) := by decide +kernel
theorem dJ0_getBytes_840e7_33 : decode cJ0_getBytes_840e7 33 = .ok (.aload_n 1, 1) := by decide +kernel
theorem dJ0_getBytes_840e7_34 : decode cJ0_getBytes_840e7 34 = .ok (.iload_n 2, 1) := by decide +kernel
theorem dJ0_getBytes_840e7_35 : decode cJ0_getBytes_840e7 35 = .ok (.aload_n 0, 1) := by decide +kernel
theorem dJ0_getBytes_840e7_36 : decode cJ0_getBytes_840e7 36 = .ok (.getfield 9, 3) := by decide +kernel
theorem dJ0_getBytes_840e7_39 : decode cJ0_getBytes_840e7 39 = .ok (.arraylength, 1) := by decide +kernel
theorem dJ0_getBytes_840e7_40 : decode cJ0_getBytes_840e7 40 = .ok (.invokestatic 106, 3) := by decide +kernel
theorem dJ0_getBytes_840e7_43 : decode cJ0_getBytes_840e7 43 = .ok (.return_, 1) := by decide +kernel
theorem dJ0_init_db425_0 : decode cJ0_init_db425 0 = .ok (.aload_n 0, 1) := by decide +kernel
theorem dJ0_init_db425_1 : decode cJ0_init_db425 1 = .ok (.invokespecial 1, 3) := by decide +kernel
theorem dJ0_init_db425_4 : decode cJ0_init_db425 4 = .ok (.aload_n 1, 1) := by decide +kernel
theorem dJ0_init_db425_5 : decode cJ0_init_db425 5 = .ok (.invokevirtual 552, 3) := by decide +kernel
theorem dJ0_init_db425_8 : decode cJ0_init_db425 8 = .ok (.astore_n 3, 1) := by decide +kernel
theorem dJ0_init_db425_9 : decode cJ0_init_db425 9 = .ok (.aload_n 1, 1) := by decide +kernel
theorem dJ0_init_db425_10 : decode cJ0_init_db425 10 = .ok (.invokevirtual 549, 3) := by decide +kernel
theorem dJ0_init_db425_13 : decode cJ0_init_db425 13 = .ok (.istore 4, 2) := by decide +kernel
theorem dJ0_init_db425_15 : decode cJ0_init_db425 15 = .ok (.aload_n 1, 1) := by decide +kernel
theorem dJ0_init_db425_16 : decode cJ0_init_db425 16 = .ok (.invokevirtual 1047, 3) := by decide +kernel
theorem dJ0_init_db425_19 : decode cJ0_init_db425 19 = .ok (.ifCond .eq 22, 3) := by decide +kernel
theorem dJ0_init_db425_22 : decode cJ0_init_db425 22 = .ok (.aload_n 0, 1) := by decide +kernel
theorem dJ0_init_db425_23 : decode cJ0_init_db425 23 = .ok (.iconst 0, 1) := by decide +kernel
theorem dJ0_init_db425_24 : decode cJ0_init_db425 24 = .ok (.putfield 15, 3) := by decide +kernel
theorem dJ0_init_db425_27 : decode cJ0_init_db425 27 = .ok (.aload_n 0, 1) := by decide +kernel
theorem dJ0_init_db425_28 : decode cJ0_init_db425 28 = .ok (.aload_n 3, 1) := by decide +kernel
theorem dJ0_init_db425_29 : decode cJ0_init_db425 29 = .ok (.iconst 0, 1) := by decide +kernel
theorem dJ0_init_db425_30 : decode cJ0_init_db425 30 = .ok (.iload 4, 2) := by decide +kernel
theorem dJ0_init_db425_32 : decode cJ0_init_db425 32 = .ok (.invokestatic 54, 3) := by decide +kernel
theorem dJ0_init_db425_35 : decode cJ0_init_db425 35 = .ok (.putfield 9, 3) := by decide +kernel
theorem dJ0_init_db425_38 : decode cJ0_init_db425 38 = .ok (.goto 59, 3) := by decide +kernel
theorem dJ0_init_db425_41 : decode cJ0_init_db425 41 = .ok (.getstatic 38, 3) := by decide +kernel
theorem dJ0_init_db425_44 : decode cJ0_init_db425 44 = .ok (.ifCond .eq 35, 3) := by decide +kernel
theorem dJ0_init_db425_47 : decode cJ0_init_db425 47 = .ok (.aload_n 1, 1) := by decide +kernel
theorem dJ0_init_db425_48 : decode cJ0_init_db425 48 = .ok (.getfield 1048, 3) := by decide +kernel
theorem dJ0_init_db425_51 : decode cJ0_init_db425 51 = .ok (.ifCond .eq 28, 3) := by decide +kernel
theorem dJ0_init_db425_54 : decode cJ0_init_db425 54 = .ok (.aload_n 0, 1) := by decide +kernel
theorem dJ0_init_db425_55 : decode cJ0_init_db425 55 = .ok (.aload_n 3, 1) := by decide +kernel
theorem dJ0_init_db425_56 : decode cJ0_init_db425 56 = .ok (.iconst 0, 1) := by decide +kernel
theorem dJ0_init_db425_57 : decode cJ0_init_db425 57 = .ok (.iload 4, 2) := by decide +kernel
theorem dJ0_init_db425_59 : decode cJ0_init_db425 59 = .ok (.invokestatic 1051, 3) := by decide +kernel
theorem dJ0_init_db425_62 : decode cJ0_init_db425 62 = .ok (.putfield 9, 3) := by decide +kernel
theorem dJ0_init_db425_65 : decode cJ0_init_db425 65 = .ok (.aload_n 0, 1) := by decide +kernel
theorem dJ0_init_db425_66 : decode cJ0_init_db425 66 = .ok (.aload_n 0, 1) := by decide +kernel
theorem dJ0_init_db425_67 : decode cJ0_init_db425 67 = .ok (.getfield 9, 3) := by decide +kernel
theorem dJ0_init_db425_70 : decode cJ0_init_db425 70 = .ok (.iload 4, 2) := by decide +kernel
theorem dJ0_init_db425_72 : decode cJ0_init_db425 72 = .ok (.invokestatic 47, 3) := by decide +kernel
theorem dJ0_init_db425_75 : decode cJ0_init_db425 75 = .ok (.putfield 15, 3) := by decide +kernel
theorem dJ0_init_db425_78 : decode cJ0_init_db425 78 = .ok (.return_, 1) := by decide +kernel
theorem dJ0_init_db425_79 : decode cJ0_init_db425 79 = .ok (.aload_n 0, 1) := by decide +kernel
theorem dJ0_init_db425_80 : decode cJ0_init_db425 80 = .ok (.iconst 1, 1) := by decide +kernel
theorem dJ0_init_db425_81 : decode cJ0_init_db425 81 = .ok (.putfield 15, 3) := by decide +kernel
theorem dJ0_init_db425_84 : decode cJ0_init_db425 84 = .ok (.aload_n 0, 1) := by decide +kernel
theorem dJ0_init_db425_85 : decode cJ0_init_db425 85 = .ok (.aload_n 3, 1) := by decide +kernel
theorem dJ0_init_db425_86 : decode cJ0_init_db425 86 = .ok (.iconst 0, 1) := by decide +kernel
theorem dJ0_init_db425_87 : decode cJ0_init_db425 87 = .ok (.iload 4, 2) := by decide +kernel
theorem dJ0_init_db425_89 : decode cJ0_init_db425 89 = .ok (.iconst 1, 1) := by decide +kernel
theorem dJ0_init_db425_90 : decode cJ0_init_db425 90 = .ok (.ishl, 1) := by decide +kernel
theorem dJ0_init_db425_91 : decode cJ0_init_db425 91 = .ok (.invokestatic 54, 3) := by decide +kernel
theorem dJ0_init_db425_94 : decode cJ0_init_db425 94 = .ok (.putfield 9, 3) := by decide +kernel
theorem dJ0_init_db425_97 : decode cJ0_init_db425 97 = .ok (.return_, 1) := by decide +kernel
theorem dJ0_coder_7d493_0 : decode cJ0_coder_7d493 0 = .ok (.getstatic 38, 3) := by decide +kernel
theorem dJ0_coder_7d493_3 : decode cJ0_coder_7d493 3 = .ok (.ifCond .eq 10, 3) := by decide +kernel
theorem dJ0_coder_7d493_6 : decode cJ0_coder_7d493 6 = .ok (.aload_n 0, 1) := by decide +kernel
theorem dJ0_coder_7d493_7 : decode cJ0_coder_7d493 7 = .ok (.getfield 15, 3) := by decide +kernel
theorem dJ0_coder_7d493_10 : decode cJ0_coder_7d493 10 = .ok (.goto 4, 3) := by decide +kernel
theorem dJ0_coder_7d493_13 : decode cJ0_coder_7d493 13 = .ok (.iconst 1, 1) := by decide +kernel
theorem dJ0_coder_7d493_14 : decode cJ0_coder_7d493 14 = .ok (.ireturn, 1) := by decide +kernel
theorem dJ0_isLatin1_aae02_0 : decode cJ0_isLatin1_aae02 0 = .ok (.getstatic 38, 3) := by decide +kernel
theorem dJ0_isLatin1_aae02_3 : decode cJ0_isLatin1_aae02 3 = .ok (.ifCond .eq 14, 3) := by decide +kernel
theorem dJ0_isLatin1_aae02_6 : decode cJ0_isLatin1_aae02 6 = .ok (.aload_n 0, 1) := by decide +kernel
theorem dJ0_isLatin1_aae02_7 : decode cJ0_isLatin1_aae02 7 = .ok (.getfield 15, 3) := by decide +kernel
theorem dJ0_isLatin1_aae02_10 : decode cJ0_isLatin1_aae02 10 = .ok (.ifCond .ne 7, 3) := by decide +kernel
theorem dJ0_isLatin1_aae02_13 : decode cJ0_isLatin1_aae02 13 = .ok (.iconst 1, 1) := by decide +kernel
theorem dJ0_isLatin1_aae02_14 : decode cJ0_isLatin1_aae02 14 = .ok (.goto 4, 3) := by decide +kernel
theorem dJ0_isLatin1_aae02_17 : decode cJ0_isLatin1_aae02 17 = .ok (.iconst 0, 1) := by decide +kernel
theorem dJ0_isLatin1_aae02_18 : decode cJ0_isLatin1_aae02 18 = .ok (.ireturn, 1) := by decide +kernel
theorem dJ0_checkIndex_df160_0 : decode cJ0_checkIndex_df160 0 = .ok (.iload_n 0, 1) := by decide +kernel
theorem dJ0_checkIndex_df160_1 : decode cJ0_checkIndex_df160 1 = .ok (.iload_n 1, 1) := by decide +kernel
theorem dJ0_checkIndex_df160_2 : decode cJ0_checkIndex_df160 2 = .ok (.getstatic 1053, 3) := by decide +kernel
theorem dJ0_checkIndex_df160_5 : decode cJ0_checkIndex_df160 5 = .ok (.invokestatic 1059, 3) := by decide +kernel
theorem dJ0_checkIndex_df160_8 : decode cJ0_checkIndex_df160 8 = .ok (.pop, 1) := by decide +kernel
theorem dJ0_checkIndex_df160_9 : decode cJ0_checkIndex_df160 9 = .ok (.return_, 1) := by decide +kernel
theorem dJ0_checkBoundsOffCount_cabcc_0 : decode cJ0_checkBoundsOffCount_cabcc 0 = .ok (.iload_n 0, 1) := by decide +kernel
theorem dJ0_checkBoundsOffCount_cabcc_1 : decode cJ0_checkBoundsOffCount_cabcc 1 = .ok (.iload_n 1, 1) := by decide +kernel
theorem dJ0_checkBoundsOffCount_cabcc_2 : decode cJ0_checkBoundsOffCount_cabcc 2 = .ok (.iload_n 2, 1) := by decide +kernel
theorem dJ0_checkBoundsOffCount_cabcc_3 : decode cJ0_checkBoundsOffCount_cabcc 3 = .ok (.getstatic 1053, 3) := by decide +kernel
theorem dJ0_checkBoundsOffCount_cabcc_6 : decode cJ0_checkBoundsOffCount_cabcc 6 = .ok (.invokestatic 1065, 3) := by decide +kernel
theorem dJ0_checkBoundsOffCount_cabcc_9 : decode cJ0_checkBoundsOffCount_cabcc 9 = .ok (.ireturn, 1) := by decide +kernel
theorem dJ0_checkBoundsBeginEnd_23922_0 : decode cJ0_checkBoundsBeginEnd_23922 0 = .ok (.iload_n 0, 1) := by decide +kernel
theorem dJ0_checkBoundsBeginEnd_23922_1 : decode cJ0_checkBoundsBeginEnd_23922 1 = .ok (.iload_n 1, 1) := by decide +kernel
theorem dJ0_checkBoundsBeginEnd_23922_2 : decode cJ0_checkBoundsBeginEnd_23922 2 = .ok (.iload_n 2, 1) := by decide +kernel
theorem dJ0_checkBoundsBeginEnd_23922_3 : decode cJ0_checkBoundsBeginEnd_23922 3 = .ok (.getstatic 1053, 3) := by decide +kernel
theorem dJ0_checkBoundsBeginEnd_23922_6 : decode cJ0_checkBoundsBeginEnd_23922 6 = .ok (.invokestatic 1062, 3) := by decide +kernel
theorem dJ0_checkBoundsBeginEnd_23922_9 : decode cJ0_checkBoundsBeginEnd_23922 9 = .ok (.pop, 1) := by decide +kernel
theorem dJ0_checkBoundsBeginEnd_23922_10 : decode cJ0_checkBoundsBeginEnd_23922 10 = .ok (.return_, 1) := by decide +kernel
theorem dJ4_init_da8c8_0 : decode cJ4_init_da8c8 0 = .ok (.aload_n 0, 1) := by decide +kernel
theorem dJ4_init_da8c8_1 : decode cJ4_init_da8c8 1 = .ok (.bipush 16, 2) := by decide +kernel
theorem dJ4_init_da8c8_3 : decode cJ4_init_da8c8 3 = .ok (.invokespecial 1, 3) := by decide +kernel
theorem dJ4_init_da8c8_6 : decode cJ4_init_da8c8 6 = .ok (.return_, 1) := by decide +kernel
theorem dJ4_append_15ec4_0 : decode cJ4_append_15ec4 0 = .ok (.aload_n 0, 1) := by decide +kernel
theorem dJ4_append_15ec4_1 : decode cJ4_append_15ec4 1 = .ok (.aload_n 1, 1) := by decide +kernel
theorem dJ4_append_15ec4_2 : decode cJ4_append_15ec4 2 = .ok (.invokespecial 29, 3) := by decide +kernel
theorem dJ4_append_15ec4_5 : decode cJ4_append_15ec4 5 = .ok (.pop, 1) := by decide +kernel
theorem dJ4_append_15ec4_6 : decode cJ4_append_15ec4 6 = .ok (.aload_n 0, 1) := by decide +kernel
theorem dJ4_append_15ec4_7 : decode cJ4_append_15ec4 7 = .ok (.areturn, 1) := by decide +kernel
theorem dJ4_append_cf468_0 : decode cJ4_append_cf468 0 = .ok (.aload_n 0, 1) := by decide +kernel
theorem dJ4_append_cf468_1 : decode cJ4_append_cf468 1 = .ok (.iload_n 1, 1) := by decide +kernel
theorem dJ4_append_cf468_2 : decode cJ4_append_cf468 2 = .ok (.invokespecial 50, 3) := by decide +kernel
theorem dJ4_append_cf468_5 : decode cJ4_append_cf468 5 = .ok (.pop, 1) := by decide +kernel
theorem dJ4_append_cf468_6 : decode cJ4_append_cf468 6 = .ok (.aload_n 0, 1) := by decide +kernel
theorem dJ4_append_cf468_7 : decode cJ4_append_cf468 7 = .ok (.areturn, 1) := by decide +kernel
theorem dJ4_append_bf812_0 : decode cJ4_append_bf812 0 = .ok (.aload_n 0, 1) := by decide +kernel
theorem dJ4_append_bf812_1 : decode cJ4_append_bf812 1 = .ok (.iload_n 1, 1) := by decide +kernel
theorem dJ4_append_bf812_2 : decode cJ4_append_bf812 2 = .ok (.invokespecial 53, 3) := by decide +kernel
theorem dJ4_append_bf812_5 : decode cJ4_append_bf812 5 = .ok (.pop, 1) := by decide +kernel
theorem dJ4_append_bf812_6 : decode cJ4_append_bf812 6 = .ok (.aload_n 0, 1) := by decide +kernel
theorem dJ4_append_bf812_7 : decode cJ4_append_bf812 7 = .ok (.areturn, 1) := by decide +kernel
theorem dJ4_toString_0e30d_0 : decode cJ4_toString_0e30d 0 = .ok (.new 18, 3) := by decide +kernel
theorem dJ4_toString_0e30d_3 : decode cJ4_toString_0e30d 3 = .ok (.dup, 1) := by decide +kernel
theorem dJ4_toString_0e30d_4 : decode cJ4_toString_0e30d 4 = .ok (.aload_n 0, 1) := by decide +kernel
theorem dJ4_toString_0e30d_5 : decode cJ4_toString_0e30d 5 = .ok (.invokespecial 137, 3) := by decide +kernel
theorem dJ4_toString_0e30d_8 : decode cJ4_toString_0e30d 8 = .ok (.areturn, 1) := by decide +kernel
theorem dJ4_charAt_5068e_0 : decode cJ4_charAt_5068e 0 = .ok (.aload_n 0, 1) := by decide +kernel
theorem dJ4_charAt_5068e_1 : decode cJ4_charAt_5068e 1 = .ok (.iload_n 1, 1) := by decide +kernel
theorem dJ4_charAt_5068e_2 : decode cJ4_charAt_5068e 2 = .ok (.invokespecial 329, 3) := by decide +kernel
theorem dJ4_charAt_5068e_5 : decode cJ4_charAt_5068e 5 = .ok (.ireturn, 1) := by decide +kernel
theorem dJ4_setLength_d00df_0 : decode cJ4_setLength_d00df 0 = .ok (.aload_n 0, 1) := by decide +kernel
theorem dJ4_setLength_d00df_1 : decode cJ4_setLength_d00df 1 = .ok (.iload_n 1, 1) := by decide +kernel
theorem dJ4_setLength_d00df_2 : decode cJ4_setLength_d00df 2 = .ok (.invokespecial 333, 3) := by decide +kernel
theorem dJ4_setLength_d00df_5 : decode cJ4_setLength_d00df 5 = .ok (.return_, 1) := by decide +kernel
theorem dJ4_length_8abf5_0 : decode cJ4_length_8abf5 0 = .ok (.aload_n 0, 1) := by decide +kernel
theorem dJ4_length_8abf5_1 : decode cJ4_length_8abf5 1 = .ok (.invokespecial 343, 3) := by decide +kernel
theorem dJ4_length_8abf5_4 : decode cJ4_length_8abf5 4 = .ok (.ireturn, 1) := by decide +kernel
theorem dJx7c733_init_d00df_0 : decode cJx7c733_init_d00df 0 = .ok (.aload_n 0, 1) := by decide +kernel
theorem dJx7c733_init_d00df_1 : decode cJx7c733_init_d00df 1 = .ok (.new 10, 3) := by decide +kernel
theorem dJx7c733_init_d00df_4 : decode cJx7c733_init_d00df 4 = .ok (.dup, 1) := by decide +kernel
theorem dJx7c733_init_d00df_5 : decode cJx7c733_init_d00df 5 = .ok (.invokespecial 12, 3) := by decide +kernel
theorem dJx7c733_init_d00df_8 : decode cJx7c733_init_d00df 8 = .ok (.ldc 13, 2) := by decide +kernel
theorem dJx7c733_init_d00df_10 : decode cJx7c733_init_d00df 10 = .ok (.invokevirtual 15, 3) := by decide +kernel
theorem dJx7c733_init_d00df_13 : decode cJx7c733_init_d00df 13 = .ok (.iload_n 1, 1) := by decide +kernel
theorem dJx7c733_init_d00df_14 : decode cJx7c733_init_d00df 14 = .ok (.invokevirtual 19, 3) := by decide +kernel
theorem dJx7c733_init_d00df_17 : decode cJx7c733_init_d00df 17 = .ok (.invokevirtual 22, 3) := by decide +kernel
theorem dJx7c733_init_d00df_20 : decode cJx7c733_init_d00df 20 = .ok (.invokespecial 7, 3) := by decide +kernel
theorem dJx7c733_init_d00df_23 : decode cJx7c733_init_d00df 23 = .ok (.return_, 1) := by decide +kernel
theorem dJ1_charAt_3b067_0 : decode cJ1_charAt_3b067 0 = .ok (.iload_n 1, 1) := by decide +kernel
theorem dJ1_charAt_3b067_1 : decode cJ1_charAt_3b067 1 = .ok (.aload_n 0, 1) := by decide +kernel
theorem dJ1_charAt_3b067_2 : decode cJ1_charAt_3b067 2 = .ok (.arraylength, 1) := by decide +kernel
theorem dJ1_charAt_3b067_3 : decode cJ1_charAt_3b067 3 = .ok (.invokestatic 9, 3) := by decide +kernel
theorem dJ1_charAt_3b067_6 : decode cJ1_charAt_3b067 6 = .ok (.aload_n 0, 1) := by decide +kernel
theorem dJ1_charAt_3b067_7 : decode cJ1_charAt_3b067 7 = .ok (.iload_n 1, 1) := by decide +kernel
theorem dJ1_charAt_3b067_8 : decode cJ1_charAt_3b067 8 = .ok (.baload, 1) := by decide +kernel
theorem dJ1_charAt_3b067_9 : decode cJ1_charAt_3b067 9 = .ok (.sipush 255, 3) := by decide +kernel
theorem dJ1_charAt_3b067_12 : decode cJ1_charAt_3b067 12 = .ok (.iand, 1) := by decide +kernel
theorem dJ1_charAt_3b067_13 : decode cJ1_charAt_3b067 13 = .ok (.i2c, 1) := by decide +kernel
theorem dJ1_charAt_3b067_14 : decode cJ1_charAt_3b067 14 = .ok (.ireturn, 1) := by decide +kernel
theorem dJ1_canEncode_fc78d_0 : decode cJ1_canEncode_fc78d 0 = .ok (.iload_n 0, 1) := by decide +kernel
theorem dJ1_canEncode_fc78d_1 : decode cJ1_canEncode_fc78d 1 = .ok (.sipush 255, 3) := by decide +kernel
theorem dJ1_canEncode_fc78d_4 : decode cJ1_canEncode_fc78d 4 = .ok (.if_icmp .gt 7, 3) := by decide +kernel
theorem dJ1_canEncode_fc78d_7 : decode cJ1_canEncode_fc78d 7 = .ok (.iconst 1, 1) := by decide +kernel
theorem dJ1_canEncode_fc78d_8 : decode cJ1_canEncode_fc78d 8 = .ok (.goto 4, 3) := by decide +kernel
theorem dJ1_canEncode_fc78d_11 : decode cJ1_canEncode_fc78d 11 = .ok (.iconst 0, 1) := by decide +kernel
theorem dJ1_canEncode_fc78d_12 : decode cJ1_canEncode_fc78d 12 = .ok (.ireturn, 1) := by decide +kernel
theorem dJ1_fillNull_b72d1_0 : decode cJ1_fillNull_b72d1 0 = .ok (.aload_n 0, 1) := by decide +kernel
theorem dJ1_fillNull_b72d1_1 : decode cJ1_fillNull_b72d1 1 = .ok (.iload_n 1, 1) := by decide +kernel
theorem dJ1_fillNull_b72d1_2 : decode cJ1_fillNull_b72d1 2 = .ok (.iload_n 2, 1) := by decide +kernel
theorem dJ1_fillNull_b72d1_3 : decode cJ1_fillNull_b72d1 3 = .ok (.iconst 0, 1) := by decide +kernel
theorem dJ1_fillNull_b72d1_4 : decode cJ1_fillNull_b72d1 4 = .ok (.invokestatic 236, 3) := by decide +kernel
theorem dJ1_fillNull_b72d1_7 : decode cJ1_fillNull_b72d1 7 = .ok (.return_, 1) := by decide +kernel
theorem dJ1_inflate_0e8fd_0 : decode cJ1_inflate_0e8fd 0 = .ok (.aload_n 0, 1) := by decide +kernel
theorem dJ1_inflate_0e8fd_1 : decode cJ1_inflate_0e8fd 1 = .ok (.iload_n 1, 1) := by decide +kernel
theorem dJ1_inflate_0e8fd_2 : decode cJ1_inflate_0e8fd 2 = .ok (.aload_n 2, 1) := by decide +kernel
theorem dJ1_inflate_0e8fd_3 : decode cJ1_inflate_0e8fd 3 = .ok (.iload_n 3, 1) := by decide +kernel
theorem dJ1_inflate_0e8fd_4 : decode cJ1_inflate_0e8fd 4 = .ok (.iload 4, 2) := by decide +kernel
theorem dJ1_inflate_0e8fd_6 : decode cJ1_inflate_0e8fd 6 = .ok (.invokestatic 240, 3) := by decide +kernel
theorem dJ1_inflate_0e8fd_9 : decode cJ1_inflate_0e8fd 9 = .ok (.return_, 1) := by decide +kernel
theorem dJ2_newBytesFor_77867_0 : decode cJ2_newBytesFor_77867 0 = .ok (.iload_n 0, 1) := by decide +kernel
theorem dJ2_newBytesFor_77867_1 : decode cJ2_newBytesFor_77867 1 = .ok (.invokestatic 11, 3) := by decide +kernel
theorem dJ2_newBytesFor_77867_4 : decode cJ2_newBytesFor_77867 4 = .ok (.newarray .byte, 2) := by decide +kernel
theorem dJ2_newBytesFor_77867_6 : decode cJ2_newBytesFor_77867 6 = .ok (.areturn, 1) := by decide +kernel
theorem dJ2_newBytesLength_0f7a4_0 : decode cJ2_newBytesLength_0f7a4 0 = .ok (.iload_n 0, 1) := by decide +kernel
theorem dJ2_newBytesLength_0f7a4_1 : decode cJ2_newBytesLength_0f7a4 1 = .ok (.ifCond .ge 11, 3) := by decide +kernel
theorem dJ2_newBytesLength_0f7a4_4 : decode cJ2_newBytesLength_0f7a4 4 = .ok (.new 17, 3) := by decide +kernel
theorem dJ2_newBytesLength_0f7a4_7 : decode cJ2_newBytesLength_0f7a4 7 = .ok (.dup, 1) := by decide +kernel
theorem dJ2_newBytesLength_0f7a4_8 : decode cJ2_newBytesLength_0f7a4 8 = .ok (.invokespecial 19, 3) := by decide +kernel
theorem dJ2_newBytesLength_0f7a4_11 : decode cJ2_newBytesLength_0f7a4 11 = .ok (.athrow, 1) := by decide +kernel
theorem dJ2_newBytesLength_0f7a4_12 : decode cJ2_newBytesLength_0f7a4 12 = .ok (.iload_n 0, 1) := by decide +kernel
theorem dJ2_newBytesLength_0f7a4_13 : decode cJ2_newBytesLength_0f7a4 13 = .ok (.ldc 20, 2) := by decide +kernel
theorem dJ2_newBytesLength_0f7a4_15 : decode cJ2_newBytesLength_0f7a4 15 = .ok (.if_icmp .lt 40, 3) := by decide +kernel
theorem dJ2_newBytesLength_0f7a4_18 : decode cJ2_newBytesLength_0f7a4 18 = .ok (.new 21, 3) := by decide +kernel
theorem dJ2_newBytesLength_0f7a4_21 : decode cJ2_newBytesLength_0f7a4 21 = .ok (.dup, 1) := by decide +kernel
theorem dJ2_newBytesLength_0f7a4_22 : decode cJ2_newBytesLength_0f7a4 22 = .ok (.new 23, 3) := by decide +kernel
theorem dJ2_newBytesLength_0f7a4_25 : decode cJ2_newBytesLength_0f7a4 25 = .ok (.dup, 1) := by decide +kernel
theorem dJ2_newBytesLength_0f7a4_26 : decode cJ2_newBytesLength_0f7a4 26 = .ok (.invokespecial 25, 3) := by decide +kernel
theorem dJ2_newBytesLength_0f7a4_29 : decode cJ2_newBytesLength_0f7a4 29 = .ok (.ldc 26, 2) := by decide +kernel
theorem dJ2_newBytesLength_0f7a4_31 : decode cJ2_newBytesLength_0f7a4 31 = .ok (.invokevirtual 28, 3) := by decide +kernel
theorem dJ2_newBytesLength_0f7a4_34 : decode cJ2_newBytesLength_0f7a4 34 = .ok (.iload_n 0, 1) := by decide +kernel
theorem dJ2_newBytesLength_0f7a4_35 : decode cJ2_newBytesLength_0f7a4 35 = .ok (.invokevirtual 32, 3) := by decide +kernel
theorem dJ2_newBytesLength_0f7a4_38 : decode cJ2_newBytesLength_0f7a4 38 = .ok (.ldc 35, 2) := by decide +kernel
theorem dJ2_newBytesLength_0f7a4_40 : decode cJ2_newBytesLength_0f7a4 40 = .ok (.invokevirtual 28, 3) := by decide +kernel
theorem dJ2_newBytesLength_0f7a4_43 : decode cJ2_newBytesLength_0f7a4 43 = .ok (.ldc 20, 2) := by decide +kernel
theorem dJ2_newBytesLength_0f7a4_45 : decode cJ2_newBytesLength_0f7a4 45 = .ok (.invokevirtual 32, 3) := by decide +kernel
theorem dJ2_newBytesLength_0f7a4_48 : decode cJ2_newBytesLength_0f7a4 48 = .ok (.invokevirtual 37, 3) := by decide +kernel
theorem dJ2_newBytesLength_0f7a4_51 : decode cJ2_newBytesLength_0f7a4 51 = .ok (.invokespecial 41, 3) := by decide +kernel
theorem dJ2_newBytesLength_0f7a4_54 : decode cJ2_newBytesLength_0f7a4 54 = .ok (.athrow, 1) := by decide +kernel
theorem dJ2_newBytesLength_0f7a4_55 : decode cJ2_newBytesLength_0f7a4 55 = .ok (.iload_n 0, 1) := by decide +kernel
theorem dJ2_newBytesLength_0f7a4_56 : decode cJ2_newBytesLength_0f7a4 56 = .ok (.iconst 1, 1) := by decide +kernel
theorem dJ2_newBytesLength_0f7a4_57 : decode cJ2_newBytesLength_0f7a4 57 = .ok (.ishl, 1) := by decide +kernel
theorem dJ2_newBytesLength_0f7a4_58 : decode cJ2_newBytesLength_0f7a4 58 = .ok (.ireturn, 1) := by decide +kernel
theorem dJ2_putChar_b72d1_0 : decode cJ2_putChar_b72d1 0 = .ok (.getstatic 44, 3) := by decide +kernel
theorem dJ2_putChar_b72d1_3 : decode cJ2_putChar_b72d1 3 = .ok (.ifCond .ne 25, 3) := by decide +kernel
theorem dJ2_putChar_b72d1_6 : decode cJ2_putChar_b72d1 6 = .ok (.iload_n 1, 1) := by decide +kernel
theorem dJ2_putChar_b72d1_7 : decode cJ2_putChar_b72d1 7 = .ok (.ifCond .lt 11, 3) := by decide +kernel
theorem dJ2_putChar_b72d1_10 : decode cJ2_putChar_b72d1 10 = .ok (.iload_n 1, 1) := by decide +kernel
theorem dJ2_putChar_b72d1_11 : decode cJ2_putChar_b72d1 11 = .ok (.aload_n 0, 1) := by decide +kernel
theorem dJ2_putChar_b72d1_12 : decode cJ2_putChar_b72d1 12 = .ok (.invokestatic 48, 3) := by decide +kernel
theorem dJ2_putChar_b72d1_15 : decode cJ2_putChar_b72d1 15 = .ok (.if_icmp .lt 13, 3) := by decide +kernel
theorem dJ2_putChar_b72d1_18 : decode cJ2_putChar_b72d1 18 = .ok (.new 52, 3) := by decide +kernel
theorem dJ2_putChar_b72d1_21 : decode cJ2_putChar_b72d1 21 = .ok (.dup, 1) := by decide +kernel
theorem dJ2_putChar_b72d1_22 : decode cJ2_putChar_b72d1 22 = .ok (.ldc 54, 2) := by decide +kernel
theorem dJ2_putChar_b72d1_24 : decode cJ2_putChar_b72d1 24 = .ok (.invokespecial 56, 3) := by decide +kernel
theorem dJ2_putChar_b72d1_27 : decode cJ2_putChar_b72d1 27 = .ok (.athrow, 1) := by decide +kernel
theorem dJ2_putChar_b72d1_28 : decode cJ2_putChar_b72d1 28 = .ok (.iload_n 1, 1) := by decide +kernel
theorem dJ2_putChar_b72d1_29 : decode cJ2_putChar_b72d1 29 = .ok (.iconst 1, 1) := by decide +kernel
theorem dJ2_putChar_b72d1_30 : decode cJ2_putChar_b72d1 30 = .ok (.ishl, 1) := by decide +kernel
theorem dJ2_putChar_b72d1_31 : decode cJ2_putChar_b72d1 31 = .ok (.istore_n 1, 1) := by decide +kernel
theorem dJ2_putChar_b72d1_32 : decode cJ2_putChar_b72d1 32 = .ok (.aload_n 0, 1) := by decide +kernel
theorem dJ2_putChar_b72d1_33 : decode cJ2_putChar_b72d1 33 = .ok (.iload_n 1, 1) := by decide +kernel
theorem dJ2_putChar_b72d1_34 : decode cJ2_putChar_b72d1 34 = .ok (.iinc 1 1, 3) := by decide +kernel
theorem dJ2_putChar_b72d1_37 : decode cJ2_putChar_b72d1 37 = .ok (.iload_n 2, 1) := by decide +kernel
theorem dJ2_putChar_b72d1_38 : decode cJ2_putChar_b72d1 38 = .ok (.getstatic 59, 3) := by decide +kernel
theorem dJ2_putChar_b72d1_41 : decode cJ2_putChar_b72d1 41 = .ok (.ishr, 1) := by decide +kernel
theorem dJ2_putChar_b72d1_42 : decode cJ2_putChar_b72d1 42 = .ok (.i2b, 1) := by decide +kernel
theorem dJ2_putChar_b72d1_43 : decode cJ2_putChar_b72d1 43 = .ok (.bastore, 1) := by decide +kernel
theorem dJ2_putChar_b72d1_44 : decode cJ2_putChar_b72d1 44 = .ok (.aload_n 0, 1) := by decide +kernel
theorem dJ2_putChar_b72d1_45 : decode cJ2_putChar_b72d1 45 = .ok (.iload_n 1, 1) := by decide +kernel
theorem dJ2_putChar_b72d1_46 : decode cJ2_putChar_b72d1 46 = .ok (.iload_n 2, 1) := by decide +kernel
theorem dJ2_putChar_b72d1_47 : decode cJ2_putChar_b72d1 47 = .ok (.getstatic 63, 3) := by decide +kernel
theorem dJ2_putChar_b72d1_50 : decode cJ2_putChar_b72d1 50 = .ok (.ishr, 1) := by decide +kernel
theorem dJ2_putChar_b72d1_51 : decode cJ2_putChar_b72d1 51 = .ok (.i2b, 1) := by decide +kernel
theorem dJ2_putChar_b72d1_52 : decode cJ2_putChar_b72d1 52 = .ok (.bastore, 1) := by decide +kernel
theorem dJ2_putChar_b72d1_53 : decode cJ2_putChar_b72d1 53 = .ok (.return_, 1) := by decide +kernel
theorem dJ2_getChar_3b067_0 : decode cJ2_getChar_3b067 0 = .ok (.getstatic 44, 3) := by decide +kernel
theorem dJ2_getChar_3b067_3 : decode cJ2_getChar_3b067 3 = .ok (.ifCond .ne 25, 3) := by decide +kernel
theorem dJ2_getChar_3b067_6 : decode cJ2_getChar_3b067 6 = .ok (.iload_n 1, 1) := by decide +kernel
theorem dJ2_getChar_3b067_7 : decode cJ2_getChar_3b067 7 = .ok (.ifCond .lt 11, 3) := by decide +kernel
theorem dJ2_getChar_3b067_10 : decode cJ2_getChar_3b067 10 = .ok (.iload_n 1, 1) := by decide +kernel
theorem dJ2_getChar_3b067_11 : decode cJ2_getChar_3b067 11 = .ok (.aload_n 0, 1) := by decide +kernel
theorem dJ2_getChar_3b067_12 : decode cJ2_getChar_3b067 12 = .ok (.invokestatic 48, 3) := by decide +kernel
theorem dJ2_getChar_3b067_15 : decode cJ2_getChar_3b067 15 = .ok (.if_icmp .lt 13, 3) := by decide +kernel
theorem dJ2_getChar_3b067_18 : decode cJ2_getChar_3b067 18 = .ok (.new 52, 3) := by decide +kernel
theorem dJ2_getChar_3b067_21 : decode cJ2_getChar_3b067 21 = .ok (.dup, 1) := by decide +kernel
theorem dJ2_getChar_3b067_22 : decode cJ2_getChar_3b067 22 = .ok (.ldc 54, 2) := by decide +kernel
theorem dJ2_getChar_3b067_24 : decode cJ2_getChar_3b067 24 = .ok (.invokespecial 56, 3) := by decide +kernel
theorem dJ2_getChar_3b067_27 : decode cJ2_getChar_3b067 27 = .ok (.athrow, 1) := by decide +kernel
theorem dJ2_getChar_3b067_28 : decode cJ2_getChar_3b067 28 = .ok (.iload_n 1, 1) := by decide +kernel
theorem dJ2_getChar_3b067_29 : decode cJ2_getChar_3b067 29 = .ok (.iconst 1, 1) := by decide +kernel
theorem dJ2_getChar_3b067_30 : decode cJ2_getChar_3b067 30 = .ok (.ishl, 1) := by decide +kernel
theorem dJ2_getChar_3b067_31 : decode cJ2_getChar_3b067 31 = .ok (.istore_n 1, 1) := by decide +kernel
theorem dJ2_getChar_3b067_32 : decode cJ2_getChar_3b067 32 = .ok (.aload_n 0, 1) := by decide +kernel
theorem dJ2_getChar_3b067_33 : decode cJ2_getChar_3b067 33 = .ok (.iload_n 1, 1) := by decide +kernel
theorem dJ2_getChar_3b067_34 : decode cJ2_getChar_3b067 34 = .ok (.iinc 1 1, 3) := by decide +kernel
theorem dJ2_getChar_3b067_37 : decode cJ2_getChar_3b067 37 = .ok (.baload, 1) := by decide +kernel
theorem dJ2_getChar_3b067_38 : decode cJ2_getChar_3b067 38 = .ok (.sipush 255, 3) := by decide +kernel
theorem dJ2_getChar_3b067_41 : decode cJ2_getChar_3b067 41 = .ok (.iand, 1) := by decide +kernel
theorem dJ2_getChar_3b067_42 : decode cJ2_getChar_3b067 42 = .ok (.getstatic 59, 3) := by decide +kernel
theorem dJ2_getChar_3b067_45 : decode cJ2_getChar_3b067 45 = .ok (.ishl, 1) := by decide +kernel
theorem dJ2_getChar_3b067_46 : decode cJ2_getChar_3b067 46 = .ok (.aload_n 0, 1) := by decide +kernel
theorem dJ2_getChar_3b067_47 : decode cJ2_getChar_3b067 47 = .ok (.iload_n 1, 1) := by decide +kernel
theorem dJ2_getChar_3b067_48 : decode cJ2_getChar_3b067 48 = .ok (.baload, 1) := by decide +kernel
theorem dJ2_getChar_3b067_49 : decode cJ2_getChar_3b067 49 = .ok (.sipush 255, 3) := by decide +kernel
theorem dJ2_getChar_3b067_52 : decode cJ2_getChar_3b067 52 = .ok (.iand, 1) := by decide +kernel
theorem dJ2_getChar_3b067_53 : decode cJ2_getChar_3b067 53 = .ok (.getstatic 63, 3) := by decide +kernel
theorem dJ2_getChar_3b067_56 : decode cJ2_getChar_3b067 56 = .ok (.ishl, 1) := by decide +kernel
theorem dJ2_getChar_3b067_57 : decode cJ2_getChar_3b067 57 = .ok (.ior, 1) := by decide +kernel
theorem dJ2_getChar_3b067_58 : decode cJ2_getChar_3b067 58 = .ok (.i2c, 1) := by decide +kernel
theorem dJ2_getChar_3b067_59 : decode cJ2_getChar_3b067 59 = .ok (.ireturn, 1) := by decide +kernel
theorem dJ2_length_9d52b_0 : decode cJ2_length_9d52b 0 = .ok (.aload_n 0, 1) := by decide +kernel
theorem dJ2_length_9d52b_1 : decode cJ2_length_9d52b 1 = .ok (.arraylength, 1) := by decide +kernel
theorem dJ2_length_9d52b_2 : decode cJ2_length_9d52b 2 = .ok (.iconst 1, 1) := by decide +kernel
theorem dJ2_length_9d52b_3 : decode cJ2_length_9d52b 3 = .ok (.ishr, 1) := by decide +kernel
theorem dJ2_length_9d52b_4 : decode cJ2_length_9d52b 4 = .ok (.ireturn, 1) := by decide +kernel
theorem dJ2_coderFromArrayLen_85cad_0 : decode cJ2_coderFromArrayLen_85cad 0 = .ok (.iload_n 1, 1) := by decide +kernel
theorem dJ2_coderFromArrayLen_85cad_1 : decode cJ2_coderFromArrayLen_85cad 1 = .ok (.aload_n 0, 1) := by decide +kernel
theorem dJ2_coderFromArrayLen_85cad_2 : decode cJ2_coderFromArrayLen_85cad 2 = .ok (.arraylength, 1) := by decide +kernel
theorem dJ2_coderFromArrayLen_85cad_3 : decode cJ2_coderFromArrayLen_85cad 3 = .ok (.isub, 1) := by decide +kernel
theorem dJ2_coderFromArrayLen_85cad_4 : decode cJ2_coderFromArrayLen_85cad 4 = .ok (.bipush 31, 2) := by decide +kernel
theorem dJ2_coderFromArrayLen_85cad_6 : decode cJ2_coderFromArrayLen_85cad 6 = .ok (.iushr, 1) := by decide +kernel
theorem dJ2_coderFromArrayLen_85cad_7 : decode cJ2_coderFromArrayLen_85cad 7 = .ok (.i2b, 1) := by decide +kernel
theorem dJ2_coderFromArrayLen_85cad_8 : decode cJ2_coderFromArrayLen_85cad 8 = .ok (.ireturn, 1) := by decide +kernel
theorem dJ2_compress_39247_0 : decode cJ2_compress_39247 0 = .ok (.iload_n 2, 1) := by decide +kernel
theorem dJ2_compress_39247_1 : decode cJ2_compress_39247 1 = .ok (.newarray .byte, 2) := by decide +kernel
theorem dJ2_compress_39247_3 : decode cJ2_compress_39247 3 = .ok (.astore_n 3, 1) := by decide +kernel
theorem dJ2_compress_39247_4 : decode cJ2_compress_39247 4 = .ok (.aload_n 0, 1) := by decide +kernel
theorem dJ2_compress_39247_5 : decode cJ2_compress_39247 5 = .ok (.iload_n 1, 1) := by decide +kernel
theorem dJ2_compress_39247_6 : decode cJ2_compress_39247 6 = .ok (.aload_n 3, 1) := by decide +kernel
theorem dJ2_compress_39247_7 : decode cJ2_compress_39247 7 = .ok (.iconst 0, 1) := by decide +kernel
theorem dJ2_compress_39247_8 : decode cJ2_compress_39247 8 = .ok (.iload_n 2, 1) := by decide +kernel
theorem dJ2_compress_39247_9 : decode cJ2_compress_39247 9 = .ok (.invokestatic 123, 3) := by decide +kernel
theorem dJ2_compress_39247_12 : decode cJ2_compress_39247 12 = .ok (.istore 4, 2) := by decide +kernel
theorem dJ2_compress_39247_14 : decode cJ2_compress_39247 14 = .ok (.iload 4, 2) := by decide +kernel
theorem dJ2_compress_39247_16 : decode cJ2_compress_39247 16 = .ok (.iload_n 2, 1) := by decide +kernel
theorem dJ2_compress_39247_17 : decode cJ2_compress_39247 17 = .ok (.if_icmp .eq 47, 3) := by decide +kernel
theorem dJ2_compress_39247_20 : decode cJ2_compress_39247 20 = .ok (.aload_n 0, 1) := by decide +kernel
theorem dJ2_compress_39247_21 : decode cJ2_compress_39247 21 = .ok (.iload_n 1, 1) := by decide +kernel
theorem dJ2_compress_39247_22 : decode cJ2_compress_39247 22 = .ok (.iconst 1, 1) := by decide +kernel
theorem dJ2_compress_39247_23 : decode cJ2_compress_39247 23 = .ok (.ishl, 1) := by decide +kernel
theorem dJ2_compress_39247_24 : decode cJ2_compress_39247 24 = .ok (.iload_n 1, 1) := by decide +kernel
theorem dJ2_compress_39247_25 : decode cJ2_compress_39247 25 = .ok (.iload_n 2, 1) := by decide +kernel
theorem dJ2_compress_39247_26 : decode cJ2_compress_39247 26 = .ok (.iadd, 1) := by decide +kernel
theorem dJ2_compress_39247_27 : decode cJ2_compress_39247 27 = .ok (.invokestatic 11, 3) := by decide +kernel
theorem dJ2_compress_39247_30 : decode cJ2_compress_39247 30 = .ok (.invokestatic 126, 3) := by decide +kernel
theorem dJ2_compress_39247_33 : decode cJ2_compress_39247 33 = .ok (.astore 5, 2) := by decide +kernel
theorem dJ2_compress_39247_35 : decode cJ2_compress_39247 35 = .ok (.aload 5, 2) := by decide +kernel
theorem dJ2_compress_39247_37 : decode cJ2_compress_39247 37 = .ok (.iload 4, 2) := by decide +kernel
theorem dJ2_compress_39247_39 : decode cJ2_compress_39247 39 = .ok (.invokestatic 71, 3) := by decide +kernel
theorem dJ2_compress_39247_42 : decode cJ2_compress_39247 42 = .ok (.sipush 255, 3) := by decide +kernel
theorem dJ2_compress_39247_45 : decode cJ2_compress_39247 45 = .ok (.if_icmp .gt 16, 3) := by decide +kernel
theorem dJ2_compress_39247_48 : decode cJ2_compress_39247 48 = .ok (.aload 5, 2) := by decide +kernel
theorem dJ2_compress_39247_50 : decode cJ2_compress_39247 50 = .ok (.iconst 0, 1) := by decide +kernel
theorem dJ2_compress_39247_51 : decode cJ2_compress_39247 51 = .ok (.aload_n 3, 1) := by decide +kernel
theorem dJ2_compress_39247_52 : decode cJ2_compress_39247 52 = .ok (.iconst 0, 1) := by decide +kernel
theorem dJ2_compress_39247_53 : decode cJ2_compress_39247 53 = .ok (.iload_n 2, 1) := by decide +kernel
theorem dJ2_compress_39247_54 : decode cJ2_compress_39247 54 = .ok (.invokestatic 123, 3) := by decide +kernel
theorem dJ2_compress_39247_57 : decode cJ2_compress_39247 57 = .ok (.iload_n 2, 1) := by decide +kernel
theorem dJ2_compress_39247_58 : decode cJ2_compress_39247 58 = .ok (.if_icmp .eq 6, 3) := by decide +kernel
theorem dJ2_compress_39247_61 : decode cJ2_compress_39247 61 = .ok (.aload 5, 2) := by decide +kernel
theorem dJ2_compress_39247_63 : decode cJ2_compress_39247 63 = .ok (.areturn, 1) := by decide +kernel
theorem dJ2_compress_39247_64 : decode cJ2_compress_39247 64 = .ok (.aload_n 3, 1) := by decide +kernel
theorem dJ2_compress_39247_65 : decode cJ2_compress_39247 65 = .ok (.areturn, 1) := by decide +kernel
theorem dJ2_compress_5af95_0 : decode cJ2_compress_5af95 0 = .ok (.iload_n 1, 1) := by decide +kernel
theorem dJ2_compress_5af95_1 : decode cJ2_compress_5af95 1 = .ok (.iload 4, 2) := by decide +kernel
theorem dJ2_compress_5af95_3 : decode cJ2_compress_5af95 3 = .ok (.aload_n 0, 1) := by decide +kernel
