/-! THE LAW: its instructions -/
def zf_all (cc : ByteArray) (l : List (Nat × Instr × Nat)) : Bool := l.all (fun q => decide (decode cc q.1 = .ok (q.2.1, q.2.2)))
theorem zf_at {cc : ByteArray} {l : List (Nat × Instr × Nat)} (h : zf_all cc l = true) (i : Nat) {pc len : Nat} {ins : Instr} (hi : l[i]? = some (pc, ins, len)) : decode cc pc = .ok (ins, len) := by
  have h1 := List.all_eq_true.mp h _ (List.mem_of_getElem? hi)
  exact of_decide_eq_true h1
theorem zf_0 : zf_all cL_feeds [(0, .iconst 0, 1), (1, .istore_n 2, 1), (2, .iload_n 2, 1), (3, .aload_n 1, 1), (4, .invokevirtual 7, 3), (7, .if_icmp .ge 93, 3), (10, .iconst 5, 1), (11, .newarray .int, 2), (13, .astore_n 3, 1), (14, .iconst 0, 1), (15, .istore 4, 2), (17, .iload 4, 2), (19, .bipush 20, 2), (21, .if_icmp .ge 49, 3), (24, .aload_n 3, 1), (25, .iload 4, 2), (27, .iconst 4, 1), (28, .idiv, 1), (29, .aload_n 3, 1), (30, .iload 4, 2), (32, .iconst 4, 1), (33, .idiv, 1), (34, .iaload, 1), (35, .bipush 8, 2), (37, .ishl, 1), (38, .iload_n 2, 1), (39, .iload 4, 2), (41, .iadd, 1), (42, .aload_n 1, 1), (43, .invokevirtual 7, 3), (46, .if_icmp .ge 14, 3), (49, .aload_n 1, 1), (50, .iload_n 2, 1), (51, .iload 4, 2), (53, .iadd, 1), (54, .invokevirtual 13, 3), (57, .goto 5, 3), (60, .bipush 32, 2), (62, .ior, 1), (63, .iastore, 1)] = true := by decide +kernel
theorem dL_feeds_0 : decode cL_feeds 0 = .ok (.iconst 0, 1) := zf_at zf_0 0 rfl
theorem dL_feeds_1 : decode cL_feeds 1 = .ok (.istore_n 2, 1) := zf_at zf_0 1 rfl
theorem dL_feeds_2 : decode cL_feeds 2 = .ok (.iload_n 2, 1) := zf_at zf_0 2 rfl
theorem dL_feeds_3 : decode cL_feeds 3 = .ok (.aload_n 1, 1) := zf_at zf_0 3 rfl
theorem dL_feeds_4 : decode cL_feeds 4 = .ok (.invokevirtual 7, 3) := zf_at zf_0 4 rfl
theorem dL_feeds_7 : decode cL_feeds 7 = .ok (.if_icmp .ge 93, 3) := zf_at zf_0 5 rfl
theorem dL_feeds_10 : decode cL_feeds 10 = .ok (.iconst 5, 1) := zf_at zf_0 6 rfl
theorem dL_feeds_11 : decode cL_feeds 11 = .ok (.newarray .int, 2) := zf_at zf_0 7 rfl
theorem dL_feeds_13 : decode cL_feeds 13 = .ok (.astore_n 3, 1) := zf_at zf_0 8 rfl
theorem dL_feeds_14 : decode cL_feeds 14 = .ok (.iconst 0, 1) := zf_at zf_0 9 rfl
theorem dL_feeds_15 : decode cL_feeds 15 = .ok (.istore 4, 2) := zf_at zf_0 10 rfl
theorem dL_feeds_17 : decode cL_feeds 17 = .ok (.iload 4, 2) := zf_at zf_0 11 rfl
theorem dL_feeds_19 : decode cL_feeds 19 = .ok (.bipush 20, 2) := zf_at zf_0 12 rfl
theorem dL_feeds_21 : decode cL_feeds 21 = .ok (.if_icmp .ge 49, 3) := zf_at zf_0 13 rfl
theorem dL_feeds_24 : decode cL_feeds 24 = .ok (.aload_n 3, 1) := zf_at zf_0 14 rfl
theorem dL_feeds_25 : decode cL_feeds 25 = .ok (.iload 4, 2) := zf_at zf_0 15 rfl
theorem dL_feeds_27 : decode cL_feeds 27 = .ok (.iconst 4, 1) := zf_at zf_0 16 rfl
theorem dL_feeds_28 : decode cL_feeds 28 = .ok (.idiv, 1) := zf_at zf_0 17 rfl
theorem dL_feeds_29 : decode cL_feeds 29 = .ok (.aload_n 3, 1) := zf_at zf_0 18 rfl
theorem dL_feeds_30 : decode cL_feeds 30 = .ok (.iload 4, 2) := zf_at zf_0 19 rfl
theorem dL_feeds_32 : decode cL_feeds 32 = .ok (.iconst 4, 1) := zf_at zf_0 20 rfl
theorem dL_feeds_33 : decode cL_feeds 33 = .ok (.idiv, 1) := zf_at zf_0 21 rfl
theorem dL_feeds_34 : decode cL_feeds 34 = .ok (.iaload, 1) := zf_at zf_0 22 rfl
theorem dL_feeds_35 : decode cL_feeds 35 = .ok (.bipush 8, 2) := zf_at zf_0 23 rfl
theorem dL_feeds_37 : decode cL_feeds 37 = .ok (.ishl, 1) := zf_at zf_0 24 rfl
theorem dL_feeds_38 : decode cL_feeds 38 = .ok (.iload_n 2, 1) := zf_at zf_0 25 rfl
theorem dL_feeds_39 : decode cL_feeds 39 = .ok (.iload 4, 2) := zf_at zf_0 26 rfl
theorem dL_feeds_41 : decode cL_feeds 41 = .ok (.iadd, 1) := zf_at zf_0 27 rfl
theorem dL_feeds_42 : decode cL_feeds 42 = .ok (.aload_n 1, 1) := zf_at zf_0 28 rfl
theorem dL_feeds_43 : decode cL_feeds 43 = .ok (.invokevirtual 7, 3) := zf_at zf_0 29 rfl
theorem dL_feeds_46 : decode cL_feeds 46 = .ok (.if_icmp .ge 14, 3) := zf_at zf_0 30 rfl
theorem dL_feeds_49 : decode cL_feeds 49 = .ok (.aload_n 1, 1) := zf_at zf_0 31 rfl
theorem dL_feeds_50 : decode cL_feeds 50 = .ok (.iload_n 2, 1) := zf_at zf_0 32 rfl
theorem dL_feeds_51 : decode cL_feeds 51 = .ok (.iload 4, 2) := zf_at zf_0 33 rfl
theorem dL_feeds_53 : decode cL_feeds 53 = .ok (.iadd, 1) := zf_at zf_0 34 rfl
theorem dL_feeds_54 : decode cL_feeds 54 = .ok (.invokevirtual 13, 3) := zf_at zf_0 35 rfl
theorem dL_feeds_57 : decode cL_feeds 57 = .ok (.goto 5, 3) := zf_at zf_0 36 rfl
theorem dL_feeds_60 : decode cL_feeds 60 = .ok (.bipush 32, 2) := zf_at zf_0 37 rfl
theorem dL_feeds_62 : decode cL_feeds 62 = .ok (.ior, 1) := zf_at zf_0 38 rfl
theorem dL_feeds_63 : decode cL_feeds 63 = .ok (.iastore, 1) := zf_at zf_0 39 rfl
theorem zf_1 : zf_all cL_feeds [(64, .iinc 4 1, 3), (67, .goto (-50), 3), (70, .aload_n 0, 1), (71, .aload_n 3, 1), (72, .iconst 0, 1), (73, .iaload, 1), (74, .aload_n 3, 1), (75, .iconst 1, 1), (76, .iaload, 1), (77, .aload_n 3, 1), (78, .iconst 2, 1), (79, .iaload, 1), (80, .aload_n 3, 1), (81, .iconst 3, 1), (82, .iaload, 1), (83, .aload_n 3, 1), (84, .iconst 4, 1), (85, .iaload, 1), (86, .invokevirtual 17, 3), (89, .ifCond .ge 5, 3), (92, .iconst 0, 1), (93, .ireturn, 1), (94, .iinc 2 20, 3), (97, .goto (-95), 3), (100, .iconst 1, 1), (101, .ireturn, 1)] = true := by decide +kernel
theorem dL_feeds_64 : decode cL_feeds 64 = .ok (.iinc 4 1, 3) := zf_at zf_1 0 rfl
theorem dL_feeds_67 : decode cL_feeds 67 = .ok (.goto (-50), 3) := zf_at zf_1 1 rfl
theorem dL_feeds_70 : decode cL_feeds 70 = .ok (.aload_n 0, 1) := zf_at zf_1 2 rfl
theorem dL_feeds_71 : decode cL_feeds 71 = .ok (.aload_n 3, 1) := zf_at zf_1 3 rfl
theorem dL_feeds_72 : decode cL_feeds 72 = .ok (.iconst 0, 1) := zf_at zf_1 4 rfl
theorem dL_feeds_73 : decode cL_feeds 73 = .ok (.iaload, 1) := zf_at zf_1 5 rfl
theorem dL_feeds_74 : decode cL_feeds 74 = .ok (.aload_n 3, 1) := zf_at zf_1 6 rfl
theorem dL_feeds_75 : decode cL_feeds 75 = .ok (.iconst 1, 1) := zf_at zf_1 7 rfl
theorem dL_feeds_76 : decode cL_feeds 76 = .ok (.iaload, 1) := zf_at zf_1 8 rfl
theorem dL_feeds_77 : decode cL_feeds 77 = .ok (.aload_n 3, 1) := zf_at zf_1 9 rfl
theorem dL_feeds_78 : decode cL_feeds 78 = .ok (.iconst 2, 1) := zf_at zf_1 10 rfl
theorem dL_feeds_79 : decode cL_feeds 79 = .ok (.iaload, 1) := zf_at zf_1 11 rfl
theorem dL_feeds_80 : decode cL_feeds 80 = .ok (.aload_n 3, 1) := zf_at zf_1 12 rfl
theorem dL_feeds_81 : decode cL_feeds 81 = .ok (.iconst 3, 1) := zf_at zf_1 13 rfl
theorem dL_feeds_82 : decode cL_feeds 82 = .ok (.iaload, 1) := zf_at zf_1 14 rfl
theorem dL_feeds_83 : decode cL_feeds 83 = .ok (.aload_n 3, 1) := zf_at zf_1 15 rfl
theorem dL_feeds_84 : decode cL_feeds 84 = .ok (.iconst 4, 1) := zf_at zf_1 16 rfl
theorem dL_feeds_85 : decode cL_feeds 85 = .ok (.iaload, 1) := zf_at zf_1 17 rfl
theorem dL_feeds_86 : decode cL_feeds 86 = .ok (.invokevirtual 17, 3) := zf_at zf_1 18 rfl
theorem dL_feeds_89 : decode cL_feeds 89 = .ok (.ifCond .ge 5, 3) := zf_at zf_1 19 rfl
theorem dL_feeds_92 : decode cL_feeds 92 = .ok (.iconst 0, 1) := zf_at zf_1 20 rfl
theorem dL_feeds_93 : decode cL_feeds 93 = .ok (.ireturn, 1) := zf_at zf_1 21 rfl
theorem dL_feeds_94 : decode cL_feeds 94 = .ok (.iinc 2 20, 3) := zf_at zf_1 22 rfl
theorem dL_feeds_97 : decode cL_feeds 97 = .ok (.goto (-95), 3) := zf_at zf_1 23 rfl
theorem dL_feeds_100 : decode cL_feeds 100 = .ok (.iconst 1, 1) := zf_at zf_1 24 rfl
theorem dL_feeds_101 : decode cL_feeds 101 = .ok (.ireturn, 1) := zf_at zf_1 25 rfl
theorem zf_2 : zf_all cL_tell [(0, .aload_n 0, 1), (1, .aload_n 1, 1), (2, .invokestatic 23, 3), (5, .ifCond .eq 14, 3), (8, .aload_n 0, 1), (9, .aload_n 1, 1), (10, .invokevirtual 7, 3), (13, .invokevirtual 29, 3), (16, .goto 5, 3), (19, .bipush (-9), 2), (21, .ireturn, 1)] = true := by decide +kernel
theorem dL_tell_0 : decode cL_tell 0 = .ok (.aload_n 0, 1) := zf_at zf_2 0 rfl
theorem dL_tell_1 : decode cL_tell 1 = .ok (.aload_n 1, 1) := zf_at zf_2 1 rfl
theorem dL_tell_2 : decode cL_tell 2 = .ok (.invokestatic 23, 3) := zf_at zf_2 2 rfl
theorem dL_tell_5 : decode cL_tell 5 = .ok (.ifCond .eq 14, 3) := zf_at zf_2 3 rfl
theorem dL_tell_8 : decode cL_tell 8 = .ok (.aload_n 0, 1) := zf_at zf_2 4 rfl
theorem dL_tell_9 : decode cL_tell 9 = .ok (.aload_n 1, 1) := zf_at zf_2 5 rfl
theorem dL_tell_10 : decode cL_tell 10 = .ok (.invokevirtual 7, 3) := zf_at zf_2 6 rfl
theorem dL_tell_13 : decode cL_tell 13 = .ok (.invokevirtual 29, 3) := zf_at zf_2 7 rfl
theorem dL_tell_16 : decode cL_tell 16 = .ok (.goto 5, 3) := zf_at zf_2 8 rfl
theorem dL_tell_19 : decode cL_tell 19 = .ok (.bipush (-9), 2) := zf_at zf_2 9 rfl
theorem dL_tell_21 : decode cL_tell 21 = .ok (.ireturn, 1) := zf_at zf_2 10 rfl
theorem zf_3 : zf_all cL_calls [(0, .iload_n 1, 1), (1, .tableswitch 411 0 26 #[123, 132, 141, 153, 165, 177, 189, 201, 213, 222, 231, 240, 249, 261, 273, 285, 297, 318, 330, 339, 348, 357, 366, 375, 387, 393, 402], 123), (124, .aload_n 0, 1), (125, .aload_n 2, 1), (126, .iconst 0, 1), (127, .iaload, 1), (128, .invokevirtual 33, 3), (131, .i2l, 1), (132, .lreturn, 1), (133, .aload_n 0, 1), (134, .aload_n 2, 1), (135, .iconst 0, 1), (136, .iaload, 1), (137, .invokevirtual 36, 3), (140, .i2l, 1), (141, .lreturn, 1), (142, .aload_n 0, 1), (143, .aload_n 2, 1), (144, .iconst 0, 1), (145, .iaload, 1), (146, .aload_n 2, 1), (147, .iconst 1, 1), (148, .iaload, 1), (149, .invokevirtual 39, 3), (152, .i2l, 1), (153, .lreturn, 1), (154, .aload_n 0, 1), (155, .aload_n 2, 1), (156, .iconst 0, 1), (157, .iaload, 1), (158, .aload_n 2, 1), (159, .iconst 1, 1), (160, .iaload, 1), (161, .invokevirtual 43, 3), (164, .i2l, 1), (165, .lreturn, 1), (166, .aload_n 0, 1), (167, .aload_n 2, 1), (168, .iconst 0, 1), (169, .iaload, 1)] = true := by decide +kernel
theorem dL_calls_0 : decode cL_calls 0 = .ok (.iload_n 1, 1) := zf_at zf_3 0 rfl
theorem dL_calls_1 : decode cL_calls 1 = .ok (.tableswitch 411 0 26 #[123, 132, 141, 153, 165, 177, 189, 201, 213, 222, 231, 240, 249, 261, 273, 285, 297, 318, 330, 339, 348, 357, 366, 375, 387, 393, 402], 123) := zf_at zf_3 1 rfl
theorem dL_calls_124 : decode cL_calls 124 = .ok (.aload_n 0, 1) := zf_at zf_3 2 rfl
theorem dL_calls_125 : decode cL_calls 125 = .ok (.aload_n 2, 1) := zf_at zf_3 3 rfl
theorem dL_calls_126 : decode cL_calls 126 = .ok (.iconst 0, 1) := zf_at zf_3 4 rfl
theorem dL_calls_127 : decode cL_calls 127 = .ok (.iaload, 1) := zf_at zf_3 5 rfl
theorem dL_calls_128 : decode cL_calls 128 = .ok (.invokevirtual 33, 3) := zf_at zf_3 6 rfl
theorem dL_calls_131 : decode cL_calls 131 = .ok (.i2l, 1) := zf_at zf_3 7 rfl
theorem dL_calls_132 : decode cL_calls 132 = .ok (.lreturn, 1) := zf_at zf_3 8 rfl
theorem dL_calls_133 : decode cL_calls 133 = .ok (.aload_n 0, 1) := zf_at zf_3 9 rfl
theorem dL_calls_134 : decode cL_calls 134 = .ok (.aload_n 2, 1) := zf_at zf_3 10 rfl
theorem dL_calls_135 : decode cL_calls 135 = .ok (.iconst 0, 1) := zf_at zf_3 11 rfl
theorem dL_calls_136 : decode cL_calls 136 = .ok (.iaload, 1) := zf_at zf_3 12 rfl
theorem dL_calls_137 : decode cL_calls 137 = .ok (.invokevirtual 36, 3) := zf_at zf_3 13 rfl
theorem dL_calls_140 : decode cL_calls 140 = .ok (.i2l, 1) := zf_at zf_3 14 rfl
theorem dL_calls_141 : decode cL_calls 141 = .ok (.lreturn, 1) := zf_at zf_3 15 rfl
theorem dL_calls_142 : decode cL_calls 142 = .ok (.aload_n 0, 1) := zf_at zf_3 16 rfl
theorem dL_calls_143 : decode cL_calls 143 = .ok (.aload_n 2, 1) := zf_at zf_3 17 rfl
theorem dL_calls_144 : decode cL_calls 144 = .ok (.iconst 0, 1) := zf_at zf_3 18 rfl
theorem dL_calls_145 : decode cL_calls 145 = .ok (.iaload, 1) := zf_at zf_3 19 rfl
theorem dL_calls_146 : decode cL_calls 146 = .ok (.aload_n 2, 1) := zf_at zf_3 20 rfl
theorem dL_calls_147 : decode cL_calls 147 = .ok (.iconst 1, 1) := zf_at zf_3 21 rfl
theorem dL_calls_148 : decode cL_calls 148 = .ok (.iaload, 1) := zf_at zf_3 22 rfl
theorem dL_calls_149 : decode cL_calls 149 = .ok (.invokevirtual 39, 3) := zf_at zf_3 23 rfl
theorem dL_calls_152 : decode cL_calls 152 = .ok (.i2l, 1) := zf_at zf_3 24 rfl
theorem dL_calls_153 : decode cL_calls 153 = .ok (.lreturn, 1) := zf_at zf_3 25 rfl
theorem dL_calls_154 : decode cL_calls 154 = .ok (.aload_n 0, 1) := zf_at zf_3 26 rfl
theorem dL_calls_155 : decode cL_calls 155 = .ok (.aload_n 2, 1) := zf_at zf_3 27 rfl
theorem dL_calls_156 : decode cL_calls 156 = .ok (.iconst 0, 1) := zf_at zf_3 28 rfl
theorem dL_calls_157 : decode cL_calls 157 = .ok (.iaload, 1) := zf_at zf_3 29 rfl
theorem dL_calls_158 : decode cL_calls 158 = .ok (.aload_n 2, 1) := zf_at zf_3 30 rfl
theorem dL_calls_159 : decode cL_calls 159 = .ok (.iconst 1, 1) := zf_at zf_3 31 rfl
theorem dL_calls_160 : decode cL_calls 160 = .ok (.iaload, 1) := zf_at zf_3 32 rfl
theorem dL_calls_161 : decode cL_calls 161 = .ok (.invokevirtual 43, 3) := zf_at zf_3 33 rfl
theorem dL_calls_164 : decode cL_calls 164 = .ok (.i2l, 1) := zf_at zf_3 34 rfl
theorem dL_calls_165 : decode cL_calls 165 = .ok (.lreturn, 1) := zf_at zf_3 35 rfl
theorem dL_calls_166 : decode cL_calls 166 = .ok (.aload_n 0, 1) := zf_at zf_3 36 rfl
theorem dL_calls_167 : decode cL_calls 167 = .ok (.aload_n 2, 1) := zf_at zf_3 37 rfl
theorem dL_calls_168 : decode cL_calls 168 = .ok (.iconst 0, 1) := zf_at zf_3 38 rfl
theorem dL_calls_169 : decode cL_calls 169 = .ok (.iaload, 1) := zf_at zf_3 39 rfl
theorem zf_4 : zf_all cL_calls [(170, .aload_n 2, 1), (171, .iconst 1, 1), (172, .iaload, 1), (173, .invokevirtual 46, 3), (176, .i2l, 1), (177, .lreturn, 1), (178, .aload_n 0, 1), (179, .aload_n 2, 1), (180, .iconst 0, 1), (181, .iaload, 1), (182, .aload_n 2, 1), (183, .iconst 1, 1), (184, .iaload, 1), (185, .invokevirtual 49, 3), (188, .i2l, 1), (189, .lreturn, 1), (190, .aload_n 0, 1), (191, .aload_n 2, 1), (192, .iconst 0, 1), (193, .iaload, 1), (194, .aload_n 2, 1), (195, .iconst 1, 1), (196, .iaload, 1), (197, .invokevirtual 52, 3), (200, .i2l, 1), (201, .lreturn, 1), (202, .aload_n 0, 1), (203, .aload_n 2, 1), (204, .iconst 0, 1), (205, .iaload, 1), (206, .aload_n 2, 1), (207, .iconst 1, 1), (208, .iaload, 1), (209, .invokevirtual 55, 3), (212, .i2l, 1), (213, .lreturn, 1), (214, .aload_n 0, 1), (215, .aload_n 2, 1), (216, .iconst 0, 1), (217, .iaload, 1)] = true := by decide +kernel
theorem dL_calls_170 : decode cL_calls 170 = .ok (.aload_n 2, 1) := zf_at zf_4 0 rfl
theorem dL_calls_171 : decode cL_calls 171 = .ok (.iconst 1, 1) := zf_at zf_4 1 rfl
theorem dL_calls_172 : decode cL_calls 172 = .ok (.iaload, 1) := zf_at zf_4 2 rfl
theorem dL_calls_173 : decode cL_calls 173 = .ok (.invokevirtual 46, 3) := zf_at zf_4 3 rfl
theorem dL_calls_176 : decode cL_calls 176 = .ok (.i2l, 1) := zf_at zf_4 4 rfl
theorem dL_calls_177 : decode cL_calls 177 = .ok (.lreturn, 1) := zf_at zf_4 5 rfl
theorem dL_calls_178 : decode cL_calls 178 = .ok (.aload_n 0, 1) := zf_at zf_4 6 rfl
theorem dL_calls_179 : decode cL_calls 179 = .ok (.aload_n 2, 1) := zf_at zf_4 7 rfl
theorem dL_calls_180 : decode cL_calls 180 = .ok (.iconst 0, 1) := zf_at zf_4 8 rfl
theorem dL_calls_181 : decode cL_calls 181 = .ok (.iaload, 1) := zf_at zf_4 9 rfl
theorem dL_calls_182 : decode cL_calls 182 = .ok (.aload_n 2, 1) := zf_at zf_4 10 rfl
theorem dL_calls_183 : decode cL_calls 183 = .ok (.iconst 1, 1) := zf_at zf_4 11 rfl
theorem dL_calls_184 : decode cL_calls 184 = .ok (.iaload, 1) := zf_at zf_4 12 rfl
theorem dL_calls_185 : decode cL_calls 185 = .ok (.invokevirtual 49, 3) := zf_at zf_4 13 rfl
theorem dL_calls_188 : decode cL_calls 188 = .ok (.i2l, 1) := zf_at zf_4 14 rfl
theorem dL_calls_189 : decode cL_calls 189 = .ok (.lreturn, 1) := zf_at zf_4 15 rfl
theorem dL_calls_190 : decode cL_calls 190 = .ok (.aload_n 0, 1) := zf_at zf_4 16 rfl
theorem dL_calls_191 : decode cL_calls 191 = .ok (.aload_n 2, 1) := zf_at zf_4 17 rfl
theorem dL_calls_192 : decode cL_calls 192 = .ok (.iconst 0, 1) := zf_at zf_4 18 rfl
theorem dL_calls_193 : decode cL_calls 193 = .ok (.iaload, 1) := zf_at zf_4 19 rfl
theorem dL_calls_194 : decode cL_calls 194 = .ok (.aload_n 2, 1) := zf_at zf_4 20 rfl
theorem dL_calls_195 : decode cL_calls 195 = .ok (.iconst 1, 1) := zf_at zf_4 21 rfl
theorem dL_calls_196 : decode cL_calls 196 = .ok (.iaload, 1) := zf_at zf_4 22 rfl
theorem dL_calls_197 : decode cL_calls 197 = .ok (.invokevirtual 52, 3) := zf_at zf_4 23 rfl
theorem dL_calls_200 : decode cL_calls 200 = .ok (.i2l, 1) := zf_at zf_4 24 rfl
theorem dL_calls_201 : decode cL_calls 201 = .ok (.lreturn, 1) := zf_at zf_4 25 rfl
theorem dL_calls_202 : decode cL_calls 202 = .ok (.aload_n 0, 1) := zf_at zf_4 26 rfl
theorem dL_calls_203 : decode cL_calls 203 = .ok (.aload_n 2, 1) := zf_at zf_4 27 rfl
theorem dL_calls_204 : decode cL_calls 204 = .ok (.iconst 0, 1) := zf_at zf_4 28 rfl
theorem dL_calls_205 : decode cL_calls 205 = .ok (.iaload, 1) := zf_at zf_4 29 rfl
theorem dL_calls_206 : decode cL_calls 206 = .ok (.aload_n 2, 1) := zf_at zf_4 30 rfl
theorem dL_calls_207 : decode cL_calls 207 = .ok (.iconst 1, 1) := zf_at zf_4 31 rfl
theorem dL_calls_208 : decode cL_calls 208 = .ok (.iaload, 1) := zf_at zf_4 32 rfl
theorem dL_calls_209 : decode cL_calls 209 = .ok (.invokevirtual 55, 3) := zf_at zf_4 33 rfl
theorem dL_calls_212 : decode cL_calls 212 = .ok (.i2l, 1) := zf_at zf_4 34 rfl
theorem dL_calls_213 : decode cL_calls 213 = .ok (.lreturn, 1) := zf_at zf_4 35 rfl
theorem dL_calls_214 : decode cL_calls 214 = .ok (.aload_n 0, 1) := zf_at zf_4 36 rfl
theorem dL_calls_215 : decode cL_calls 215 = .ok (.aload_n 2, 1) := zf_at zf_4 37 rfl
theorem dL_calls_216 : decode cL_calls 216 = .ok (.iconst 0, 1) := zf_at zf_4 38 rfl
theorem dL_calls_217 : decode cL_calls 217 = .ok (.iaload, 1) := zf_at zf_4 39 rfl
theorem zf_5 : zf_all cL_calls [(218, .invokevirtual 58, 3), (221, .i2l, 1), (222, .lreturn, 1), (223, .aload_n 0, 1), (224, .aload_n 2, 1), (225, .iconst 0, 1), (226, .iaload, 1), (227, .invokevirtual 61, 3), (230, .i2l, 1), (231, .lreturn, 1), (232, .aload_n 0, 1), (233, .aload_n 2, 1), (234, .iconst 0, 1), (235, .iaload, 1), (236, .invokevirtual 64, 3), (239, .i2l, 1), (240, .lreturn, 1), (241, .aload_n 0, 1), (242, .aload_n 2, 1), (243, .iconst 0, 1), (244, .iaload, 1), (245, .invokevirtual 67, 3), (248, .i2l, 1), (249, .lreturn, 1), (250, .aload_n 0, 1), (251, .aload_n 2, 1), (252, .iconst 0, 1), (253, .iaload, 1), (254, .aload_n 2, 1), (255, .iconst 1, 1), (256, .iaload, 1), (257, .invokevirtual 70, 3), (260, .i2l, 1), (261, .lreturn, 1), (262, .aload_n 0, 1), (263, .aload_n 2, 1), (264, .iconst 0, 1), (265, .iaload, 1), (266, .aload_n 2, 1), (267, .iconst 1, 1)] = true := by decide +kernel
theorem dL_calls_218 : decode cL_calls 218 = .ok (.invokevirtual 58, 3) := zf_at zf_5 0 rfl
theorem dL_calls_221 : decode cL_calls 221 = .ok (.i2l, 1) := zf_at zf_5 1 rfl
theorem dL_calls_222 : decode cL_calls 222 = .ok (.lreturn, 1) := zf_at zf_5 2 rfl
theorem dL_calls_223 : decode cL_calls 223 = .ok (.aload_n 0, 1) := zf_at zf_5 3 rfl
theorem dL_calls_224 : decode cL_calls 224 = .ok (.aload_n 2, 1) := zf_at zf_5 4 rfl
theorem dL_calls_225 : decode cL_calls 225 = .ok (.iconst 0, 1) := zf_at zf_5 5 rfl
theorem dL_calls_226 : decode cL_calls 226 = .ok (.iaload, 1) := zf_at zf_5 6 rfl
theorem dL_calls_227 : decode cL_calls 227 = .ok (.invokevirtual 61, 3) := zf_at zf_5 7 rfl
theorem dL_calls_230 : decode cL_calls 230 = .ok (.i2l, 1) := zf_at zf_5 8 rfl
theorem dL_calls_231 : decode cL_calls 231 = .ok (.lreturn, 1) := zf_at zf_5 9 rfl
theorem dL_calls_232 : decode cL_calls 232 = .ok (.aload_n 0, 1) := zf_at zf_5 10 rfl
theorem dL_calls_233 : decode cL_calls 233 = .ok (.aload_n 2, 1) := zf_at zf_5 11 rfl
theorem dL_calls_234 : decode cL_calls 234 = .ok (.iconst 0, 1) := zf_at zf_5 12 rfl
theorem dL_calls_235 : decode cL_calls 235 = .ok (.iaload, 1) := zf_at zf_5 13 rfl
theorem dL_calls_236 : decode cL_calls 236 = .ok (.invokevirtual 64, 3) := zf_at zf_5 14 rfl
theorem dL_calls_239 : decode cL_calls 239 = .ok (.i2l, 1) := zf_at zf_5 15 rfl
theorem dL_calls_240 : decode cL_calls 240 = .ok (.lreturn, 1) := zf_at zf_5 16 rfl
theorem dL_calls_241 : decode cL_calls 241 = .ok (.aload_n 0, 1) := zf_at zf_5 17 rfl
theorem dL_calls_242 : decode cL_calls 242 = .ok (.aload_n 2, 1) := zf_at zf_5 18 rfl
theorem dL_calls_243 : decode cL_calls 243 = .ok (.iconst 0, 1) := zf_at zf_5 19 rfl
theorem dL_calls_244 : decode cL_calls 244 = .ok (.iaload, 1) := zf_at zf_5 20 rfl
theorem dL_calls_245 : decode cL_calls 245 = .ok (.invokevirtual 67, 3) := zf_at zf_5 21 rfl
theorem dL_calls_248 : decode cL_calls 248 = .ok (.i2l, 1) := zf_at zf_5 22 rfl
theorem dL_calls_249 : decode cL_calls 249 = .ok (.lreturn, 1) := zf_at zf_5 23 rfl
theorem dL_calls_250 : decode cL_calls 250 = .ok (.aload_n 0, 1) := zf_at zf_5 24 rfl
theorem dL_calls_251 : decode cL_calls 251 = .ok (.aload_n 2, 1) := zf_at zf_5 25 rfl
theorem dL_calls_252 : decode cL_calls 252 = .ok (.iconst 0, 1) := zf_at zf_5 26 rfl
theorem dL_calls_253 : decode cL_calls 253 = .ok (.iaload, 1) := zf_at zf_5 27 rfl
theorem dL_calls_254 : decode cL_calls 254 = .ok (.aload_n 2, 1) := zf_at zf_5 28 rfl
theorem dL_calls_255 : decode cL_calls 255 = .ok (.iconst 1, 1) := zf_at zf_5 29 rfl
theorem dL_calls_256 : decode cL_calls 256 = .ok (.iaload, 1) := zf_at zf_5 30 rfl
theorem dL_calls_257 : decode cL_calls 257 = .ok (.invokevirtual 70, 3) := zf_at zf_5 31 rfl
theorem dL_calls_260 : decode cL_calls 260 = .ok (.i2l, 1) := zf_at zf_5 32 rfl
theorem dL_calls_261 : decode cL_calls 261 = .ok (.lreturn, 1) := zf_at zf_5 33 rfl
theorem dL_calls_262 : decode cL_calls 262 = .ok (.aload_n 0, 1) := zf_at zf_5 34 rfl
theorem dL_calls_263 : decode cL_calls 263 = .ok (.aload_n 2, 1) := zf_at zf_5 35 rfl
theorem dL_calls_264 : decode cL_calls 264 = .ok (.iconst 0, 1) := zf_at zf_5 36 rfl
theorem dL_calls_265 : decode cL_calls 265 = .ok (.iaload, 1) := zf_at zf_5 37 rfl
theorem dL_calls_266 : decode cL_calls 266 = .ok (.aload_n 2, 1) := zf_at zf_5 38 rfl
theorem dL_calls_267 : decode cL_calls 267 = .ok (.iconst 1, 1) := zf_at zf_5 39 rfl
theorem zf_6 : zf_all cL_calls [(268, .iaload, 1), (269, .invokevirtual 73, 3), (272, .i2l, 1), (273, .lreturn, 1), (274, .aload_n 0, 1), (275, .aload_n 2, 1), (276, .iconst 0, 1), (277, .iaload, 1), (278, .aload_n 2, 1), (279, .iconst 1, 1), (280, .iaload, 1), (281, .invokevirtual 76, 3), (284, .i2l, 1), (285, .lreturn, 1), (286, .aload_n 0, 1), (287, .aload_n 2, 1), (288, .iconst 0, 1), (289, .iaload, 1), (290, .aload_n 2, 1), (291, .iconst 1, 1), (292, .iaload, 1), (293, .invokevirtual 79, 3), (296, .i2l, 1), (297, .lreturn, 1), (298, .aload_n 0, 1), (299, .aload_n 2, 1), (300, .iconst 0, 1), (301, .iaload, 1), (302, .aload_n 2, 1), (303, .iconst 1, 1), (304, .iaload, 1), (305, .iconst 1, 1), (306, .if_icmp .ne 7, 3), (309, .iconst 1, 1), (310, .goto 4, 3), (313, .iconst 0, 1), (314, .invokevirtual 82, 3), (317, .i2l, 1), (318, .lreturn, 1), (319, .aload_n 0, 1)] = true := by decide +kernel
theorem dL_calls_268 : decode cL_calls 268 = .ok (.iaload, 1) := zf_at zf_6 0 rfl
theorem dL_calls_269 : decode cL_calls 269 = .ok (.invokevirtual 73, 3) := zf_at zf_6 1 rfl
theorem dL_calls_272 : decode cL_calls 272 = .ok (.i2l, 1) := zf_at zf_6 2 rfl
theorem dL_calls_273 : decode cL_calls 273 = .ok (.lreturn, 1) := zf_at zf_6 3 rfl
theorem dL_calls_274 : decode cL_calls 274 = .ok (.aload_n 0, 1) := zf_at zf_6 4 rfl
theorem dL_calls_275 : decode cL_calls 275 = .ok (.aload_n 2, 1) := zf_at zf_6 5 rfl
theorem dL_calls_276 : decode cL_calls 276 = .ok (.iconst 0, 1) := zf_at zf_6 6 rfl
theorem dL_calls_277 : decode cL_calls 277 = .ok (.iaload, 1) := zf_at zf_6 7 rfl
theorem dL_calls_278 : decode cL_calls 278 = .ok (.aload_n 2, 1) := zf_at zf_6 8 rfl
theorem dL_calls_279 : decode cL_calls 279 = .ok (.iconst 1, 1) := zf_at zf_6 9 rfl
theorem dL_calls_280 : decode cL_calls 280 = .ok (.iaload, 1) := zf_at zf_6 10 rfl
theorem dL_calls_281 : decode cL_calls 281 = .ok (.invokevirtual 76, 3) := zf_at zf_6 11 rfl
theorem dL_calls_284 : decode cL_calls 284 = .ok (.i2l, 1) := zf_at zf_6 12 rfl
theorem dL_calls_285 : decode cL_calls 285 = .ok (.lreturn, 1) := zf_at zf_6 13 rfl
theorem dL_calls_286 : decode cL_calls 286 = .ok (.aload_n 0, 1) := zf_at zf_6 14 rfl
theorem dL_calls_287 : decode cL_calls 287 = .ok (.aload_n 2, 1) := zf_at zf_6 15 rfl
theorem dL_calls_288 : decode cL_calls 288 = .ok (.iconst 0, 1) := zf_at zf_6 16 rfl
theorem dL_calls_289 : decode cL_calls 289 = .ok (.iaload, 1) := zf_at zf_6 17 rfl
theorem dL_calls_290 : decode cL_calls 290 = .ok (.aload_n 2, 1) := zf_at zf_6 18 rfl
theorem dL_calls_291 : decode cL_calls 291 = .ok (.iconst 1, 1) := zf_at zf_6 19 rfl
theorem dL_calls_292 : decode cL_calls 292 = .ok (.iaload, 1) := zf_at zf_6 20 rfl
theorem dL_calls_293 : decode cL_calls 293 = .ok (.invokevirtual 79, 3) := zf_at zf_6 21 rfl
theorem dL_calls_296 : decode cL_calls 296 = .ok (.i2l, 1) := zf_at zf_6 22 rfl
theorem dL_calls_297 : decode cL_calls 297 = .ok (.lreturn, 1) := zf_at zf_6 23 rfl
theorem dL_calls_298 : decode cL_calls 298 = .ok (.aload_n 0, 1) := zf_at zf_6 24 rfl
theorem dL_calls_299 : decode cL_calls 299 = .ok (.aload_n 2, 1) := zf_at zf_6 25 rfl
theorem dL_calls_300 : decode cL_calls 300 = .ok (.iconst 0, 1) := zf_at zf_6 26 rfl
theorem dL_calls_301 : decode cL_calls 301 = .ok (.iaload, 1) := zf_at zf_6 27 rfl
theorem dL_calls_302 : decode cL_calls 302 = .ok (.aload_n 2, 1) := zf_at zf_6 28 rfl
theorem dL_calls_303 : decode cL_calls 303 = .ok (.iconst 1, 1) := zf_at zf_6 29 rfl
theorem dL_calls_304 : decode cL_calls 304 = .ok (.iaload, 1) := zf_at zf_6 30 rfl
theorem dL_calls_305 : decode cL_calls 305 = .ok (.iconst 1, 1) := zf_at zf_6 31 rfl
theorem dL_calls_306 : decode cL_calls 306 = .ok (.if_icmp .ne 7, 3) := zf_at zf_6 32 rfl
theorem dL_calls_309 : decode cL_calls 309 = .ok (.iconst 1, 1) := zf_at zf_6 33 rfl
theorem dL_calls_310 : decode cL_calls 310 = .ok (.goto 4, 3) := zf_at zf_6 34 rfl
theorem dL_calls_313 : decode cL_calls 313 = .ok (.iconst 0, 1) := zf_at zf_6 35 rfl
theorem dL_calls_314 : decode cL_calls 314 = .ok (.invokevirtual 82, 3) := zf_at zf_6 36 rfl
theorem dL_calls_317 : decode cL_calls 317 = .ok (.i2l, 1) := zf_at zf_6 37 rfl
theorem dL_calls_318 : decode cL_calls 318 = .ok (.lreturn, 1) := zf_at zf_6 38 rfl
theorem dL_calls_319 : decode cL_calls 319 = .ok (.aload_n 0, 1) := zf_at zf_6 39 rfl
theorem zf_7 : zf_all cL_calls [(320, .aload_n 2, 1), (321, .iconst 0, 1), (322, .iaload, 1), (323, .aload_n 2, 1), (324, .iconst 1, 1), (325, .iaload, 1), (326, .invokevirtual 86, 3), (329, .i2l, 1), (330, .lreturn, 1), (331, .aload_n 0, 1), (332, .aload_n 2, 1), (333, .iconst 0, 1), (334, .iaload, 1), (335, .invokevirtual 89, 3), (338, .i2l, 1), (339, .lreturn, 1), (340, .aload_n 0, 1), (341, .aload_n 2, 1), (342, .iconst 0, 1), (343, .iaload, 1), (344, .invokevirtual 92, 3), (347, .i2l, 1), (348, .lreturn, 1), (349, .aload_n 0, 1), (350, .aload_n 2, 1), (351, .iconst 0, 1), (352, .iaload, 1), (353, .invokevirtual 95, 3), (356, .i2l, 1), (357, .lreturn, 1), (358, .aload_n 0, 1), (359, .aload_n 2, 1), (360, .iconst 0, 1), (361, .iaload, 1), (362, .invokevirtual 98, 3), (365, .i2l, 1), (366, .lreturn, 1), (367, .aload_n 0, 1), (368, .aload_n 2, 1), (369, .iconst 0, 1)] = true := by decide +kernel
theorem dL_calls_320 : decode cL_calls 320 = .ok (.aload_n 2, 1) := zf_at zf_7 0 rfl
theorem dL_calls_321 : decode cL_calls 321 = .ok (.iconst 0, 1) := zf_at zf_7 1 rfl
theorem dL_calls_322 : decode cL_calls 322 = .ok (.iaload, 1) := zf_at zf_7 2 rfl
theorem dL_calls_323 : decode cL_calls 323 = .ok (.aload_n 2, 1) := zf_at zf_7 3 rfl
theorem dL_calls_324 : decode cL_calls 324 = .ok (.iconst 1, 1) := zf_at zf_7 4 rfl
theorem dL_calls_325 : decode cL_calls 325 = .ok (.iaload, 1) := zf_at zf_7 5 rfl
theorem dL_calls_326 : decode cL_calls 326 = .ok (.invokevirtual 86, 3) := zf_at zf_7 6 rfl
theorem dL_calls_329 : decode cL_calls 329 = .ok (.i2l, 1) := zf_at zf_7 7 rfl
theorem dL_calls_330 : decode cL_calls 330 = .ok (.lreturn, 1) := zf_at zf_7 8 rfl
theorem dL_calls_331 : decode cL_calls 331 = .ok (.aload_n 0, 1) := zf_at zf_7 9 rfl
theorem dL_calls_332 : decode cL_calls 332 = .ok (.aload_n 2, 1) := zf_at zf_7 10 rfl
theorem dL_calls_333 : decode cL_calls 333 = .ok (.iconst 0, 1) := zf_at zf_7 11 rfl
theorem dL_calls_334 : decode cL_calls 334 = .ok (.iaload, 1) := zf_at zf_7 12 rfl
theorem dL_calls_335 : decode cL_calls 335 = .ok (.invokevirtual 89, 3) := zf_at zf_7 13 rfl
theorem dL_calls_338 : decode cL_calls 338 = .ok (.i2l, 1) := zf_at zf_7 14 rfl
theorem dL_calls_339 : decode cL_calls 339 = .ok (.lreturn, 1) := zf_at zf_7 15 rfl
theorem dL_calls_340 : decode cL_calls 340 = .ok (.aload_n 0, 1) := zf_at zf_7 16 rfl
theorem dL_calls_341 : decode cL_calls 341 = .ok (.aload_n 2, 1) := zf_at zf_7 17 rfl
theorem dL_calls_342 : decode cL_calls 342 = .ok (.iconst 0, 1) := zf_at zf_7 18 rfl
theorem dL_calls_343 : decode cL_calls 343 = .ok (.iaload, 1) := zf_at zf_7 19 rfl
theorem dL_calls_344 : decode cL_calls 344 = .ok (.invokevirtual 92, 3) := zf_at zf_7 20 rfl
theorem dL_calls_347 : decode cL_calls 347 = .ok (.i2l, 1) := zf_at zf_7 21 rfl
theorem dL_calls_348 : decode cL_calls 348 = .ok (.lreturn, 1) := zf_at zf_7 22 rfl
theorem dL_calls_349 : decode cL_calls 349 = .ok (.aload_n 0, 1) := zf_at zf_7 23 rfl
theorem dL_calls_350 : decode cL_calls 350 = .ok (.aload_n 2, 1) := zf_at zf_7 24 rfl
theorem dL_calls_351 : decode cL_calls 351 = .ok (.iconst 0, 1) := zf_at zf_7 25 rfl
theorem dL_calls_352 : decode cL_calls 352 = .ok (.iaload, 1) := zf_at zf_7 26 rfl
theorem dL_calls_353 : decode cL_calls 353 = .ok (.invokevirtual 95, 3) := zf_at zf_7 27 rfl
theorem dL_calls_356 : decode cL_calls 356 = .ok (.i2l, 1) := zf_at zf_7 28 rfl
theorem dL_calls_357 : decode cL_calls 357 = .ok (.lreturn, 1) := zf_at zf_7 29 rfl
theorem dL_calls_358 : decode cL_calls 358 = .ok (.aload_n 0, 1) := zf_at zf_7 30 rfl
theorem dL_calls_359 : decode cL_calls 359 = .ok (.aload_n 2, 1) := zf_at zf_7 31 rfl
theorem dL_calls_360 : decode cL_calls 360 = .ok (.iconst 0, 1) := zf_at zf_7 32 rfl
theorem dL_calls_361 : decode cL_calls 361 = .ok (.iaload, 1) := zf_at zf_7 33 rfl
theorem dL_calls_362 : decode cL_calls 362 = .ok (.invokevirtual 98, 3) := zf_at zf_7 34 rfl
theorem dL_calls_365 : decode cL_calls 365 = .ok (.i2l, 1) := zf_at zf_7 35 rfl
theorem dL_calls_366 : decode cL_calls 366 = .ok (.lreturn, 1) := zf_at zf_7 36 rfl
theorem dL_calls_367 : decode cL_calls 367 = .ok (.aload_n 0, 1) := zf_at zf_7 37 rfl
theorem dL_calls_368 : decode cL_calls 368 = .ok (.aload_n 2, 1) := zf_at zf_7 38 rfl
theorem dL_calls_369 : decode cL_calls 369 = .ok (.iconst 0, 1) := zf_at zf_7 39 rfl
theorem zf_8 : zf_all cL_calls [(370, .iaload, 1), (371, .invokevirtual 101, 3), (374, .i2l, 1), (375, .lreturn, 1), (376, .aload_n 0, 1), (377, .aload_n 2, 1), (378, .iconst 0, 1), (379, .iaload, 1), (380, .aload_n 2, 1), (381, .iconst 1, 1), (382, .iaload, 1), (383, .invokevirtual 104, 3), (386, .i2l, 1), (387, .lreturn, 1), (388, .aload_n 0, 1), (389, .invokevirtual 107, 3), (392, .i2l, 1), (393, .lreturn, 1), (394, .aload_n 0, 1), (395, .aload_n 2, 1), (396, .iconst 0, 1), (397, .iaload, 1), (398, .invokevirtual 110, 3), (401, .i2l, 1), (402, .lreturn, 1), (403, .aload_n 0, 1), (404, .aload_n 2, 1), (405, .iconst 0, 1), (406, .iaload, 1), (407, .invokevirtual 113, 3), (410, .i2l, 1), (411, .lreturn, 1), (412, .aload_n 0, 1), (413, .aload_n 2, 1), (414, .iconst 0, 1), (415, .iaload, 1), (416, .invokevirtual 29, 3), (419, .i2l, 1), (420, .lreturn, 1)] = true := by decide +kernel
theorem dL_calls_370 : decode cL_calls 370 = .ok (.iaload, 1) := zf_at zf_8 0 rfl
theorem dL_calls_371 : decode cL_calls 371 = .ok (.invokevirtual 101, 3) := zf_at zf_8 1 rfl
theorem dL_calls_374 : decode cL_calls 374 = .ok (.i2l, 1) := zf_at zf_8 2 rfl
theorem dL_calls_375 : decode cL_calls 375 = .ok (.lreturn, 1) := zf_at zf_8 3 rfl
theorem dL_calls_376 : decode cL_calls 376 = .ok (.aload_n 0, 1) := zf_at zf_8 4 rfl
theorem dL_calls_377 : decode cL_calls 377 = .ok (.aload_n 2, 1) := zf_at zf_8 5 rfl
theorem dL_calls_378 : decode cL_calls 378 = .ok (.iconst 0, 1) := zf_at zf_8 6 rfl
theorem dL_calls_379 : decode cL_calls 379 = .ok (.iaload, 1) := zf_at zf_8 7 rfl
theorem dL_calls_380 : decode cL_calls 380 = .ok (.aload_n 2, 1) := zf_at zf_8 8 rfl
theorem dL_calls_381 : decode cL_calls 381 = .ok (.iconst 1, 1) := zf_at zf_8 9 rfl
theorem dL_calls_382 : decode cL_calls 382 = .ok (.iaload, 1) := zf_at zf_8 10 rfl
theorem dL_calls_383 : decode cL_calls 383 = .ok (.invokevirtual 104, 3) := zf_at zf_8 11 rfl
theorem dL_calls_386 : decode cL_calls 386 = .ok (.i2l, 1) := zf_at zf_8 12 rfl
theorem dL_calls_387 : decode cL_calls 387 = .ok (.lreturn, 1) := zf_at zf_8 13 rfl
theorem dL_calls_388 : decode cL_calls 388 = .ok (.aload_n 0, 1) := zf_at zf_8 14 rfl
theorem dL_calls_389 : decode cL_calls 389 = .ok (.invokevirtual 107, 3) := zf_at zf_8 15 rfl
theorem dL_calls_392 : decode cL_calls 392 = .ok (.i2l, 1) := zf_at zf_8 16 rfl
theorem dL_calls_393 : decode cL_calls 393 = .ok (.lreturn, 1) := zf_at zf_8 17 rfl
theorem dL_calls_394 : decode cL_calls 394 = .ok (.aload_n 0, 1) := zf_at zf_8 18 rfl
theorem dL_calls_395 : decode cL_calls 395 = .ok (.aload_n 2, 1) := zf_at zf_8 19 rfl
theorem dL_calls_396 : decode cL_calls 396 = .ok (.iconst 0, 1) := zf_at zf_8 20 rfl
theorem dL_calls_397 : decode cL_calls 397 = .ok (.iaload, 1) := zf_at zf_8 21 rfl
theorem dL_calls_398 : decode cL_calls 398 = .ok (.invokevirtual 110, 3) := zf_at zf_8 22 rfl
theorem dL_calls_401 : decode cL_calls 401 = .ok (.i2l, 1) := zf_at zf_8 23 rfl
theorem dL_calls_402 : decode cL_calls 402 = .ok (.lreturn, 1) := zf_at zf_8 24 rfl
theorem dL_calls_403 : decode cL_calls 403 = .ok (.aload_n 0, 1) := zf_at zf_8 25 rfl
theorem dL_calls_404 : decode cL_calls 404 = .ok (.aload_n 2, 1) := zf_at zf_8 26 rfl
theorem dL_calls_405 : decode cL_calls 405 = .ok (.iconst 0, 1) := zf_at zf_8 27 rfl
theorem dL_calls_406 : decode cL_calls 406 = .ok (.iaload, 1) := zf_at zf_8 28 rfl
theorem dL_calls_407 : decode cL_calls 407 = .ok (.invokevirtual 113, 3) := zf_at zf_8 29 rfl
theorem dL_calls_410 : decode cL_calls 410 = .ok (.i2l, 1) := zf_at zf_8 30 rfl
theorem dL_calls_411 : decode cL_calls 411 = .ok (.lreturn, 1) := zf_at zf_8 31 rfl
theorem dL_calls_412 : decode cL_calls 412 = .ok (.aload_n 0, 1) := zf_at zf_8 32 rfl
theorem dL_calls_413 : decode cL_calls 413 = .ok (.aload_n 2, 1) := zf_at zf_8 33 rfl
theorem dL_calls_414 : decode cL_calls 414 = .ok (.iconst 0, 1) := zf_at zf_8 34 rfl
theorem dL_calls_415 : decode cL_calls 415 = .ok (.iaload, 1) := zf_at zf_8 35 rfl
theorem dL_calls_416 : decode cL_calls 416 = .ok (.invokevirtual 29, 3) := zf_at zf_8 36 rfl
theorem dL_calls_419 : decode cL_calls 419 = .ok (.i2l, 1) := zf_at zf_8 37 rfl
theorem dL_calls_420 : decode cL_calls 420 = .ok (.lreturn, 1) := zf_at zf_8 38 rfl
theorem zf_9 : zf_all cL_thrown [(0, .iconst 5, 1), (1, .newarray .int, 2), (3, .astore_n 3, 1), (4, .aload_n 2, 1), (5, .iconst 0, 1), (6, .aload_n 3, 1), (7, .iconst 0, 1), (8, .aload_n 2, 1), (9, .arraylength, 1), (10, .invokestatic 116, 3), (13, .aload_n 0, 1), (14, .iload_n 1, 1), (15, .aload_n 3, 1), (16, .invokestatic 122, 3), (19, .ldc2_w 126, 3), (22, .lcmp, 1), (23, .ifCond .ne 7, 3), (26, .iconst 0, 1), (27, .goto 4, 3), (30, .iconst 0, 1), (31, .ireturn, 1), (32, .astore 4, 2), (34, .iconst 1, 1), (35, .ireturn, 1), (36, .astore 4, 2), (38, .iconst 2, 1), (39, .ireturn, 1), (40, .astore 4, 2), (42, .iconst 3, 1), (43, .ireturn, 1)] = true := by decide +kernel
theorem dL_thrown_0 : decode cL_thrown 0 = .ok (.iconst 5, 1) := zf_at zf_9 0 rfl
theorem dL_thrown_1 : decode cL_thrown 1 = .ok (.newarray .int, 2) := zf_at zf_9 1 rfl
theorem dL_thrown_3 : decode cL_thrown 3 = .ok (.astore_n 3, 1) := zf_at zf_9 2 rfl
theorem dL_thrown_4 : decode cL_thrown 4 = .ok (.aload_n 2, 1) := zf_at zf_9 3 rfl
theorem dL_thrown_5 : decode cL_thrown 5 = .ok (.iconst 0, 1) := zf_at zf_9 4 rfl
theorem dL_thrown_6 : decode cL_thrown 6 = .ok (.aload_n 3, 1) := zf_at zf_9 5 rfl
theorem dL_thrown_7 : decode cL_thrown 7 = .ok (.iconst 0, 1) := zf_at zf_9 6 rfl
theorem dL_thrown_8 : decode cL_thrown 8 = .ok (.aload_n 2, 1) := zf_at zf_9 7 rfl
theorem dL_thrown_9 : decode cL_thrown 9 = .ok (.arraylength, 1) := zf_at zf_9 8 rfl
theorem dL_thrown_10 : decode cL_thrown 10 = .ok (.invokestatic 116, 3) := zf_at zf_9 9 rfl
theorem dL_thrown_13 : decode cL_thrown 13 = .ok (.aload_n 0, 1) := zf_at zf_9 10 rfl
theorem dL_thrown_14 : decode cL_thrown 14 = .ok (.iload_n 1, 1) := zf_at zf_9 11 rfl
theorem dL_thrown_15 : decode cL_thrown 15 = .ok (.aload_n 3, 1) := zf_at zf_9 12 rfl
theorem dL_thrown_16 : decode cL_thrown 16 = .ok (.invokestatic 122, 3) := zf_at zf_9 13 rfl
theorem dL_thrown_19 : decode cL_thrown 19 = .ok (.ldc2_w 126, 3) := zf_at zf_9 14 rfl
theorem dL_thrown_22 : decode cL_thrown 22 = .ok (.lcmp, 1) := zf_at zf_9 15 rfl
theorem dL_thrown_23 : decode cL_thrown 23 = .ok (.ifCond .ne 7, 3) := zf_at zf_9 16 rfl
theorem dL_thrown_26 : decode cL_thrown 26 = .ok (.iconst 0, 1) := zf_at zf_9 17 rfl
theorem dL_thrown_27 : decode cL_thrown 27 = .ok (.goto 4, 3) := zf_at zf_9 18 rfl
theorem dL_thrown_30 : decode cL_thrown 30 = .ok (.iconst 0, 1) := zf_at zf_9 19 rfl
theorem dL_thrown_31 : decode cL_thrown 31 = .ok (.ireturn, 1) := zf_at zf_9 20 rfl
theorem dL_thrown_32 : decode cL_thrown 32 = .ok (.astore 4, 2) := zf_at zf_9 21 rfl
theorem dL_thrown_34 : decode cL_thrown 34 = .ok (.iconst 1, 1) := zf_at zf_9 22 rfl
theorem dL_thrown_35 : decode cL_thrown 35 = .ok (.ireturn, 1) := zf_at zf_9 23 rfl
theorem dL_thrown_36 : decode cL_thrown 36 = .ok (.astore 4, 2) := zf_at zf_9 24 rfl
theorem dL_thrown_38 : decode cL_thrown 38 = .ok (.iconst 2, 1) := zf_at zf_9 25 rfl
theorem dL_thrown_39 : decode cL_thrown 39 = .ok (.ireturn, 1) := zf_at zf_9 26 rfl
theorem dL_thrown_40 : decode cL_thrown 40 = .ok (.astore 4, 2) := zf_at zf_9 27 rfl
theorem dL_thrown_42 : decode cL_thrown 42 = .ok (.iconst 3, 1) := zf_at zf_9 28 rfl
theorem dL_thrown_43 : decode cL_thrown 43 = .ok (.ireturn, 1) := zf_at zf_9 29 rfl
theorem zf_10 : zf_all cL_isLike [(0, .iconst 0, 1), (1, .istore_n 2, 1), (2, .iconst 0, 1), (3, .istore_n 3, 1), (4, .iconst 0, 1), (5, .istore 4, 2), (7, .iconst 0, 1), (8, .istore 5, 2), (10, .iload 5, 2), (12, .aload_n 1, 1), (13, .getfield 134, 3), (16, .iconst 1, 1), (17, .iaload, 1), (18, .if_icmp .ge 412, 3), (21, .aload_n 1, 1), (22, .getfield 140, 3), (25, .iload 5, 2), (27, .iaload, 1), (28, .ifCond .lt 7, 3), (31, .iconst 1, 1), (32, .goto 4, 3), (35, .iconst 0, 1), (36, .istore 6, 2), (38, .bipush 9, 2), (40, .newarray .int, 2), (42, .dup, 1), (43, .iconst 0, 1), (44, .aload_n 1, 1), (45, .getfield 142, 3), (48, .iload 5, 2), (50, .iaload, 1), (51, .iastore, 1), (52, .dup, 1), (53, .iconst 1, 1), (54, .aload_n 1, 1), (55, .getfield 145, 3), (58, .iload 5, 2), (60, .iaload, 1), (61, .iastore, 1), (62, .dup, 1)] = true := by decide +kernel
theorem dL_isLike_0 : decode cL_isLike 0 = .ok (.iconst 0, 1) := zf_at zf_10 0 rfl
theorem dL_isLike_1 : decode cL_isLike 1 = .ok (.istore_n 2, 1) := zf_at zf_10 1 rfl
theorem dL_isLike_2 : decode cL_isLike 2 = .ok (.iconst 0, 1) := zf_at zf_10 2 rfl
theorem dL_isLike_3 : decode cL_isLike 3 = .ok (.istore_n 3, 1) := zf_at zf_10 3 rfl
theorem dL_isLike_4 : decode cL_isLike 4 = .ok (.iconst 0, 1) := zf_at zf_10 4 rfl
theorem dL_isLike_5 : decode cL_isLike 5 = .ok (.istore 4, 2) := zf_at zf_10 5 rfl
theorem dL_isLike_7 : decode cL_isLike 7 = .ok (.iconst 0, 1) := zf_at zf_10 6 rfl
theorem dL_isLike_8 : decode cL_isLike 8 = .ok (.istore 5, 2) := zf_at zf_10 7 rfl
theorem dL_isLike_10 : decode cL_isLike 10 = .ok (.iload 5, 2) := zf_at zf_10 8 rfl
theorem dL_isLike_12 : decode cL_isLike 12 = .ok (.aload_n 1, 1) := zf_at zf_10 9 rfl
theorem dL_isLike_13 : decode cL_isLike 13 = .ok (.getfield 134, 3) := zf_at zf_10 10 rfl
theorem dL_isLike_16 : decode cL_isLike 16 = .ok (.iconst 1, 1) := zf_at zf_10 11 rfl
theorem dL_isLike_17 : decode cL_isLike 17 = .ok (.iaload, 1) := zf_at zf_10 12 rfl
theorem dL_isLike_18 : decode cL_isLike 18 = .ok (.if_icmp .ge 412, 3) := zf_at zf_10 13 rfl
theorem dL_isLike_21 : decode cL_isLike 21 = .ok (.aload_n 1, 1) := zf_at zf_10 14 rfl
theorem dL_isLike_22 : decode cL_isLike 22 = .ok (.getfield 140, 3) := zf_at zf_10 15 rfl
theorem dL_isLike_25 : decode cL_isLike 25 = .ok (.iload 5, 2) := zf_at zf_10 16 rfl
theorem dL_isLike_27 : decode cL_isLike 27 = .ok (.iaload, 1) := zf_at zf_10 17 rfl
theorem dL_isLike_28 : decode cL_isLike 28 = .ok (.ifCond .lt 7, 3) := zf_at zf_10 18 rfl
theorem dL_isLike_31 : decode cL_isLike 31 = .ok (.iconst 1, 1) := zf_at zf_10 19 rfl
theorem dL_isLike_32 : decode cL_isLike 32 = .ok (.goto 4, 3) := zf_at zf_10 20 rfl
theorem dL_isLike_35 : decode cL_isLike 35 = .ok (.iconst 0, 1) := zf_at zf_10 21 rfl
theorem dL_isLike_36 : decode cL_isLike 36 = .ok (.istore 6, 2) := zf_at zf_10 22 rfl
theorem dL_isLike_38 : decode cL_isLike 38 = .ok (.bipush 9, 2) := zf_at zf_10 23 rfl
theorem dL_isLike_40 : decode cL_isLike 40 = .ok (.newarray .int, 2) := zf_at zf_10 24 rfl
theorem dL_isLike_42 : decode cL_isLike 42 = .ok (.dup, 1) := zf_at zf_10 25 rfl
theorem dL_isLike_43 : decode cL_isLike 43 = .ok (.iconst 0, 1) := zf_at zf_10 26 rfl
theorem dL_isLike_44 : decode cL_isLike 44 = .ok (.aload_n 1, 1) := zf_at zf_10 27 rfl
theorem dL_isLike_45 : decode cL_isLike 45 = .ok (.getfield 142, 3) := zf_at zf_10 28 rfl
theorem dL_isLike_48 : decode cL_isLike 48 = .ok (.iload 5, 2) := zf_at zf_10 29 rfl
theorem dL_isLike_50 : decode cL_isLike 50 = .ok (.iaload, 1) := zf_at zf_10 30 rfl
theorem dL_isLike_51 : decode cL_isLike 51 = .ok (.iastore, 1) := zf_at zf_10 31 rfl
theorem dL_isLike_52 : decode cL_isLike 52 = .ok (.dup, 1) := zf_at zf_10 32 rfl
theorem dL_isLike_53 : decode cL_isLike 53 = .ok (.iconst 1, 1) := zf_at zf_10 33 rfl
theorem dL_isLike_54 : decode cL_isLike 54 = .ok (.aload_n 1, 1) := zf_at zf_10 34 rfl
theorem dL_isLike_55 : decode cL_isLike 55 = .ok (.getfield 145, 3) := zf_at zf_10 35 rfl
theorem dL_isLike_58 : decode cL_isLike 58 = .ok (.iload 5, 2) := zf_at zf_10 36 rfl
theorem dL_isLike_60 : decode cL_isLike 60 = .ok (.iaload, 1) := zf_at zf_10 37 rfl
theorem dL_isLike_61 : decode cL_isLike 61 = .ok (.iastore, 1) := zf_at zf_10 38 rfl
theorem dL_isLike_62 : decode cL_isLike 62 = .ok (.dup, 1) := zf_at zf_10 39 rfl
theorem zf_11 : zf_all cL_isLike [(63, .iconst 2, 1), (64, .aload_n 1, 1), (65, .getfield 134, 3), (68, .iconst 0, 1), (69, .iaload, 1), (70, .aload_n 1, 1), (71, .iload 5, 2), (73, .invokevirtual 148, 3), (76, .isub, 1), (77, .iastore, 1), (78, .dup, 1), (79, .iconst 3, 1), (80, .aload_n 1, 1), (81, .iload 5, 2), (83, .invokevirtual 148, 3), (86, .iastore, 1), (87, .dup, 1), (88, .iconst 4, 1), (89, .aload_n 1, 1), (90, .getfield 140, 3), (93, .iload 5, 2), (95, .iaload, 1), (96, .iastore, 1), (97, .dup, 1), (98, .iconst 5, 1), (99, .aload_n 1, 1), (100, .getfield 151, 3), (103, .iload 5, 2), (105, .iaload, 1), (106, .iastore, 1), (107, .dup, 1), (108, .bipush 6, 2), (110, .aload_n 1, 1), (111, .iload 5, 2), (113, .invokevirtual 154, 3), (116, .iastore, 1), (117, .dup, 1), (118, .bipush 7, 2), (120, .aload_n 1, 1), (121, .iload 5, 2)] = true := by decide +kernel
theorem dL_isLike_63 : decode cL_isLike 63 = .ok (.iconst 2, 1) := zf_at zf_11 0 rfl
theorem dL_isLike_64 : decode cL_isLike 64 = .ok (.aload_n 1, 1) := zf_at zf_11 1 rfl
theorem dL_isLike_65 : decode cL_isLike 65 = .ok (.getfield 134, 3) := zf_at zf_11 2 rfl
theorem dL_isLike_68 : decode cL_isLike 68 = .ok (.iconst 0, 1) := zf_at zf_11 3 rfl
theorem dL_isLike_69 : decode cL_isLike 69 = .ok (.iaload, 1) := zf_at zf_11 4 rfl
theorem dL_isLike_70 : decode cL_isLike 70 = .ok (.aload_n 1, 1) := zf_at zf_11 5 rfl
theorem dL_isLike_71 : decode cL_isLike 71 = .ok (.iload 5, 2) := zf_at zf_11 6 rfl
theorem dL_isLike_73 : decode cL_isLike 73 = .ok (.invokevirtual 148, 3) := zf_at zf_11 7 rfl
theorem dL_isLike_76 : decode cL_isLike 76 = .ok (.isub, 1) := zf_at zf_11 8 rfl
theorem dL_isLike_77 : decode cL_isLike 77 = .ok (.iastore, 1) := zf_at zf_11 9 rfl
theorem dL_isLike_78 : decode cL_isLike 78 = .ok (.dup, 1) := zf_at zf_11 10 rfl
theorem dL_isLike_79 : decode cL_isLike 79 = .ok (.iconst 3, 1) := zf_at zf_11 11 rfl
theorem dL_isLike_80 : decode cL_isLike 80 = .ok (.aload_n 1, 1) := zf_at zf_11 12 rfl
theorem dL_isLike_81 : decode cL_isLike 81 = .ok (.iload 5, 2) := zf_at zf_11 13 rfl
theorem dL_isLike_83 : decode cL_isLike 83 = .ok (.invokevirtual 148, 3) := zf_at zf_11 14 rfl
theorem dL_isLike_86 : decode cL_isLike 86 = .ok (.iastore, 1) := zf_at zf_11 15 rfl
theorem dL_isLike_87 : decode cL_isLike 87 = .ok (.dup, 1) := zf_at zf_11 16 rfl
theorem dL_isLike_88 : decode cL_isLike 88 = .ok (.iconst 4, 1) := zf_at zf_11 17 rfl
theorem dL_isLike_89 : decode cL_isLike 89 = .ok (.aload_n 1, 1) := zf_at zf_11 18 rfl
theorem dL_isLike_90 : decode cL_isLike 90 = .ok (.getfield 140, 3) := zf_at zf_11 19 rfl
theorem dL_isLike_93 : decode cL_isLike 93 = .ok (.iload 5, 2) := zf_at zf_11 20 rfl
theorem dL_isLike_95 : decode cL_isLike 95 = .ok (.iaload, 1) := zf_at zf_11 21 rfl
theorem dL_isLike_96 : decode cL_isLike 96 = .ok (.iastore, 1) := zf_at zf_11 22 rfl
theorem dL_isLike_97 : decode cL_isLike 97 = .ok (.dup, 1) := zf_at zf_11 23 rfl
theorem dL_isLike_98 : decode cL_isLike 98 = .ok (.iconst 5, 1) := zf_at zf_11 24 rfl
theorem dL_isLike_99 : decode cL_isLike 99 = .ok (.aload_n 1, 1) := zf_at zf_11 25 rfl
theorem dL_isLike_100 : decode cL_isLike 100 = .ok (.getfield 151, 3) := zf_at zf_11 26 rfl
theorem dL_isLike_103 : decode cL_isLike 103 = .ok (.iload 5, 2) := zf_at zf_11 27 rfl
theorem dL_isLike_105 : decode cL_isLike 105 = .ok (.iaload, 1) := zf_at zf_11 28 rfl
theorem dL_isLike_106 : decode cL_isLike 106 = .ok (.iastore, 1) := zf_at zf_11 29 rfl
theorem dL_isLike_107 : decode cL_isLike 107 = .ok (.dup, 1) := zf_at zf_11 30 rfl
theorem dL_isLike_108 : decode cL_isLike 108 = .ok (.bipush 6, 2) := zf_at zf_11 31 rfl
theorem dL_isLike_110 : decode cL_isLike 110 = .ok (.aload_n 1, 1) := zf_at zf_11 32 rfl
theorem dL_isLike_111 : decode cL_isLike 111 = .ok (.iload 5, 2) := zf_at zf_11 33 rfl
theorem dL_isLike_113 : decode cL_isLike 113 = .ok (.invokevirtual 154, 3) := zf_at zf_11 34 rfl
theorem dL_isLike_116 : decode cL_isLike 116 = .ok (.iastore, 1) := zf_at zf_11 35 rfl
theorem dL_isLike_117 : decode cL_isLike 117 = .ok (.dup, 1) := zf_at zf_11 36 rfl
theorem dL_isLike_118 : decode cL_isLike 118 = .ok (.bipush 7, 2) := zf_at zf_11 37 rfl
theorem dL_isLike_120 : decode cL_isLike 120 = .ok (.aload_n 1, 1) := zf_at zf_11 38 rfl
theorem dL_isLike_121 : decode cL_isLike 121 = .ok (.iload 5, 2) := zf_at zf_11 39 rfl
theorem zf_12 : zf_all cL_isLike [(123, .invokevirtual 157, 3), (126, .iastore, 1), (127, .dup, 1), (128, .bipush 8, 2), (130, .iload 6, 2), (132, .ifCond .eq 13, 3), (135, .aload_n 1, 1), (136, .getfield 160, 3), (139, .iload 5, 2), (141, .iaload, 1), (142, .goto 4, 3), (145, .iconst (-1), 1), (146, .iastore, 1), (147, .astore 7, 2), (149, .iconst 0, 1), (150, .istore 8, 2), (152, .iload 8, 2), (154, .bipush 9, 2), (156, .if_icmp .ge 27, 3), (159, .aload_n 0, 1), (160, .iload 5, 2), (162, .iload 8, 2), (164, .invokevirtual 39, 3), (167, .aload 7, 2), (169, .iload 8, 2), (171, .iaload, 1), (172, .if_icmp .eq 5, 3), (175, .iconst 0, 1), (176, .ireturn, 1), (177, .iinc 8 1, 3), (180, .goto (-28), 3), (183, .iconst 0, 1), (184, .istore 8, 2), (186, .iload 8, 2), (188, .aload_n 1, 1), (189, .getfield 142, 3), (192, .iload 5, 2), (194, .iaload, 1), (195, .if_icmp .ge 32, 3), (198, .aload_n 0, 1)] = true := by decide +kernel
theorem dL_isLike_123 : decode cL_isLike 123 = .ok (.invokevirtual 157, 3) := zf_at zf_12 0 rfl
theorem dL_isLike_126 : decode cL_isLike 126 = .ok (.iastore, 1) := zf_at zf_12 1 rfl
theorem dL_isLike_127 : decode cL_isLike 127 = .ok (.dup, 1) := zf_at zf_12 2 rfl
theorem dL_isLike_128 : decode cL_isLike 128 = .ok (.bipush 8, 2) := zf_at zf_12 3 rfl
theorem dL_isLike_130 : decode cL_isLike 130 = .ok (.iload 6, 2) := zf_at zf_12 4 rfl
theorem dL_isLike_132 : decode cL_isLike 132 = .ok (.ifCond .eq 13, 3) := zf_at zf_12 5 rfl
theorem dL_isLike_135 : decode cL_isLike 135 = .ok (.aload_n 1, 1) := zf_at zf_12 6 rfl
theorem dL_isLike_136 : decode cL_isLike 136 = .ok (.getfield 160, 3) := zf_at zf_12 7 rfl
theorem dL_isLike_139 : decode cL_isLike 139 = .ok (.iload 5, 2) := zf_at zf_12 8 rfl
theorem dL_isLike_141 : decode cL_isLike 141 = .ok (.iaload, 1) := zf_at zf_12 9 rfl
theorem dL_isLike_142 : decode cL_isLike 142 = .ok (.goto 4, 3) := zf_at zf_12 10 rfl
theorem dL_isLike_145 : decode cL_isLike 145 = .ok (.iconst (-1), 1) := zf_at zf_12 11 rfl
theorem dL_isLike_146 : decode cL_isLike 146 = .ok (.iastore, 1) := zf_at zf_12 12 rfl
theorem dL_isLike_147 : decode cL_isLike 147 = .ok (.astore 7, 2) := zf_at zf_12 13 rfl
theorem dL_isLike_149 : decode cL_isLike 149 = .ok (.iconst 0, 1) := zf_at zf_12 14 rfl
theorem dL_isLike_150 : decode cL_isLike 150 = .ok (.istore 8, 2) := zf_at zf_12 15 rfl
theorem dL_isLike_152 : decode cL_isLike 152 = .ok (.iload 8, 2) := zf_at zf_12 16 rfl
theorem dL_isLike_154 : decode cL_isLike 154 = .ok (.bipush 9, 2) := zf_at zf_12 17 rfl
theorem dL_isLike_156 : decode cL_isLike 156 = .ok (.if_icmp .ge 27, 3) := zf_at zf_12 18 rfl
theorem dL_isLike_159 : decode cL_isLike 159 = .ok (.aload_n 0, 1) := zf_at zf_12 19 rfl
theorem dL_isLike_160 : decode cL_isLike 160 = .ok (.iload 5, 2) := zf_at zf_12 20 rfl
theorem dL_isLike_162 : decode cL_isLike 162 = .ok (.iload 8, 2) := zf_at zf_12 21 rfl
theorem dL_isLike_164 : decode cL_isLike 164 = .ok (.invokevirtual 39, 3) := zf_at zf_12 22 rfl
theorem dL_isLike_167 : decode cL_isLike 167 = .ok (.aload 7, 2) := zf_at zf_12 23 rfl
theorem dL_isLike_169 : decode cL_isLike 169 = .ok (.iload 8, 2) := zf_at zf_12 24 rfl
theorem dL_isLike_171 : decode cL_isLike 171 = .ok (.iaload, 1) := zf_at zf_12 25 rfl
theorem dL_isLike_172 : decode cL_isLike 172 = .ok (.if_icmp .eq 5, 3) := zf_at zf_12 26 rfl
theorem dL_isLike_175 : decode cL_isLike 175 = .ok (.iconst 0, 1) := zf_at zf_12 27 rfl
theorem dL_isLike_176 : decode cL_isLike 176 = .ok (.ireturn, 1) := zf_at zf_12 28 rfl
theorem dL_isLike_177 : decode cL_isLike 177 = .ok (.iinc 8 1, 3) := zf_at zf_12 29 rfl
theorem dL_isLike_180 : decode cL_isLike 180 = .ok (.goto (-28), 3) := zf_at zf_12 30 rfl
theorem dL_isLike_183 : decode cL_isLike 183 = .ok (.iconst 0, 1) := zf_at zf_12 31 rfl
theorem dL_isLike_184 : decode cL_isLike 184 = .ok (.istore 8, 2) := zf_at zf_12 32 rfl
theorem dL_isLike_186 : decode cL_isLike 186 = .ok (.iload 8, 2) := zf_at zf_12 33 rfl
theorem dL_isLike_188 : decode cL_isLike 188 = .ok (.aload_n 1, 1) := zf_at zf_12 34 rfl
theorem dL_isLike_189 : decode cL_isLike 189 = .ok (.getfield 142, 3) := zf_at zf_12 35 rfl
theorem dL_isLike_192 : decode cL_isLike 192 = .ok (.iload 5, 2) := zf_at zf_12 36 rfl
theorem dL_isLike_194 : decode cL_isLike 194 = .ok (.iaload, 1) := zf_at zf_12 37 rfl
theorem dL_isLike_195 : decode cL_isLike 195 = .ok (.if_icmp .ge 32, 3) := zf_at zf_12 38 rfl
theorem dL_isLike_198 : decode cL_isLike 198 = .ok (.aload_n 0, 1) := zf_at zf_12 39 rfl
theorem zf_13 : zf_all cL_isLike [(199, .iload 5, 2), (201, .iload 8, 2), (203, .invokevirtual 43, 3), (206, .aload_n 1, 1), (207, .getfield 163, 3), (210, .iload 5, 2), (212, .aaload, 1), (213, .iload 8, 2), (215, .iaload, 1), (216, .if_icmp .eq 5, 3), (219, .iconst 0, 1), (220, .ireturn, 1), (221, .iinc 8 1, 3), (224, .goto (-38), 3), (227, .iconst 0, 1), (228, .istore 8, 2), (230, .iload 8, 2), (232, .aload_n 1, 1), (233, .getfield 145, 3), (236, .iload 5, 2), (238, .iaload, 1), (239, .if_icmp .ge 32, 3), (242, .aload_n 0, 1), (243, .iload 5, 2), (245, .iload 8, 2), (247, .invokevirtual 46, 3), (250, .aload_n 1, 1), (251, .getfield 167, 3), (254, .iload 5, 2), (256, .aaload, 1), (257, .iload 8, 2), (259, .iaload, 1), (260, .if_icmp .eq 5, 3), (263, .iconst 0, 1), (264, .ireturn, 1), (265, .iinc 8 1, 3), (268, .goto (-38), 3), (271, .iconst 0, 1), (272, .istore 8, 2), (274, .iload 8, 2)] = true := by decide +kernel
theorem dL_isLike_199 : decode cL_isLike 199 = .ok (.iload 5, 2) := zf_at zf_13 0 rfl
theorem dL_isLike_201 : decode cL_isLike 201 = .ok (.iload 8, 2) := zf_at zf_13 1 rfl
theorem dL_isLike_203 : decode cL_isLike 203 = .ok (.invokevirtual 43, 3) := zf_at zf_13 2 rfl
theorem dL_isLike_206 : decode cL_isLike 206 = .ok (.aload_n 1, 1) := zf_at zf_13 3 rfl
theorem dL_isLike_207 : decode cL_isLike 207 = .ok (.getfield 163, 3) := zf_at zf_13 4 rfl
theorem dL_isLike_210 : decode cL_isLike 210 = .ok (.iload 5, 2) := zf_at zf_13 5 rfl
theorem dL_isLike_212 : decode cL_isLike 212 = .ok (.aaload, 1) := zf_at zf_13 6 rfl
theorem dL_isLike_213 : decode cL_isLike 213 = .ok (.iload 8, 2) := zf_at zf_13 7 rfl
theorem dL_isLike_215 : decode cL_isLike 215 = .ok (.iaload, 1) := zf_at zf_13 8 rfl
theorem dL_isLike_216 : decode cL_isLike 216 = .ok (.if_icmp .eq 5, 3) := zf_at zf_13 9 rfl
theorem dL_isLike_219 : decode cL_isLike 219 = .ok (.iconst 0, 1) := zf_at zf_13 10 rfl
theorem dL_isLike_220 : decode cL_isLike 220 = .ok (.ireturn, 1) := zf_at zf_13 11 rfl
theorem dL_isLike_221 : decode cL_isLike 221 = .ok (.iinc 8 1, 3) := zf_at zf_13 12 rfl
theorem dL_isLike_224 : decode cL_isLike 224 = .ok (.goto (-38), 3) := zf_at zf_13 13 rfl
theorem dL_isLike_227 : decode cL_isLike 227 = .ok (.iconst 0, 1) := zf_at zf_13 14 rfl
theorem dL_isLike_228 : decode cL_isLike 228 = .ok (.istore 8, 2) := zf_at zf_13 15 rfl
theorem dL_isLike_230 : decode cL_isLike 230 = .ok (.iload 8, 2) := zf_at zf_13 16 rfl
theorem dL_isLike_232 : decode cL_isLike 232 = .ok (.aload_n 1, 1) := zf_at zf_13 17 rfl
theorem dL_isLike_233 : decode cL_isLike 233 = .ok (.getfield 145, 3) := zf_at zf_13 18 rfl
theorem dL_isLike_236 : decode cL_isLike 236 = .ok (.iload 5, 2) := zf_at zf_13 19 rfl
theorem dL_isLike_238 : decode cL_isLike 238 = .ok (.iaload, 1) := zf_at zf_13 20 rfl
theorem dL_isLike_239 : decode cL_isLike 239 = .ok (.if_icmp .ge 32, 3) := zf_at zf_13 21 rfl
theorem dL_isLike_242 : decode cL_isLike 242 = .ok (.aload_n 0, 1) := zf_at zf_13 22 rfl
theorem dL_isLike_243 : decode cL_isLike 243 = .ok (.iload 5, 2) := zf_at zf_13 23 rfl
theorem dL_isLike_245 : decode cL_isLike 245 = .ok (.iload 8, 2) := zf_at zf_13 24 rfl
theorem dL_isLike_247 : decode cL_isLike 247 = .ok (.invokevirtual 46, 3) := zf_at zf_13 25 rfl
theorem dL_isLike_250 : decode cL_isLike 250 = .ok (.aload_n 1, 1) := zf_at zf_13 26 rfl
theorem dL_isLike_251 : decode cL_isLike 251 = .ok (.getfield 167, 3) := zf_at zf_13 27 rfl
theorem dL_isLike_254 : decode cL_isLike 254 = .ok (.iload 5, 2) := zf_at zf_13 28 rfl
theorem dL_isLike_256 : decode cL_isLike 256 = .ok (.aaload, 1) := zf_at zf_13 29 rfl
theorem dL_isLike_257 : decode cL_isLike 257 = .ok (.iload 8, 2) := zf_at zf_13 30 rfl
theorem dL_isLike_259 : decode cL_isLike 259 = .ok (.iaload, 1) := zf_at zf_13 31 rfl
theorem dL_isLike_260 : decode cL_isLike 260 = .ok (.if_icmp .eq 5, 3) := zf_at zf_13 32 rfl
theorem dL_isLike_263 : decode cL_isLike 263 = .ok (.iconst 0, 1) := zf_at zf_13 33 rfl
theorem dL_isLike_264 : decode cL_isLike 264 = .ok (.ireturn, 1) := zf_at zf_13 34 rfl
theorem dL_isLike_265 : decode cL_isLike 265 = .ok (.iinc 8 1, 3) := zf_at zf_13 35 rfl
theorem dL_isLike_268 : decode cL_isLike 268 = .ok (.goto (-38), 3) := zf_at zf_13 36 rfl
theorem dL_isLike_271 : decode cL_isLike 271 = .ok (.iconst 0, 1) := zf_at zf_13 37 rfl
theorem dL_isLike_272 : decode cL_isLike 272 = .ok (.istore 8, 2) := zf_at zf_13 38 rfl
theorem dL_isLike_274 : decode cL_isLike 274 = .ok (.iload 8, 2) := zf_at zf_13 39 rfl
theorem zf_14 : zf_all cL_isLike [(276, .aload_n 1, 1), (277, .getfield 170, 3), (280, .if_icmp .ge 53, 3), (283, .aload_n 0, 1), (284, .iload 5, 2), (286, .iload 8, 2), (288, .invokevirtual 174, 3), (291, .aload_n 1, 1), (292, .getfield 178, 3), (295, .iload 8, 2), (297, .iaload, 1), (298, .ifCond .le 23, 3), (301, .aload_n 1, 1), (302, .getfield 181, 3), (305, .iload 8, 2), (307, .iaload, 1), (308, .aload_n 1, 1), (309, .iload 5, 2), (311, .invokevirtual 148, 3), (314, .if_icmp .gt 7, 3), (317, .iconst 1, 1), (318, .goto 4, 3), (321, .iconst 0, 1), (322, .if_icmp .eq 5, 3), (325, .iconst 0, 1), (326, .ireturn, 1), (327, .iinc 8 1, 3), (330, .goto (-56), 3), (333, .aload_n 0, 1), (334, .iload 5, 2), (336, .invokevirtual 184, 3), (339, .aload_n 1, 1), (340, .iload 5, 2), (342, .invokevirtual 188, 3), (345, .if_icmp .ne 57, 3), (348, .aload_n 0, 1), (349, .iconst 3, 1), (350, .iconst 2, 1), (351, .newarray .int, 2), (353, .dup, 1)] = true := by decide +kernel
theorem dL_isLike_276 : decode cL_isLike 276 = .ok (.aload_n 1, 1) := zf_at zf_14 0 rfl
theorem dL_isLike_277 : decode cL_isLike 277 = .ok (.getfield 170, 3) := zf_at zf_14 1 rfl
theorem dL_isLike_280 : decode cL_isLike 280 = .ok (.if_icmp .ge 53, 3) := zf_at zf_14 2 rfl
theorem dL_isLike_283 : decode cL_isLike 283 = .ok (.aload_n 0, 1) := zf_at zf_14 3 rfl
theorem dL_isLike_284 : decode cL_isLike 284 = .ok (.iload 5, 2) := zf_at zf_14 4 rfl
theorem dL_isLike_286 : decode cL_isLike 286 = .ok (.iload 8, 2) := zf_at zf_14 5 rfl
theorem dL_isLike_288 : decode cL_isLike 288 = .ok (.invokevirtual 174, 3) := zf_at zf_14 6 rfl
theorem dL_isLike_291 : decode cL_isLike 291 = .ok (.aload_n 1, 1) := zf_at zf_14 7 rfl
theorem dL_isLike_292 : decode cL_isLike 292 = .ok (.getfield 178, 3) := zf_at zf_14 8 rfl
theorem dL_isLike_295 : decode cL_isLike 295 = .ok (.iload 8, 2) := zf_at zf_14 9 rfl
theorem dL_isLike_297 : decode cL_isLike 297 = .ok (.iaload, 1) := zf_at zf_14 10 rfl
theorem dL_isLike_298 : decode cL_isLike 298 = .ok (.ifCond .le 23, 3) := zf_at zf_14 11 rfl
theorem dL_isLike_301 : decode cL_isLike 301 = .ok (.aload_n 1, 1) := zf_at zf_14 12 rfl
theorem dL_isLike_302 : decode cL_isLike 302 = .ok (.getfield 181, 3) := zf_at zf_14 13 rfl
theorem dL_isLike_305 : decode cL_isLike 305 = .ok (.iload 8, 2) := zf_at zf_14 14 rfl
theorem dL_isLike_307 : decode cL_isLike 307 = .ok (.iaload, 1) := zf_at zf_14 15 rfl
theorem dL_isLike_308 : decode cL_isLike 308 = .ok (.aload_n 1, 1) := zf_at zf_14 16 rfl
theorem dL_isLike_309 : decode cL_isLike 309 = .ok (.iload 5, 2) := zf_at zf_14 17 rfl
theorem dL_isLike_311 : decode cL_isLike 311 = .ok (.invokevirtual 148, 3) := zf_at zf_14 18 rfl
theorem dL_isLike_314 : decode cL_isLike 314 = .ok (.if_icmp .gt 7, 3) := zf_at zf_14 19 rfl
theorem dL_isLike_317 : decode cL_isLike 317 = .ok (.iconst 1, 1) := zf_at zf_14 20 rfl
theorem dL_isLike_318 : decode cL_isLike 318 = .ok (.goto 4, 3) := zf_at zf_14 21 rfl
theorem dL_isLike_321 : decode cL_isLike 321 = .ok (.iconst 0, 1) := zf_at zf_14 22 rfl
theorem dL_isLike_322 : decode cL_isLike 322 = .ok (.if_icmp .eq 5, 3) := zf_at zf_14 23 rfl
theorem dL_isLike_325 : decode cL_isLike 325 = .ok (.iconst 0, 1) := zf_at zf_14 24 rfl
theorem dL_isLike_326 : decode cL_isLike 326 = .ok (.ireturn, 1) := zf_at zf_14 25 rfl
theorem dL_isLike_327 : decode cL_isLike 327 = .ok (.iinc 8 1, 3) := zf_at zf_14 26 rfl
theorem dL_isLike_330 : decode cL_isLike 330 = .ok (.goto (-56), 3) := zf_at zf_14 27 rfl
theorem dL_isLike_333 : decode cL_isLike 333 = .ok (.aload_n 0, 1) := zf_at zf_14 28 rfl
theorem dL_isLike_334 : decode cL_isLike 334 = .ok (.iload 5, 2) := zf_at zf_14 29 rfl
theorem dL_isLike_336 : decode cL_isLike 336 = .ok (.invokevirtual 184, 3) := zf_at zf_14 30 rfl
theorem dL_isLike_339 : decode cL_isLike 339 = .ok (.aload_n 1, 1) := zf_at zf_14 31 rfl
theorem dL_isLike_340 : decode cL_isLike 340 = .ok (.iload 5, 2) := zf_at zf_14 32 rfl
theorem dL_isLike_342 : decode cL_isLike 342 = .ok (.invokevirtual 188, 3) := zf_at zf_14 33 rfl
theorem dL_isLike_345 : decode cL_isLike 345 = .ok (.if_icmp .ne 57, 3) := zf_at zf_14 34 rfl
theorem dL_isLike_348 : decode cL_isLike 348 = .ok (.aload_n 0, 1) := zf_at zf_14 35 rfl
theorem dL_isLike_349 : decode cL_isLike 349 = .ok (.iconst 3, 1) := zf_at zf_14 36 rfl
theorem dL_isLike_350 : decode cL_isLike 350 = .ok (.iconst 2, 1) := zf_at zf_14 37 rfl
theorem dL_isLike_351 : decode cL_isLike 351 = .ok (.newarray .int, 2) := zf_at zf_14 38 rfl
theorem dL_isLike_353 : decode cL_isLike 353 = .ok (.dup, 1) := zf_at zf_14 39 rfl
theorem zf_15 : zf_all cL_isLike [(354, .iconst 0, 1), (355, .iload 5, 2), (357, .iastore, 1), (358, .dup, 1), (359, .iconst 1, 1), (360, .aload_n 1, 1), (361, .getfield 142, 3), (364, .iload 5, 2), (366, .iaload, 1), (367, .iastore, 1), (368, .invokestatic 189, 3), (371, .iconst 2, 1), (372, .if_icmp .ne 30, 3), (375, .aload_n 0, 1), (376, .iconst 4, 1), (377, .iconst 2, 1), (378, .newarray .int, 2), (380, .dup, 1), (381, .iconst 0, 1), (382, .iload 5, 2), (384, .iastore, 1), (385, .dup, 1), (386, .iconst 1, 1), (387, .aload_n 1, 1), (388, .getfield 145, 3), (391, .iload 5, 2), (393, .iaload, 1), (394, .iastore, 1), (395, .invokestatic 189, 3), (398, .iconst 2, 1), (399, .if_icmp .eq 5, 3), (402, .iconst 0, 1), (403, .ireturn, 1), (404, .iload_n 2, 1), (405, .aload_n 1, 1), (406, .getfield 142, 3), (409, .iload 5, 2), (411, .iaload, 1), (412, .iadd, 1), (413, .istore_n 2, 1)] = true := by decide +kernel
theorem dL_isLike_354 : decode cL_isLike 354 = .ok (.iconst 0, 1) := zf_at zf_15 0 rfl
theorem dL_isLike_355 : decode cL_isLike 355 = .ok (.iload 5, 2) := zf_at zf_15 1 rfl
theorem dL_isLike_357 : decode cL_isLike 357 = .ok (.iastore, 1) := zf_at zf_15 2 rfl
theorem dL_isLike_358 : decode cL_isLike 358 = .ok (.dup, 1) := zf_at zf_15 3 rfl
theorem dL_isLike_359 : decode cL_isLike 359 = .ok (.iconst 1, 1) := zf_at zf_15 4 rfl
theorem dL_isLike_360 : decode cL_isLike 360 = .ok (.aload_n 1, 1) := zf_at zf_15 5 rfl
theorem dL_isLike_361 : decode cL_isLike 361 = .ok (.getfield 142, 3) := zf_at zf_15 6 rfl
theorem dL_isLike_364 : decode cL_isLike 364 = .ok (.iload 5, 2) := zf_at zf_15 7 rfl
theorem dL_isLike_366 : decode cL_isLike 366 = .ok (.iaload, 1) := zf_at zf_15 8 rfl
theorem dL_isLike_367 : decode cL_isLike 367 = .ok (.iastore, 1) := zf_at zf_15 9 rfl
theorem dL_isLike_368 : decode cL_isLike 368 = .ok (.invokestatic 189, 3) := zf_at zf_15 10 rfl
theorem dL_isLike_371 : decode cL_isLike 371 = .ok (.iconst 2, 1) := zf_at zf_15 11 rfl
theorem dL_isLike_372 : decode cL_isLike 372 = .ok (.if_icmp .ne 30, 3) := zf_at zf_15 12 rfl
theorem dL_isLike_375 : decode cL_isLike 375 = .ok (.aload_n 0, 1) := zf_at zf_15 13 rfl
theorem dL_isLike_376 : decode cL_isLike 376 = .ok (.iconst 4, 1) := zf_at zf_15 14 rfl
theorem dL_isLike_377 : decode cL_isLike 377 = .ok (.iconst 2, 1) := zf_at zf_15 15 rfl
theorem dL_isLike_378 : decode cL_isLike 378 = .ok (.newarray .int, 2) := zf_at zf_15 16 rfl
theorem dL_isLike_380 : decode cL_isLike 380 = .ok (.dup, 1) := zf_at zf_15 17 rfl
theorem dL_isLike_381 : decode cL_isLike 381 = .ok (.iconst 0, 1) := zf_at zf_15 18 rfl
theorem dL_isLike_382 : decode cL_isLike 382 = .ok (.iload 5, 2) := zf_at zf_15 19 rfl
theorem dL_isLike_384 : decode cL_isLike 384 = .ok (.iastore, 1) := zf_at zf_15 20 rfl
theorem dL_isLike_385 : decode cL_isLike 385 = .ok (.dup, 1) := zf_at zf_15 21 rfl
theorem dL_isLike_386 : decode cL_isLike 386 = .ok (.iconst 1, 1) := zf_at zf_15 22 rfl
theorem dL_isLike_387 : decode cL_isLike 387 = .ok (.aload_n 1, 1) := zf_at zf_15 23 rfl
theorem dL_isLike_388 : decode cL_isLike 388 = .ok (.getfield 145, 3) := zf_at zf_15 24 rfl
theorem dL_isLike_391 : decode cL_isLike 391 = .ok (.iload 5, 2) := zf_at zf_15 25 rfl
theorem dL_isLike_393 : decode cL_isLike 393 = .ok (.iaload, 1) := zf_at zf_15 26 rfl
theorem dL_isLike_394 : decode cL_isLike 394 = .ok (.iastore, 1) := zf_at zf_15 27 rfl
theorem dL_isLike_395 : decode cL_isLike 395 = .ok (.invokestatic 189, 3) := zf_at zf_15 28 rfl
theorem dL_isLike_398 : decode cL_isLike 398 = .ok (.iconst 2, 1) := zf_at zf_15 29 rfl
theorem dL_isLike_399 : decode cL_isLike 399 = .ok (.if_icmp .eq 5, 3) := zf_at zf_15 30 rfl
theorem dL_isLike_402 : decode cL_isLike 402 = .ok (.iconst 0, 1) := zf_at zf_15 31 rfl
theorem dL_isLike_403 : decode cL_isLike 403 = .ok (.ireturn, 1) := zf_at zf_15 32 rfl
theorem dL_isLike_404 : decode cL_isLike 404 = .ok (.iload_n 2, 1) := zf_at zf_15 33 rfl
theorem dL_isLike_405 : decode cL_isLike 405 = .ok (.aload_n 1, 1) := zf_at zf_15 34 rfl
theorem dL_isLike_406 : decode cL_isLike 406 = .ok (.getfield 142, 3) := zf_at zf_15 35 rfl
theorem dL_isLike_409 : decode cL_isLike 409 = .ok (.iload 5, 2) := zf_at zf_15 36 rfl
theorem dL_isLike_411 : decode cL_isLike 411 = .ok (.iaload, 1) := zf_at zf_15 37 rfl
theorem dL_isLike_412 : decode cL_isLike 412 = .ok (.iadd, 1) := zf_at zf_15 38 rfl
theorem dL_isLike_413 : decode cL_isLike 413 = .ok (.istore_n 2, 1) := zf_at zf_15 39 rfl
theorem zf_16 : zf_all cL_isLike [(414, .iload_n 3, 1), (415, .aload_n 1, 1), (416, .getfield 145, 3), (419, .iload 5, 2), (421, .iaload, 1), (422, .iadd, 1), (423, .istore_n 3, 1), (424, .iinc 5 1, 3), (427, .goto (-417), 3), (430, .iconst 0, 1), (431, .istore 5, 2), (433, .iload 5, 2), (435, .aload_n 1, 1), (436, .getfield 170, 3), (439, .if_icmp .ge 171, 3), (442, .iconst 0, 1), (443, .istore 6, 2), (445, .iconst 0, 1), (446, .istore 7, 2), (448, .iload 7, 2), (450, .aload_n 1, 1), (451, .getfield 134, 3), (454, .iconst 1, 1), (455, .iaload, 1), (456, .if_icmp .ge 55, 3), (459, .iconst 0, 1), (460, .istore 8, 2), (462, .iload 8, 2), (464, .aload_n 1, 1), (465, .getfield 145, 3), (468, .iload 7, 2), (470, .iaload, 1), (471, .if_icmp .ge 34, 3), (474, .iload 6, 2), (476, .aload_n 1, 1), (477, .getfield 167, 3), (480, .iload 7, 2), (482, .aaload, 1), (483, .iload 8, 2), (485, .iaload, 1)] = true := by decide +kernel
theorem dL_isLike_414 : decode cL_isLike 414 = .ok (.iload_n 3, 1) := zf_at zf_16 0 rfl
theorem dL_isLike_415 : decode cL_isLike 415 = .ok (.aload_n 1, 1) := zf_at zf_16 1 rfl
theorem dL_isLike_416 : decode cL_isLike 416 = .ok (.getfield 145, 3) := zf_at zf_16 2 rfl
theorem dL_isLike_419 : decode cL_isLike 419 = .ok (.iload 5, 2) := zf_at zf_16 3 rfl
theorem dL_isLike_421 : decode cL_isLike 421 = .ok (.iaload, 1) := zf_at zf_16 4 rfl
theorem dL_isLike_422 : decode cL_isLike 422 = .ok (.iadd, 1) := zf_at zf_16 5 rfl
theorem dL_isLike_423 : decode cL_isLike 423 = .ok (.istore_n 3, 1) := zf_at zf_16 6 rfl
theorem dL_isLike_424 : decode cL_isLike 424 = .ok (.iinc 5 1, 3) := zf_at zf_16 7 rfl
theorem dL_isLike_427 : decode cL_isLike 427 = .ok (.goto (-417), 3) := zf_at zf_16 8 rfl
theorem dL_isLike_430 : decode cL_isLike 430 = .ok (.iconst 0, 1) := zf_at zf_16 9 rfl
theorem dL_isLike_431 : decode cL_isLike 431 = .ok (.istore 5, 2) := zf_at zf_16 10 rfl
theorem dL_isLike_433 : decode cL_isLike 433 = .ok (.iload 5, 2) := zf_at zf_16 11 rfl
theorem dL_isLike_435 : decode cL_isLike 435 = .ok (.aload_n 1, 1) := zf_at zf_16 12 rfl
theorem dL_isLike_436 : decode cL_isLike 436 = .ok (.getfield 170, 3) := zf_at zf_16 13 rfl
theorem dL_isLike_439 : decode cL_isLike 439 = .ok (.if_icmp .ge 171, 3) := zf_at zf_16 14 rfl
theorem dL_isLike_442 : decode cL_isLike 442 = .ok (.iconst 0, 1) := zf_at zf_16 15 rfl
theorem dL_isLike_443 : decode cL_isLike 443 = .ok (.istore 6, 2) := zf_at zf_16 16 rfl
theorem dL_isLike_445 : decode cL_isLike 445 = .ok (.iconst 0, 1) := zf_at zf_16 17 rfl
theorem dL_isLike_446 : decode cL_isLike 446 = .ok (.istore 7, 2) := zf_at zf_16 18 rfl
theorem dL_isLike_448 : decode cL_isLike 448 = .ok (.iload 7, 2) := zf_at zf_16 19 rfl
theorem dL_isLike_450 : decode cL_isLike 450 = .ok (.aload_n 1, 1) := zf_at zf_16 20 rfl
theorem dL_isLike_451 : decode cL_isLike 451 = .ok (.getfield 134, 3) := zf_at zf_16 21 rfl
theorem dL_isLike_454 : decode cL_isLike 454 = .ok (.iconst 1, 1) := zf_at zf_16 22 rfl
theorem dL_isLike_455 : decode cL_isLike 455 = .ok (.iaload, 1) := zf_at zf_16 23 rfl
theorem dL_isLike_456 : decode cL_isLike 456 = .ok (.if_icmp .ge 55, 3) := zf_at zf_16 24 rfl
theorem dL_isLike_459 : decode cL_isLike 459 = .ok (.iconst 0, 1) := zf_at zf_16 25 rfl
theorem dL_isLike_460 : decode cL_isLike 460 = .ok (.istore 8, 2) := zf_at zf_16 26 rfl
theorem dL_isLike_462 : decode cL_isLike 462 = .ok (.iload 8, 2) := zf_at zf_16 27 rfl
theorem dL_isLike_464 : decode cL_isLike 464 = .ok (.aload_n 1, 1) := zf_at zf_16 28 rfl
theorem dL_isLike_465 : decode cL_isLike 465 = .ok (.getfield 145, 3) := zf_at zf_16 29 rfl
theorem dL_isLike_468 : decode cL_isLike 468 = .ok (.iload 7, 2) := zf_at zf_16 30 rfl
theorem dL_isLike_470 : decode cL_isLike 470 = .ok (.iaload, 1) := zf_at zf_16 31 rfl
theorem dL_isLike_471 : decode cL_isLike 471 = .ok (.if_icmp .ge 34, 3) := zf_at zf_16 32 rfl
theorem dL_isLike_474 : decode cL_isLike 474 = .ok (.iload 6, 2) := zf_at zf_16 33 rfl
theorem dL_isLike_476 : decode cL_isLike 476 = .ok (.aload_n 1, 1) := zf_at zf_16 34 rfl
theorem dL_isLike_477 : decode cL_isLike 477 = .ok (.getfield 167, 3) := zf_at zf_16 35 rfl
theorem dL_isLike_480 : decode cL_isLike 480 = .ok (.iload 7, 2) := zf_at zf_16 36 rfl
theorem dL_isLike_482 : decode cL_isLike 482 = .ok (.aaload, 1) := zf_at zf_16 37 rfl
theorem dL_isLike_483 : decode cL_isLike 483 = .ok (.iload 8, 2) := zf_at zf_16 38 rfl
theorem dL_isLike_485 : decode cL_isLike 485 = .ok (.iaload, 1) := zf_at zf_16 39 rfl
theorem zf_17 : zf_all cL_isLike [(486, .iload 5, 2), (488, .if_icmp .ne 7, 3), (491, .iconst 1, 1), (492, .goto 4, 3), (495, .iconst 0, 1), (496, .iadd, 1), (497, .istore 6, 2), (499, .iinc 8 1, 3), (502, .goto (-40), 3), (505, .iinc 7 1, 3), (508, .goto (-60), 3), (511, .iconst 4, 1), (512, .newarray .int, 2), (514, .dup, 1), (515, .iconst 0, 1), (516, .aload_n 1, 1), (517, .getfield 193, 3), (520, .iload 5, 2), (522, .baload, 1), (523, .ifCond .eq 7, 3), (526, .iconst 1, 1), (527, .goto 4, 3), (530, .iconst 0, 1), (531, .iastore, 1), (532, .dup, 1), (533, .iconst 1, 1), (534, .aload_n 1, 1), (535, .getfield 181, 3), (538, .iload 5, 2), (540, .iaload, 1), (541, .iastore, 1), (542, .dup, 1), (543, .iconst 2, 1), (544, .aload_n 1, 1), (545, .getfield 178, 3), (548, .iload 5, 2), (550, .iaload, 1), (551, .iastore, 1), (552, .dup, 1), (553, .iconst 3, 1)] = true := by decide +kernel
theorem dL_isLike_486 : decode cL_isLike 486 = .ok (.iload 5, 2) := zf_at zf_17 0 rfl
theorem dL_isLike_488 : decode cL_isLike 488 = .ok (.if_icmp .ne 7, 3) := zf_at zf_17 1 rfl
theorem dL_isLike_491 : decode cL_isLike 491 = .ok (.iconst 1, 1) := zf_at zf_17 2 rfl
theorem dL_isLike_492 : decode cL_isLike 492 = .ok (.goto 4, 3) := zf_at zf_17 3 rfl
theorem dL_isLike_495 : decode cL_isLike 495 = .ok (.iconst 0, 1) := zf_at zf_17 4 rfl
theorem dL_isLike_496 : decode cL_isLike 496 = .ok (.iadd, 1) := zf_at zf_17 5 rfl
theorem dL_isLike_497 : decode cL_isLike 497 = .ok (.istore 6, 2) := zf_at zf_17 6 rfl
theorem dL_isLike_499 : decode cL_isLike 499 = .ok (.iinc 8 1, 3) := zf_at zf_17 7 rfl
theorem dL_isLike_502 : decode cL_isLike 502 = .ok (.goto (-40), 3) := zf_at zf_17 8 rfl
theorem dL_isLike_505 : decode cL_isLike 505 = .ok (.iinc 7 1, 3) := zf_at zf_17 9 rfl
theorem dL_isLike_508 : decode cL_isLike 508 = .ok (.goto (-60), 3) := zf_at zf_17 10 rfl
theorem dL_isLike_511 : decode cL_isLike 511 = .ok (.iconst 4, 1) := zf_at zf_17 11 rfl
theorem dL_isLike_512 : decode cL_isLike 512 = .ok (.newarray .int, 2) := zf_at zf_17 12 rfl
theorem dL_isLike_514 : decode cL_isLike 514 = .ok (.dup, 1) := zf_at zf_17 13 rfl
theorem dL_isLike_515 : decode cL_isLike 515 = .ok (.iconst 0, 1) := zf_at zf_17 14 rfl
theorem dL_isLike_516 : decode cL_isLike 516 = .ok (.aload_n 1, 1) := zf_at zf_17 15 rfl
theorem dL_isLike_517 : decode cL_isLike 517 = .ok (.getfield 193, 3) := zf_at zf_17 16 rfl
theorem dL_isLike_520 : decode cL_isLike 520 = .ok (.iload 5, 2) := zf_at zf_17 17 rfl
theorem dL_isLike_522 : decode cL_isLike 522 = .ok (.baload, 1) := zf_at zf_17 18 rfl
theorem dL_isLike_523 : decode cL_isLike 523 = .ok (.ifCond .eq 7, 3) := zf_at zf_17 19 rfl
theorem dL_isLike_526 : decode cL_isLike 526 = .ok (.iconst 1, 1) := zf_at zf_17 20 rfl
theorem dL_isLike_527 : decode cL_isLike 527 = .ok (.goto 4, 3) := zf_at zf_17 21 rfl
theorem dL_isLike_530 : decode cL_isLike 530 = .ok (.iconst 0, 1) := zf_at zf_17 22 rfl
theorem dL_isLike_531 : decode cL_isLike 531 = .ok (.iastore, 1) := zf_at zf_17 23 rfl
theorem dL_isLike_532 : decode cL_isLike 532 = .ok (.dup, 1) := zf_at zf_17 24 rfl
theorem dL_isLike_533 : decode cL_isLike 533 = .ok (.iconst 1, 1) := zf_at zf_17 25 rfl
theorem dL_isLike_534 : decode cL_isLike 534 = .ok (.aload_n 1, 1) := zf_at zf_17 26 rfl
theorem dL_isLike_535 : decode cL_isLike 535 = .ok (.getfield 181, 3) := zf_at zf_17 27 rfl
theorem dL_isLike_538 : decode cL_isLike 538 = .ok (.iload 5, 2) := zf_at zf_17 28 rfl
theorem dL_isLike_540 : decode cL_isLike 540 = .ok (.iaload, 1) := zf_at zf_17 29 rfl
theorem dL_isLike_541 : decode cL_isLike 541 = .ok (.iastore, 1) := zf_at zf_17 30 rfl
theorem dL_isLike_542 : decode cL_isLike 542 = .ok (.dup, 1) := zf_at zf_17 31 rfl
theorem dL_isLike_543 : decode cL_isLike 543 = .ok (.iconst 2, 1) := zf_at zf_17 32 rfl
theorem dL_isLike_544 : decode cL_isLike 544 = .ok (.aload_n 1, 1) := zf_at zf_17 33 rfl
theorem dL_isLike_545 : decode cL_isLike 545 = .ok (.getfield 178, 3) := zf_at zf_17 34 rfl
theorem dL_isLike_548 : decode cL_isLike 548 = .ok (.iload 5, 2) := zf_at zf_17 35 rfl
theorem dL_isLike_550 : decode cL_isLike 550 = .ok (.iaload, 1) := zf_at zf_17 36 rfl
theorem dL_isLike_551 : decode cL_isLike 551 = .ok (.iastore, 1) := zf_at zf_17 37 rfl
theorem dL_isLike_552 : decode cL_isLike 552 = .ok (.dup, 1) := zf_at zf_17 38 rfl
theorem dL_isLike_553 : decode cL_isLike 553 = .ok (.iconst 3, 1) := zf_at zf_17 39 rfl
theorem zf_18 : zf_all cL_isLike [(554, .iload 6, 2), (556, .iastore, 1), (557, .astore 7, 2), (559, .iconst 0, 1), (560, .istore 8, 2), (562, .iload 8, 2), (564, .iconst 4, 1), (565, .if_icmp .ge 27, 3), (568, .aload_n 0, 1), (569, .iload 5, 2), (571, .iload 8, 2), (573, .invokevirtual 49, 3), (576, .aload 7, 2), (578, .iload 8, 2), (580, .iaload, 1), (581, .if_icmp .eq 5, 3), (584, .iconst 0, 1), (585, .ireturn, 1), (586, .iinc 8 1, 3), (589, .goto (-27), 3), (592, .iload 4, 2), (594, .aload_n 1, 1), (595, .getfield 178, 3), (598, .iload 5, 2), (600, .iaload, 1), (601, .iadd, 1), (602, .istore 4, 2), (604, .iinc 5 1, 3), (607, .goto (-174), 3), (610, .bipush 12, 2), (612, .newarray .int, 2), (614, .dup, 1), (615, .iconst 0, 1), (616, .aload_n 1, 1), (617, .getfield 134, 3), (620, .iconst 1, 1), (621, .iaload, 1), (622, .iastore, 1), (623, .dup, 1), (624, .iconst 1, 1)] = true := by decide +kernel
theorem dL_isLike_554 : decode cL_isLike 554 = .ok (.iload 6, 2) := zf_at zf_18 0 rfl
theorem dL_isLike_556 : decode cL_isLike 556 = .ok (.iastore, 1) := zf_at zf_18 1 rfl
theorem dL_isLike_557 : decode cL_isLike 557 = .ok (.astore 7, 2) := zf_at zf_18 2 rfl
theorem dL_isLike_559 : decode cL_isLike 559 = .ok (.iconst 0, 1) := zf_at zf_18 3 rfl
theorem dL_isLike_560 : decode cL_isLike 560 = .ok (.istore 8, 2) := zf_at zf_18 4 rfl
theorem dL_isLike_562 : decode cL_isLike 562 = .ok (.iload 8, 2) := zf_at zf_18 5 rfl
theorem dL_isLike_564 : decode cL_isLike 564 = .ok (.iconst 4, 1) := zf_at zf_18 6 rfl
theorem dL_isLike_565 : decode cL_isLike 565 = .ok (.if_icmp .ge 27, 3) := zf_at zf_18 7 rfl
theorem dL_isLike_568 : decode cL_isLike 568 = .ok (.aload_n 0, 1) := zf_at zf_18 8 rfl
theorem dL_isLike_569 : decode cL_isLike 569 = .ok (.iload 5, 2) := zf_at zf_18 9 rfl
theorem dL_isLike_571 : decode cL_isLike 571 = .ok (.iload 8, 2) := zf_at zf_18 10 rfl
theorem dL_isLike_573 : decode cL_isLike 573 = .ok (.invokevirtual 49, 3) := zf_at zf_18 11 rfl
theorem dL_isLike_576 : decode cL_isLike 576 = .ok (.aload 7, 2) := zf_at zf_18 12 rfl
theorem dL_isLike_578 : decode cL_isLike 578 = .ok (.iload 8, 2) := zf_at zf_18 13 rfl
theorem dL_isLike_580 : decode cL_isLike 580 = .ok (.iaload, 1) := zf_at zf_18 14 rfl
theorem dL_isLike_581 : decode cL_isLike 581 = .ok (.if_icmp .eq 5, 3) := zf_at zf_18 15 rfl
theorem dL_isLike_584 : decode cL_isLike 584 = .ok (.iconst 0, 1) := zf_at zf_18 16 rfl
theorem dL_isLike_585 : decode cL_isLike 585 = .ok (.ireturn, 1) := zf_at zf_18 17 rfl
theorem dL_isLike_586 : decode cL_isLike 586 = .ok (.iinc 8 1, 3) := zf_at zf_18 18 rfl
theorem dL_isLike_589 : decode cL_isLike 589 = .ok (.goto (-27), 3) := zf_at zf_18 19 rfl
theorem dL_isLike_592 : decode cL_isLike 592 = .ok (.iload 4, 2) := zf_at zf_18 20 rfl
theorem dL_isLike_594 : decode cL_isLike 594 = .ok (.aload_n 1, 1) := zf_at zf_18 21 rfl
theorem dL_isLike_595 : decode cL_isLike 595 = .ok (.getfield 178, 3) := zf_at zf_18 22 rfl
theorem dL_isLike_598 : decode cL_isLike 598 = .ok (.iload 5, 2) := zf_at zf_18 23 rfl
theorem dL_isLike_600 : decode cL_isLike 600 = .ok (.iaload, 1) := zf_at zf_18 24 rfl
theorem dL_isLike_601 : decode cL_isLike 601 = .ok (.iadd, 1) := zf_at zf_18 25 rfl
theorem dL_isLike_602 : decode cL_isLike 602 = .ok (.istore 4, 2) := zf_at zf_18 26 rfl
theorem dL_isLike_604 : decode cL_isLike 604 = .ok (.iinc 5 1, 3) := zf_at zf_18 27 rfl
theorem dL_isLike_607 : decode cL_isLike 607 = .ok (.goto (-174), 3) := zf_at zf_18 28 rfl
theorem dL_isLike_610 : decode cL_isLike 610 = .ok (.bipush 12, 2) := zf_at zf_18 29 rfl
theorem dL_isLike_612 : decode cL_isLike 612 = .ok (.newarray .int, 2) := zf_at zf_18 30 rfl
theorem dL_isLike_614 : decode cL_isLike 614 = .ok (.dup, 1) := zf_at zf_18 31 rfl
theorem dL_isLike_615 : decode cL_isLike 615 = .ok (.iconst 0, 1) := zf_at zf_18 32 rfl
theorem dL_isLike_616 : decode cL_isLike 616 = .ok (.aload_n 1, 1) := zf_at zf_18 33 rfl
theorem dL_isLike_617 : decode cL_isLike 617 = .ok (.getfield 134, 3) := zf_at zf_18 34 rfl
theorem dL_isLike_620 : decode cL_isLike 620 = .ok (.iconst 1, 1) := zf_at zf_18 35 rfl
theorem dL_isLike_621 : decode cL_isLike 621 = .ok (.iaload, 1) := zf_at zf_18 36 rfl
theorem dL_isLike_622 : decode cL_isLike 622 = .ok (.iastore, 1) := zf_at zf_18 37 rfl
theorem dL_isLike_623 : decode cL_isLike 623 = .ok (.dup, 1) := zf_at zf_18 38 rfl
theorem dL_isLike_624 : decode cL_isLike 624 = .ok (.iconst 1, 1) := zf_at zf_18 39 rfl
theorem zf_19 : zf_all cL_isLike [(625, .aload_n 1, 1), (626, .getfield 170, 3), (629, .iastore, 1), (630, .dup, 1), (631, .iconst 2, 1), (632, .aload_n 1, 1), (633, .getfield 197, 3), (636, .iastore, 1), (637, .dup, 1), (638, .iconst 3, 1), (639, .iload_n 2, 1), (640, .iastore, 1), (641, .dup, 1), (642, .iconst 4, 1), (643, .iload_n 3, 1), (644, .iastore, 1), (645, .dup, 1), (646, .iconst 5, 1), (647, .aload_n 1, 1), (648, .invokevirtual 200, 3), (651, .iastore, 1), (652, .dup, 1), (653, .bipush 6, 2), (655, .aload_n 1, 1), (656, .getfield 203, 3), (659, .iconst 0, 1), (660, .iaload, 1), (661, .iastore, 1), (662, .dup, 1), (663, .bipush 7, 2), (665, .aload_n 1, 1), (666, .getfield 203, 3), (669, .iconst 1, 1), (670, .iaload, 1), (671, .iastore, 1), (672, .dup, 1), (673, .bipush 8, 2), (675, .aload_n 1, 1), (676, .getfield 203, 3), (679, .iconst 2, 1)] = true := by decide +kernel
theorem dL_isLike_625 : decode cL_isLike 625 = .ok (.aload_n 1, 1) := zf_at zf_19 0 rfl
theorem dL_isLike_626 : decode cL_isLike 626 = .ok (.getfield 170, 3) := zf_at zf_19 1 rfl
theorem dL_isLike_629 : decode cL_isLike 629 = .ok (.iastore, 1) := zf_at zf_19 2 rfl
theorem dL_isLike_630 : decode cL_isLike 630 = .ok (.dup, 1) := zf_at zf_19 3 rfl
theorem dL_isLike_631 : decode cL_isLike 631 = .ok (.iconst 2, 1) := zf_at zf_19 4 rfl
theorem dL_isLike_632 : decode cL_isLike 632 = .ok (.aload_n 1, 1) := zf_at zf_19 5 rfl
theorem dL_isLike_633 : decode cL_isLike 633 = .ok (.getfield 197, 3) := zf_at zf_19 6 rfl
theorem dL_isLike_636 : decode cL_isLike 636 = .ok (.iastore, 1) := zf_at zf_19 7 rfl
theorem dL_isLike_637 : decode cL_isLike 637 = .ok (.dup, 1) := zf_at zf_19 8 rfl
theorem dL_isLike_638 : decode cL_isLike 638 = .ok (.iconst 3, 1) := zf_at zf_19 9 rfl
theorem dL_isLike_639 : decode cL_isLike 639 = .ok (.iload_n 2, 1) := zf_at zf_19 10 rfl
theorem dL_isLike_640 : decode cL_isLike 640 = .ok (.iastore, 1) := zf_at zf_19 11 rfl
theorem dL_isLike_641 : decode cL_isLike 641 = .ok (.dup, 1) := zf_at zf_19 12 rfl
theorem dL_isLike_642 : decode cL_isLike 642 = .ok (.iconst 4, 1) := zf_at zf_19 13 rfl
theorem dL_isLike_643 : decode cL_isLike 643 = .ok (.iload_n 3, 1) := zf_at zf_19 14 rfl
theorem dL_isLike_644 : decode cL_isLike 644 = .ok (.iastore, 1) := zf_at zf_19 15 rfl
theorem dL_isLike_645 : decode cL_isLike 645 = .ok (.dup, 1) := zf_at zf_19 16 rfl
theorem dL_isLike_646 : decode cL_isLike 646 = .ok (.iconst 5, 1) := zf_at zf_19 17 rfl
theorem dL_isLike_647 : decode cL_isLike 647 = .ok (.aload_n 1, 1) := zf_at zf_19 18 rfl
theorem dL_isLike_648 : decode cL_isLike 648 = .ok (.invokevirtual 200, 3) := zf_at zf_19 19 rfl
theorem dL_isLike_651 : decode cL_isLike 651 = .ok (.iastore, 1) := zf_at zf_19 20 rfl
theorem dL_isLike_652 : decode cL_isLike 652 = .ok (.dup, 1) := zf_at zf_19 21 rfl
theorem dL_isLike_653 : decode cL_isLike 653 = .ok (.bipush 6, 2) := zf_at zf_19 22 rfl
theorem dL_isLike_655 : decode cL_isLike 655 = .ok (.aload_n 1, 1) := zf_at zf_19 23 rfl
theorem dL_isLike_656 : decode cL_isLike 656 = .ok (.getfield 203, 3) := zf_at zf_19 24 rfl
theorem dL_isLike_659 : decode cL_isLike 659 = .ok (.iconst 0, 1) := zf_at zf_19 25 rfl
theorem dL_isLike_660 : decode cL_isLike 660 = .ok (.iaload, 1) := zf_at zf_19 26 rfl
theorem dL_isLike_661 : decode cL_isLike 661 = .ok (.iastore, 1) := zf_at zf_19 27 rfl
theorem dL_isLike_662 : decode cL_isLike 662 = .ok (.dup, 1) := zf_at zf_19 28 rfl
theorem dL_isLike_663 : decode cL_isLike 663 = .ok (.bipush 7, 2) := zf_at zf_19 29 rfl
theorem dL_isLike_665 : decode cL_isLike 665 = .ok (.aload_n 1, 1) := zf_at zf_19 30 rfl
theorem dL_isLike_666 : decode cL_isLike 666 = .ok (.getfield 203, 3) := zf_at zf_19 31 rfl
theorem dL_isLike_669 : decode cL_isLike 669 = .ok (.iconst 1, 1) := zf_at zf_19 32 rfl
theorem dL_isLike_670 : decode cL_isLike 670 = .ok (.iaload, 1) := zf_at zf_19 33 rfl
theorem dL_isLike_671 : decode cL_isLike 671 = .ok (.iastore, 1) := zf_at zf_19 34 rfl
theorem dL_isLike_672 : decode cL_isLike 672 = .ok (.dup, 1) := zf_at zf_19 35 rfl
theorem dL_isLike_673 : decode cL_isLike 673 = .ok (.bipush 8, 2) := zf_at zf_19 36 rfl
theorem dL_isLike_675 : decode cL_isLike 675 = .ok (.aload_n 1, 1) := zf_at zf_19 37 rfl
theorem dL_isLike_676 : decode cL_isLike 676 = .ok (.getfield 203, 3) := zf_at zf_19 38 rfl
theorem dL_isLike_679 : decode cL_isLike 679 = .ok (.iconst 2, 1) := zf_at zf_19 39 rfl
theorem zf_20 : zf_all cL_isLike [(680, .iaload, 1), (681, .iastore, 1), (682, .dup, 1), (683, .bipush 9, 2), (685, .aload_n 1, 1), (686, .getfield 203, 3), (689, .iconst 3, 1), (690, .iaload, 1), (691, .iastore, 1), (692, .dup, 1), (693, .bipush 10, 2), (695, .aload_n 1, 1), (696, .getfield 203, 3), (699, .iconst 4, 1), (700, .iaload, 1), (701, .iastore, 1), (702, .dup, 1), (703, .bipush 11, 2), (705, .iload 4, 2), (707, .iastore, 1), (708, .astore 5, 2), (710, .iconst 0, 1), (711, .istore 6, 2), (713, .iload 6, 2), (715, .bipush 12, 2), (717, .if_icmp .ge 25, 3), (720, .aload_n 0, 1), (721, .iload 6, 2), (723, .invokevirtual 33, 3), (726, .aload 5, 2), (728, .iload 6, 2), (730, .iaload, 1), (731, .if_icmp .eq 5, 3), (734, .iconst 0, 1), (735, .ireturn, 1), (736, .iinc 6 1, 3), (739, .goto (-26), 3), (742, .bipush 6, 2), (744, .newarray .int, 2), (746, .dup, 1)] = true := by decide +kernel
theorem dL_isLike_680 : decode cL_isLike 680 = .ok (.iaload, 1) := zf_at zf_20 0 rfl
theorem dL_isLike_681 : decode cL_isLike 681 = .ok (.iastore, 1) := zf_at zf_20 1 rfl
theorem dL_isLike_682 : decode cL_isLike 682 = .ok (.dup, 1) := zf_at zf_20 2 rfl
theorem dL_isLike_683 : decode cL_isLike 683 = .ok (.bipush 9, 2) := zf_at zf_20 3 rfl
theorem dL_isLike_685 : decode cL_isLike 685 = .ok (.aload_n 1, 1) := zf_at zf_20 4 rfl
theorem dL_isLike_686 : decode cL_isLike 686 = .ok (.getfield 203, 3) := zf_at zf_20 5 rfl
theorem dL_isLike_689 : decode cL_isLike 689 = .ok (.iconst 3, 1) := zf_at zf_20 6 rfl
theorem dL_isLike_690 : decode cL_isLike 690 = .ok (.iaload, 1) := zf_at zf_20 7 rfl
theorem dL_isLike_691 : decode cL_isLike 691 = .ok (.iastore, 1) := zf_at zf_20 8 rfl
theorem dL_isLike_692 : decode cL_isLike 692 = .ok (.dup, 1) := zf_at zf_20 9 rfl
theorem dL_isLike_693 : decode cL_isLike 693 = .ok (.bipush 10, 2) := zf_at zf_20 10 rfl
theorem dL_isLike_695 : decode cL_isLike 695 = .ok (.aload_n 1, 1) := zf_at zf_20 11 rfl
theorem dL_isLike_696 : decode cL_isLike 696 = .ok (.getfield 203, 3) := zf_at zf_20 12 rfl
theorem dL_isLike_699 : decode cL_isLike 699 = .ok (.iconst 4, 1) := zf_at zf_20 13 rfl
theorem dL_isLike_700 : decode cL_isLike 700 = .ok (.iaload, 1) := zf_at zf_20 14 rfl
theorem dL_isLike_701 : decode cL_isLike 701 = .ok (.iastore, 1) := zf_at zf_20 15 rfl
theorem dL_isLike_702 : decode cL_isLike 702 = .ok (.dup, 1) := zf_at zf_20 16 rfl
theorem dL_isLike_703 : decode cL_isLike 703 = .ok (.bipush 11, 2) := zf_at zf_20 17 rfl
theorem dL_isLike_705 : decode cL_isLike 705 = .ok (.iload 4, 2) := zf_at zf_20 18 rfl
theorem dL_isLike_707 : decode cL_isLike 707 = .ok (.iastore, 1) := zf_at zf_20 19 rfl
theorem dL_isLike_708 : decode cL_isLike 708 = .ok (.astore 5, 2) := zf_at zf_20 20 rfl
theorem dL_isLike_710 : decode cL_isLike 710 = .ok (.iconst 0, 1) := zf_at zf_20 21 rfl
theorem dL_isLike_711 : decode cL_isLike 711 = .ok (.istore 6, 2) := zf_at zf_20 22 rfl
theorem dL_isLike_713 : decode cL_isLike 713 = .ok (.iload 6, 2) := zf_at zf_20 23 rfl
theorem dL_isLike_715 : decode cL_isLike 715 = .ok (.bipush 12, 2) := zf_at zf_20 24 rfl
theorem dL_isLike_717 : decode cL_isLike 717 = .ok (.if_icmp .ge 25, 3) := zf_at zf_20 25 rfl
theorem dL_isLike_720 : decode cL_isLike 720 = .ok (.aload_n 0, 1) := zf_at zf_20 26 rfl
theorem dL_isLike_721 : decode cL_isLike 721 = .ok (.iload 6, 2) := zf_at zf_20 27 rfl
theorem dL_isLike_723 : decode cL_isLike 723 = .ok (.invokevirtual 33, 3) := zf_at zf_20 28 rfl
theorem dL_isLike_726 : decode cL_isLike 726 = .ok (.aload 5, 2) := zf_at zf_20 29 rfl
theorem dL_isLike_728 : decode cL_isLike 728 = .ok (.iload 6, 2) := zf_at zf_20 30 rfl
theorem dL_isLike_730 : decode cL_isLike 730 = .ok (.iaload, 1) := zf_at zf_20 31 rfl
theorem dL_isLike_731 : decode cL_isLike 731 = .ok (.if_icmp .eq 5, 3) := zf_at zf_20 32 rfl
theorem dL_isLike_734 : decode cL_isLike 734 = .ok (.iconst 0, 1) := zf_at zf_20 33 rfl
theorem dL_isLike_735 : decode cL_isLike 735 = .ok (.ireturn, 1) := zf_at zf_20 34 rfl
theorem dL_isLike_736 : decode cL_isLike 736 = .ok (.iinc 6 1, 3) := zf_at zf_20 35 rfl
theorem dL_isLike_739 : decode cL_isLike 739 = .ok (.goto (-26), 3) := zf_at zf_20 36 rfl
theorem dL_isLike_742 : decode cL_isLike 742 = .ok (.bipush 6, 2) := zf_at zf_20 37 rfl
theorem dL_isLike_744 : decode cL_isLike 744 = .ok (.newarray .int, 2) := zf_at zf_20 38 rfl
theorem dL_isLike_746 : decode cL_isLike 746 = .ok (.dup, 1) := zf_at zf_20 39 rfl
theorem zf_21 : zf_all cL_isLike [(747, .iconst 0, 1), (748, .aload_n 1, 1), (749, .getfield 134, 3), (752, .iconst 0, 1), (753, .iaload, 1), (754, .iastore, 1), (755, .dup, 1), (756, .iconst 1, 1), (757, .aload_n 1, 1), (758, .getfield 134, 3), (761, .iconst 2, 1), (762, .iaload, 1), (763, .iastore, 1), (764, .dup, 1), (765, .iconst 2, 1), (766, .aload_n 1, 1), (767, .getfield 134, 3), (770, .iconst 3, 1), (771, .iaload, 1), (772, .iastore, 1), (773, .dup, 1), (774, .iconst 3, 1), (775, .aload_n 1, 1), (776, .getfield 134, 3), (779, .iconst 4, 1), (780, .iaload, 1), (781, .iastore, 1), (782, .dup, 1), (783, .iconst 4, 1), (784, .aload_n 1, 1), (785, .getfield 134, 3), (788, .iconst 5, 1), (789, .iaload, 1), (790, .iastore, 1), (791, .dup, 1), (792, .iconst 5, 1), (793, .aload_n 1, 1), (794, .getfield 134, 3), (797, .bipush 6, 2), (799, .iaload, 1)] = true := by decide +kernel
theorem dL_isLike_747 : decode cL_isLike 747 = .ok (.iconst 0, 1) := zf_at zf_21 0 rfl
theorem dL_isLike_748 : decode cL_isLike 748 = .ok (.aload_n 1, 1) := zf_at zf_21 1 rfl
theorem dL_isLike_749 : decode cL_isLike 749 = .ok (.getfield 134, 3) := zf_at zf_21 2 rfl
theorem dL_isLike_752 : decode cL_isLike 752 = .ok (.iconst 0, 1) := zf_at zf_21 3 rfl
theorem dL_isLike_753 : decode cL_isLike 753 = .ok (.iaload, 1) := zf_at zf_21 4 rfl
theorem dL_isLike_754 : decode cL_isLike 754 = .ok (.iastore, 1) := zf_at zf_21 5 rfl
theorem dL_isLike_755 : decode cL_isLike 755 = .ok (.dup, 1) := zf_at zf_21 6 rfl
theorem dL_isLike_756 : decode cL_isLike 756 = .ok (.iconst 1, 1) := zf_at zf_21 7 rfl
theorem dL_isLike_757 : decode cL_isLike 757 = .ok (.aload_n 1, 1) := zf_at zf_21 8 rfl
theorem dL_isLike_758 : decode cL_isLike 758 = .ok (.getfield 134, 3) := zf_at zf_21 9 rfl
theorem dL_isLike_761 : decode cL_isLike 761 = .ok (.iconst 2, 1) := zf_at zf_21 10 rfl
theorem dL_isLike_762 : decode cL_isLike 762 = .ok (.iaload, 1) := zf_at zf_21 11 rfl
theorem dL_isLike_763 : decode cL_isLike 763 = .ok (.iastore, 1) := zf_at zf_21 12 rfl
theorem dL_isLike_764 : decode cL_isLike 764 = .ok (.dup, 1) := zf_at zf_21 13 rfl
theorem dL_isLike_765 : decode cL_isLike 765 = .ok (.iconst 2, 1) := zf_at zf_21 14 rfl
theorem dL_isLike_766 : decode cL_isLike 766 = .ok (.aload_n 1, 1) := zf_at zf_21 15 rfl
theorem dL_isLike_767 : decode cL_isLike 767 = .ok (.getfield 134, 3) := zf_at zf_21 16 rfl
theorem dL_isLike_770 : decode cL_isLike 770 = .ok (.iconst 3, 1) := zf_at zf_21 17 rfl
theorem dL_isLike_771 : decode cL_isLike 771 = .ok (.iaload, 1) := zf_at zf_21 18 rfl
theorem dL_isLike_772 : decode cL_isLike 772 = .ok (.iastore, 1) := zf_at zf_21 19 rfl
theorem dL_isLike_773 : decode cL_isLike 773 = .ok (.dup, 1) := zf_at zf_21 20 rfl
theorem dL_isLike_774 : decode cL_isLike 774 = .ok (.iconst 3, 1) := zf_at zf_21 21 rfl
theorem dL_isLike_775 : decode cL_isLike 775 = .ok (.aload_n 1, 1) := zf_at zf_21 22 rfl
theorem dL_isLike_776 : decode cL_isLike 776 = .ok (.getfield 134, 3) := zf_at zf_21 23 rfl
theorem dL_isLike_779 : decode cL_isLike 779 = .ok (.iconst 4, 1) := zf_at zf_21 24 rfl
theorem dL_isLike_780 : decode cL_isLike 780 = .ok (.iaload, 1) := zf_at zf_21 25 rfl
theorem dL_isLike_781 : decode cL_isLike 781 = .ok (.iastore, 1) := zf_at zf_21 26 rfl
theorem dL_isLike_782 : decode cL_isLike 782 = .ok (.dup, 1) := zf_at zf_21 27 rfl
theorem dL_isLike_783 : decode cL_isLike 783 = .ok (.iconst 4, 1) := zf_at zf_21 28 rfl
theorem dL_isLike_784 : decode cL_isLike 784 = .ok (.aload_n 1, 1) := zf_at zf_21 29 rfl
theorem dL_isLike_785 : decode cL_isLike 785 = .ok (.getfield 134, 3) := zf_at zf_21 30 rfl
theorem dL_isLike_788 : decode cL_isLike 788 = .ok (.iconst 5, 1) := zf_at zf_21 31 rfl
theorem dL_isLike_789 : decode cL_isLike 789 = .ok (.iaload, 1) := zf_at zf_21 32 rfl
theorem dL_isLike_790 : decode cL_isLike 790 = .ok (.iastore, 1) := zf_at zf_21 33 rfl
theorem dL_isLike_791 : decode cL_isLike 791 = .ok (.dup, 1) := zf_at zf_21 34 rfl
theorem dL_isLike_792 : decode cL_isLike 792 = .ok (.iconst 5, 1) := zf_at zf_21 35 rfl
theorem dL_isLike_793 : decode cL_isLike 793 = .ok (.aload_n 1, 1) := zf_at zf_21 36 rfl
theorem dL_isLike_794 : decode cL_isLike 794 = .ok (.getfield 134, 3) := zf_at zf_21 37 rfl
theorem dL_isLike_797 : decode cL_isLike 797 = .ok (.bipush 6, 2) := zf_at zf_21 38 rfl
theorem dL_isLike_799 : decode cL_isLike 799 = .ok (.iaload, 1) := zf_at zf_21 39 rfl
theorem zf_22 : zf_all cL_isLike [(800, .iastore, 1), (801, .astore 6, 2), (803, .iconst 0, 1), (804, .istore 7, 2), (806, .iload 7, 2), (808, .bipush 6, 2), (810, .if_icmp .ge 25, 3), (813, .aload_n 0, 1), (814, .iload 7, 2), (816, .invokevirtual 36, 3), (819, .aload 6, 2), (821, .iload 7, 2), (823, .iaload, 1), (824, .if_icmp .eq 5, 3), (827, .iconst 0, 1), (828, .ireturn, 1), (829, .iinc 7 1, 3), (832, .goto (-26), 3), (835, .aload_n 0, 1), (836, .iconst 2, 1), (837, .iconst 2, 1), (838, .newarray .int, 2), (840, .dup, 1), (841, .iconst 0, 1), (842, .aload_n 1, 1), (843, .getfield 134, 3), (846, .iconst 1, 1), (847, .iaload, 1), (848, .iastore, 1), (849, .dup, 1), (850, .iconst 1, 1), (851, .iconst 0, 1), (852, .iastore, 1), (853, .invokestatic 189, 3), (856, .iconst 2, 1), (857, .if_icmp .ne 30, 3), (860, .aload_n 0, 1), (861, .iconst 5, 1), (862, .iconst 2, 1), (863, .newarray .int, 2)] = true := by decide +kernel
theorem dL_isLike_800 : decode cL_isLike 800 = .ok (.iastore, 1) := zf_at zf_22 0 rfl
theorem dL_isLike_801 : decode cL_isLike 801 = .ok (.astore 6, 2) := zf_at zf_22 1 rfl
theorem dL_isLike_803 : decode cL_isLike 803 = .ok (.iconst 0, 1) := zf_at zf_22 2 rfl
theorem dL_isLike_804 : decode cL_isLike 804 = .ok (.istore 7, 2) := zf_at zf_22 3 rfl
theorem dL_isLike_806 : decode cL_isLike 806 = .ok (.iload 7, 2) := zf_at zf_22 4 rfl
theorem dL_isLike_808 : decode cL_isLike 808 = .ok (.bipush 6, 2) := zf_at zf_22 5 rfl
theorem dL_isLike_810 : decode cL_isLike 810 = .ok (.if_icmp .ge 25, 3) := zf_at zf_22 6 rfl
theorem dL_isLike_813 : decode cL_isLike 813 = .ok (.aload_n 0, 1) := zf_at zf_22 7 rfl
theorem dL_isLike_814 : decode cL_isLike 814 = .ok (.iload 7, 2) := zf_at zf_22 8 rfl
theorem dL_isLike_816 : decode cL_isLike 816 = .ok (.invokevirtual 36, 3) := zf_at zf_22 9 rfl
theorem dL_isLike_819 : decode cL_isLike 819 = .ok (.aload 6, 2) := zf_at zf_22 10 rfl
theorem dL_isLike_821 : decode cL_isLike 821 = .ok (.iload 7, 2) := zf_at zf_22 11 rfl
theorem dL_isLike_823 : decode cL_isLike 823 = .ok (.iaload, 1) := zf_at zf_22 12 rfl
theorem dL_isLike_824 : decode cL_isLike 824 = .ok (.if_icmp .eq 5, 3) := zf_at zf_22 13 rfl
theorem dL_isLike_827 : decode cL_isLike 827 = .ok (.iconst 0, 1) := zf_at zf_22 14 rfl
theorem dL_isLike_828 : decode cL_isLike 828 = .ok (.ireturn, 1) := zf_at zf_22 15 rfl
theorem dL_isLike_829 : decode cL_isLike 829 = .ok (.iinc 7 1, 3) := zf_at zf_22 16 rfl
theorem dL_isLike_832 : decode cL_isLike 832 = .ok (.goto (-26), 3) := zf_at zf_22 17 rfl
theorem dL_isLike_835 : decode cL_isLike 835 = .ok (.aload_n 0, 1) := zf_at zf_22 18 rfl
theorem dL_isLike_836 : decode cL_isLike 836 = .ok (.iconst 2, 1) := zf_at zf_22 19 rfl
theorem dL_isLike_837 : decode cL_isLike 837 = .ok (.iconst 2, 1) := zf_at zf_22 20 rfl
theorem dL_isLike_838 : decode cL_isLike 838 = .ok (.newarray .int, 2) := zf_at zf_22 21 rfl
theorem dL_isLike_840 : decode cL_isLike 840 = .ok (.dup, 1) := zf_at zf_22 22 rfl
theorem dL_isLike_841 : decode cL_isLike 841 = .ok (.iconst 0, 1) := zf_at zf_22 23 rfl
theorem dL_isLike_842 : decode cL_isLike 842 = .ok (.aload_n 1, 1) := zf_at zf_22 24 rfl
theorem dL_isLike_843 : decode cL_isLike 843 = .ok (.getfield 134, 3) := zf_at zf_22 25 rfl
theorem dL_isLike_846 : decode cL_isLike 846 = .ok (.iconst 1, 1) := zf_at zf_22 26 rfl
theorem dL_isLike_847 : decode cL_isLike 847 = .ok (.iaload, 1) := zf_at zf_22 27 rfl
theorem dL_isLike_848 : decode cL_isLike 848 = .ok (.iastore, 1) := zf_at zf_22 28 rfl
theorem dL_isLike_849 : decode cL_isLike 849 = .ok (.dup, 1) := zf_at zf_22 29 rfl
theorem dL_isLike_850 : decode cL_isLike 850 = .ok (.iconst 1, 1) := zf_at zf_22 30 rfl
theorem dL_isLike_851 : decode cL_isLike 851 = .ok (.iconst 0, 1) := zf_at zf_22 31 rfl
theorem dL_isLike_852 : decode cL_isLike 852 = .ok (.iastore, 1) := zf_at zf_22 32 rfl
theorem dL_isLike_853 : decode cL_isLike 853 = .ok (.invokestatic 189, 3) := zf_at zf_22 33 rfl
theorem dL_isLike_856 : decode cL_isLike 856 = .ok (.iconst 2, 1) := zf_at zf_22 34 rfl
theorem dL_isLike_857 : decode cL_isLike 857 = .ok (.if_icmp .ne 30, 3) := zf_at zf_22 35 rfl
theorem dL_isLike_860 : decode cL_isLike 860 = .ok (.aload_n 0, 1) := zf_at zf_22 36 rfl
theorem dL_isLike_861 : decode cL_isLike 861 = .ok (.iconst 5, 1) := zf_at zf_22 37 rfl
theorem dL_isLike_862 : decode cL_isLike 862 = .ok (.iconst 2, 1) := zf_at zf_22 38 rfl
theorem dL_isLike_863 : decode cL_isLike 863 = .ok (.newarray .int, 2) := zf_at zf_22 39 rfl
theorem zf_23 : zf_all cL_isLike [(865, .dup, 1), (866, .iconst 0, 1), (867, .aload_n 1, 1), (868, .getfield 170, 3), (871, .iastore, 1), (872, .dup, 1), (873, .iconst 1, 1), (874, .iconst 0, 1), (875, .iastore, 1), (876, .invokestatic 189, 3), (879, .iconst 2, 1), (880, .if_icmp .ne 7, 3), (883, .iconst 1, 1), (884, .goto 4, 3), (887, .iconst 0, 1), (888, .ireturn, 1)] = true := by decide +kernel
theorem dL_isLike_865 : decode cL_isLike 865 = .ok (.dup, 1) := zf_at zf_23 0 rfl
theorem dL_isLike_866 : decode cL_isLike 866 = .ok (.iconst 0, 1) := zf_at zf_23 1 rfl
theorem dL_isLike_867 : decode cL_isLike 867 = .ok (.aload_n 1, 1) := zf_at zf_23 2 rfl
theorem dL_isLike_868 : decode cL_isLike 868 = .ok (.getfield 170, 3) := zf_at zf_23 3 rfl
theorem dL_isLike_871 : decode cL_isLike 871 = .ok (.iastore, 1) := zf_at zf_23 4 rfl
theorem dL_isLike_872 : decode cL_isLike 872 = .ok (.dup, 1) := zf_at zf_23 5 rfl
theorem dL_isLike_873 : decode cL_isLike 873 = .ok (.iconst 1, 1) := zf_at zf_23 6 rfl
theorem dL_isLike_874 : decode cL_isLike 874 = .ok (.iconst 0, 1) := zf_at zf_23 7 rfl
theorem dL_isLike_875 : decode cL_isLike 875 = .ok (.iastore, 1) := zf_at zf_23 8 rfl
theorem dL_isLike_876 : decode cL_isLike 876 = .ok (.invokestatic 189, 3) := zf_at zf_23 9 rfl
theorem dL_isLike_879 : decode cL_isLike 879 = .ok (.iconst 2, 1) := zf_at zf_23 10 rfl
theorem dL_isLike_880 : decode cL_isLike 880 = .ok (.if_icmp .ne 7, 3) := zf_at zf_23 11 rfl
theorem dL_isLike_883 : decode cL_isLike 883 = .ok (.iconst 1, 1) := zf_at zf_23 12 rfl
theorem dL_isLike_884 : decode cL_isLike 884 = .ok (.goto 4, 3) := zf_at zf_23 13 rfl
theorem dL_isLike_887 : decode cL_isLike 887 = .ok (.iconst 0, 1) := zf_at zf_23 14 rfl
theorem dL_isLike_888 : decode cL_isLike 888 = .ok (.ireturn, 1) := zf_at zf_23 15 rfl
theorem zf_24 : zf_all cL_act [(0, .aload_n 2, 1), (1, .iconst 0, 1), (2, .bipush 16, 2), (4, .invokevirtual 205, 3), (7, .istore_n 3, 1), (8, .aload_n 2, 1), (9, .iconst 0, 1), (10, .aload_n 1, 1), (11, .getfield 134, 3), (14, .iconst 1, 1), (15, .iaload, 1), (16, .iconst 1, 1), (17, .isub, 1), (18, .invokevirtual 205, 3), (21, .istore 4, 2), (23, .iload_n 3, 1), (24, .iconst 2, 1), (25, .if_icmp .ge 83, 3), (28, .aload_n 2, 1), (29, .iconst 1, 1), (30, .iconst 5, 1), (31, .invokevirtual 205, 3), (34, .istore 5, 2), (36, .aload_n 1, 1), (37, .getfield 203, 3), (40, .iconst 1, 1), (41, .iaload, 1), (42, .istore 6, 2), (44, .iconst 0, 1), (45, .istore 7, 2), (47, .iload 7, 2), (49, .iload 5, 2), (51, .if_icmp .ge 15, 3), (54, .aload_n 1, 1), (55, .invokevirtual 210, 3), (58, .istore 8, 2), (60, .iinc 7 1, 3), (63, .goto (-16), 3), (66, .aload_n 0, 1), (67, .iload 5, 2)] = true := by decide +kernel
theorem dL_act_0 : decode cL_act 0 = .ok (.aload_n 2, 1) := zf_at zf_24 0 rfl
theorem dL_act_1 : decode cL_act 1 = .ok (.iconst 0, 1) := zf_at zf_24 1 rfl
theorem dL_act_2 : decode cL_act 2 = .ok (.bipush 16, 2) := zf_at zf_24 2 rfl
theorem dL_act_4 : decode cL_act 4 = .ok (.invokevirtual 205, 3) := zf_at zf_24 3 rfl
theorem dL_act_7 : decode cL_act 7 = .ok (.istore_n 3, 1) := zf_at zf_24 4 rfl
theorem dL_act_8 : decode cL_act 8 = .ok (.aload_n 2, 1) := zf_at zf_24 5 rfl
theorem dL_act_9 : decode cL_act 9 = .ok (.iconst 0, 1) := zf_at zf_24 6 rfl
theorem dL_act_10 : decode cL_act 10 = .ok (.aload_n 1, 1) := zf_at zf_24 7 rfl
theorem dL_act_11 : decode cL_act 11 = .ok (.getfield 134, 3) := zf_at zf_24 8 rfl
theorem dL_act_14 : decode cL_act 14 = .ok (.iconst 1, 1) := zf_at zf_24 9 rfl
theorem dL_act_15 : decode cL_act 15 = .ok (.iaload, 1) := zf_at zf_24 10 rfl
theorem dL_act_16 : decode cL_act 16 = .ok (.iconst 1, 1) := zf_at zf_24 11 rfl
theorem dL_act_17 : decode cL_act 17 = .ok (.isub, 1) := zf_at zf_24 12 rfl
theorem dL_act_18 : decode cL_act 18 = .ok (.invokevirtual 205, 3) := zf_at zf_24 13 rfl
theorem dL_act_21 : decode cL_act 21 = .ok (.istore 4, 2) := zf_at zf_24 14 rfl
theorem dL_act_23 : decode cL_act 23 = .ok (.iload_n 3, 1) := zf_at zf_24 15 rfl
theorem dL_act_24 : decode cL_act 24 = .ok (.iconst 2, 1) := zf_at zf_24 16 rfl
theorem dL_act_25 : decode cL_act 25 = .ok (.if_icmp .ge 83, 3) := zf_at zf_24 17 rfl
theorem dL_act_28 : decode cL_act 28 = .ok (.aload_n 2, 1) := zf_at zf_24 18 rfl
theorem dL_act_29 : decode cL_act 29 = .ok (.iconst 1, 1) := zf_at zf_24 19 rfl
theorem dL_act_30 : decode cL_act 30 = .ok (.iconst 5, 1) := zf_at zf_24 20 rfl
theorem dL_act_31 : decode cL_act 31 = .ok (.invokevirtual 205, 3) := zf_at zf_24 21 rfl
theorem dL_act_34 : decode cL_act 34 = .ok (.istore 5, 2) := zf_at zf_24 22 rfl
theorem dL_act_36 : decode cL_act 36 = .ok (.aload_n 1, 1) := zf_at zf_24 23 rfl
theorem dL_act_37 : decode cL_act 37 = .ok (.getfield 203, 3) := zf_at zf_24 24 rfl
theorem dL_act_40 : decode cL_act 40 = .ok (.iconst 1, 1) := zf_at zf_24 25 rfl
theorem dL_act_41 : decode cL_act 41 = .ok (.iaload, 1) := zf_at zf_24 26 rfl
theorem dL_act_42 : decode cL_act 42 = .ok (.istore 6, 2) := zf_at zf_24 27 rfl
theorem dL_act_44 : decode cL_act 44 = .ok (.iconst 0, 1) := zf_at zf_24 28 rfl
theorem dL_act_45 : decode cL_act 45 = .ok (.istore 7, 2) := zf_at zf_24 29 rfl
theorem dL_act_47 : decode cL_act 47 = .ok (.iload 7, 2) := zf_at zf_24 30 rfl
theorem dL_act_49 : decode cL_act 49 = .ok (.iload 5, 2) := zf_at zf_24 31 rfl
theorem dL_act_51 : decode cL_act 51 = .ok (.if_icmp .ge 15, 3) := zf_at zf_24 32 rfl
theorem dL_act_54 : decode cL_act 54 = .ok (.aload_n 1, 1) := zf_at zf_24 33 rfl
theorem dL_act_55 : decode cL_act 55 = .ok (.invokevirtual 210, 3) := zf_at zf_24 34 rfl
theorem dL_act_58 : decode cL_act 58 = .ok (.istore 8, 2) := zf_at zf_24 35 rfl
theorem dL_act_60 : decode cL_act 60 = .ok (.iinc 7 1, 3) := zf_at zf_24 36 rfl
theorem dL_act_63 : decode cL_act 63 = .ok (.goto (-16), 3) := zf_at zf_24 37 rfl
theorem dL_act_66 : decode cL_act 66 = .ok (.aload_n 0, 1) := zf_at zf_24 38 rfl
theorem dL_act_67 : decode cL_act 67 = .ok (.iload 5, 2) := zf_at zf_24 39 rfl
theorem zf_25 : zf_all cL_act [(69, .invokevirtual 98, 3), (72, .aload_n 1, 1), (73, .getfield 203, 3), (76, .iconst 1, 1), (77, .iaload, 1), (78, .iload 6, 2), (80, .isub, 1), (81, .if_icmp .ne 25, 3), (84, .aload_n 0, 1), (85, .bipush 21, 2), (87, .iconst 1, 1), (88, .newarray .int, 2), (90, .dup, 1), (91, .iconst 0, 1), (92, .bipush 101, 2), (94, .iastore, 1), (95, .invokestatic 189, 3), (98, .iconst 3, 1), (99, .if_icmp .ne 7, 3), (102, .iconst 1, 1), (103, .goto 4, 3), (106, .iconst 0, 1), (107, .ireturn, 1), (108, .iload_n 3, 1), (109, .iconst 2, 1), (110, .if_icmp .ne 82, 3), (113, .aload_n 2, 1), (114, .iconst 1, 1), (115, .iconst 5, 1), (116, .invokevirtual 205, 3), (119, .istore 5, 2), (121, .aload_n 1, 1), (122, .getfield 203, 3), (125, .iconst 4, 1), (126, .iaload, 1), (127, .istore 6, 2), (129, .iconst 0, 1), (130, .istore 7, 2), (132, .iload 7, 2), (134, .iload 5, 2)] = true := by decide +kernel
theorem dL_act_69 : decode cL_act 69 = .ok (.invokevirtual 98, 3) := zf_at zf_25 0 rfl
theorem dL_act_72 : decode cL_act 72 = .ok (.aload_n 1, 1) := zf_at zf_25 1 rfl
theorem dL_act_73 : decode cL_act 73 = .ok (.getfield 203, 3) := zf_at zf_25 2 rfl
theorem dL_act_76 : decode cL_act 76 = .ok (.iconst 1, 1) := zf_at zf_25 3 rfl
theorem dL_act_77 : decode cL_act 77 = .ok (.iaload, 1) := zf_at zf_25 4 rfl
theorem dL_act_78 : decode cL_act 78 = .ok (.iload 6, 2) := zf_at zf_25 5 rfl
theorem dL_act_80 : decode cL_act 80 = .ok (.isub, 1) := zf_at zf_25 6 rfl
theorem dL_act_81 : decode cL_act 81 = .ok (.if_icmp .ne 25, 3) := zf_at zf_25 7 rfl
theorem dL_act_84 : decode cL_act 84 = .ok (.aload_n 0, 1) := zf_at zf_25 8 rfl
theorem dL_act_85 : decode cL_act 85 = .ok (.bipush 21, 2) := zf_at zf_25 9 rfl
theorem dL_act_87 : decode cL_act 87 = .ok (.iconst 1, 1) := zf_at zf_25 10 rfl
theorem dL_act_88 : decode cL_act 88 = .ok (.newarray .int, 2) := zf_at zf_25 11 rfl
theorem dL_act_90 : decode cL_act 90 = .ok (.dup, 1) := zf_at zf_25 12 rfl
theorem dL_act_91 : decode cL_act 91 = .ok (.iconst 0, 1) := zf_at zf_25 13 rfl
theorem dL_act_92 : decode cL_act 92 = .ok (.bipush 101, 2) := zf_at zf_25 14 rfl
theorem dL_act_94 : decode cL_act 94 = .ok (.iastore, 1) := zf_at zf_25 15 rfl
theorem dL_act_95 : decode cL_act 95 = .ok (.invokestatic 189, 3) := zf_at zf_25 16 rfl
theorem dL_act_98 : decode cL_act 98 = .ok (.iconst 3, 1) := zf_at zf_25 17 rfl
theorem dL_act_99 : decode cL_act 99 = .ok (.if_icmp .ne 7, 3) := zf_at zf_25 18 rfl
theorem dL_act_102 : decode cL_act 102 = .ok (.iconst 1, 1) := zf_at zf_25 19 rfl
theorem dL_act_103 : decode cL_act 103 = .ok (.goto 4, 3) := zf_at zf_25 20 rfl
theorem dL_act_106 : decode cL_act 106 = .ok (.iconst 0, 1) := zf_at zf_25 21 rfl
theorem dL_act_107 : decode cL_act 107 = .ok (.ireturn, 1) := zf_at zf_25 22 rfl
theorem dL_act_108 : decode cL_act 108 = .ok (.iload_n 3, 1) := zf_at zf_25 23 rfl
theorem dL_act_109 : decode cL_act 109 = .ok (.iconst 2, 1) := zf_at zf_25 24 rfl
theorem dL_act_110 : decode cL_act 110 = .ok (.if_icmp .ne 82, 3) := zf_at zf_25 25 rfl
theorem dL_act_113 : decode cL_act 113 = .ok (.aload_n 2, 1) := zf_at zf_25 26 rfl
theorem dL_act_114 : decode cL_act 114 = .ok (.iconst 1, 1) := zf_at zf_25 27 rfl
theorem dL_act_115 : decode cL_act 115 = .ok (.iconst 5, 1) := zf_at zf_25 28 rfl
theorem dL_act_116 : decode cL_act 116 = .ok (.invokevirtual 205, 3) := zf_at zf_25 29 rfl
theorem dL_act_119 : decode cL_act 119 = .ok (.istore 5, 2) := zf_at zf_25 30 rfl
theorem dL_act_121 : decode cL_act 121 = .ok (.aload_n 1, 1) := zf_at zf_25 31 rfl
theorem dL_act_122 : decode cL_act 122 = .ok (.getfield 203, 3) := zf_at zf_25 32 rfl
theorem dL_act_125 : decode cL_act 125 = .ok (.iconst 4, 1) := zf_at zf_25 33 rfl
theorem dL_act_126 : decode cL_act 126 = .ok (.iaload, 1) := zf_at zf_25 34 rfl
theorem dL_act_127 : decode cL_act 127 = .ok (.istore 6, 2) := zf_at zf_25 35 rfl
theorem dL_act_129 : decode cL_act 129 = .ok (.iconst 0, 1) := zf_at zf_25 36 rfl
theorem dL_act_130 : decode cL_act 130 = .ok (.istore 7, 2) := zf_at zf_25 37 rfl
theorem dL_act_132 : decode cL_act 132 = .ok (.iload 7, 2) := zf_at zf_25 38 rfl
theorem dL_act_134 : decode cL_act 134 = .ok (.iload 5, 2) := zf_at zf_25 39 rfl
theorem zf_26 : zf_all cL_act [(136, .if_icmp .ge 15, 3), (139, .aload_n 1, 1), (140, .invokevirtual 212, 3), (143, .istore 8, 2), (145, .iinc 7 1, 3), (148, .goto (-16), 3), (151, .aload_n 0, 1), (152, .iload 5, 2), (154, .invokevirtual 101, 3), (157, .aload_n 1, 1), (158, .getfield 203, 3), (161, .iconst 4, 1), (162, .iaload, 1), (163, .iload 6, 2), (165, .isub, 1), (166, .if_icmp .ne 24, 3), (169, .aload_n 0, 1), (170, .bipush 22, 2), (172, .iconst 1, 1), (173, .newarray .int, 2), (175, .dup, 1), (176, .iconst 0, 1), (177, .iconst 0, 1), (178, .iastore, 1), (179, .invokestatic 189, 3), (182, .iconst 3, 1), (183, .if_icmp .ne 7, 3), (186, .iconst 1, 1), (187, .goto 4, 3), (190, .iconst 0, 1), (191, .ireturn, 1), (192, .iload_n 3, 1), (193, .iconst 5, 1), (194, .if_icmp .ge 152, 3), (197, .aload_n 2, 1), (198, .iconst 1, 1), (199, .aload_n 2, 1), (200, .iconst 0, 1), (201, .iconst 1, 1), (202, .invokevirtual 205, 3)] = true := by decide +kernel
theorem dL_act_136 : decode cL_act 136 = .ok (.if_icmp .ge 15, 3) := zf_at zf_26 0 rfl
theorem dL_act_139 : decode cL_act 139 = .ok (.aload_n 1, 1) := zf_at zf_26 1 rfl
theorem dL_act_140 : decode cL_act 140 = .ok (.invokevirtual 212, 3) := zf_at zf_26 2 rfl
theorem dL_act_143 : decode cL_act 143 = .ok (.istore 8, 2) := zf_at zf_26 3 rfl
theorem dL_act_145 : decode cL_act 145 = .ok (.iinc 7 1, 3) := zf_at zf_26 4 rfl
theorem dL_act_148 : decode cL_act 148 = .ok (.goto (-16), 3) := zf_at zf_26 5 rfl
theorem dL_act_151 : decode cL_act 151 = .ok (.aload_n 0, 1) := zf_at zf_26 6 rfl
theorem dL_act_152 : decode cL_act 152 = .ok (.iload 5, 2) := zf_at zf_26 7 rfl
theorem dL_act_154 : decode cL_act 154 = .ok (.invokevirtual 101, 3) := zf_at zf_26 8 rfl
theorem dL_act_157 : decode cL_act 157 = .ok (.aload_n 1, 1) := zf_at zf_26 9 rfl
theorem dL_act_158 : decode cL_act 158 = .ok (.getfield 203, 3) := zf_at zf_26 10 rfl
theorem dL_act_161 : decode cL_act 161 = .ok (.iconst 4, 1) := zf_at zf_26 11 rfl
theorem dL_act_162 : decode cL_act 162 = .ok (.iaload, 1) := zf_at zf_26 12 rfl
theorem dL_act_163 : decode cL_act 163 = .ok (.iload 6, 2) := zf_at zf_26 13 rfl
theorem dL_act_165 : decode cL_act 165 = .ok (.isub, 1) := zf_at zf_26 14 rfl
theorem dL_act_166 : decode cL_act 166 = .ok (.if_icmp .ne 24, 3) := zf_at zf_26 15 rfl
theorem dL_act_169 : decode cL_act 169 = .ok (.aload_n 0, 1) := zf_at zf_26 16 rfl
theorem dL_act_170 : decode cL_act 170 = .ok (.bipush 22, 2) := zf_at zf_26 17 rfl
theorem dL_act_172 : decode cL_act 172 = .ok (.iconst 1, 1) := zf_at zf_26 18 rfl
theorem dL_act_173 : decode cL_act 173 = .ok (.newarray .int, 2) := zf_at zf_26 19 rfl
theorem dL_act_175 : decode cL_act 175 = .ok (.dup, 1) := zf_at zf_26 20 rfl
theorem dL_act_176 : decode cL_act 176 = .ok (.iconst 0, 1) := zf_at zf_26 21 rfl
theorem dL_act_177 : decode cL_act 177 = .ok (.iconst 0, 1) := zf_at zf_26 22 rfl
theorem dL_act_178 : decode cL_act 178 = .ok (.iastore, 1) := zf_at zf_26 23 rfl
theorem dL_act_179 : decode cL_act 179 = .ok (.invokestatic 189, 3) := zf_at zf_26 24 rfl
theorem dL_act_182 : decode cL_act 182 = .ok (.iconst 3, 1) := zf_at zf_26 25 rfl
theorem dL_act_183 : decode cL_act 183 = .ok (.if_icmp .ne 7, 3) := zf_at zf_26 26 rfl
theorem dL_act_186 : decode cL_act 186 = .ok (.iconst 1, 1) := zf_at zf_26 27 rfl
theorem dL_act_187 : decode cL_act 187 = .ok (.goto 4, 3) := zf_at zf_26 28 rfl
theorem dL_act_190 : decode cL_act 190 = .ok (.iconst 0, 1) := zf_at zf_26 29 rfl
theorem dL_act_191 : decode cL_act 191 = .ok (.ireturn, 1) := zf_at zf_26 30 rfl
theorem dL_act_192 : decode cL_act 192 = .ok (.iload_n 3, 1) := zf_at zf_26 31 rfl
theorem dL_act_193 : decode cL_act 193 = .ok (.iconst 5, 1) := zf_at zf_26 32 rfl
theorem dL_act_194 : decode cL_act 194 = .ok (.if_icmp .ge 152, 3) := zf_at zf_26 33 rfl
theorem dL_act_197 : decode cL_act 197 = .ok (.aload_n 2, 1) := zf_at zf_26 34 rfl
theorem dL_act_198 : decode cL_act 198 = .ok (.iconst 1, 1) := zf_at zf_26 35 rfl
theorem dL_act_199 : decode cL_act 199 = .ok (.aload_n 2, 1) := zf_at zf_26 36 rfl
theorem dL_act_200 : decode cL_act 200 = .ok (.iconst 0, 1) := zf_at zf_26 37 rfl
theorem dL_act_201 : decode cL_act 201 = .ok (.iconst 1, 1) := zf_at zf_26 38 rfl
theorem dL_act_202 : decode cL_act 202 = .ok (.invokevirtual 205, 3) := zf_at zf_26 39 rfl
theorem zf_27 : zf_all cL_act [(205, .ifCond .ne 9, 3), (208, .sipush 200, 3), (211, .goto 5, 3), (214, .bipush 9, 2), (216, .invokevirtual 205, 3), (219, .istore 5, 2), (221, .aload_n 1, 1), (222, .getfield 142, 3), (225, .iload 4, 2), (227, .iaload, 1), (228, .bipush 6, 2), (230, .if_icmp .eq 14, 3), (233, .iload 5, 2), (235, .aload_n 1, 1), (236, .iload 4, 2), (238, .invokevirtual 148, 3), (241, .if_icmp .le 32, 3), (244, .aload_n 0, 1), (245, .bipush 12, 2), (247, .iconst 2, 1), (248, .newarray .int, 2), (250, .dup, 1), (251, .iconst 0, 1), (252, .iload 4, 2), (254, .iastore, 1), (255, .dup, 1), (256, .iconst 1, 1), (257, .iload 5, 2), (259, .iastore, 1), (260, .invokestatic 189, 3), (263, .iconst 3, 1), (264, .if_icmp .ne 7, 3), (267, .iconst 1, 1), (268, .goto 4, 3), (271, .iconst 0, 1), (272, .ireturn, 1), (273, .aload_n 1, 1), (274, .getfield 163, 3), (277, .iload 4, 2), (279, .aaload, 1)] = true := by decide +kernel
theorem dL_act_205 : decode cL_act 205 = .ok (.ifCond .ne 9, 3) := zf_at zf_27 0 rfl
theorem dL_act_208 : decode cL_act 208 = .ok (.sipush 200, 3) := zf_at zf_27 1 rfl
theorem dL_act_211 : decode cL_act 211 = .ok (.goto 5, 3) := zf_at zf_27 2 rfl
theorem dL_act_214 : decode cL_act 214 = .ok (.bipush 9, 2) := zf_at zf_27 3 rfl
theorem dL_act_216 : decode cL_act 216 = .ok (.invokevirtual 205, 3) := zf_at zf_27 4 rfl
theorem dL_act_219 : decode cL_act 219 = .ok (.istore 5, 2) := zf_at zf_27 5 rfl
theorem dL_act_221 : decode cL_act 221 = .ok (.aload_n 1, 1) := zf_at zf_27 6 rfl
theorem dL_act_222 : decode cL_act 222 = .ok (.getfield 142, 3) := zf_at zf_27 7 rfl
theorem dL_act_225 : decode cL_act 225 = .ok (.iload 4, 2) := zf_at zf_27 8 rfl
theorem dL_act_227 : decode cL_act 227 = .ok (.iaload, 1) := zf_at zf_27 9 rfl
theorem dL_act_228 : decode cL_act 228 = .ok (.bipush 6, 2) := zf_at zf_27 10 rfl
theorem dL_act_230 : decode cL_act 230 = .ok (.if_icmp .eq 14, 3) := zf_at zf_27 11 rfl
theorem dL_act_233 : decode cL_act 233 = .ok (.iload 5, 2) := zf_at zf_27 12 rfl
theorem dL_act_235 : decode cL_act 235 = .ok (.aload_n 1, 1) := zf_at zf_27 13 rfl
theorem dL_act_236 : decode cL_act 236 = .ok (.iload 4, 2) := zf_at zf_27 14 rfl
theorem dL_act_238 : decode cL_act 238 = .ok (.invokevirtual 148, 3) := zf_at zf_27 15 rfl
theorem dL_act_241 : decode cL_act 241 = .ok (.if_icmp .le 32, 3) := zf_at zf_27 16 rfl
theorem dL_act_244 : decode cL_act 244 = .ok (.aload_n 0, 1) := zf_at zf_27 17 rfl
theorem dL_act_245 : decode cL_act 245 = .ok (.bipush 12, 2) := zf_at zf_27 18 rfl
theorem dL_act_247 : decode cL_act 247 = .ok (.iconst 2, 1) := zf_at zf_27 19 rfl
theorem dL_act_248 : decode cL_act 248 = .ok (.newarray .int, 2) := zf_at zf_27 20 rfl
theorem dL_act_250 : decode cL_act 250 = .ok (.dup, 1) := zf_at zf_27 21 rfl
theorem dL_act_251 : decode cL_act 251 = .ok (.iconst 0, 1) := zf_at zf_27 22 rfl
theorem dL_act_252 : decode cL_act 252 = .ok (.iload 4, 2) := zf_at zf_27 23 rfl
theorem dL_act_254 : decode cL_act 254 = .ok (.iastore, 1) := zf_at zf_27 24 rfl
theorem dL_act_255 : decode cL_act 255 = .ok (.dup, 1) := zf_at zf_27 25 rfl
theorem dL_act_256 : decode cL_act 256 = .ok (.iconst 1, 1) := zf_at zf_27 26 rfl
theorem dL_act_257 : decode cL_act 257 = .ok (.iload 5, 2) := zf_at zf_27 27 rfl
theorem dL_act_259 : decode cL_act 259 = .ok (.iastore, 1) := zf_at zf_27 28 rfl
theorem dL_act_260 : decode cL_act 260 = .ok (.invokestatic 189, 3) := zf_at zf_27 29 rfl
theorem dL_act_263 : decode cL_act 263 = .ok (.iconst 3, 1) := zf_at zf_27 30 rfl
theorem dL_act_264 : decode cL_act 264 = .ok (.if_icmp .ne 7, 3) := zf_at zf_27 31 rfl
theorem dL_act_267 : decode cL_act 267 = .ok (.iconst 1, 1) := zf_at zf_27 32 rfl
theorem dL_act_268 : decode cL_act 268 = .ok (.goto 4, 3) := zf_at zf_27 33 rfl
theorem dL_act_271 : decode cL_act 271 = .ok (.iconst 0, 1) := zf_at zf_27 34 rfl
theorem dL_act_272 : decode cL_act 272 = .ok (.ireturn, 1) := zf_at zf_27 35 rfl
theorem dL_act_273 : decode cL_act 273 = .ok (.aload_n 1, 1) := zf_at zf_27 36 rfl
theorem dL_act_274 : decode cL_act 274 = .ok (.getfield 163, 3) := zf_at zf_27 37 rfl
theorem dL_act_277 : decode cL_act 277 = .ok (.iload 4, 2) := zf_at zf_27 38 rfl
theorem dL_act_279 : decode cL_act 279 = .ok (.aaload, 1) := zf_at zf_27 39 rfl
theorem zf_28 : zf_all cL_act [(280, .aload_n 1, 1), (281, .getfield 142, 3), (284, .iload 4, 2), (286, .iaload, 1), (287, .iload 5, 2), (289, .iastore, 1), (290, .aload_n 1, 1), (291, .getfield 142, 3), (294, .iload 4, 2), (296, .dup2, 1), (297, .iaload, 1), (298, .iconst 1, 1), (299, .iadd, 1), (300, .iastore, 1), (301, .aload_n 0, 1), (302, .iload 4, 2), (304, .iload 5, 2), (306, .invokevirtual 70, 3), (309, .aload_n 1, 1), (310, .iload 4, 2), (312, .invokevirtual 148, 3), (315, .if_icmp .ne 29, 3), (318, .aload_n 0, 1), (319, .bipush 12, 2), (321, .iconst 2, 1), (322, .newarray .int, 2), (324, .dup, 1), (325, .iconst 0, 1), (326, .iload 4, 2), (328, .iastore, 1), (329, .dup, 1), (330, .iconst 1, 1), (331, .iconst 0, 1), (332, .iastore, 1), (333, .invokestatic 189, 3), (336, .iconst 3, 1), (337, .if_icmp .ne 7, 3), (340, .iconst 1, 1), (341, .goto 4, 3), (344, .iconst 0, 1)] = true := by decide +kernel
theorem dL_act_280 : decode cL_act 280 = .ok (.aload_n 1, 1) := zf_at zf_28 0 rfl
theorem dL_act_281 : decode cL_act 281 = .ok (.getfield 142, 3) := zf_at zf_28 1 rfl
theorem dL_act_284 : decode cL_act 284 = .ok (.iload 4, 2) := zf_at zf_28 2 rfl
theorem dL_act_286 : decode cL_act 286 = .ok (.iaload, 1) := zf_at zf_28 3 rfl
theorem dL_act_287 : decode cL_act 287 = .ok (.iload 5, 2) := zf_at zf_28 4 rfl
theorem dL_act_289 : decode cL_act 289 = .ok (.iastore, 1) := zf_at zf_28 5 rfl
theorem dL_act_290 : decode cL_act 290 = .ok (.aload_n 1, 1) := zf_at zf_28 6 rfl
theorem dL_act_291 : decode cL_act 291 = .ok (.getfield 142, 3) := zf_at zf_28 7 rfl
theorem dL_act_294 : decode cL_act 294 = .ok (.iload 4, 2) := zf_at zf_28 8 rfl
theorem dL_act_296 : decode cL_act 296 = .ok (.dup2, 1) := zf_at zf_28 9 rfl
theorem dL_act_297 : decode cL_act 297 = .ok (.iaload, 1) := zf_at zf_28 10 rfl
theorem dL_act_298 : decode cL_act 298 = .ok (.iconst 1, 1) := zf_at zf_28 11 rfl
theorem dL_act_299 : decode cL_act 299 = .ok (.iadd, 1) := zf_at zf_28 12 rfl
theorem dL_act_300 : decode cL_act 300 = .ok (.iastore, 1) := zf_at zf_28 13 rfl
theorem dL_act_301 : decode cL_act 301 = .ok (.aload_n 0, 1) := zf_at zf_28 14 rfl
theorem dL_act_302 : decode cL_act 302 = .ok (.iload 4, 2) := zf_at zf_28 15 rfl
theorem dL_act_304 : decode cL_act 304 = .ok (.iload 5, 2) := zf_at zf_28 16 rfl
theorem dL_act_306 : decode cL_act 306 = .ok (.invokevirtual 70, 3) := zf_at zf_28 17 rfl
theorem dL_act_309 : decode cL_act 309 = .ok (.aload_n 1, 1) := zf_at zf_28 18 rfl
theorem dL_act_310 : decode cL_act 310 = .ok (.iload 4, 2) := zf_at zf_28 19 rfl
theorem dL_act_312 : decode cL_act 312 = .ok (.invokevirtual 148, 3) := zf_at zf_28 20 rfl
theorem dL_act_315 : decode cL_act 315 = .ok (.if_icmp .ne 29, 3) := zf_at zf_28 21 rfl
theorem dL_act_318 : decode cL_act 318 = .ok (.aload_n 0, 1) := zf_at zf_28 22 rfl
theorem dL_act_319 : decode cL_act 319 = .ok (.bipush 12, 2) := zf_at zf_28 23 rfl
theorem dL_act_321 : decode cL_act 321 = .ok (.iconst 2, 1) := zf_at zf_28 24 rfl
theorem dL_act_322 : decode cL_act 322 = .ok (.newarray .int, 2) := zf_at zf_28 25 rfl
theorem dL_act_324 : decode cL_act 324 = .ok (.dup, 1) := zf_at zf_28 26 rfl
theorem dL_act_325 : decode cL_act 325 = .ok (.iconst 0, 1) := zf_at zf_28 27 rfl
theorem dL_act_326 : decode cL_act 326 = .ok (.iload 4, 2) := zf_at zf_28 28 rfl
theorem dL_act_328 : decode cL_act 328 = .ok (.iastore, 1) := zf_at zf_28 29 rfl
theorem dL_act_329 : decode cL_act 329 = .ok (.dup, 1) := zf_at zf_28 30 rfl
theorem dL_act_330 : decode cL_act 330 = .ok (.iconst 1, 1) := zf_at zf_28 31 rfl
theorem dL_act_331 : decode cL_act 331 = .ok (.iconst 0, 1) := zf_at zf_28 32 rfl
theorem dL_act_332 : decode cL_act 332 = .ok (.iastore, 1) := zf_at zf_28 33 rfl
theorem dL_act_333 : decode cL_act 333 = .ok (.invokestatic 189, 3) := zf_at zf_28 34 rfl
theorem dL_act_336 : decode cL_act 336 = .ok (.iconst 3, 1) := zf_at zf_28 35 rfl
theorem dL_act_337 : decode cL_act 337 = .ok (.if_icmp .ne 7, 3) := zf_at zf_28 36 rfl
theorem dL_act_340 : decode cL_act 340 = .ok (.iconst 1, 1) := zf_at zf_28 37 rfl
theorem dL_act_341 : decode cL_act 341 = .ok (.goto 4, 3) := zf_at zf_28 38 rfl
theorem dL_act_344 : decode cL_act 344 = .ok (.iconst 0, 1) := zf_at zf_28 39 rfl
