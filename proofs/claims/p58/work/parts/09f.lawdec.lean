theorem zf_58 : zf_all cL_rows [(150, .getfield 140, 3), (153, .iload_n 2, 1), (154, .iaload, 1), (155, .invokevirtual 245, 3), (158, .pop, 1), (159, .aload_n 3, 1), (160, .invokevirtual 283, 3), (163, .astore 4, 2), (165, .aload_n 0, 1), (166, .aload_n 0, 1), (167, .iload_n 2, 1), (168, .invokevirtual 302, 3), (171, .aload 4, 2), (173, .invokevirtual 7, 3), (176, .ifCond .ne 8, 3), (179, .aload 4, 2), (181, .goto 9, 3), (184, .aload 4, 2), (186, .iconst 1, 1), (187, .invokevirtual 305, 3), (190, .invokestatic 287, 3), (193, .ifCond .ne 5, 3), (196, .iconst 0, 1), (197, .ireturn, 1), (198, .iinc 2 1, 3), (201, .goto (-199), 3), (204, .iconst 1, 1), (205, .ireturn, 1)] = true := by decide +kernel
theorem dL_rows_150 : decode cL_rows 150 = .ok (.getfield 140, 3) := zf_at zf_58 0 rfl
theorem dL_rows_153 : decode cL_rows 153 = .ok (.iload_n 2, 1) := zf_at zf_58 1 rfl
theorem dL_rows_154 : decode cL_rows 154 = .ok (.iaload, 1) := zf_at zf_58 2 rfl
theorem dL_rows_155 : decode cL_rows 155 = .ok (.invokevirtual 245, 3) := zf_at zf_58 3 rfl
theorem dL_rows_158 : decode cL_rows 158 = .ok (.pop, 1) := zf_at zf_58 4 rfl
theorem dL_rows_159 : decode cL_rows 159 = .ok (.aload_n 3, 1) := zf_at zf_58 5 rfl
theorem dL_rows_160 : decode cL_rows 160 = .ok (.invokevirtual 283, 3) := zf_at zf_58 6 rfl
theorem dL_rows_163 : decode cL_rows 163 = .ok (.astore 4, 2) := zf_at zf_58 7 rfl
theorem dL_rows_165 : decode cL_rows 165 = .ok (.aload_n 0, 1) := zf_at zf_58 8 rfl
theorem dL_rows_166 : decode cL_rows 166 = .ok (.aload_n 0, 1) := zf_at zf_58 9 rfl
theorem dL_rows_167 : decode cL_rows 167 = .ok (.iload_n 2, 1) := zf_at zf_58 10 rfl
theorem dL_rows_168 : decode cL_rows 168 = .ok (.invokevirtual 302, 3) := zf_at zf_58 11 rfl
theorem dL_rows_171 : decode cL_rows 171 = .ok (.aload 4, 2) := zf_at zf_58 12 rfl
theorem dL_rows_173 : decode cL_rows 173 = .ok (.invokevirtual 7, 3) := zf_at zf_58 13 rfl
theorem dL_rows_176 : decode cL_rows 176 = .ok (.ifCond .ne 8, 3) := zf_at zf_58 14 rfl
theorem dL_rows_179 : decode cL_rows 179 = .ok (.aload 4, 2) := zf_at zf_58 15 rfl
theorem dL_rows_181 : decode cL_rows 181 = .ok (.goto 9, 3) := zf_at zf_58 16 rfl
theorem dL_rows_184 : decode cL_rows 184 = .ok (.aload 4, 2) := zf_at zf_58 17 rfl
theorem dL_rows_186 : decode cL_rows 186 = .ok (.iconst 1, 1) := zf_at zf_58 18 rfl
theorem dL_rows_187 : decode cL_rows 187 = .ok (.invokevirtual 305, 3) := zf_at zf_58 19 rfl
theorem dL_rows_190 : decode cL_rows 190 = .ok (.invokestatic 287, 3) := zf_at zf_58 20 rfl
theorem dL_rows_193 : decode cL_rows 193 = .ok (.ifCond .ne 5, 3) := zf_at zf_58 21 rfl
theorem dL_rows_196 : decode cL_rows 196 = .ok (.iconst 0, 1) := zf_at zf_58 22 rfl
theorem dL_rows_197 : decode cL_rows 197 = .ok (.ireturn, 1) := zf_at zf_58 23 rfl
theorem dL_rows_198 : decode cL_rows 198 = .ok (.iinc 2 1, 3) := zf_at zf_58 24 rfl
theorem dL_rows_201 : decode cL_rows 201 = .ok (.goto (-199), 3) := zf_at zf_58 25 rfl
theorem dL_rows_204 : decode cL_rows 204 = .ok (.iconst 1, 1) := zf_at zf_58 26 rfl
theorem dL_rows_205 : decode cL_rows 205 = .ok (.ireturn, 1) := zf_at zf_58 27 rfl
theorem zf_59 : zf_all cL_law [(0, .new 206, 3), (3, .dup, 1), (4, .aload_n 0, 1), (5, .invokespecial 309, 3), (8, .astore_n 1, 1), (9, .new 135, 3), (12, .dup, 1), (13, .aload_n 1, 1), (14, .invokespecial 312, 3), (17, .astore_n 2, 1), (18, .new 18, 3), (21, .dup, 1), (22, .invokespecial 315, 3), (25, .astore_n 3, 1), (26, .aload_n 3, 1), (27, .iconst 0, 1), (28, .iconst 1, 1), (29, .newarray .int, 2), (31, .dup, 1), (32, .iconst 0, 1), (33, .iconst 0, 1), (34, .iastore, 1), (35, .invokestatic 189, 3), (38, .iconst 1, 1), (39, .if_icmp .ne 74, 3), (42, .aload_n 3, 1), (43, .bipush 21, 2), (45, .iconst 1, 1), (46, .newarray .int, 2), (48, .dup, 1), (49, .iconst 0, 1), (50, .iconst 1, 1), (51, .iastore, 1), (52, .invokestatic 189, 3), (55, .iconst 1, 1), (56, .if_icmp .ne 57, 3), (59, .aload_n 3, 1), (60, .bipush 24, 2), (62, .iconst 0, 1), (63, .newarray .int, 2)] = true := by decide +kernel
theorem dL_law_0 : decode cL_law 0 = .ok (.new 206, 3) := zf_at zf_59 0 rfl
theorem dL_law_3 : decode cL_law 3 = .ok (.dup, 1) := zf_at zf_59 1 rfl
theorem dL_law_4 : decode cL_law 4 = .ok (.aload_n 0, 1) := zf_at zf_59 2 rfl
theorem dL_law_5 : decode cL_law 5 = .ok (.invokespecial 309, 3) := zf_at zf_59 3 rfl
theorem dL_law_8 : decode cL_law 8 = .ok (.astore_n 1, 1) := zf_at zf_59 4 rfl
theorem dL_law_9 : decode cL_law 9 = .ok (.new 135, 3) := zf_at zf_59 5 rfl
theorem dL_law_12 : decode cL_law 12 = .ok (.dup, 1) := zf_at zf_59 6 rfl
theorem dL_law_13 : decode cL_law 13 = .ok (.aload_n 1, 1) := zf_at zf_59 7 rfl
theorem dL_law_14 : decode cL_law 14 = .ok (.invokespecial 312, 3) := zf_at zf_59 8 rfl
theorem dL_law_17 : decode cL_law 17 = .ok (.astore_n 2, 1) := zf_at zf_59 9 rfl
theorem dL_law_18 : decode cL_law 18 = .ok (.new 18, 3) := zf_at zf_59 10 rfl
theorem dL_law_21 : decode cL_law 21 = .ok (.dup, 1) := zf_at zf_59 11 rfl
theorem dL_law_22 : decode cL_law 22 = .ok (.invokespecial 315, 3) := zf_at zf_59 12 rfl
theorem dL_law_25 : decode cL_law 25 = .ok (.astore_n 3, 1) := zf_at zf_59 13 rfl
theorem dL_law_26 : decode cL_law 26 = .ok (.aload_n 3, 1) := zf_at zf_59 14 rfl
theorem dL_law_27 : decode cL_law 27 = .ok (.iconst 0, 1) := zf_at zf_59 15 rfl
theorem dL_law_28 : decode cL_law 28 = .ok (.iconst 1, 1) := zf_at zf_59 16 rfl
theorem dL_law_29 : decode cL_law 29 = .ok (.newarray .int, 2) := zf_at zf_59 17 rfl
theorem dL_law_31 : decode cL_law 31 = .ok (.dup, 1) := zf_at zf_59 18 rfl
theorem dL_law_32 : decode cL_law 32 = .ok (.iconst 0, 1) := zf_at zf_59 19 rfl
theorem dL_law_33 : decode cL_law 33 = .ok (.iconst 0, 1) := zf_at zf_59 20 rfl
theorem dL_law_34 : decode cL_law 34 = .ok (.iastore, 1) := zf_at zf_59 21 rfl
theorem dL_law_35 : decode cL_law 35 = .ok (.invokestatic 189, 3) := zf_at zf_59 22 rfl
theorem dL_law_38 : decode cL_law 38 = .ok (.iconst 1, 1) := zf_at zf_59 23 rfl
theorem dL_law_39 : decode cL_law 39 = .ok (.if_icmp .ne 74, 3) := zf_at zf_59 24 rfl
theorem dL_law_42 : decode cL_law 42 = .ok (.aload_n 3, 1) := zf_at zf_59 25 rfl
theorem dL_law_43 : decode cL_law 43 = .ok (.bipush 21, 2) := zf_at zf_59 26 rfl
theorem dL_law_45 : decode cL_law 45 = .ok (.iconst 1, 1) := zf_at zf_59 27 rfl
theorem dL_law_46 : decode cL_law 46 = .ok (.newarray .int, 2) := zf_at zf_59 28 rfl
theorem dL_law_48 : decode cL_law 48 = .ok (.dup, 1) := zf_at zf_59 29 rfl
theorem dL_law_49 : decode cL_law 49 = .ok (.iconst 0, 1) := zf_at zf_59 30 rfl
theorem dL_law_50 : decode cL_law 50 = .ok (.iconst 1, 1) := zf_at zf_59 31 rfl
theorem dL_law_51 : decode cL_law 51 = .ok (.iastore, 1) := zf_at zf_59 32 rfl
theorem dL_law_52 : decode cL_law 52 = .ok (.invokestatic 189, 3) := zf_at zf_59 33 rfl
theorem dL_law_55 : decode cL_law 55 = .ok (.iconst 1, 1) := zf_at zf_59 34 rfl
theorem dL_law_56 : decode cL_law 56 = .ok (.if_icmp .ne 57, 3) := zf_at zf_59 35 rfl
theorem dL_law_59 : decode cL_law 59 = .ok (.aload_n 3, 1) := zf_at zf_59 36 rfl
theorem dL_law_60 : decode cL_law 60 = .ok (.bipush 24, 2) := zf_at zf_59 37 rfl
theorem dL_law_62 : decode cL_law 62 = .ok (.iconst 0, 1) := zf_at zf_59 38 rfl
theorem dL_law_63 : decode cL_law 63 = .ok (.newarray .int, 2) := zf_at zf_59 39 rfl
theorem zf_60 : zf_all cL_law [(65, .invokestatic 189, 3), (68, .iconst 1, 1), (69, .if_icmp .ne 44, 3), (72, .aload_n 3, 1), (73, .bipush 11, 2), (75, .iconst 1, 1), (76, .newarray .int, 2), (78, .dup, 1), (79, .iconst 0, 1), (80, .iconst 0, 1), (81, .iastore, 1), (82, .invokestatic 189, 3), (85, .iconst 2, 1), (86, .if_icmp .ne 27, 3), (89, .aload_n 3, 1), (90, .bipush 8, 2), (92, .iconst 1, 1), (93, .newarray .int, 2), (95, .dup, 1), (96, .iconst 0, 1), (97, .iconst 1, 1), (98, .iastore, 1), (99, .invokestatic 189, 3), (102, .iconst 1, 1), (103, .if_icmp .ne 10, 3), (106, .aload_n 3, 1), (107, .invokevirtual 316, 3), (110, .ifCond .eq 5, 3), (113, .iconst 0, 1), (114, .ireturn, 1), (115, .aload_n 3, 1), (116, .aload_n 2, 1), (117, .getfield 319, 3), (120, .invokevirtual 283, 3), (123, .invokestatic 323, 3), (126, .aload_n 2, 1), (127, .getfield 170, 3), (130, .if_icmp .ne 26, 3), (133, .aload_n 3, 1), (134, .invokevirtual 327, 3)] = true := by decide +kernel
theorem dL_law_65 : decode cL_law 65 = .ok (.invokestatic 189, 3) := zf_at zf_60 0 rfl
theorem dL_law_68 : decode cL_law 68 = .ok (.iconst 1, 1) := zf_at zf_60 1 rfl
theorem dL_law_69 : decode cL_law 69 = .ok (.if_icmp .ne 44, 3) := zf_at zf_60 2 rfl
theorem dL_law_72 : decode cL_law 72 = .ok (.aload_n 3, 1) := zf_at zf_60 3 rfl
theorem dL_law_73 : decode cL_law 73 = .ok (.bipush 11, 2) := zf_at zf_60 4 rfl
theorem dL_law_75 : decode cL_law 75 = .ok (.iconst 1, 1) := zf_at zf_60 5 rfl
theorem dL_law_76 : decode cL_law 76 = .ok (.newarray .int, 2) := zf_at zf_60 6 rfl
theorem dL_law_78 : decode cL_law 78 = .ok (.dup, 1) := zf_at zf_60 7 rfl
theorem dL_law_79 : decode cL_law 79 = .ok (.iconst 0, 1) := zf_at zf_60 8 rfl
theorem dL_law_80 : decode cL_law 80 = .ok (.iconst 0, 1) := zf_at zf_60 9 rfl
theorem dL_law_81 : decode cL_law 81 = .ok (.iastore, 1) := zf_at zf_60 10 rfl
theorem dL_law_82 : decode cL_law 82 = .ok (.invokestatic 189, 3) := zf_at zf_60 11 rfl
theorem dL_law_85 : decode cL_law 85 = .ok (.iconst 2, 1) := zf_at zf_60 12 rfl
theorem dL_law_86 : decode cL_law 86 = .ok (.if_icmp .ne 27, 3) := zf_at zf_60 13 rfl
theorem dL_law_89 : decode cL_law 89 = .ok (.aload_n 3, 1) := zf_at zf_60 14 rfl
theorem dL_law_90 : decode cL_law 90 = .ok (.bipush 8, 2) := zf_at zf_60 15 rfl
theorem dL_law_92 : decode cL_law 92 = .ok (.iconst 1, 1) := zf_at zf_60 16 rfl
theorem dL_law_93 : decode cL_law 93 = .ok (.newarray .int, 2) := zf_at zf_60 17 rfl
theorem dL_law_95 : decode cL_law 95 = .ok (.dup, 1) := zf_at zf_60 18 rfl
theorem dL_law_96 : decode cL_law 96 = .ok (.iconst 0, 1) := zf_at zf_60 19 rfl
theorem dL_law_97 : decode cL_law 97 = .ok (.iconst 1, 1) := zf_at zf_60 20 rfl
theorem dL_law_98 : decode cL_law 98 = .ok (.iastore, 1) := zf_at zf_60 21 rfl
theorem dL_law_99 : decode cL_law 99 = .ok (.invokestatic 189, 3) := zf_at zf_60 22 rfl
theorem dL_law_102 : decode cL_law 102 = .ok (.iconst 1, 1) := zf_at zf_60 23 rfl
theorem dL_law_103 : decode cL_law 103 = .ok (.if_icmp .ne 10, 3) := zf_at zf_60 24 rfl
theorem dL_law_106 : decode cL_law 106 = .ok (.aload_n 3, 1) := zf_at zf_60 25 rfl
theorem dL_law_107 : decode cL_law 107 = .ok (.invokevirtual 316, 3) := zf_at zf_60 26 rfl
theorem dL_law_110 : decode cL_law 110 = .ok (.ifCond .eq 5, 3) := zf_at zf_60 27 rfl
theorem dL_law_113 : decode cL_law 113 = .ok (.iconst 0, 1) := zf_at zf_60 28 rfl
theorem dL_law_114 : decode cL_law 114 = .ok (.ireturn, 1) := zf_at zf_60 29 rfl
theorem dL_law_115 : decode cL_law 115 = .ok (.aload_n 3, 1) := zf_at zf_60 30 rfl
theorem dL_law_116 : decode cL_law 116 = .ok (.aload_n 2, 1) := zf_at zf_60 31 rfl
theorem dL_law_117 : decode cL_law 117 = .ok (.getfield 319, 3) := zf_at zf_60 32 rfl
theorem dL_law_120 : decode cL_law 120 = .ok (.invokevirtual 283, 3) := zf_at zf_60 33 rfl
theorem dL_law_123 : decode cL_law 123 = .ok (.invokestatic 323, 3) := zf_at zf_60 34 rfl
theorem dL_law_126 : decode cL_law 126 = .ok (.aload_n 2, 1) := zf_at zf_60 35 rfl
theorem dL_law_127 : decode cL_law 127 = .ok (.getfield 170, 3) := zf_at zf_60 36 rfl
theorem dL_law_130 : decode cL_law 130 = .ok (.if_icmp .ne 26, 3) := zf_at zf_60 37 rfl
theorem dL_law_133 : decode cL_law 133 = .ok (.aload_n 3, 1) := zf_at zf_60 38 rfl
theorem dL_law_134 : decode cL_law 134 = .ok (.invokevirtual 327, 3) := zf_at zf_60 39 rfl
theorem zf_61 : zf_all cL_law [(137, .ifCond .ne 19, 3), (140, .aload_n 3, 1), (141, .invokevirtual 330, 3), (144, .iconst (-1), 1), (145, .if_icmp .ne 11, 3), (148, .aload_n 3, 1), (149, .aload_n 2, 1), (150, .invokestatic 333, 3), (153, .ifCond .ne 5, 3), (156, .iconst 0, 1), (157, .ireturn, 1), (158, .aload_n 1, 1), (159, .iconst 1, 1), (160, .bipush 12, 2), (162, .invokevirtual 205, 3), (165, .istore 4, 2), (167, .iload 4, 2), (169, .ifCond .le 61, 3), (172, .iconst 0, 1), (173, .istore 5, 2), (175, .iload 5, 2), (177, .iconst 3, 1), (178, .if_icmp .ge 20, 3), (181, .aload_n 3, 1), (182, .aload_n 2, 1), (183, .aload_n 1, 1), (184, .invokestatic 337, 3), (187, .ifCond .ne 5, 3), (190, .iconst 0, 1), (191, .ireturn, 1), (192, .iinc 5 1, 3), (195, .goto (-20), 3), (198, .aload_n 3, 1), (199, .aload_n 2, 1), (200, .invokestatic 333, 3), (203, .ifCond .eq 19, 3), (206, .aload_n 3, 1), (207, .aload_n 2, 1), (208, .invokestatic 341, 3), (211, .ifCond .eq 11, 3)] = true := by decide +kernel
theorem dL_law_137 : decode cL_law 137 = .ok (.ifCond .ne 19, 3) := zf_at zf_61 0 rfl
theorem dL_law_140 : decode cL_law 140 = .ok (.aload_n 3, 1) := zf_at zf_61 1 rfl
theorem dL_law_141 : decode cL_law 141 = .ok (.invokevirtual 330, 3) := zf_at zf_61 2 rfl
theorem dL_law_144 : decode cL_law 144 = .ok (.iconst (-1), 1) := zf_at zf_61 3 rfl
theorem dL_law_145 : decode cL_law 145 = .ok (.if_icmp .ne 11, 3) := zf_at zf_61 4 rfl
theorem dL_law_148 : decode cL_law 148 = .ok (.aload_n 3, 1) := zf_at zf_61 5 rfl
theorem dL_law_149 : decode cL_law 149 = .ok (.aload_n 2, 1) := zf_at zf_61 6 rfl
theorem dL_law_150 : decode cL_law 150 = .ok (.invokestatic 333, 3) := zf_at zf_61 7 rfl
theorem dL_law_153 : decode cL_law 153 = .ok (.ifCond .ne 5, 3) := zf_at zf_61 8 rfl
theorem dL_law_156 : decode cL_law 156 = .ok (.iconst 0, 1) := zf_at zf_61 9 rfl
theorem dL_law_157 : decode cL_law 157 = .ok (.ireturn, 1) := zf_at zf_61 10 rfl
theorem dL_law_158 : decode cL_law 158 = .ok (.aload_n 1, 1) := zf_at zf_61 11 rfl
theorem dL_law_159 : decode cL_law 159 = .ok (.iconst 1, 1) := zf_at zf_61 12 rfl
theorem dL_law_160 : decode cL_law 160 = .ok (.bipush 12, 2) := zf_at zf_61 13 rfl
theorem dL_law_162 : decode cL_law 162 = .ok (.invokevirtual 205, 3) := zf_at zf_61 14 rfl
theorem dL_law_165 : decode cL_law 165 = .ok (.istore 4, 2) := zf_at zf_61 15 rfl
theorem dL_law_167 : decode cL_law 167 = .ok (.iload 4, 2) := zf_at zf_61 16 rfl
theorem dL_law_169 : decode cL_law 169 = .ok (.ifCond .le 61, 3) := zf_at zf_61 17 rfl
theorem dL_law_172 : decode cL_law 172 = .ok (.iconst 0, 1) := zf_at zf_61 18 rfl
theorem dL_law_173 : decode cL_law 173 = .ok (.istore 5, 2) := zf_at zf_61 19 rfl
theorem dL_law_175 : decode cL_law 175 = .ok (.iload 5, 2) := zf_at zf_61 20 rfl
theorem dL_law_177 : decode cL_law 177 = .ok (.iconst 3, 1) := zf_at zf_61 21 rfl
theorem dL_law_178 : decode cL_law 178 = .ok (.if_icmp .ge 20, 3) := zf_at zf_61 22 rfl
theorem dL_law_181 : decode cL_law 181 = .ok (.aload_n 3, 1) := zf_at zf_61 23 rfl
theorem dL_law_182 : decode cL_law 182 = .ok (.aload_n 2, 1) := zf_at zf_61 24 rfl
theorem dL_law_183 : decode cL_law 183 = .ok (.aload_n 1, 1) := zf_at zf_61 25 rfl
theorem dL_law_184 : decode cL_law 184 = .ok (.invokestatic 337, 3) := zf_at zf_61 26 rfl
theorem dL_law_187 : decode cL_law 187 = .ok (.ifCond .ne 5, 3) := zf_at zf_61 27 rfl
theorem dL_law_190 : decode cL_law 190 = .ok (.iconst 0, 1) := zf_at zf_61 28 rfl
theorem dL_law_191 : decode cL_law 191 = .ok (.ireturn, 1) := zf_at zf_61 29 rfl
theorem dL_law_192 : decode cL_law 192 = .ok (.iinc 5 1, 3) := zf_at zf_61 30 rfl
theorem dL_law_195 : decode cL_law 195 = .ok (.goto (-20), 3) := zf_at zf_61 31 rfl
theorem dL_law_198 : decode cL_law 198 = .ok (.aload_n 3, 1) := zf_at zf_61 32 rfl
theorem dL_law_199 : decode cL_law 199 = .ok (.aload_n 2, 1) := zf_at zf_61 33 rfl
theorem dL_law_200 : decode cL_law 200 = .ok (.invokestatic 333, 3) := zf_at zf_61 34 rfl
theorem dL_law_203 : decode cL_law 203 = .ok (.ifCond .eq 19, 3) := zf_at zf_61 35 rfl
theorem dL_law_206 : decode cL_law 206 = .ok (.aload_n 3, 1) := zf_at zf_61 36 rfl
theorem dL_law_207 : decode cL_law 207 = .ok (.aload_n 2, 1) := zf_at zf_61 37 rfl
theorem dL_law_208 : decode cL_law 208 = .ok (.invokestatic 341, 3) := zf_at zf_61 38 rfl
theorem dL_law_211 : decode cL_law 211 = .ok (.ifCond .eq 11, 3) := zf_at zf_61 39 rfl
theorem zf_62 : zf_all cL_law [(214, .aload_n 3, 1), (215, .aload_n 2, 1), (216, .invokestatic 344, 3), (219, .ifCond .ne 5, 3), (222, .iconst 0, 1), (223, .ireturn, 1), (224, .iinc 4 (-1), 3), (227, .goto (-60), 3), (230, .aload_n 3, 1), (231, .iconst 0, 1), (232, .iconst 1, 1), (233, .newarray .int, 2), (235, .dup, 1), (236, .iconst 0, 1), (237, .bipush 12, 2), (239, .iastore, 1), (240, .invokestatic 189, 3), (243, .iconst 3, 1), (244, .if_icmp .ne 45, 3), (247, .aload_n 3, 1), (248, .iconst 1, 1), (249, .iconst 1, 1), (250, .newarray .int, 2), (252, .dup, 1), (253, .iconst 0, 1), (254, .bipush 6, 2), (256, .iastore, 1), (257, .invokestatic 189, 3), (260, .iconst 3, 1), (261, .if_icmp .ne 28, 3), (264, .aload_n 3, 1), (265, .iconst 2, 1), (266, .iconst 2, 1), (267, .newarray .int, 2), (269, .dup, 1), (270, .iconst 0, 1), (271, .iconst 0, 1), (272, .iastore, 1), (273, .dup, 1), (274, .iconst 1, 1)] = true := by decide +kernel
theorem dL_law_214 : decode cL_law 214 = .ok (.aload_n 3, 1) := zf_at zf_62 0 rfl
theorem dL_law_215 : decode cL_law 215 = .ok (.aload_n 2, 1) := zf_at zf_62 1 rfl
theorem dL_law_216 : decode cL_law 216 = .ok (.invokestatic 344, 3) := zf_at zf_62 2 rfl
theorem dL_law_219 : decode cL_law 219 = .ok (.ifCond .ne 5, 3) := zf_at zf_62 3 rfl
theorem dL_law_222 : decode cL_law 222 = .ok (.iconst 0, 1) := zf_at zf_62 4 rfl
theorem dL_law_223 : decode cL_law 223 = .ok (.ireturn, 1) := zf_at zf_62 5 rfl
theorem dL_law_224 : decode cL_law 224 = .ok (.iinc 4 (-1), 3) := zf_at zf_62 6 rfl
theorem dL_law_227 : decode cL_law 227 = .ok (.goto (-60), 3) := zf_at zf_62 7 rfl
theorem dL_law_230 : decode cL_law 230 = .ok (.aload_n 3, 1) := zf_at zf_62 8 rfl
theorem dL_law_231 : decode cL_law 231 = .ok (.iconst 0, 1) := zf_at zf_62 9 rfl
theorem dL_law_232 : decode cL_law 232 = .ok (.iconst 1, 1) := zf_at zf_62 10 rfl
theorem dL_law_233 : decode cL_law 233 = .ok (.newarray .int, 2) := zf_at zf_62 11 rfl
theorem dL_law_235 : decode cL_law 235 = .ok (.dup, 1) := zf_at zf_62 12 rfl
theorem dL_law_236 : decode cL_law 236 = .ok (.iconst 0, 1) := zf_at zf_62 13 rfl
theorem dL_law_237 : decode cL_law 237 = .ok (.bipush 12, 2) := zf_at zf_62 14 rfl
theorem dL_law_239 : decode cL_law 239 = .ok (.iastore, 1) := zf_at zf_62 15 rfl
theorem dL_law_240 : decode cL_law 240 = .ok (.invokestatic 189, 3) := zf_at zf_62 16 rfl
theorem dL_law_243 : decode cL_law 243 = .ok (.iconst 3, 1) := zf_at zf_62 17 rfl
theorem dL_law_244 : decode cL_law 244 = .ok (.if_icmp .ne 45, 3) := zf_at zf_62 18 rfl
theorem dL_law_247 : decode cL_law 247 = .ok (.aload_n 3, 1) := zf_at zf_62 19 rfl
theorem dL_law_248 : decode cL_law 248 = .ok (.iconst 1, 1) := zf_at zf_62 20 rfl
theorem dL_law_249 : decode cL_law 249 = .ok (.iconst 1, 1) := zf_at zf_62 21 rfl
theorem dL_law_250 : decode cL_law 250 = .ok (.newarray .int, 2) := zf_at zf_62 22 rfl
theorem dL_law_252 : decode cL_law 252 = .ok (.dup, 1) := zf_at zf_62 23 rfl
theorem dL_law_253 : decode cL_law 253 = .ok (.iconst 0, 1) := zf_at zf_62 24 rfl
theorem dL_law_254 : decode cL_law 254 = .ok (.bipush 6, 2) := zf_at zf_62 25 rfl
theorem dL_law_256 : decode cL_law 256 = .ok (.iastore, 1) := zf_at zf_62 26 rfl
theorem dL_law_257 : decode cL_law 257 = .ok (.invokestatic 189, 3) := zf_at zf_62 27 rfl
theorem dL_law_260 : decode cL_law 260 = .ok (.iconst 3, 1) := zf_at zf_62 28 rfl
theorem dL_law_261 : decode cL_law 261 = .ok (.if_icmp .ne 28, 3) := zf_at zf_62 29 rfl
theorem dL_law_264 : decode cL_law 264 = .ok (.aload_n 3, 1) := zf_at zf_62 30 rfl
theorem dL_law_265 : decode cL_law 265 = .ok (.iconst 2, 1) := zf_at zf_62 31 rfl
theorem dL_law_266 : decode cL_law 266 = .ok (.iconst 2, 1) := zf_at zf_62 32 rfl
theorem dL_law_267 : decode cL_law 267 = .ok (.newarray .int, 2) := zf_at zf_62 33 rfl
theorem dL_law_269 : decode cL_law 269 = .ok (.dup, 1) := zf_at zf_62 34 rfl
theorem dL_law_270 : decode cL_law 270 = .ok (.iconst 0, 1) := zf_at zf_62 35 rfl
theorem dL_law_271 : decode cL_law 271 = .ok (.iconst 0, 1) := zf_at zf_62 36 rfl
theorem dL_law_272 : decode cL_law 272 = .ok (.iastore, 1) := zf_at zf_62 37 rfl
theorem dL_law_273 : decode cL_law 273 = .ok (.dup, 1) := zf_at zf_62 38 rfl
theorem dL_law_274 : decode cL_law 274 = .ok (.iconst 1, 1) := zf_at zf_62 39 rfl
theorem zf_63 : zf_all cL_law [(275, .bipush 9, 2), (277, .iastore, 1), (278, .invokestatic 189, 3), (281, .iconst 3, 1), (282, .if_icmp .ne 7, 3), (285, .iconst 1, 1), (286, .goto 4, 3), (289, .iconst 0, 1), (290, .ireturn, 1)] = true := by decide +kernel
theorem dL_law_275 : decode cL_law 275 = .ok (.bipush 9, 2) := zf_at zf_63 0 rfl
theorem dL_law_277 : decode cL_law 277 = .ok (.iastore, 1) := zf_at zf_63 1 rfl
theorem dL_law_278 : decode cL_law 278 = .ok (.invokestatic 189, 3) := zf_at zf_63 2 rfl
theorem dL_law_281 : decode cL_law 281 = .ok (.iconst 3, 1) := zf_at zf_63 3 rfl
theorem dL_law_282 : decode cL_law 282 = .ok (.if_icmp .ne 7, 3) := zf_at zf_63 4 rfl
theorem dL_law_285 : decode cL_law 285 = .ok (.iconst 1, 1) := zf_at zf_63 5 rfl
theorem dL_law_286 : decode cL_law 286 = .ok (.goto 4, 3) := zf_at zf_63 6 rfl
theorem dL_law_289 : decode cL_law 289 = .ok (.iconst 0, 1) := zf_at zf_63 7 rfl
theorem dL_law_290 : decode cL_law 290 = .ok (.ireturn, 1) := zf_at zf_63 8 rfl
