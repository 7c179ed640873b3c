/-! THE LAW: its cases, one call each -/
theorem vzX6_append : ax_VL RL 178 yX6_append cX6_append 6 (some (.int)) 5 := ⟨kz_0, kz_1, kz_2, by decide +kernel⟩
theorem vivzX6_append : ax_VI yX6_append := ⟨kz_3, kz_4⟩
theorem vzX7_append : ax_VL RL 182 yX7_append cX7_append 8 (some (.int)) 5 := ⟨kz_5, kz_6, kz_7, by decide +kernel⟩
theorem vivzX7_append : ax_VI yX7_append := ⟨kz_8, kz_9⟩
theorem zs_load : zz_VS 183 yL_load cL_load 4 (some (.int)) [(0, 9, 12, 13), (0, 9, 15, 15)] 3 := ⟨kz_10, kz_11, kz_12, kz_13, by decide +kernel⟩
theorem vzX7_load : ax_VL RL 188 yX7_load cX7_load 2 (some (.int)) 1 := ⟨kz_14, kz_6, kz_15, by decide +kernel⟩
theorem vivzX7_load : ax_VI yX7_load := ⟨kz_16, kz_17⟩
theorem vzX7_thrown : ax_VL RL 189 yX7_thrown cX7_thrown 1 (some (.int)) 0 := ⟨kz_18, kz_6, kz_19, by decide +kernel⟩
theorem vivzX7_thrown : ax_VI yX7_thrown := ⟨kz_20, kz_21⟩
theorem vzX6_parseError : ax_VL RL 192 yX6_parseError cX6_parseError 1 (some (.int)) 0 := ⟨kz_22, kz_1, kz_23, by decide +kernel⟩
theorem vivzX6_parseError : ax_VI yX6_parseError := ⟨kz_24, kz_25⟩
theorem vzX7_parseError : ax_VL RL 195 yX7_parseError cX7_parseError 1 (some (.int)) 0 := ⟨kz_26, kz_6, kz_27, by decide +kernel⟩
theorem vivzX7_parseError : ax_VI yX7_parseError := ⟨kz_28, kz_29⟩
theorem vzX6_errorPosition : ax_VL RL 196 yX6_errorPosition cX6_errorPosition 1 (some (.int)) 0 := ⟨kz_30, kz_1, kz_31, by decide +kernel⟩
theorem vivzX6_errorPosition : ax_VI yX6_errorPosition := ⟨kz_32, kz_33⟩
theorem vzX7_errorPosition : ax_VL RL 199 yX7_errorPosition cX7_errorPosition 1 (some (.int)) 0 := ⟨kz_34, kz_6, kz_35, by decide +kernel⟩
theorem vivzX7_errorPosition : ax_VI yX7_errorPosition := ⟨kz_36, kz_37⟩
theorem vzX6_buffered : ax_VL RL 200 yX6_buffered cX6_buffered 1 (some (.int)) 0 := ⟨kz_38, kz_1, kz_39, by decide +kernel⟩
theorem vivzX6_buffered : ax_VI yX6_buffered := ⟨kz_40, kz_41⟩
theorem vzX7_buffered : ax_VL RL 203 yX7_buffered cX7_buffered 1 (some (.int)) 0 := ⟨kz_42, kz_6, kz_43, by decide +kernel⟩
theorem vivzX7_buffered : ax_VI yX7_buffered := ⟨kz_44, kz_45⟩
theorem zs_count : zz_VS 204 yL_count cL_count 4 (some (.int)) [(0, 9, 12, 20), (0, 9, 15, 15)] 3 := ⟨kz_46, kz_47, kz_12, kz_48, by decide +kernel⟩
theorem vzX7_count : ax_VL RL 206 yX7_count cX7_count 2 (some (.int)) 1 := ⟨kz_49, kz_6, kz_50, by decide +kernel⟩
theorem vivzX7_count : ax_VI yX7_count := ⟨kz_51, kz_52⟩
theorem zs_setting : zz_VS 207 yL_setting cL_setting 4 (some (.int)) [(0, 9, 12, 20), (0, 9, 15, 15)] 3 := ⟨kz_53, kz_54, kz_12, kz_55, by decide +kernel⟩
theorem vzX7_setting : ax_VL RL 209 yX7_setting cX7_setting 2 (some (.int)) 1 := ⟨kz_56, kz_6, kz_57, by decide +kernel⟩
theorem vivzX7_setting : ax_VI yX7_setting := ⟨kz_58, kz_59⟩
theorem zs_row : zz_VS 210 yL_row cL_row 5 (some (.int)) [(0, 10, 13, 20), (0, 10, 17, 13), (0, 10, 21, 15)] 4 := ⟨kz_60, kz_61, kz_12, kz_62, by decide +kernel⟩
theorem vzX7_row : ax_VL RL 213 yX7_row cX7_row 3 (some (.int)) 2 := ⟨kz_63, kz_6, kz_64, by decide +kernel⟩
theorem vivzX7_row : ax_VI yX7_row := ⟨kz_65, kz_66⟩
theorem zs_block : zz_VS 214 yL_block cL_block 5 (some (.int)) [(0, 10, 13, 20), (0, 10, 17, 13)] 4 := ⟨kz_67, kz_68, kz_12, kz_69, by decide +kernel⟩
theorem vzX7_block : ax_VL RL 216 yX7_block cX7_block 3 (some (.int)) 2 := ⟨kz_70, kz_6, kz_71, by decide +kernel⟩
theorem vivzX7_block : ax_VI yX7_block := ⟨kz_72, kz_73⟩
theorem zs_piece : zz_VS 217 yL_piece cL_piece 5 (some (.int)) [(0, 10, 13, 20), (0, 10, 17, 13)] 4 := ⟨kz_74, kz_75, kz_12, kz_76, by decide +kernel⟩
theorem vzX7_piece : ax_VL RL 219 yX7_piece cX7_piece 3 (some (.int)) 2 := ⟨kz_77, kz_6, kz_78, by decide +kernel⟩
theorem vivzX7_piece : ax_VI yX7_piece := ⟨kz_79, kz_80⟩
theorem zs_kind : zz_VS 220 yL_kind cL_kind 5 (some (.int)) [(0, 10, 13, 20), (0, 10, 17, 13), (0, 10, 21, 15)] 4 := ⟨kz_81, kz_82, kz_12, kz_83, by decide +kernel⟩
theorem vzX7_kind : ax_VL RL 222 yX7_kind cX7_kind 3 (some (.int)) 2 := ⟨kz_84, kz_6, kz_85, by decide +kernel⟩
theorem vivzX7_kind : ax_VI yX7_kind := ⟨kz_86, kz_87⟩
theorem zs_kindOf : zz_VS 223 yL_kindOf cL_kindOf 5 (some (.int)) [(0, 10, 13, 20)] 4 := ⟨kz_88, kz_89, kz_12, kz_90, by decide +kernel⟩
theorem vzX7_kindOf : ax_VL RL 226 yX7_kindOf cX7_kindOf 3 (some (.int)) 2 := ⟨kz_91, kz_6, kz_92, by decide +kernel⟩
theorem vivzX7_kindOf : ax_VI yX7_kindOf := ⟨kz_93, kz_94⟩
theorem zs_isTight : zz_VS 227 yL_isTight cL_isTight 4 (some (.int)) [(0, 16, 19, 20), (0, 16, 22, 13)] 3 := ⟨kz_95, kz_96, kz_12, kz_97, by decide +kernel⟩
theorem vzX7_isTight : ax_VL RL 229 yX7_isTight cX7_isTight 2 (some (.boolean)) 1 := ⟨kz_98, kz_6, kz_99, by decide +kernel⟩
theorem vivzX7_isTight : ax_VI yX7_isTight := ⟨kz_100, kz_101⟩
theorem zs_widestGap : zz_VS 230 yL_widestGap cL_widestGap 3 (some (.int)) [(0, 8, 11, 20)] 2 := ⟨kz_102, kz_103, kz_12, kz_104, by decide +kernel⟩
theorem vzX7_widestGap : ax_VL RL 233 yX7_widestGap cX7_widestGap 3 (some (.int)) 0 := ⟨kz_105, kz_6, kz_106, by decide +kernel⟩
theorem vivzX7_widestGap : ax_VI yX7_widestGap := ⟨kz_107, kz_108⟩
theorem zs_loosest : zz_VS 234 yL_loosest cL_loosest 3 (some (.int)) [(0, 8, 11, 20)] 2 := ⟨kz_109, kz_110, kz_12, kz_111, by decide +kernel⟩
theorem vzX7_loosest : ax_VL RL 236 yX7_loosest cX7_loosest 3 (some (.int)) 0 := ⟨kz_112, kz_6, kz_113, by decide +kernel⟩
theorem vivzX7_loosest : ax_VI yX7_loosest := ⟨kz_114, kz_115⟩
theorem zs_longestLeft : zz_VS 237 yL_longestLeft cL_longestLeft 3 (some (.int)) [(0, 8, 11, 20)] 2 := ⟨kz_116, kz_117, kz_12, kz_118, by decide +kernel⟩
theorem vzX7_longestLeft : ax_VL RL 239 yX7_longestLeft cX7_longestLeft 3 (some (.int)) 0 := ⟨kz_119, kz_6, kz_120, by decide +kernel⟩
theorem vivzX7_longestLeft : ax_VI yX7_longestLeft := ⟨kz_121, kz_122⟩
theorem zs_lengthLeft : zz_VS 240 yL_lengthLeft cL_lengthLeft 3 (some (.int)) [(0, 8, 11, 20)] 2 := ⟨kz_123, kz_124, kz_12, kz_125, by decide +kernel⟩
theorem vzX7_lengthLeft : ax_VL RL 242 yX7_lengthLeft cX7_lengthLeft 1 (some (.int)) 0 := ⟨kz_126, kz_6, kz_127, by decide +kernel⟩
theorem vivzX7_lengthLeft : ax_VI yX7_lengthLeft := ⟨kz_128, kz_129⟩
theorem zs_meanGap : zz_VS 243 yL_meanGap cL_meanGap 3 (some (.int)) [(0, 7, 10, 20)] 2 := ⟨kz_130, kz_131, kz_12, kz_132, by decide +kernel⟩
theorem vzX7_meanGap : ax_VL RL 246 yX7_meanGap cX7_meanGap 3 (some (.double)) 0 := ⟨kz_133, kz_6, kz_134, by decide +kernel⟩
theorem vivzX7_meanGap : ax_VI yX7_meanGap := ⟨kz_135, kz_136⟩
theorem zs_woodShare : zz_VS 247 yL_woodShare cL_woodShare 3 (some (.int)) [(0, 8, 11, 20)] 2 := ⟨kz_137, kz_138, kz_12, kz_139, by decide +kernel⟩
theorem vzX7_woodShare : ax_VL RL 249 yX7_woodShare cX7_woodShare 3 (some (.float)) 0 := ⟨kz_140, kz_6, kz_141, by decide +kernel⟩
theorem vivzX7_woodShare : ax_VI yX7_woodShare := ⟨kz_142, kz_143⟩
theorem zs_goodShare : zz_VS 250 yL_goodShare cL_goodShare 3 (some (.int)) [(0, 8, 11, 20)] 2 := ⟨kz_144, kz_145, kz_12, kz_146, by decide +kernel⟩
theorem vzX7_goodShare : ax_VL RL 252 yX7_goodShare cX7_goodShare 1 (some (.float)) 0 := ⟨kz_147, kz_6, kz_148, by decide +kernel⟩
theorem vivzX7_goodShare : ax_VI yX7_goodShare := ⟨kz_149, kz_150⟩
theorem zs_choice : zz_VS 253 yL_choice cL_choice 5 (some (.int)) [(0, 10, 13, 20), (0, 10, 17, 13), (0, 10, 21, 15)] 4 := ⟨kz_151, kz_152, kz_12, kz_153, by decide +kernel⟩
theorem vzX7_choice : ax_VL RL 255 yX7_choice cX7_choice 3 (some (.int)) 2 := ⟨kz_154, kz_6, kz_155, by decide +kernel⟩
theorem vivzX7_choice : ax_VI yX7_choice := ⟨kz_156, kz_157⟩
theorem zs_chosen : zz_VS 256 yL_chosen cL_chosen 5 (some (.int)) [(0, 10, 13, 20), (0, 10, 17, 13)] 4 := ⟨kz_158, kz_159, kz_12, kz_160, by decide +kernel⟩
theorem vzX7_chosen : ax_VL RL 258 yX7_chosen cX7_chosen 3 (some (.int)) 2 := ⟨kz_161, kz_6, kz_162, by decide +kernel⟩
theorem vivzX7_chosen : ax_VI yX7_chosen := ⟨kz_163, kz_164⟩
theorem zs_ways : zz_VS 259 yL_ways cL_ways 4 (some (.int)) [(0, 9, 12, 20), (0, 9, 15, 13)] 3 := ⟨kz_165, kz_166, kz_12, kz_167, by decide +kernel⟩
theorem vzX7_ways : ax_VL RL 261 yX7_ways cX7_ways 7 (some (.int)) 1 := ⟨kz_168, kz_6, kz_169, by decide +kernel⟩
theorem vivzX7_ways : ax_VI yX7_ways := ⟨kz_170, kz_171⟩
theorem zs_nearest : zz_VS 262 yL_nearest cL_nearest 4 (some (.int)) [(0, 9, 12, 20), (0, 9, 15, 13)] 3 := ⟨kz_172, kz_173, kz_12, kz_174, by decide +kernel⟩
theorem vzX7_nearest : ax_VL RL 264 yX7_nearest cX7_nearest 9 (some (.int)) 1 := ⟨kz_175, kz_6, kz_176, by decide +kernel⟩
theorem vivzX7_nearest : ax_VI yX7_nearest := ⟨kz_177, kz_178⟩
theorem zs_fewestAt : zz_VS 265 yL_fewestAt cL_fewestAt 5 (some (.int)) [(0, 10, 13, 20), (0, 10, 17, 13), (0, 10, 21, 15)] 4 := ⟨kz_179, kz_180, kz_12, kz_181, by decide +kernel⟩
theorem vzX7_fewestAt : ax_VL RL 267 yX7_fewestAt cX7_fewestAt 3 (some (.int)) 2 := ⟨kz_182, kz_6, kz_183, by decide +kernel⟩
theorem vivzX7_fewestAt : ax_VI yX7_fewestAt := ⟨kz_184, kz_185⟩
theorem zs_rowFor : zz_VS 268 yL_rowFor cL_rowFor 4 (some (.int)) [(0, 9, 12, 20), (0, 9, 15, 15)] 3 := ⟨kz_186, kz_187, kz_12, kz_188, by decide +kernel⟩
theorem vzX7_rowFor : ax_VL RL 270 yX7_rowFor cX7_rowFor 6 (some (.int)) 1 := ⟨kz_189, kz_6, kz_190, by decide +kernel⟩
theorem vivzX7_rowFor : ax_VI yX7_rowFor := ⟨kz_191, kz_192⟩
theorem zs_missing : zz_VS 271 yL_missing cL_missing 4 (some (.int)) [(0, 9, 12, 20), (0, 9, 15, 13)] 3 := ⟨kz_193, kz_194, kz_12, kz_195, by decide +kernel⟩
theorem vzX7_missing : ax_VL RL 273 yX7_missing cX7_missing 5 (some (.int)) 1 := ⟨kz_196, kz_6, kz_197, by decide +kernel⟩
theorem vivzX7_missing : ax_VI yX7_missing := ⟨kz_198, kz_199⟩
theorem zs_canPut : zz_VS 274 yL_canPut cL_canPut 5 (some (.int)) [(0, 17, 20, 20), (0, 17, 24, 13)] 4 := ⟨kz_200, kz_201, kz_12, kz_202, by decide +kernel⟩
theorem vzX7_canPut : ax_VL RL 276 yX7_canPut cX7_canPut 3 (some (.boolean)) 2 := ⟨kz_203, kz_6, kz_204, by decide +kernel⟩
theorem vivzX7_canPut : ax_VI yX7_canPut := ⟨kz_205, kz_206⟩
theorem zs_freshChoice : zz_VS 277 yL_freshChoice cL_freshChoice 4 (some (.int)) [(0, 9, 12, 20), (0, 9, 15, 13)] 3 := ⟨kz_207, kz_208, kz_12, kz_209, by decide +kernel⟩
theorem vzX7_freshChoice : ax_VL RL 279 yX7_freshChoice cX7_freshChoice 4 (some (.int)) 1 := ⟨kz_210, kz_6, kz_211, by decide +kernel⟩
theorem vivzX7_freshChoice : ax_VI yX7_freshChoice := ⟨kz_212, kz_213⟩
theorem zs_fillable : zz_VS 280 yL_fillable cL_fillable 4 (some (.int)) [(0, 9, 12, 20), (0, 9, 15, 15)] 3 := ⟨kz_214, kz_215, kz_12, kz_216, by decide +kernel⟩
theorem vzX7_fillable : ax_VL RL 282 yX7_fillable cX7_fillable 4 (some (.int)) 1 := ⟨kz_217, kz_6, kz_218, by decide +kernel⟩
theorem vivzX7_fillable : ax_VI yX7_fillable := ⟨kz_219, kz_220⟩
theorem zs_fallsIn : zz_VS 283 yL_fallsIn cL_fallsIn 5 (some (.int)) [(0, 10, 13, 20), (0, 10, 17, 13)] 4 := ⟨kz_221, kz_222, kz_12, kz_223, by decide +kernel⟩
theorem vzX7_fallsIn : ax_VL RL 286 yX7_fallsIn cX7_fallsIn 4 (some (.int)) 2 := ⟨kz_224, kz_6, kz_225, by decide +kernel⟩
theorem vivzX7_fallsIn : ax_VI yX7_fallsIn := ⟨kz_226, kz_227⟩
theorem zs_goodIn : zz_VS 287 yL_goodIn cL_goodIn 4 (some (.int)) [(0, 9, 12, 20), (0, 9, 15, 15)] 3 := ⟨kz_228, kz_229, kz_12, kz_230, by decide +kernel⟩
theorem vzX7_goodIn : ax_VL RL 289 yX7_goodIn cX7_goodIn 5 (some (.int)) 1 := ⟨kz_231, kz_6, kz_232, by decide +kernel⟩
theorem vivzX7_goodIn : ax_VI yX7_goodIn := ⟨kz_233, kz_234⟩
theorem zs_lockable : zz_VS 290 yL_lockable cL_lockable 3 (some (.int)) [(0, 8, 11, 20)] 2 := ⟨kz_235, kz_236, kz_12, kz_237, by decide +kernel⟩
theorem vzX7_lockable : ax_VL RL 292 yX7_lockable cX7_lockable 3 (some (.int)) 0 := ⟨kz_238, kz_6, kz_239, by decide +kernel⟩
theorem vivzX7_lockable : ax_VI yX7_lockable := ⟨kz_240, kz_241⟩
theorem zs_lockedAll : zz_VS 293 yL_lockedAll cL_lockedAll 3 (some (.int)) [(0, 8, 11, 20)] 2 := ⟨kz_242, kz_243, kz_12, kz_244, by decide +kernel⟩
theorem vzX7_lockedAll : ax_VL RL 295 yX7_lockedAll cX7_lockedAll 3 (some (.int)) 0 := ⟨kz_245, kz_6, kz_246, by decide +kernel⟩
theorem vivzX7_lockedAll : ax_VI yX7_lockedAll := ⟨kz_247, kz_248⟩
theorem zs_writeRow : zz_VS 296 yL_writeRow cL_writeRow 4 (some (.int)) [(0, 9, 12, 20), (0, 9, 15, 13)] 3 := ⟨kz_249, kz_250, kz_12, kz_251, by decide +kernel⟩
theorem vzX7_writeRow : ax_VL RL 298 yX7_writeRow cX7_writeRow 3 (some (.int)) 1 := ⟨kz_252, kz_6, kz_253, by decide +kernel⟩
theorem vivzX7_writeRow : ax_VI yX7_writeRow := ⟨kz_254, kz_255⟩
theorem zs_writeChoice : zz_VS 299 yL_writeChoice cL_writeChoice 4 (some (.int)) [(0, 9, 12, 20), (0, 9, 15, 13)] 3 := ⟨kz_256, kz_257, kz_12, kz_258, by decide +kernel⟩
theorem vzX7_writeChoice : ax_VL RL 301 yX7_writeChoice cX7_writeChoice 3 (some (.int)) 1 := ⟨kz_259, kz_6, kz_260, by decide +kernel⟩
theorem vivzX7_writeChoice : ax_VI yX7_writeChoice := ⟨kz_261, kz_262⟩
theorem zs_writeStock : zz_VS 302 yL_writeStock cL_writeStock 3 (some (.int)) [(0, 8, 11, 20)] 2 := ⟨kz_263, kz_264, kz_12, kz_265, by decide +kernel⟩
theorem vzX7_writeStock : ax_VL RL 304 yX7_writeStock cX7_writeStock 2 (some (.int)) 0 := ⟨kz_266, kz_6, kz_267, by decide +kernel⟩
theorem vivzX7_writeStock : ax_VI yX7_writeStock := ⟨kz_268, kz_269⟩
theorem zs_textByte : zz_VS 305 yL_textByte cL_textByte 4 (some (.int)) [(0, 9, 12, 13)] 3 := ⟨kz_270, kz_271, kz_12, kz_272, by decide +kernel⟩
theorem vzX7_textByte : ax_VL RL 307 yX7_textByte cX7_textByte 2 (some (.int)) 1 := ⟨kz_273, kz_6, kz_274, by decide +kernel⟩
theorem vivzX7_textByte : ax_VI yX7_textByte := ⟨kz_275, kz_276⟩
theorem zs_place : zz_VS 308 yL_place cL_place 5 (some (.int)) [(0, 10, 13, 20), (0, 10, 17, 13), (0, 10, 21, 15)] 4 := ⟨kz_277, kz_278, kz_12, kz_279, by decide +kernel⟩
theorem vzX7_place : ax_VL RL 310 yX7_place cX7_place 3 (some (.int)) 2 := ⟨kz_280, kz_6, kz_281, by decide +kernel⟩
theorem vivzX7_place : ax_VI yX7_place := ⟨kz_282, kz_283⟩
theorem zs_lift : zz_VS 311 yL_lift cL_lift 5 (some (.int)) [(0, 10, 13, 20), (0, 10, 17, 13)] 4 := ⟨kz_284, kz_285, kz_12, kz_286, by decide +kernel⟩
theorem vzX7_lift : ax_VL RL 313 yX7_lift cX7_lift 5 (some (.int)) 2 := ⟨kz_287, kz_6, kz_288, by decide +kernel⟩
theorem vivzX7_lift : ax_VI yX7_lift := ⟨kz_289, kz_290⟩
theorem zs_put : zz_VS 314 yL_put cL_put 5 (some (.int)) [(0, 10, 13, 20), (0, 10, 17, 13), (0, 10, 21, 15)] 4 := ⟨kz_291, kz_292, kz_12, kz_293, by decide +kernel⟩
theorem vzX7_put : ax_VL RL 316 yX7_put cX7_put 3 (some (.int)) 2 := ⟨kz_294, kz_6, kz_295, by decide +kernel⟩
theorem vivzX7_put : ax_VI yX7_put := ⟨kz_296, kz_297⟩
theorem zs_take : zz_VS 317 yL_take cL_take 5 (some (.int)) [(0, 10, 13, 20), (0, 10, 17, 13)] 4 := ⟨kz_298, kz_299, kz_12, kz_300, by decide +kernel⟩
theorem vzX7_take : ax_VL RL 319 yX7_take cX7_take 5 (some (.int)) 2 := ⟨kz_301, kz_6, kz_302, by decide +kernel⟩
theorem vivzX7_take : ax_VI yX7_take := ⟨kz_303, kz_304⟩
theorem zs_quoin : zz_VS 320 yL_quoin cL_quoin 5 (some (.int)) [(0, 10, 13, 20), (0, 10, 17, 13), (0, 10, 21, 15)] 4 := ⟨kz_305, kz_306, kz_12, kz_307, by decide +kernel⟩
theorem vzX7_quoin : ax_VL RL 322 yX7_quoin cX7_quoin 3 (some (.int)) 2 := ⟨kz_308, kz_6, kz_309, by decide +kernel⟩
theorem vivzX7_quoin : ax_VI yX7_quoin := ⟨kz_310, kz_311⟩
theorem zs_open : zz_VS 323 yL_open cL_open 5 (some (.int)) [(0, 10, 13, 20), (0, 10, 17, 13), (0, 10, 21, 15)] 4 := ⟨kz_312, kz_313, kz_12, kz_314, by decide +kernel⟩
theorem vzX7_open : ax_VL RL 325 yX7_open cX7_open 3 (some (.int)) 2 := ⟨kz_315, kz_6, kz_316, by decide +kernel⟩
theorem vivzX7_open : ax_VI yX7_open := ⟨kz_317, kz_318⟩
theorem zs_lock : zz_VS 326 yL_lock cL_lock 4 (some (.int)) [(0, 9, 12, 20), (0, 9, 15, 13), (0, 9, 18, 15)] 3 := ⟨kz_319, kz_320, kz_12, kz_321, by decide +kernel⟩
theorem vzX7_lock : ax_VL RL 328 yX7_lock cX7_lock 3 (some (.int)) 1 := ⟨kz_322, kz_6, kz_323, by decide +kernel⟩
theorem vivzX7_lock : ax_VI yX7_lock := ⟨kz_324, kz_325⟩
theorem zs_unlock : zz_VS 329 yL_unlock cL_unlock 4 (some (.int)) [(0, 9, 12, 20), (0, 9, 15, 13)] 3 := ⟨kz_326, kz_327, kz_12, kz_328, by decide +kernel⟩
theorem vzX7_unlock : ax_VL RL 331 yX7_unlock cX7_unlock 2 (some (.int)) 1 := ⟨kz_329, kz_6, kz_330, by decide +kernel⟩
theorem vivzX7_unlock : ax_VI yX7_unlock := ⟨kz_331, kz_332⟩
theorem zs_relock : zz_VS 332 yL_relock cL_relock 4 (some (.int)) [(0, 9, 12, 20), (0, 9, 15, 13), (0, 9, 18, 15)] 3 := ⟨kz_333, kz_334, kz_12, kz_335, by decide +kernel⟩
theorem vzX7_relock : ax_VL RL 334 yX7_relock cX7_relock 5 (some (.int)) 1 := ⟨kz_336, kz_6, kz_337, by decide +kernel⟩
theorem vivzX7_relock : ax_VI yX7_relock := ⟨kz_338, kz_339⟩
theorem zs_tighten : zz_VS 335 yL_tighten cL_tighten 4 (some (.int)) [(0, 9, 12, 20), (0, 9, 15, 13), (0, 9, 18, 15)] 3 := ⟨kz_340, kz_341, kz_12, kz_342, by decide +kernel⟩
theorem vzX7_tighten : ax_VL RL 337 yX7_tighten cX7_tighten 2 (some (.int)) 1 := ⟨kz_343, kz_6, kz_344, by decide +kernel⟩
theorem vivzX7_tighten : ax_VI yX7_tighten := ⟨kz_345, kz_346⟩
theorem zs_print : zz_VS 338 yL_print cL_print 4 (some (.int)) [(0, 9, 12, 20), (0, 9, 15, 15)] 3 := ⟨kz_347, kz_348, kz_12, kz_349, by decide +kernel⟩
theorem vzX7_print : ax_VL RL 340 yX7_print cX7_print 5 (some (.int)) 1 := ⟨kz_350, kz_6, kz_351, by decide +kernel⟩
theorem vivzX7_print : ax_VI yX7_print := ⟨kz_352, kz_353⟩
theorem zs_rest : zz_VS 341 yL_rest cL_rest 4 (some (.int)) [(0, 9, 12, 20), (0, 9, 15, 15)] 3 := ⟨kz_354, kz_355, kz_12, kz_356, by decide +kernel⟩
theorem vzX7_rest : ax_VL RL 343 yX7_rest cX7_rest 4 (some (.int)) 1 := ⟨kz_357, kz_6, kz_358, by decide +kernel⟩
theorem vivzX7_rest : ax_VI yX7_rest := ⟨kz_359, kz_360⟩
theorem zs_buy : zz_VS 344 yL_buy cL_buy 5 (some (.int)) [(0, 10, 13, 20), (0, 10, 17, 13), (0, 10, 21, 15)] 4 := ⟨kz_361, kz_362, kz_12, kz_363, by decide +kernel⟩
theorem vzX7_buy : ax_VL RL 346 yX7_buy cX7_buy 3 (some (.int)) 2 := ⟨kz_364, kz_6, kz_365, by decide +kernel⟩
theorem vivzX7_buy : ax_VI yX7_buy := ⟨kz_366, kz_367⟩
theorem zs_undo : zz_VS 347 yL_undo cL_undo 3 (some (.int)) [(0, 8, 11, 20)] 2 := ⟨kz_368, kz_369, kz_12, kz_370, by decide +kernel⟩
theorem vzX7_undo : ax_VL RL 349 yX7_undo cX7_undo 1 (some (.int)) 0 := ⟨kz_371, kz_6, kz_372, by decide +kernel⟩
theorem vivzX7_undo : ax_VI yX7_undo := ⟨kz_373, kz_374⟩
theorem vzX6_undoable : ax_VL RL 350 yX6_undoable cX6_undoable 1 (some (.int)) 0 := ⟨kz_375, kz_1, kz_376, by decide +kernel⟩
theorem vivzX6_undoable : ax_VI yX6_undoable := ⟨kz_377, kz_378⟩
theorem vzX7_undoable : ax_VL RL 353 yX7_undoable cX7_undoable 1 (some (.int)) 0 := ⟨kz_379, kz_6, kz_380, by decide +kernel⟩
theorem vivzX7_undoable : ax_VI yX7_undoable := ⟨kz_381, kz_382⟩
theorem zs_save : zz_VS 354 yL_save cL_save 4 (some (.int)) [(0, 9, 12, 20), (0, 9, 15, 13)] 3 := ⟨kz_383, kz_384, kz_12, kz_385, by decide +kernel⟩
theorem vzX7_save : ax_VL RL 356 yX7_save cX7_save 2 (some (.int)) 1 := ⟨kz_386, kz_6, kz_387, by decide +kernel⟩
theorem vivzX7_save : ax_VI yX7_save := ⟨kz_388, kz_389⟩
theorem zs_restore : zz_VS 357 yL_restore cL_restore 4 (some (.int)) [(0, 9, 12, 13), (0, 9, 15, 20)] 3 := ⟨kz_390, kz_391, kz_12, kz_392, by decide +kernel⟩
theorem vzX7_restore : ax_VL RL 359 yX7_restore cX7_restore 2 (some (.int)) 1 := ⟨kz_393, kz_6, kz_394, by decide +kernel⟩
theorem vivzX7_restore : ax_VI yX7_restore := ⟨kz_395, kz_396⟩
theorem vzX6_init : ax_VL RL 174 yX6_init cX6_init 2 (none) 0 := ⟨kz_397, kz_1, kz_398, by decide +kernel⟩
theorem zivzX6_init : Cond.instanceMethod yX6_init ∈ ax_ALL := kz_399
theorem vzX7_init : ax_VL RL 177 yX7_init cX7_init 1 (none) 0 := ⟨kz_400, kz_6, kz_401, by decide +kernel⟩
theorem zivzX7_init : Cond.instanceMethod yX7_init ∈ ax_ALL := kz_402
theorem zi_cl6 : Cond.classLink RL 8 RX6 ∈ ax_ALL := kz_403
theorem zi_cl7 : Cond.classLink RL 175 RX7 ∈ ax_ALL := kz_404
theorem zi_aL : Cond.arrayClass (newarray.typeOf .long) ∈ ax_ALL := kz_405
theorem zi_aD : Cond.arrayClass (newarray.typeOf .double) ∈ ax_ALL := kz_406
def zz_in (i : Int32) (L : Nat) : Prop := vp_in (i + 1) L ∧ vp_in (i + 2) L ∧ vp_in (i + 3) L ∧ vp_in (i + 4) L ∧ vp_in (i + 5) L
/-- from this place, after n calls -/
def zz_N (Γ : CX) (b : Nat) (Q : State → Prop) (C0 N0 n : Nat) (K : Nat × Nat) (pc : Nat) (i : Int32) : Prop :=
  ∀ (pl sp tv cap : Nat) (c : CC) (A : AI) (J : JI) (M : AI) (g : Int → Int), Inv C0 N0 n pl sp tv cap c A J M g → LW Γ b Q pc (zz_lv i) [] (CW c A J) (NW K (mg M g))
theorem zz_st {Γ : CX} {b L : Nat} {xs : Nat → Int32} (C : zz_C Γ b L xs) : (cx_l Γ).stackTraces = false := C.1.2.2.2.2.2.2.2.2.1
theorem zs_0 {σ : AS} (h : 457 ≤ ax_z σ) : ax_sv σ (.ref 0) := Or.inl (Nat.lt_of_lt_of_le (by decide) h)
theorem zs_455 {σ : AS} (h : 457 ≤ ax_z σ) : ax_sv σ (.ref 455) := Or.inl (Nat.lt_of_lt_of_le (by decide) h)
theorem zs_456 {σ : AS} (h : 457 ≤ ax_z σ) : ax_sv σ (.ref 456) := Or.inl (Nat.lt_of_lt_of_le (by decide) h)
theorem zc_0 {Γ : CX} {b L : Nat} {xs : Nat → Int32} {Q : State → Prop} {C0 N0 n : Nat} {K : Nat × Nat} {i : Int32} (C : zz_C Γ b L xs) (hB : zz_B C0 N0 K) (hn : n ≤ 512) (hi : zz_in i L) (kk : zz_N Γ b Q C0 N0 (n + 1) K 3404 i) : zz_N Γ b Q C0 N0 n K 280 i := by
  intro pl sp tv cap c A J M g hI
  obtain ⟨v, pl1, sp1, tv1, cap1, c1, A1, J1, M1, g1, e1, e2, hI1⟩ := g_append (K := K) hI (xs (i + 1).toNatClampNeg) (xs (i + 2).toNatClampNeg) (xs (i + 3).toNatClampNeg) (xs (i + 4).toNatClampNeg) (xs (i + 5).toNatClampNeg)
  refine zz_aload_n C 1 dL_law_280 rfl ?_
  refine zz_arg C (k5 := 1) 0 5 rfl rfl (by decide) hi.1 dL_law_281 dL_law_282 dL_law_284 dL_law_285 dL_law_286 ?_
  refine zz_arg C (k5 := 2) 0 5 rfl rfl (by decide) hi.2.1 dL_law_287 dL_law_288 dL_law_290 dL_law_291 dL_law_292 ?_
  refine zz_arg C (k5 := 3) 0 5 rfl rfl (by decide) hi.2.2.1 dL_law_293 dL_law_294 dL_law_296 dL_law_297 dL_law_298 ?_
  refine zz_arg C (k5 := 4) 0 5 rfl rfl (by decide) hi.2.2.2.1 dL_law_299 dL_law_300 dL_law_302 dL_law_303 dL_law_304 ?_
  refine zz_arg C (k5 := 5) 0 5 rfl rfl (by decide) hi.2.2.2.2 dL_law_305 dL_law_306 dL_law_308 dL_law_309 dL_law_310 ?_
  refine zz_V1 C [.int (xs (i + 1).toNatClampNeg), .int (xs (i + 2).toNatClampNeg), .int (xs (i + 3).toNatClampNeg), .int (xs (i + 4).toNatClampNeg), .int (xs (i + 5).toNatClampNeg)] (ctX6_append (zz_st C) 0 (xs (i + 1).toNatClampNeg) (xs (i + 2).toNatClampNeg) (xs (i + 3).toNatClampNeg) (xs (i + 4).toNatClampNeg) (xs (i + 5).toNatClampNeg)) vzX6_append vivzX6_append rfl rfl (zz_H10 hI.1) e1 (zl_append e1) (fun _ => rfl) (zz_cap hB (by omega) hI1) (fun _ => rfl) ⟨trivial, trivial, trivial, trivial, trivial, trivial⟩ rfl (by decide) (Nat.le_of_ble_eq_true rfl) dL_law_311 ?_
  refine zz_aload_n C 2 dL_law_314 rfl ?_
  refine zz_arg C (k5 := 1) 0 5 rfl rfl (by decide) hi.1 dL_law_315 dL_law_316 dL_law_318 dL_law_319 dL_law_320 ?_
  refine zz_arg C (k5 := 2) 0 5 rfl rfl (by decide) hi.2.1 dL_law_321 dL_law_322 dL_law_324 dL_law_325 dL_law_326 ?_
  refine zz_arg C (k5 := 3) 0 5 rfl rfl (by decide) hi.2.2.1 dL_law_327 dL_law_328 dL_law_330 dL_law_331 dL_law_332 ?_
  refine zz_arg C (k5 := 4) 0 5 rfl rfl (by decide) hi.2.2.2.1 dL_law_333 dL_law_334 dL_law_336 dL_law_337 dL_law_338 ?_
  refine zz_arg C (k5 := 5) 0 5 rfl rfl (by decide) hi.2.2.2.2 dL_law_339 dL_law_340 dL_law_342 dL_law_343 dL_law_344 ?_
  refine zz_V2 C [.int (xs (i + 1).toNatClampNeg), .int (xs (i + 2).toNatClampNeg), .int (xs (i + 3).toNatClampNeg), .int (xs (i + 4).toNatClampNeg), .int (xs (i + 5).toNatClampNeg)] (ctX7_append (zz_st C) 0 (xs (i + 1).toNatClampNeg) (xs (i + 2).toNatClampNeg) (xs (i + 3).toNatClampNeg) (xs (i + 4).toNatClampNeg) (xs (i + 5).toNatClampNeg)) vzX7_append vivzX7_append rfl rfl rfl e2 (zz_le _ _) (fun _ => rfl) (zz_cap hB (by omega) hI1) (fun _ => rfl) ⟨trivial, trivial, trivial, trivial, trivial, trivial⟩ rfl (by decide) (Nat.le_of_ble_eq_true rfl) dL_law_345 ?_
  exact zz_icmpT C 3404 dL_law_348 (by decide) rfl (kk _ _ _ _ _ _ _ _ _ hI1)
theorem zc_1 {Γ : CX} {b L : Nat} {xs : Nat → Int32} {Q : State → Prop} {C0 N0 n : Nat} {K : Nat × Nat} {i : Int32} (C : zz_C Γ b L xs) (hB : zz_B C0 N0 K) (hn : n ≤ 512) (hi : zz_in i L) (kk : zz_N Γ b Q C0 N0 (n + 1) K 3404 i) : zz_N Γ b Q C0 N0 n K 353 i := by
  intro pl sp tv cap c A J M g hI
  obtain ⟨code, v, pl1, sp1, tv1, cap1, c1, A1, J1, M1, g1, e1, e2, hm, ha, hI1⟩ := g_load (K := K) hI (xs (i + 1).toNatClampNeg).toInt (zz_bd _)
  simp only [ii_of] at e1 e2
  refine zz_aload_n C 1 dL_law_353 rfl ?_
  refine zz_arg C (k5 := 1) 0 5 rfl rfl (by decide) hi.1 dL_law_354 dL_law_355 dL_law_357 dL_law_358 dL_law_359 ?_
  refine zz_aload_n C 3 dL_law_360 rfl ?_
  refine zz_S C [.ref 1, .int (xs (i + 1).toNatClampNeg), .ref 3] [.ref 0, .int (xs (i + 1).toNatClampNeg), .ref 455] (ctL_load (zz_st C) 0 (xs (i + 1).toNatClampNeg) 455) zs_load e1 (zl_I e1) (fun _ => rfl) (zz_cap hB (by omega) hI1) (fun _ _ => rfl) (fun h => ⟨zs_0 h, trivial, zs_455 h, trivial⟩) rfl (by decide) (Nat.le_of_ble_eq_true rfl) dL_law_361 ?_
  refine zz_istore C ((6, .int (ii code)) :: zz_lv i) dL_law_364 (by decide) rfl ?_
  refine zz_aload_n C 3 dL_law_366 rfl ?_
  refine zz_arg C (k5 := 1) 1 6 rfl rfl (by decide) hi.1 dL_law_367 dL_law_368 dL_law_370 dL_law_371 dL_law_372 ?_
  refine zz_V2 C [.int (xs (i + 1).toNatClampNeg)] (ctX7_load (zz_st C) 0 (xs (i + 1).toNatClampNeg)) vzX7_load vivzX7_load rfl rfl rfl e2 (zz_le _ _) (fun _ => rfl) (zz_cap hB (by omega) hI1) (fun _ => rfl) ⟨trivial, trivial⟩ rfl (by decide) (Nat.le_of_ble_eq_true rfl) dL_law_373 ?_
  refine zz_istore C ((7, .int (ii v)) :: (6, .int (ii code)) :: zz_lv i) dL_law_376 (by decide) rfl ?_
  exact zt_I C hB (by omega) hI1 hm ha ⟨vzX7_thrown, vivzX7_thrown⟩ dL_law_378 dL_law_379 dL_law_382 dL_law_384 dL_law_389 dL_law_391 dL_law_394 dL_law_395 dL_law_396 dL_law_397 dL_law_399 dL_law_400 dL_law_401 dL_law_406 (by decide) (kk _ _ _ _ _ _ _ _ _ hI1)
theorem zc_2 {Γ : CX} {b L : Nat} {xs : Nat → Int32} {Q : State → Prop} {C0 N0 n : Nat} {K : Nat × Nat} {i : Int32} (C : zz_C Γ b L xs) (hB : zz_B C0 N0 K) (hn : n ≤ 512) (hi : zz_in i L) (kk : zz_N Γ b Q C0 N0 (n + 1) K 3404 i) : zz_N Γ b Q C0 N0 n K 409 i := by
  intro pl sp tv cap c A J M g hI
  obtain ⟨v, pl1, sp1, tv1, cap1, c1, A1, J1, M1, g1, e1, e2, hI1⟩ := g_parseError (K := K) hI
  refine zz_aload_n C 1 dL_law_409 rfl ?_
  refine zz_V1 C [] (ctX6_parseError (zz_st C) 0) vzX6_parseError vivzX6_parseError rfl rfl (zz_H10 hI.1) e1 (zl_parseError e1) (fun _ => rfl) (zz_cap hB (by omega) hI1) (fun _ => rfl) trivial rfl (by decide) (Nat.le_of_ble_eq_true rfl) dL_law_410 ?_
  refine zz_aload_n C 2 dL_law_413 rfl ?_
  refine zz_V2 C [] (ctX7_parseError (zz_st C) 0) vzX7_parseError vivzX7_parseError rfl rfl rfl e2 (zz_le _ _) (fun _ => rfl) (zz_cap hB (by omega) hI1) (fun _ => rfl) trivial rfl (by decide) (Nat.le_of_ble_eq_true rfl) dL_law_414 ?_
  exact zz_icmpT C 3404 dL_law_417 (by decide) rfl (kk _ _ _ _ _ _ _ _ _ hI1)
theorem zc_3 {Γ : CX} {b L : Nat} {xs : Nat → Int32} {Q : State → Prop} {C0 N0 n : Nat} {K : Nat × Nat} {i : Int32} (C : zz_C Γ b L xs) (hB : zz_B C0 N0 K) (hn : n ≤ 512) (hi : zz_in i L) (kk : zz_N Γ b Q C0 N0 (n + 1) K 3404 i) : zz_N Γ b Q C0 N0 n K 422 i := by
  intro pl sp tv cap c A J M g hI
  obtain ⟨v, pl1, sp1, tv1, cap1, c1, A1, J1, M1, g1, e1, e2, hI1⟩ := g_errorPosition (K := K) hI
  refine zz_aload_n C 1 dL_law_422 rfl ?_
  refine zz_V1 C [] (ctX6_errorPosition (zz_st C) 0) vzX6_errorPosition vivzX6_errorPosition rfl rfl (zz_H10 hI.1) e1 (zl_errorPosition e1) (fun _ => rfl) (zz_cap hB (by omega) hI1) (fun _ => rfl) trivial rfl (by decide) (Nat.le_of_ble_eq_true rfl) dL_law_423 ?_
  refine zz_aload_n C 2 dL_law_426 rfl ?_
  refine zz_V2 C [] (ctX7_errorPosition (zz_st C) 0) vzX7_errorPosition vivzX7_errorPosition rfl rfl rfl e2 (zz_le _ _) (fun _ => rfl) (zz_cap hB (by omega) hI1) (fun _ => rfl) trivial rfl (by decide) (Nat.le_of_ble_eq_true rfl) dL_law_427 ?_
  exact zz_icmpT C 3404 dL_law_430 (by decide) rfl (kk _ _ _ _ _ _ _ _ _ hI1)
theorem zc_4 {Γ : CX} {b L : Nat} {xs : Nat → Int32} {Q : State → Prop} {C0 N0 n : Nat} {K : Nat × Nat} {i : Int32} (C : zz_C Γ b L xs) (hB : zz_B C0 N0 K) (hn : n ≤ 512) (hi : zz_in i L) (kk : zz_N Γ b Q C0 N0 (n + 1) K 3404 i) : zz_N Γ b Q C0 N0 n K 435 i := by
  intro pl sp tv cap c A J M g hI
  obtain ⟨v, pl1, sp1, tv1, cap1, c1, A1, J1, M1, g1, e1, e2, hI1⟩ := g_buffered (K := K) hI
  refine zz_aload_n C 1 dL_law_435 rfl ?_
  refine zz_V1 C [] (ctX6_buffered (zz_st C) 0) vzX6_buffered vivzX6_buffered rfl rfl (zz_H10 hI.1) e1 (zl_buffered e1) (fun _ => rfl) (zz_cap hB (by omega) hI1) (fun _ => rfl) trivial rfl (by decide) (Nat.le_of_ble_eq_true rfl) dL_law_436 ?_
  refine zz_aload_n C 2 dL_law_439 rfl ?_
  refine zz_V2 C [] (ctX7_buffered (zz_st C) 0) vzX7_buffered vivzX7_buffered rfl rfl rfl e2 (zz_le _ _) (fun _ => rfl) (zz_cap hB (by omega) hI1) (fun _ => rfl) trivial rfl (by decide) (Nat.le_of_ble_eq_true rfl) dL_law_440 ?_
  exact zz_icmpT C 3404 dL_law_443 (by decide) rfl (kk _ _ _ _ _ _ _ _ _ hI1)
theorem zc_5 {Γ : CX} {b L : Nat} {xs : Nat → Int32} {Q : State → Prop} {C0 N0 n : Nat} {K : Nat × Nat} {i : Int32} (C : zz_C Γ b L xs) (hB : zz_B C0 N0 K) (hn : n ≤ 512) (hi : zz_in i L) (kk : zz_N Γ b Q C0 N0 (n + 1) K 3404 i) : zz_N Γ b Q C0 N0 n K 448 i := by
  intro pl sp tv cap c A J M g hI
  obtain ⟨code, v, pl1, sp1, tv1, cap1, c1, A1, J1, M1, g1, e1, e2, hm, ha, hI1⟩ := g_count (K := K) hI (xs (i + 1).toNatClampNeg).toInt (zz_bd _)
  simp only [ii_of] at e1 e2
  refine zz_aload_n C 1 dL_law_448 rfl ?_
  refine zz_arg C (k5 := 1) 0 5 rfl rfl (by decide) hi.1 dL_law_449 dL_law_450 dL_law_452 dL_law_453 dL_law_454 ?_
  refine zz_aload_n C 3 dL_law_455 rfl ?_
  refine zz_S C [.ref 1, .int (xs (i + 1).toNatClampNeg), .ref 3] [.ref 0, .int (xs (i + 1).toNatClampNeg), .ref 455] (ctL_count (zz_st C) 0 (xs (i + 1).toNatClampNeg) 455) zs_count e1 (zl_I e1) (fun _ => rfl) (zz_cap hB (by omega) hI1) (fun _ _ => rfl) (fun h => ⟨zs_0 h, trivial, zs_455 h, trivial⟩) rfl (by decide) (Nat.le_of_ble_eq_true rfl) dL_law_456 ?_
  refine zz_istore C ((6, .int (ii code)) :: zz_lv i) dL_law_459 (by decide) rfl ?_
  refine zz_aload_n C 3 dL_law_461 rfl ?_
  refine zz_arg C (k5 := 1) 1 6 rfl rfl (by decide) hi.1 dL_law_462 dL_law_463 dL_law_465 dL_law_466 dL_law_467 ?_
  refine zz_V2 C [.int (xs (i + 1).toNatClampNeg)] (ctX7_count (zz_st C) 0 (xs (i + 1).toNatClampNeg)) vzX7_count vivzX7_count rfl rfl rfl e2 (zz_le _ _) (fun _ => rfl) (zz_cap hB (by omega) hI1) (fun _ => rfl) ⟨trivial, trivial⟩ rfl (by decide) (Nat.le_of_ble_eq_true rfl) dL_law_468 ?_
  refine zz_istore C ((7, .int (ii v)) :: (6, .int (ii code)) :: zz_lv i) dL_law_471 (by decide) rfl ?_
  exact zt_I C hB (by omega) hI1 hm ha ⟨vzX7_thrown, vivzX7_thrown⟩ dL_law_473 dL_law_474 dL_law_477 dL_law_479 dL_law_484 dL_law_486 dL_law_489 dL_law_490 dL_law_491 dL_law_492 dL_law_494 dL_law_495 dL_law_496 dL_law_501 (by decide) (kk _ _ _ _ _ _ _ _ _ hI1)
theorem zc_6 {Γ : CX} {b L : Nat} {xs : Nat → Int32} {Q : State → Prop} {C0 N0 n : Nat} {K : Nat × Nat} {i : Int32} (C : zz_C Γ b L xs) (hB : zz_B C0 N0 K) (hn : n ≤ 512) (hi : zz_in i L) (kk : zz_N Γ b Q C0 N0 (n + 1) K 3404 i) : zz_N Γ b Q C0 N0 n K 504 i := by
  intro pl sp tv cap c A J M g hI
  obtain ⟨code, v, pl1, sp1, tv1, cap1, c1, A1, J1, M1, g1, e1, e2, hm, ha, hI1⟩ := g_setting (K := K) hI (xs (i + 1).toNatClampNeg).toInt (zz_bd _)
  simp only [ii_of] at e1 e2
  refine zz_aload_n C 1 dL_law_504 rfl ?_
  refine zz_arg C (k5 := 1) 0 5 rfl rfl (by decide) hi.1 dL_law_505 dL_law_506 dL_law_508 dL_law_509 dL_law_510 ?_
  refine zz_aload_n C 3 dL_law_511 rfl ?_
  refine zz_S C [.ref 1, .int (xs (i + 1).toNatClampNeg), .ref 3] [.ref 0, .int (xs (i + 1).toNatClampNeg), .ref 455] (ctL_setting (zz_st C) 0 (xs (i + 1).toNatClampNeg) 455) zs_setting e1 (zl_I e1) (fun _ => rfl) (zz_cap hB (by omega) hI1) (fun _ _ => rfl) (fun h => ⟨zs_0 h, trivial, zs_455 h, trivial⟩) rfl (by decide) (Nat.le_of_ble_eq_true rfl) dL_law_512 ?_
  refine zz_istore C ((6, .int (ii code)) :: zz_lv i) dL_law_515 (by decide) rfl ?_
  refine zz_aload_n C 3 dL_law_517 rfl ?_
  refine zz_arg C (k5 := 1) 1 6 rfl rfl (by decide) hi.1 dL_law_518 dL_law_519 dL_law_521 dL_law_522 dL_law_523 ?_
  refine zz_V2 C [.int (xs (i + 1).toNatClampNeg)] (ctX7_setting (zz_st C) 0 (xs (i + 1).toNatClampNeg)) vzX7_setting vivzX7_setting rfl rfl rfl e2 (zz_le _ _) (fun _ => rfl) (zz_cap hB (by omega) hI1) (fun _ => rfl) ⟨trivial, trivial⟩ rfl (by decide) (Nat.le_of_ble_eq_true rfl) dL_law_524 ?_
  refine zz_istore C ((7, .int (ii v)) :: (6, .int (ii code)) :: zz_lv i) dL_law_527 (by decide) rfl ?_
  exact zt_I C hB (by omega) hI1 hm ha ⟨vzX7_thrown, vivzX7_thrown⟩ dL_law_529 dL_law_530 dL_law_533 dL_law_535 dL_law_540 dL_law_542 dL_law_545 dL_law_546 dL_law_547 dL_law_548 dL_law_550 dL_law_551 dL_law_552 dL_law_557 (by decide) (kk _ _ _ _ _ _ _ _ _ hI1)
theorem zc_7 {Γ : CX} {b L : Nat} {xs : Nat → Int32} {Q : State → Prop} {C0 N0 n : Nat} {K : Nat × Nat} {i : Int32} (C : zz_C Γ b L xs) (hB : zz_B C0 N0 K) (hn : n ≤ 512) (hi : zz_in i L) (kk : zz_N Γ b Q C0 N0 (n + 1) K 3404 i) : zz_N Γ b Q C0 N0 n K 560 i := by
  intro pl sp tv cap c A J M g hI
  obtain ⟨code, v, pl1, sp1, tv1, cap1, c1, A1, J1, M1, g1, e1, e2, hm, ha, hI1⟩ := g_row (K := K) hI (xs (i + 1).toNatClampNeg).toInt (xs (i + 2).toNatClampNeg).toInt (zz_bd _) (zz_bd _)
  simp only [ii_of] at e1 e2
  refine zz_aload_n C 1 dL_law_560 rfl ?_
  refine zz_arg C (k5 := 1) 0 5 rfl rfl (by decide) hi.1 dL_law_561 dL_law_562 dL_law_564 dL_law_565 dL_law_566 ?_
  refine zz_arg C (k5 := 2) 0 5 rfl rfl (by decide) hi.2.1 dL_law_567 dL_law_568 dL_law_570 dL_law_571 dL_law_572 ?_
  refine zz_aload_n C 3 dL_law_573 rfl ?_
  refine zz_S C [.ref 1, .int (xs (i + 1).toNatClampNeg), .int (xs (i + 2).toNatClampNeg), .ref 3] [.ref 0, .int (xs (i + 1).toNatClampNeg), .int (xs (i + 2).toNatClampNeg), .ref 455] (ctL_row (zz_st C) 0 (xs (i + 1).toNatClampNeg) (xs (i + 2).toNatClampNeg) 455) zs_row e1 (zl_I e1) (fun _ => rfl) (zz_cap hB (by omega) hI1) (fun _ _ => rfl) (fun h => ⟨zs_0 h, trivial, trivial, zs_455 h, trivial⟩) rfl (by decide) (Nat.le_of_ble_eq_true rfl) dL_law_574 ?_
  refine zz_istore C ((6, .int (ii code)) :: zz_lv i) dL_law_577 (by decide) rfl ?_
  refine zz_aload_n C 3 dL_law_579 rfl ?_
  refine zz_arg C (k5 := 1) 1 6 rfl rfl (by decide) hi.1 dL_law_580 dL_law_581 dL_law_583 dL_law_584 dL_law_585 ?_
  refine zz_arg C (k5 := 2) 1 6 rfl rfl (by decide) hi.2.1 dL_law_586 dL_law_587 dL_law_589 dL_law_590 dL_law_591 ?_
  refine zz_V2 C [.int (xs (i + 1).toNatClampNeg), .int (xs (i + 2).toNatClampNeg)] (ctX7_row (zz_st C) 0 (xs (i + 1).toNatClampNeg) (xs (i + 2).toNatClampNeg)) vzX7_row vivzX7_row rfl rfl rfl e2 (zz_le _ _) (fun _ => rfl) (zz_cap hB (by omega) hI1) (fun _ => rfl) ⟨trivial, trivial, trivial⟩ rfl (by decide) (Nat.le_of_ble_eq_true rfl) dL_law_592 ?_
  refine zz_istore C ((7, .int (ii v)) :: (6, .int (ii code)) :: zz_lv i) dL_law_595 (by decide) rfl ?_
  exact zt_I C hB (by omega) hI1 hm ha ⟨vzX7_thrown, vivzX7_thrown⟩ dL_law_597 dL_law_598 dL_law_601 dL_law_603 dL_law_608 dL_law_610 dL_law_613 dL_law_614 dL_law_615 dL_law_616 dL_law_618 dL_law_619 dL_law_620 dL_law_625 (by decide) (kk _ _ _ _ _ _ _ _ _ hI1)
theorem zc_8 {Γ : CX} {b L : Nat} {xs : Nat → Int32} {Q : State → Prop} {C0 N0 n : Nat} {K : Nat × Nat} {i : Int32} (C : zz_C Γ b L xs) (hB : zz_B C0 N0 K) (hn : n ≤ 512) (hi : zz_in i L) (kk : zz_N Γ b Q C0 N0 (n + 1) K 3404 i) : zz_N Γ b Q C0 N0 n K 628 i := by
  intro pl sp tv cap c A J M g hI
  obtain ⟨code, v, pl1, sp1, tv1, cap1, c1, A1, J1, M1, g1, e1, e2, hm, ha, hI1⟩ := g_block (K := K) hI (xs (i + 1).toNatClampNeg).toInt (xs (i + 2).toNatClampNeg).toInt (zz_bd _) (zz_bd _)
  simp only [ii_of] at e1 e2
  refine zz_aload_n C 1 dL_law_628 rfl ?_
  refine zz_arg C (k5 := 1) 0 5 rfl rfl (by decide) hi.1 dL_law_629 dL_law_630 dL_law_632 dL_law_633 dL_law_634 ?_
  refine zz_arg C (k5 := 2) 0 5 rfl rfl (by decide) hi.2.1 dL_law_635 dL_law_636 dL_law_638 dL_law_639 dL_law_640 ?_
  refine zz_aload_n C 3 dL_law_641 rfl ?_
  refine zz_S C [.ref 1, .int (xs (i + 1).toNatClampNeg), .int (xs (i + 2).toNatClampNeg), .ref 3] [.ref 0, .int (xs (i + 1).toNatClampNeg), .int (xs (i + 2).toNatClampNeg), .ref 455] (ctL_block (zz_st C) 0 (xs (i + 1).toNatClampNeg) (xs (i + 2).toNatClampNeg) 455) zs_block e1 (zl_I e1) (fun _ => rfl) (zz_cap hB (by omega) hI1) (fun _ _ => rfl) (fun h => ⟨zs_0 h, trivial, trivial, zs_455 h, trivial⟩) rfl (by decide) (Nat.le_of_ble_eq_true rfl) dL_law_642 ?_
  refine zz_istore C ((6, .int (ii code)) :: zz_lv i) dL_law_645 (by decide) rfl ?_
  refine zz_aload_n C 3 dL_law_647 rfl ?_
  refine zz_arg C (k5 := 1) 1 6 rfl rfl (by decide) hi.1 dL_law_648 dL_law_649 dL_law_651 dL_law_652 dL_law_653 ?_
  refine zz_arg C (k5 := 2) 1 6 rfl rfl (by decide) hi.2.1 dL_law_654 dL_law_655 dL_law_657 dL_law_658 dL_law_659 ?_
  refine zz_V2 C [.int (xs (i + 1).toNatClampNeg), .int (xs (i + 2).toNatClampNeg)] (ctX7_block (zz_st C) 0 (xs (i + 1).toNatClampNeg) (xs (i + 2).toNatClampNeg)) vzX7_block vivzX7_block rfl rfl rfl e2 (zz_le _ _) (fun _ => rfl) (zz_cap hB (by omega) hI1) (fun _ => rfl) ⟨trivial, trivial, trivial⟩ rfl (by decide) (Nat.le_of_ble_eq_true rfl) dL_law_660 ?_
  refine zz_istore C ((7, .int (ii v)) :: (6, .int (ii code)) :: zz_lv i) dL_law_663 (by decide) rfl ?_
  exact zt_I C hB (by omega) hI1 hm ha ⟨vzX7_thrown, vivzX7_thrown⟩ dL_law_665 dL_law_666 dL_law_669 dL_law_671 dL_law_676 dL_law_678 dL_law_681 dL_law_682 dL_law_683 dL_law_684 dL_law_686 dL_law_687 dL_law_688 dL_law_693 (by decide) (kk _ _ _ _ _ _ _ _ _ hI1)
theorem zc_9 {Γ : CX} {b L : Nat} {xs : Nat → Int32} {Q : State → Prop} {C0 N0 n : Nat} {K : Nat × Nat} {i : Int32} (C : zz_C Γ b L xs) (hB : zz_B C0 N0 K) (hn : n ≤ 512) (hi : zz_in i L) (kk : zz_N Γ b Q C0 N0 (n + 1) K 3404 i) : zz_N Γ b Q C0 N0 n K 696 i := by
  intro pl sp tv cap c A J M g hI
  obtain ⟨code, v, pl1, sp1, tv1, cap1, c1, A1, J1, M1, g1, e1, e2, hm, ha, hI1⟩ := g_piece (K := K) hI (xs (i + 1).toNatClampNeg).toInt (xs (i + 2).toNatClampNeg).toInt (zz_bd _) (zz_bd _)
  simp only [ii_of] at e1 e2
  refine zz_aload_n C 1 dL_law_696 rfl ?_
  refine zz_arg C (k5 := 1) 0 5 rfl rfl (by decide) hi.1 dL_law_697 dL_law_698 dL_law_700 dL_law_701 dL_law_702 ?_
  refine zz_arg C (k5 := 2) 0 5 rfl rfl (by decide) hi.2.1 dL_law_703 dL_law_704 dL_law_706 dL_law_707 dL_law_708 ?_
  refine zz_aload_n C 3 dL_law_709 rfl ?_
  refine zz_S C [.ref 1, .int (xs (i + 1).toNatClampNeg), .int (xs (i + 2).toNatClampNeg), .ref 3] [.ref 0, .int (xs (i + 1).toNatClampNeg), .int (xs (i + 2).toNatClampNeg), .ref 455] (ctL_piece (zz_st C) 0 (xs (i + 1).toNatClampNeg) (xs (i + 2).toNatClampNeg) 455) zs_piece e1 (zl_I e1) (fun _ => rfl) (zz_cap hB (by omega) hI1) (fun _ _ => rfl) (fun h => ⟨zs_0 h, trivial, trivial, zs_455 h, trivial⟩) rfl (by decide) (Nat.le_of_ble_eq_true rfl) dL_law_710 ?_
  refine zz_istore C ((6, .int (ii code)) :: zz_lv i) dL_law_713 (by decide) rfl ?_
  refine zz_aload_n C 3 dL_law_715 rfl ?_
  refine zz_arg C (k5 := 1) 1 6 rfl rfl (by decide) hi.1 dL_law_716 dL_law_717 dL_law_719 dL_law_720 dL_law_721 ?_
  refine zz_arg C (k5 := 2) 1 6 rfl rfl (by decide) hi.2.1 dL_law_722 dL_law_723 dL_law_725 dL_law_726 dL_law_727 ?_
  refine zz_V2 C [.int (xs (i + 1).toNatClampNeg), .int (xs (i + 2).toNatClampNeg)] (ctX7_piece (zz_st C) 0 (xs (i + 1).toNatClampNeg) (xs (i + 2).toNatClampNeg)) vzX7_piece vivzX7_piece rfl rfl rfl e2 (zz_le _ _) (fun _ => rfl) (zz_cap hB (by omega) hI1) (fun _ => rfl) ⟨trivial, trivial, trivial⟩ rfl (by decide) (Nat.le_of_ble_eq_true rfl) dL_law_728 ?_
  refine zz_istore C ((7, .int (ii v)) :: (6, .int (ii code)) :: zz_lv i) dL_law_731 (by decide) rfl ?_
  exact zt_I C hB (by omega) hI1 hm ha ⟨vzX7_thrown, vivzX7_thrown⟩ dL_law_733 dL_law_734 dL_law_737 dL_law_739 dL_law_744 dL_law_746 dL_law_749 dL_law_750 dL_law_751 dL_law_752 dL_law_754 dL_law_755 dL_law_756 dL_law_761 (by decide) (kk _ _ _ _ _ _ _ _ _ hI1)
theorem zc_10 {Γ : CX} {b L : Nat} {xs : Nat → Int32} {Q : State → Prop} {C0 N0 n : Nat} {K : Nat × Nat} {i : Int32} (C : zz_C Γ b L xs) (hB : zz_B C0 N0 K) (hn : n ≤ 512) (hi : zz_in i L) (kk : zz_N Γ b Q C0 N0 (n + 1) K 3404 i) : zz_N Γ b Q C0 N0 n K 764 i := by
  intro pl sp tv cap c A J M g hI
  obtain ⟨code, v, pl1, sp1, tv1, cap1, c1, A1, J1, M1, g1, e1, e2, hm, ha, hI1⟩ := g_kind (K := K) hI (xs (i + 1).toNatClampNeg).toInt (xs (i + 2).toNatClampNeg).toInt (zz_bd _) (zz_bd _)
  simp only [ii_of] at e1 e2
  refine zz_aload_n C 1 dL_law_764 rfl ?_
  refine zz_arg C (k5 := 1) 0 5 rfl rfl (by decide) hi.1 dL_law_765 dL_law_766 dL_law_768 dL_law_769 dL_law_770 ?_
  refine zz_arg C (k5 := 2) 0 5 rfl rfl (by decide) hi.2.1 dL_law_771 dL_law_772 dL_law_774 dL_law_775 dL_law_776 ?_
  refine zz_aload_n C 3 dL_law_777 rfl ?_
  refine zz_S C [.ref 1, .int (xs (i + 1).toNatClampNeg), .int (xs (i + 2).toNatClampNeg), .ref 3] [.ref 0, .int (xs (i + 1).toNatClampNeg), .int (xs (i + 2).toNatClampNeg), .ref 455] (ctL_kind (zz_st C) 0 (xs (i + 1).toNatClampNeg) (xs (i + 2).toNatClampNeg) 455) zs_kind e1 (zl_I e1) (fun _ => rfl) (zz_cap hB (by omega) hI1) (fun _ _ => rfl) (fun h => ⟨zs_0 h, trivial, trivial, zs_455 h, trivial⟩) rfl (by decide) (Nat.le_of_ble_eq_true rfl) dL_law_778 ?_
  refine zz_istore C ((6, .int (ii code)) :: zz_lv i) dL_law_781 (by decide) rfl ?_
  refine zz_aload_n C 3 dL_law_783 rfl ?_
  refine zz_arg C (k5 := 1) 1 6 rfl rfl (by decide) hi.1 dL_law_784 dL_law_785 dL_law_787 dL_law_788 dL_law_789 ?_
  refine zz_arg C (k5 := 2) 1 6 rfl rfl (by decide) hi.2.1 dL_law_790 dL_law_791 dL_law_793 dL_law_794 dL_law_795 ?_
  refine zz_V2 C [.int (xs (i + 1).toNatClampNeg), .int (xs (i + 2).toNatClampNeg)] (ctX7_kind (zz_st C) 0 (xs (i + 1).toNatClampNeg) (xs (i + 2).toNatClampNeg)) vzX7_kind vivzX7_kind rfl rfl rfl e2 (zz_le _ _) (fun _ => rfl) (zz_cap hB (by omega) hI1) (fun _ => rfl) ⟨trivial, trivial, trivial⟩ rfl (by decide) (Nat.le_of_ble_eq_true rfl) dL_law_796 ?_
  refine zz_istore C ((7, .int (ii v)) :: (6, .int (ii code)) :: zz_lv i) dL_law_799 (by decide) rfl ?_
  exact zt_I C hB (by omega) hI1 hm ha ⟨vzX7_thrown, vivzX7_thrown⟩ dL_law_801 dL_law_802 dL_law_805 dL_law_807 dL_law_812 dL_law_814 dL_law_817 dL_law_818 dL_law_819 dL_law_820 dL_law_822 dL_law_823 dL_law_824 dL_law_829 (by decide) (kk _ _ _ _ _ _ _ _ _ hI1)
theorem zc_11 {Γ : CX} {b L : Nat} {xs : Nat → Int32} {Q : State → Prop} {C0 N0 n : Nat} {K : Nat × Nat} {i : Int32} (C : zz_C Γ b L xs) (hB : zz_B C0 N0 K) (hn : n ≤ 512) (hi : zz_in i L) (kk : zz_N Γ b Q C0 N0 (n + 1) K 3404 i) : zz_N Γ b Q C0 N0 n K 832 i := by
  intro pl sp tv cap c A J M g hI
  obtain ⟨code, v, pl1, sp1, tv1, cap1, c1, A1, J1, M1, g1, e1, e2, hm, ha, hI1⟩ := g_kindOf (K := K) hI (if (xs (i + 1).toNatClampNeg) = 0 then 0 else 1) (xs (i + 2).toNatClampNeg).toInt (zz_01 _) (zz_bd _)
  simp only [ii_of] at e1 e2
  refine zz_aload_n C 1 dL_law_832 rfl ?_
  refine zz_arg C (k5 := 1) 0 5 rfl rfl (by decide) hi.1 dL_law_833 dL_law_834 dL_law_836 dL_law_837 dL_law_838 ?_
  refine zz_argZ C dL_law_839 dL_law_842 dL_law_843 dL_law_846 ?_
  refine zz_arg C (k5 := 2) 0 5 rfl rfl (by decide) hi.2.1 dL_law_847 dL_law_848 dL_law_850 dL_law_851 dL_law_852 ?_
  refine zz_aload_n C 3 dL_law_853 rfl ?_
  refine zz_S C [.ref 1, .int (ii (if (xs (i + 1).toNatClampNeg) = 0 then 0 else 1)), .int (xs (i + 2).toNatClampNeg), .ref 3] [.ref 0, .int (ii (if (xs (i + 1).toNatClampNeg) = 0 then 0 else 1)), .int (xs (i + 2).toNatClampNeg), .ref 455] (ctL_kindOf (zz_st C) 0 (ii (if (xs (i + 1).toNatClampNeg) = 0 then 0 else 1)) (xs (i + 2).toNatClampNeg) 455) zs_kindOf e1 (zl_I e1) (fun _ => rfl) (zz_cap hB (by omega) hI1) (fun _ _ => rfl) (fun h => ⟨zs_0 h, trivial, trivial, zs_455 h, trivial⟩) rfl (by decide) (Nat.le_of_ble_eq_true rfl) dL_law_854 ?_
  refine zz_istore C ((6, .int (ii code)) :: zz_lv i) dL_law_857 (by decide) rfl ?_
  refine zz_aload_n C 3 dL_law_859 rfl ?_
  refine zz_arg C (k5 := 1) 1 6 rfl rfl (by decide) hi.1 dL_law_860 dL_law_861 dL_law_863 dL_law_864 dL_law_865 ?_
  refine zz_argZ C dL_law_866 dL_law_869 dL_law_870 dL_law_873 ?_
  refine zz_arg C (k5 := 2) 1 6 rfl rfl (by decide) hi.2.1 dL_law_874 dL_law_875 dL_law_877 dL_law_878 dL_law_879 ?_
  refine zz_V2 C [.int (ii (if (xs (i + 1).toNatClampNeg) = 0 then 0 else 1)), .int (xs (i + 2).toNatClampNeg)] (ctX7_kindOf (zz_st C) 0 (ii (if (xs (i + 1).toNatClampNeg) = 0 then 0 else 1)) (xs (i + 2).toNatClampNeg)) vzX7_kindOf vivzX7_kindOf rfl rfl rfl e2 (zz_le _ _) (fun _ => rfl) (zz_cap hB (by omega) hI1) (fun _ => rfl) ⟨trivial, trivial, trivial⟩ rfl (by decide) (Nat.le_of_ble_eq_true rfl) dL_law_880 ?_
  refine zz_istore C ((7, .int (ii v)) :: (6, .int (ii code)) :: zz_lv i) dL_law_883 (by decide) rfl ?_
  exact zt_I C hB (by omega) hI1 hm ha ⟨vzX7_thrown, vivzX7_thrown⟩ dL_law_885 dL_law_886 dL_law_889 dL_law_891 dL_law_896 dL_law_898 dL_law_901 dL_law_902 dL_law_903 dL_law_904 dL_law_906 dL_law_907 dL_law_908 dL_law_913 (by decide) (kk _ _ _ _ _ _ _ _ _ hI1)
theorem zc_12 {Γ : CX} {b L : Nat} {xs : Nat → Int32} {Q : State → Prop} {C0 N0 n : Nat} {K : Nat × Nat} {i : Int32} (C : zz_C Γ b L xs) (hB : zz_B C0 N0 K) (hn : n ≤ 512) (hi : zz_in i L) (kk : zz_N Γ b Q C0 N0 (n + 1) K 3404 i) : zz_N Γ b Q C0 N0 n K 916 i := by
  intro pl sp tv cap c A J M g hI
  obtain ⟨code, v, pl1, sp1, tv1, cap1, c1, A1, J1, M1, g1, e1, e2, hm, ha, hI1⟩ := g_isTight (K := K) hI (xs (i + 1).toNatClampNeg).toInt (zz_bd _)
  simp only [ii_of] at e1 e2
  refine zz_aload_n C 1 dL_law_916 rfl ?_
  refine zz_arg C (k5 := 1) 0 5 rfl rfl (by decide) hi.1 dL_law_917 dL_law_918 dL_law_920 dL_law_921 dL_law_922 ?_
  refine zz_aload_n C 3 dL_law_923 rfl ?_
  refine zz_S C [.ref 1, .int (xs (i + 1).toNatClampNeg), .ref 3] [.ref 0, .int (xs (i + 1).toNatClampNeg), .ref 455] (ctL_isTight (zz_st C) 0 (xs (i + 1).toNatClampNeg) 455) zs_isTight e1 (zl_Z (fun _ => zl_uJ) (fun _ => zl_uJ) e1) (fun _ => rfl) (zz_cap hB (by omega) hI1) (fun _ _ => rfl) (fun h => ⟨zs_0 h, trivial, zs_455 h, trivial⟩) rfl (by decide) (Nat.le_of_ble_eq_true rfl) dL_law_924 ?_
  refine zz_istore C ((6, .int (ii code)) :: zz_lv i) dL_law_927 (by decide) rfl ?_
  refine zz_aload_n C 3 dL_law_929 rfl ?_
  refine zz_arg C (k5 := 1) 1 6 rfl rfl (by decide) hi.1 dL_law_930 dL_law_931 dL_law_933 dL_law_934 dL_law_935 ?_
  refine zz_V2 C [.int (xs (i + 1).toNatClampNeg)] (ctX7_isTight (zz_st C) 0 (xs (i + 1).toNatClampNeg)) vzX7_isTight vivzX7_isTight rfl rfl rfl e2 (zz_le _ _) (fun _ => rfl) (zz_cap hB (by omega) hI1) (fun _ => rfl) ⟨trivial, trivial⟩ rfl (by decide) (Nat.le_of_ble_eq_true rfl) dL_law_936 ?_
  refine zz_istore C ((7, .int (ii v)) :: (6, .int (ii code)) :: zz_lv i) dL_law_939 (by decide) rfl ?_
  exact zt_Z C hB (by omega) hI1 hm ha (fun h0 => zj_Z (by decide) (fun _ _ q => Or.inl (zj_uJ q)) (fun _ _ q => Or.inr (zj_uJ q)) e1 (by rw [h0]; rfl)) ⟨vzX7_thrown, vivzX7_thrown⟩ dL_law_941 dL_law_942 dL_law_945 dL_law_947 dL_law_952 dL_law_954 dL_law_957 dL_law_958 dL_law_959 dL_law_960 dL_law_962 dL_law_965 dL_law_966 dL_law_969 dL_law_970 dL_law_971 dL_law_976 (by decide) (kk _ _ _ _ _ _ _ _ _ hI1)
theorem zc_13 {Γ : CX} {b L : Nat} {xs : Nat → Int32} {Q : State → Prop} {C0 N0 n : Nat} {K : Nat × Nat} {i : Int32} (C : zz_C Γ b L xs) (hB : zz_B C0 N0 K) (hn : n ≤ 512) (hi : zz_in i L) (kk : zz_N Γ b Q C0 N0 (n + 1) K 3404 i) : zz_N Γ b Q C0 N0 n K 979 i := by
  intro pl sp tv cap c A J M g hI
  obtain ⟨code, v, pl1, sp1, tv1, cap1, c1, A1, J1, M1, g1, e1, e2, hm, ha, hI1⟩ := g_widestGap (K := K) hI
  refine zz_aload_n C 1 dL_law_979 rfl ?_
  refine zz_aload_n C 3 dL_law_980 rfl ?_
  refine zz_S C [.ref 1, .ref 3] [.ref 0, .ref 455] (ctL_widestGap (zz_st C) 0 455) zs_widestGap e1 (zl_I e1) (fun _ => rfl) (zz_cap hB (by omega) hI1) (fun _ _ => rfl) (fun h => ⟨zs_0 h, zs_455 h, trivial⟩) rfl (by decide) (Nat.le_of_ble_eq_true rfl) dL_law_981 ?_
  refine zz_istore C ((6, .int (ii code)) :: zz_lv i) dL_law_984 (by decide) rfl ?_
  refine zz_aload_n C 3 dL_law_986 rfl ?_
  refine zz_V2 C [] (ctX7_widestGap (zz_st C) 0) vzX7_widestGap vivzX7_widestGap rfl rfl rfl e2 (zz_le _ _) (fun _ => rfl) (zz_cap hB (by omega) hI1) (fun _ => rfl) trivial rfl (by decide) (Nat.le_of_ble_eq_true rfl) dL_law_987 ?_
  refine zz_istore C ((7, .int (ii v)) :: (6, .int (ii code)) :: zz_lv i) dL_law_990 (by decide) rfl ?_
  exact zt_I C hB (by omega) hI1 hm ha ⟨vzX7_thrown, vivzX7_thrown⟩ dL_law_992 dL_law_993 dL_law_996 dL_law_998 dL_law_1003 dL_law_1005 dL_law_1008 dL_law_1009 dL_law_1010 dL_law_1011 dL_law_1013 dL_law_1014 dL_law_1015 dL_law_1020 (by decide) (kk _ _ _ _ _ _ _ _ _ hI1)
theorem zc_14 {Γ : CX} {b L : Nat} {xs : Nat → Int32} {Q : State → Prop} {C0 N0 n : Nat} {K : Nat × Nat} {i : Int32} (C : zz_C Γ b L xs) (hB : zz_B C0 N0 K) (hn : n ≤ 512) (hi : zz_in i L) (kk : zz_N Γ b Q C0 N0 (n + 1) K 3404 i) : zz_N Γ b Q C0 N0 n K 1023 i := by
  intro pl sp tv cap c A J M g hI
  obtain ⟨code, v, pl1, sp1, tv1, cap1, c1, A1, J1, M1, g1, e1, e2, hm, ha, hI1⟩ := g_loosest (K := K) hI
  refine zz_aload_n C 1 dL_law_1023 rfl ?_
  refine zz_aload_n C 3 dL_law_1024 rfl ?_
  refine zz_S C [.ref 1, .ref 3] [.ref 0, .ref 455] (ctL_loosest (zz_st C) 0 455) zs_loosest e1 (zl_I e1) (fun _ => rfl) (zz_cap hB (by omega) hI1) (fun _ _ => rfl) (fun h => ⟨zs_0 h, zs_455 h, trivial⟩) rfl (by decide) (Nat.le_of_ble_eq_true rfl) dL_law_1025 ?_
  refine zz_istore C ((6, .int (ii code)) :: zz_lv i) dL_law_1028 (by decide) rfl ?_
  refine zz_aload_n C 3 dL_law_1030 rfl ?_
  refine zz_V2 C [] (ctX7_loosest (zz_st C) 0) vzX7_loosest vivzX7_loosest rfl rfl rfl e2 (zz_le _ _) (fun _ => rfl) (zz_cap hB (by omega) hI1) (fun _ => rfl) trivial rfl (by decide) (Nat.le_of_ble_eq_true rfl) dL_law_1031 ?_
  refine zz_istore C ((7, .int (ii v)) :: (6, .int (ii code)) :: zz_lv i) dL_law_1034 (by decide) rfl ?_
  exact zt_I C hB (by omega) hI1 hm ha ⟨vzX7_thrown, vivzX7_thrown⟩ dL_law_1036 dL_law_1037 dL_law_1040 dL_law_1042 dL_law_1047 dL_law_1049 dL_law_1052 dL_law_1053 dL_law_1054 dL_law_1055 dL_law_1057 dL_law_1058 dL_law_1059 dL_law_1064 (by decide) (kk _ _ _ _ _ _ _ _ _ hI1)
theorem zc_15 {Γ : CX} {b L : Nat} {xs : Nat → Int32} {Q : State → Prop} {C0 N0 n : Nat} {K : Nat × Nat} {i : Int32} (C : zz_C Γ b L xs) (hB : zz_B C0 N0 K) (hn : n ≤ 512) (hi : zz_in i L) (kk : zz_N Γ b Q C0 N0 (n + 1) K 3404 i) : zz_N Γ b Q C0 N0 n K 1067 i := by
  intro pl sp tv cap c A J M g hI
  obtain ⟨code, v, pl1, sp1, tv1, cap1, c1, A1, J1, M1, g1, e1, e2, hm, ha, hI1⟩ := g_longestLeft (K := K) hI
  refine zz_aload_n C 1 dL_law_1067 rfl ?_
  refine zz_aload_n C 3 dL_law_1068 rfl ?_
  refine zz_S C [.ref 1, .ref 3] [.ref 0, .ref 455] (ctL_longestLeft (zz_st C) 0 455) zs_longestLeft e1 (zl_I e1) (fun _ => rfl) (zz_cap hB (by omega) hI1) (fun _ _ => rfl) (fun h => ⟨zs_0 h, zs_455 h, trivial⟩) rfl (by decide) (Nat.le_of_ble_eq_true rfl) dL_law_1069 ?_
  refine zz_istore C ((6, .int (ii code)) :: zz_lv i) dL_law_1072 (by decide) rfl ?_
  refine zz_aload_n C 3 dL_law_1074 rfl ?_
  refine zz_V2 C [] (ctX7_longestLeft (zz_st C) 0) vzX7_longestLeft vivzX7_longestLeft rfl rfl rfl e2 (zz_le _ _) (fun _ => rfl) (zz_cap hB (by omega) hI1) (fun _ => rfl) trivial rfl (by decide) (Nat.le_of_ble_eq_true rfl) dL_law_1075 ?_
  refine zz_istore C ((7, .int (ii v)) :: (6, .int (ii code)) :: zz_lv i) dL_law_1078 (by decide) rfl ?_
  exact zt_I C hB (by omega) hI1 hm ha ⟨vzX7_thrown, vivzX7_thrown⟩ dL_law_1080 dL_law_1081 dL_law_1084 dL_law_1086 dL_law_1091 dL_law_1093 dL_law_1096 dL_law_1097 dL_law_1098 dL_law_1099 dL_law_1101 dL_law_1102 dL_law_1103 dL_law_1108 (by decide) (kk _ _ _ _ _ _ _ _ _ hI1)
theorem zc_16 {Γ : CX} {b L : Nat} {xs : Nat → Int32} {Q : State → Prop} {C0 N0 n : Nat} {K : Nat × Nat} {i : Int32} (C : zz_C Γ b L xs) (hB : zz_B C0 N0 K) (hn : n ≤ 512) (hi : zz_in i L) (kk : zz_N Γ b Q C0 N0 (n + 1) K 3404 i) : zz_N Γ b Q C0 N0 n K 1111 i := by
  intro pl sp tv cap c A J M g hI
  obtain ⟨code, v, pl1, sp1, tv1, cap1, c1, A1, J1, M1, g1, e1, e2, hm, ha, hI1⟩ := g_lengthLeft (K := K) hI
  refine zz_aload_n C 1 dL_law_1111 rfl ?_
  refine zz_aload_n C 3 dL_law_1112 rfl ?_
  refine zz_S C [.ref 1, .ref 3] [.ref 0, .ref 455] (ctL_lengthLeft (zz_st C) 0 455) zs_lengthLeft e1 (zl_I e1) (fun _ => rfl) (zz_cap hB (by omega) hI1) (fun _ _ => rfl) (fun h => ⟨zs_0 h, zs_455 h, trivial⟩) rfl (by decide) (Nat.le_of_ble_eq_true rfl) dL_law_1113 ?_
  refine zz_istore C ((6, .int (ii code)) :: zz_lv i) dL_law_1116 (by decide) rfl ?_
  refine zz_aload_n C 3 dL_law_1118 rfl ?_
  refine zz_V2 C [] (ctX7_lengthLeft (zz_st C) 0) vzX7_lengthLeft vivzX7_lengthLeft rfl rfl rfl e2 (zz_le _ _) (fun _ => rfl) (zz_cap hB (by omega) hI1) (fun _ => rfl) trivial rfl (by decide) (Nat.le_of_ble_eq_true rfl) dL_law_1119 ?_
  refine zz_istore C ((7, .int (ii v)) :: (6, .int (ii code)) :: zz_lv i) dL_law_1122 (by decide) rfl ?_
  exact zt_I C hB (by omega) hI1 hm ha ⟨vzX7_thrown, vivzX7_thrown⟩ dL_law_1124 dL_law_1125 dL_law_1128 dL_law_1130 dL_law_1135 dL_law_1137 dL_law_1140 dL_law_1141 dL_law_1142 dL_law_1143 dL_law_1145 dL_law_1146 dL_law_1147 dL_law_1152 (by decide) (kk _ _ _ _ _ _ _ _ _ hI1)
theorem zc_17 {Γ : CX} {b L : Nat} {xs : Nat → Int32} {Q : State → Prop} {C0 N0 n : Nat} {K : Nat × Nat} {i : Int32} (C : zz_C Γ b L xs) (hB : zz_B C0 N0 K) (hn : n ≤ 512) (hi : zz_in i L) (kk : zz_N Γ b Q C0 N0 (n + 1) K 3404 i) : zz_N Γ b Q C0 N0 n K 1155 i := by
  intro pl sp tv cap c A J M g hI
  obtain ⟨code, v, pl1, sp1, tv1, cap1, c1, A1, J1, M1, g1, e1, e2, hm, ha, hI1⟩ := g_meanGap (K := K) hI
  refine zz_aload_n C 1 dL_law_1155 rfl ?_
  refine zz_aload C 4 dL_law_1156 rfl ?_
  refine zz_S C [.ref 1, .ref 4] [.ref 0, .ref 456] (ctL_meanGap (zz_st C) 0 456) zs_meanGap e1 (zl_D e1) (fun _ => rfl) (zz_cap hB (by omega) hI1) (fun _ _ => rfl) (fun h => ⟨zs_0 h, zs_456 h, trivial⟩) rfl (by decide) (Nat.le_of_ble_eq_true rfl) dL_law_1158 ?_
  refine zz_istore C ((6, .int (ii code)) :: zz_lv i) dL_law_1161 (by decide) rfl ?_
  refine zz_aload_n C 3 dL_law_1163 rfl ?_
  refine zz_V2 C [] (ctX7_meanGap (zz_st C) 0) vzX7_meanGap vivzX7_meanGap rfl rfl rfl e2 (zz_le _ _) (fun _ => rfl) (zz_cap hB (by omega) hI1) (fun _ => rfl) trivial rfl (by decide) (Nat.le_of_ble_eq_true rfl) dL_law_1164 ?_
  refine zz_dstore C ((7, .double v) :: (6, .int (ii code)) :: zz_lv i) dL_law_1167 (by decide) rfl ?_
  exact zt_D C hB (by omega) hI1 hm ha ⟨vzX7_thrown, vivzX7_thrown⟩ dL_law_1169 dL_law_1170 dL_law_1173 dL_law_1175 dL_law_1180 dL_law_1182 dL_law_1185 dL_law_1187 dL_law_1188 dL_law_1189 dL_law_1191 dL_law_1192 dL_law_1217 (by decide) (kk _ _ _ _ _ _ _ _ _ hI1)
theorem zc_18 {Γ : CX} {b L : Nat} {xs : Nat → Int32} {Q : State → Prop} {C0 N0 n : Nat} {K : Nat × Nat} {i : Int32} (C : zz_C Γ b L xs) (hB : zz_B C0 N0 K) (hn : n ≤ 512) (hi : zz_in i L) (kk : zz_N Γ b Q C0 N0 (n + 1) K 3404 i) : zz_N Γ b Q C0 N0 n K 1220 i := by
  intro pl sp tv cap c A J M g hI
  obtain ⟨code, v, pl1, sp1, tv1, cap1, c1, A1, J1, M1, g1, e1, e2, hm, ha, hI1⟩ := g_woodShare (K := K) hI
  refine zz_aload_n C 1 dL_law_1220 rfl ?_
  refine zz_aload C 4 dL_law_1221 rfl ?_
  refine zz_S C [.ref 1, .ref 4] [.ref 0, .ref 456] (ctL_woodShare (zz_st C) 0 456) zs_woodShare e1 (zl_F e1) (fun _ => rfl) (zz_cap hB (by omega) hI1) (fun _ _ => rfl) (fun h => ⟨zs_0 h, zs_456 h, trivial⟩) rfl (by decide) (Nat.le_of_ble_eq_true rfl) dL_law_1223 ?_
  refine zz_istore C ((6, .int (ii code)) :: zz_lv i) dL_law_1226 (by decide) rfl ?_
  refine zz_aload_n C 3 dL_law_1228 rfl ?_
  refine zz_V2 C [] (ctX7_woodShare (zz_st C) 0) vzX7_woodShare vivzX7_woodShare rfl rfl rfl e2 (zz_le _ _) (fun _ => rfl) (zz_cap hB (by omega) hI1) (fun _ => rfl) trivial rfl (by decide) (Nat.le_of_ble_eq_true rfl) dL_law_1229 ?_
  refine zz_fstore C ((7, .float v) :: (6, .int (ii code)) :: zz_lv i) dL_law_1232 (by decide) rfl ?_
  exact zt_F C hB (by omega) hI1 hm ha ⟨vzX7_thrown, vivzX7_thrown⟩ dL_law_1234 dL_law_1235 dL_law_1238 dL_law_1240 dL_law_1245 dL_law_1247 dL_law_1250 dL_law_1252 dL_law_1253 dL_law_1254 dL_law_1256 dL_law_1257 dL_law_1258 dL_law_1283 (by decide) (kk _ _ _ _ _ _ _ _ _ hI1)
theorem zc_19 {Γ : CX} {b L : Nat} {xs : Nat → Int32} {Q : State → Prop} {C0 N0 n : Nat} {K : Nat × Nat} {i : Int32} (C : zz_C Γ b L xs) (hB : zz_B C0 N0 K) (hn : n ≤ 512) (hi : zz_in i L) (kk : zz_N Γ b Q C0 N0 (n + 1) K 3404 i) : zz_N Γ b Q C0 N0 n K 1286 i := by
  intro pl sp tv cap c A J M g hI
  obtain ⟨code, v, pl1, sp1, tv1, cap1, c1, A1, J1, M1, g1, e1, e2, hm, ha, hI1⟩ := g_goodShare (K := K) hI
  refine zz_aload_n C 1 dL_law_1286 rfl ?_
  refine zz_aload C 4 dL_law_1287 rfl ?_
  refine zz_S C [.ref 1, .ref 4] [.ref 0, .ref 456] (ctL_goodShare (zz_st C) 0 456) zs_goodShare e1 (zl_F e1) (fun _ => rfl) (zz_cap hB (by omega) hI1) (fun _ _ => rfl) (fun h => ⟨zs_0 h, zs_456 h, trivial⟩) rfl (by decide) (Nat.le_of_ble_eq_true rfl) dL_law_1289 ?_
  refine zz_istore C ((6, .int (ii code)) :: zz_lv i) dL_law_1292 (by decide) rfl ?_
  refine zz_aload_n C 3 dL_law_1294 rfl ?_
  refine zz_V2 C [] (ctX7_goodShare (zz_st C) 0) vzX7_goodShare vivzX7_goodShare rfl rfl rfl e2 (zz_le _ _) (fun _ => rfl) (zz_cap hB (by omega) hI1) (fun _ => rfl) trivial rfl (by decide) (Nat.le_of_ble_eq_true rfl) dL_law_1295 ?_
  refine zz_fstore C ((7, .float v) :: (6, .int (ii code)) :: zz_lv i) dL_law_1298 (by decide) rfl ?_
  exact zt_F C hB (by omega) hI1 hm ha ⟨vzX7_thrown, vivzX7_thrown⟩ dL_law_1300 dL_law_1301 dL_law_1304 dL_law_1306 dL_law_1311 dL_law_1313 dL_law_1316 dL_law_1318 dL_law_1319 dL_law_1320 dL_law_1322 dL_law_1323 dL_law_1324 dL_law_1349 (by decide) (kk _ _ _ _ _ _ _ _ _ hI1)
theorem zc_20 {Γ : CX} {b L : Nat} {xs : Nat → Int32} {Q : State → Prop} {C0 N0 n : Nat} {K : Nat × Nat} {i : Int32} (C : zz_C Γ b L xs) (hB : zz_B C0 N0 K) (hn : n ≤ 512) (hi : zz_in i L) (kk : zz_N Γ b Q C0 N0 (n + 1) K 3404 i) : zz_N Γ b Q C0 N0 n K 1352 i := by
  intro pl sp tv cap c A J M g hI
  obtain ⟨code, v, pl1, sp1, tv1, cap1, c1, A1, J1, M1, g1, e1, e2, hm, ha, hI1⟩ := g_choice (K := K) hI (xs (i + 1).toNatClampNeg).toInt (xs (i + 2).toNatClampNeg).toInt (zz_bd _) (zz_bd _)
  simp only [ii_of] at e1 e2
  refine zz_aload_n C 1 dL_law_1352 rfl ?_
  refine zz_arg C (k5 := 1) 0 5 rfl rfl (by decide) hi.1 dL_law_1353 dL_law_1354 dL_law_1356 dL_law_1357 dL_law_1358 ?_
  refine zz_arg C (k5 := 2) 0 5 rfl rfl (by decide) hi.2.1 dL_law_1359 dL_law_1360 dL_law_1362 dL_law_1363 dL_law_1364 ?_
  refine zz_aload_n C 3 dL_law_1365 rfl ?_
  refine zz_S C [.ref 1, .int (xs (i + 1).toNatClampNeg), .int (xs (i + 2).toNatClampNeg), .ref 3] [.ref 0, .int (xs (i + 1).toNatClampNeg), .int (xs (i + 2).toNatClampNeg), .ref 455] (ctL_choice (zz_st C) 0 (xs (i + 1).toNatClampNeg) (xs (i + 2).toNatClampNeg) 455) zs_choice e1 (zl_I e1) (fun _ => rfl) (zz_cap hB (by omega) hI1) (fun _ _ => rfl) (fun h => ⟨zs_0 h, trivial, trivial, zs_455 h, trivial⟩) rfl (by decide) (Nat.le_of_ble_eq_true rfl) dL_law_1366 ?_
  refine zz_istore C ((6, .int (ii code)) :: zz_lv i) dL_law_1369 (by decide) rfl ?_
  refine zz_aload_n C 3 dL_law_1371 rfl ?_
  refine zz_arg C (k5 := 1) 1 6 rfl rfl (by decide) hi.1 dL_law_1372 dL_law_1373 dL_law_1375 dL_law_1376 dL_law_1377 ?_
  refine zz_arg C (k5 := 2) 1 6 rfl rfl (by decide) hi.2.1 dL_law_1378 dL_law_1379 dL_law_1381 dL_law_1382 dL_law_1383 ?_
  refine zz_V2 C [.int (xs (i + 1).toNatClampNeg), .int (xs (i + 2).toNatClampNeg)] (ctX7_choice (zz_st C) 0 (xs (i + 1).toNatClampNeg) (xs (i + 2).toNatClampNeg)) vzX7_choice vivzX7_choice rfl rfl rfl e2 (zz_le _ _) (fun _ => rfl) (zz_cap hB (by omega) hI1) (fun _ => rfl) ⟨trivial, trivial, trivial⟩ rfl (by decide) (Nat.le_of_ble_eq_true rfl) dL_law_1384 ?_
  refine zz_istore C ((7, .int (ii v)) :: (6, .int (ii code)) :: zz_lv i) dL_law_1387 (by decide) rfl ?_
  exact zt_I C hB (by omega) hI1 hm ha ⟨vzX7_thrown, vivzX7_thrown⟩ dL_law_1389 dL_law_1390 dL_law_1393 dL_law_1395 dL_law_1400 dL_law_1402 dL_law_1405 dL_law_1406 dL_law_1407 dL_law_1408 dL_law_1410 dL_law_1411 dL_law_1412 dL_law_1417 (by decide) (kk _ _ _ _ _ _ _ _ _ hI1)
theorem zc_21 {Γ : CX} {b L : Nat} {xs : Nat → Int32} {Q : State → Prop} {C0 N0 n : Nat} {K : Nat × Nat} {i : Int32} (C : zz_C Γ b L xs) (hB : zz_B C0 N0 K) (hn : n ≤ 512) (hi : zz_in i L) (kk : zz_N Γ b Q C0 N0 (n + 1) K 3404 i) : zz_N Γ b Q C0 N0 n K 1420 i := by
  intro pl sp tv cap c A J M g hI
  obtain ⟨code, v, pl1, sp1, tv1, cap1, c1, A1, J1, M1, g1, e1, e2, hm, ha, hI1⟩ := g_chosen (K := K) hI (xs (i + 1).toNatClampNeg).toInt (xs (i + 2).toNatClampNeg).toInt (zz_bd _) (zz_bd _)
  simp only [ii_of] at e1 e2
  refine zz_aload_n C 1 dL_law_1420 rfl ?_
  refine zz_arg C (k5 := 1) 0 5 rfl rfl (by decide) hi.1 dL_law_1421 dL_law_1422 dL_law_1424 dL_law_1425 dL_law_1426 ?_
  refine zz_arg C (k5 := 2) 0 5 rfl rfl (by decide) hi.2.1 dL_law_1427 dL_law_1428 dL_law_1430 dL_law_1431 dL_law_1432 ?_
  refine zz_aload_n C 3 dL_law_1433 rfl ?_
  refine zz_S C [.ref 1, .int (xs (i + 1).toNatClampNeg), .int (xs (i + 2).toNatClampNeg), .ref 3] [.ref 0, .int (xs (i + 1).toNatClampNeg), .int (xs (i + 2).toNatClampNeg), .ref 455] (ctL_chosen (zz_st C) 0 (xs (i + 1).toNatClampNeg) (xs (i + 2).toNatClampNeg) 455) zs_chosen e1 (zl_I e1) (fun _ => rfl) (zz_cap hB (by omega) hI1) (fun _ _ => rfl) (fun h => ⟨zs_0 h, trivial, trivial, zs_455 h, trivial⟩) rfl (by decide) (Nat.le_of_ble_eq_true rfl) dL_law_1434 ?_
  refine zz_istore C ((6, .int (ii code)) :: zz_lv i) dL_law_1437 (by decide) rfl ?_
  refine zz_aload_n C 3 dL_law_1439 rfl ?_
  refine zz_arg C (k5 := 1) 1 6 rfl rfl (by decide) hi.1 dL_law_1440 dL_law_1441 dL_law_1443 dL_law_1444 dL_law_1445 ?_
  refine zz_arg C (k5 := 2) 1 6 rfl rfl (by decide) hi.2.1 dL_law_1446 dL_law_1447 dL_law_1449 dL_law_1450 dL_law_1451 ?_
  refine zz_V2 C [.int (xs (i + 1).toNatClampNeg), .int (xs (i + 2).toNatClampNeg)] (ctX7_chosen (zz_st C) 0 (xs (i + 1).toNatClampNeg) (xs (i + 2).toNatClampNeg)) vzX7_chosen vivzX7_chosen rfl rfl rfl e2 (zz_le _ _) (fun _ => rfl) (zz_cap hB (by omega) hI1) (fun _ => rfl) ⟨trivial, trivial, trivial⟩ rfl (by decide) (Nat.le_of_ble_eq_true rfl) dL_law_1452 ?_
  refine zz_istore C ((7, .int (ii v)) :: (6, .int (ii code)) :: zz_lv i) dL_law_1455 (by decide) rfl ?_
  exact zt_I C hB (by omega) hI1 hm ha ⟨vzX7_thrown, vivzX7_thrown⟩ dL_law_1457 dL_law_1458 dL_law_1461 dL_law_1463 dL_law_1468 dL_law_1470 dL_law_1473 dL_law_1474 dL_law_1475 dL_law_1476 dL_law_1478 dL_law_1479 dL_law_1480 dL_law_1485 (by decide) (kk _ _ _ _ _ _ _ _ _ hI1)
theorem zc_22 {Γ : CX} {b L : Nat} {xs : Nat → Int32} {Q : State → Prop} {C0 N0 n : Nat} {K : Nat × Nat} {i : Int32} (C : zz_C Γ b L xs) (hB : zz_B C0 N0 K) (hn : n ≤ 512) (hi : zz_in i L) (kk : zz_N Γ b Q C0 N0 (n + 1) K 3404 i) : zz_N Γ b Q C0 N0 n K 1488 i := by
  intro pl sp tv cap c A J M g hI
  obtain ⟨code, v, pl1, sp1, tv1, cap1, c1, A1, J1, M1, g1, e1, e2, hm, ha, hI1⟩ := g_ways (K := K) hI (xs (i + 1).toNatClampNeg).toInt (zz_bd _)
  simp only [ii_of] at e1 e2
  refine zz_aload_n C 1 dL_law_1488 rfl ?_
  refine zz_arg C (k5 := 1) 0 5 rfl rfl (by decide) hi.1 dL_law_1489 dL_law_1490 dL_law_1492 dL_law_1493 dL_law_1494 ?_
  refine zz_aload_n C 3 dL_law_1495 rfl ?_
  refine zz_S C [.ref 1, .int (xs (i + 1).toNatClampNeg), .ref 3] [.ref 0, .int (xs (i + 1).toNatClampNeg), .ref 455] (ctL_ways (zz_st C) 0 (xs (i + 1).toNatClampNeg) 455) zs_ways e1 (zl_I e1) (fun _ => rfl) (zz_cap hB (by omega) hI1) (fun _ _ => rfl) (fun h => ⟨zs_0 h, trivial, zs_455 h, trivial⟩) rfl (by decide) (Nat.le_of_ble_eq_true rfl) dL_law_1496 ?_
  refine zz_istore C ((6, .int (ii code)) :: zz_lv i) dL_law_1499 (by decide) rfl ?_
  refine zz_aload_n C 3 dL_law_1501 rfl ?_
  refine zz_arg C (k5 := 1) 1 6 rfl rfl (by decide) hi.1 dL_law_1502 dL_law_1503 dL_law_1505 dL_law_1506 dL_law_1507 ?_
  refine zz_V2 C [.int (xs (i + 1).toNatClampNeg)] (ctX7_ways (zz_st C) 0 (xs (i + 1).toNatClampNeg)) vzX7_ways vivzX7_ways rfl rfl rfl e2 (zz_le _ _) (fun _ => rfl) (zz_cap hB (by omega) hI1) (fun _ => rfl) ⟨trivial, trivial⟩ rfl (by decide) (Nat.le_of_ble_eq_true rfl) dL_law_1508 ?_
  refine zz_istore C ((7, .int (ii v)) :: (6, .int (ii code)) :: zz_lv i) dL_law_1511 (by decide) rfl ?_
  exact zt_I C hB (by omega) hI1 hm ha ⟨vzX7_thrown, vivzX7_thrown⟩ dL_law_1513 dL_law_1514 dL_law_1517 dL_law_1519 dL_law_1524 dL_law_1526 dL_law_1529 dL_law_1530 dL_law_1531 dL_law_1532 dL_law_1534 dL_law_1535 dL_law_1536 dL_law_1541 (by decide) (kk _ _ _ _ _ _ _ _ _ hI1)
theorem zc_23 {Γ : CX} {b L : Nat} {xs : Nat → Int32} {Q : State → Prop} {C0 N0 n : Nat} {K : Nat × Nat} {i : Int32} (C : zz_C Γ b L xs) (hB : zz_B C0 N0 K) (hn : n ≤ 512) (hi : zz_in i L) (kk : zz_N Γ b Q C0 N0 (n + 1) K 3404 i) : zz_N Γ b Q C0 N0 n K 1544 i := by
  intro pl sp tv cap c A J M g hI
  obtain ⟨code, v, pl1, sp1, tv1, cap1, c1, A1, J1, M1, g1, e1, e2, hm, ha, hI1⟩ := g_nearest (K := K) hI (xs (i + 1).toNatClampNeg).toInt (zz_bd _)
  simp only [ii_of] at e1 e2
  refine zz_aload_n C 1 dL_law_1544 rfl ?_
  refine zz_arg C (k5 := 1) 0 5 rfl rfl (by decide) hi.1 dL_law_1545 dL_law_1546 dL_law_1548 dL_law_1549 dL_law_1550 ?_
  refine zz_aload_n C 3 dL_law_1551 rfl ?_
  refine zz_S C [.ref 1, .int (xs (i + 1).toNatClampNeg), .ref 3] [.ref 0, .int (xs (i + 1).toNatClampNeg), .ref 455] (ctL_nearest (zz_st C) 0 (xs (i + 1).toNatClampNeg) 455) zs_nearest e1 (zl_I e1) (fun _ => rfl) (zz_cap hB (by omega) hI1) (fun _ _ => rfl) (fun h => ⟨zs_0 h, trivial, zs_455 h, trivial⟩) rfl (by decide) (Nat.le_of_ble_eq_true rfl) dL_law_1552 ?_
  refine zz_istore C ((6, .int (ii code)) :: zz_lv i) dL_law_1555 (by decide) rfl ?_
  refine zz_aload_n C 3 dL_law_1557 rfl ?_
  refine zz_arg C (k5 := 1) 1 6 rfl rfl (by decide) hi.1 dL_law_1558 dL_law_1559 dL_law_1561 dL_law_1562 dL_law_1563 ?_
  refine zz_V2 C [.int (xs (i + 1).toNatClampNeg)] (ctX7_nearest (zz_st C) 0 (xs (i + 1).toNatClampNeg)) vzX7_nearest vivzX7_nearest rfl rfl rfl e2 (zz_le _ _) (fun _ => rfl) (zz_cap hB (by omega) hI1) (fun _ => rfl) ⟨trivial, trivial⟩ rfl (by decide) (Nat.le_of_ble_eq_true rfl) dL_law_1564 ?_
  refine zz_istore C ((7, .int (ii v)) :: (6, .int (ii code)) :: zz_lv i) dL_law_1567 (by decide) rfl ?_
  exact zt_I C hB (by omega) hI1 hm ha ⟨vzX7_thrown, vivzX7_thrown⟩ dL_law_1569 dL_law_1570 dL_law_1573 dL_law_1575 dL_law_1580 dL_law_1582 dL_law_1585 dL_law_1586 dL_law_1587 dL_law_1588 dL_law_1590 dL_law_1591 dL_law_1592 dL_law_1597 (by decide) (kk _ _ _ _ _ _ _ _ _ hI1)
theorem zc_24 {Γ : CX} {b L : Nat} {xs : Nat → Int32} {Q : State → Prop} {C0 N0 n : Nat} {K : Nat × Nat} {i : Int32} (C : zz_C Γ b L xs) (hB : zz_B C0 N0 K) (hn : n ≤ 512) (hi : zz_in i L) (kk : zz_N Γ b Q C0 N0 (n + 1) K 3404 i) : zz_N Γ b Q C0 N0 n K 1600 i := by
  intro pl sp tv cap c A J M g hI
  obtain ⟨code, v, pl1, sp1, tv1, cap1, c1, A1, J1, M1, g1, e1, e2, hm, ha, hI1⟩ := g_fewestAt (K := K) hI (xs (i + 1).toNatClampNeg).toInt (xs (i + 2).toNatClampNeg).toInt (zz_bd _) (zz_bd _)
  simp only [ii_of] at e1 e2
  refine zz_aload_n C 1 dL_law_1600 rfl ?_
  refine zz_arg C (k5 := 1) 0 5 rfl rfl (by decide) hi.1 dL_law_1601 dL_law_1602 dL_law_1604 dL_law_1605 dL_law_1606 ?_
  refine zz_arg C (k5 := 2) 0 5 rfl rfl (by decide) hi.2.1 dL_law_1607 dL_law_1608 dL_law_1610 dL_law_1611 dL_law_1612 ?_
  refine zz_aload_n C 3 dL_law_1613 rfl ?_
  refine zz_S C [.ref 1, .int (xs (i + 1).toNatClampNeg), .int (xs (i + 2).toNatClampNeg), .ref 3] [.ref 0, .int (xs (i + 1).toNatClampNeg), .int (xs (i + 2).toNatClampNeg), .ref 455] (ctL_fewestAt (zz_st C) 0 (xs (i + 1).toNatClampNeg) (xs (i + 2).toNatClampNeg) 455) zs_fewestAt e1 (zl_I e1) (fun _ => rfl) (zz_cap hB (by omega) hI1) (fun _ _ => rfl) (fun h => ⟨zs_0 h, trivial, trivial, zs_455 h, trivial⟩) rfl (by decide) (Nat.le_of_ble_eq_true rfl) dL_law_1614 ?_
  refine zz_istore C ((6, .int (ii code)) :: zz_lv i) dL_law_1617 (by decide) rfl ?_
  refine zz_aload_n C 3 dL_law_1619 rfl ?_
  refine zz_arg C (k5 := 1) 1 6 rfl rfl (by decide) hi.1 dL_law_1620 dL_law_1621 dL_law_1623 dL_law_1624 dL_law_1625 ?_
  refine zz_arg C (k5 := 2) 1 6 rfl rfl (by decide) hi.2.1 dL_law_1626 dL_law_1627 dL_law_1629 dL_law_1630 dL_law_1631 ?_
  refine zz_V2 C [.int (xs (i + 1).toNatClampNeg), .int (xs (i + 2).toNatClampNeg)] (ctX7_fewestAt (zz_st C) 0 (xs (i + 1).toNatClampNeg) (xs (i + 2).toNatClampNeg)) vzX7_fewestAt vivzX7_fewestAt rfl rfl rfl e2 (zz_le _ _) (fun _ => rfl) (zz_cap hB (by omega) hI1) (fun _ => rfl) ⟨trivial, trivial, trivial⟩ rfl (by decide) (Nat.le_of_ble_eq_true rfl) dL_law_1632 ?_
  refine zz_istore C ((7, .int (ii v)) :: (6, .int (ii code)) :: zz_lv i) dL_law_1635 (by decide) rfl ?_
  exact zt_I C hB (by omega) hI1 hm ha ⟨vzX7_thrown, vivzX7_thrown⟩ dL_law_1637 dL_law_1638 dL_law_1641 dL_law_1643 dL_law_1648 dL_law_1650 dL_law_1653 dL_law_1654 dL_law_1655 dL_law_1656 dL_law_1658 dL_law_1659 dL_law_1660 dL_law_1665 (by decide) (kk _ _ _ _ _ _ _ _ _ hI1)
theorem zc_25 {Γ : CX} {b L : Nat} {xs : Nat → Int32} {Q : State → Prop} {C0 N0 n : Nat} {K : Nat × Nat} {i : Int32} (C : zz_C Γ b L xs) (hB : zz_B C0 N0 K) (hn : n ≤ 512) (hi : zz_in i L) (kk : zz_N Γ b Q C0 N0 (n + 1) K 3404 i) : zz_N Γ b Q C0 N0 n K 1668 i := by
  intro pl sp tv cap c A J M g hI
  obtain ⟨code, v, pl1, sp1, tv1, cap1, c1, A1, J1, M1, g1, e1, e2, hm, ha, hI1⟩ := g_rowFor (K := K) hI (xs (i + 1).toNatClampNeg).toInt (zz_bd _)
  simp only [ii_of] at e1 e2
  refine zz_aload_n C 1 dL_law_1668 rfl ?_
  refine zz_arg C (k5 := 1) 0 5 rfl rfl (by decide) hi.1 dL_law_1669 dL_law_1670 dL_law_1672 dL_law_1673 dL_law_1674 ?_
  refine zz_aload_n C 3 dL_law_1675 rfl ?_
  refine zz_S C [.ref 1, .int (xs (i + 1).toNatClampNeg), .ref 3] [.ref 0, .int (xs (i + 1).toNatClampNeg), .ref 455] (ctL_rowFor (zz_st C) 0 (xs (i + 1).toNatClampNeg) 455) zs_rowFor e1 (zl_I e1) (fun _ => rfl) (zz_cap hB (by omega) hI1) (fun _ _ => rfl) (fun h => ⟨zs_0 h, trivial, zs_455 h, trivial⟩) rfl (by decide) (Nat.le_of_ble_eq_true rfl) dL_law_1676 ?_
  refine zz_istore C ((6, .int (ii code)) :: zz_lv i) dL_law_1679 (by decide) rfl ?_
  refine zz_aload_n C 3 dL_law_1681 rfl ?_
  refine zz_arg C (k5 := 1) 1 6 rfl rfl (by decide) hi.1 dL_law_1682 dL_law_1683 dL_law_1685 dL_law_1686 dL_law_1687 ?_
  refine zz_V2 C [.int (xs (i + 1).toNatClampNeg)] (ctX7_rowFor (zz_st C) 0 (xs (i + 1).toNatClampNeg)) vzX7_rowFor vivzX7_rowFor rfl rfl rfl e2 (zz_le _ _) (fun _ => rfl) (zz_cap hB (by omega) hI1) (fun _ => rfl) ⟨trivial, trivial⟩ rfl (by decide) (Nat.le_of_ble_eq_true rfl) dL_law_1688 ?_
  refine zz_istore C ((7, .int (ii v)) :: (6, .int (ii code)) :: zz_lv i) dL_law_1691 (by decide) rfl ?_
  exact zt_I C hB (by omega) hI1 hm ha ⟨vzX7_thrown, vivzX7_thrown⟩ dL_law_1693 dL_law_1694 dL_law_1697 dL_law_1699 dL_law_1704 dL_law_1706 dL_law_1709 dL_law_1710 dL_law_1711 dL_law_1712 dL_law_1714 dL_law_1715 dL_law_1716 dL_law_1721 (by decide) (kk _ _ _ _ _ _ _ _ _ hI1)
theorem zc_26 {Γ : CX} {b L : Nat} {xs : Nat → Int32} {Q : State → Prop} {C0 N0 n : Nat} {K : Nat × Nat} {i : Int32} (C : zz_C Γ b L xs) (hB : zz_B C0 N0 K) (hn : n ≤ 512) (hi : zz_in i L) (kk : zz_N Γ b Q C0 N0 (n + 1) K 3404 i) : zz_N Γ b Q C0 N0 n K 1724 i := by
  intro pl sp tv cap c A J M g hI
  obtain ⟨code, v, pl1, sp1, tv1, cap1, c1, A1, J1, M1, g1, e1, e2, hm, ha, hI1⟩ := g_missing (K := K) hI (xs (i + 1).toNatClampNeg).toInt (zz_bd _)
  simp only [ii_of] at e1 e2
  refine zz_aload_n C 1 dL_law_1724 rfl ?_
  refine zz_arg C (k5 := 1) 0 5 rfl rfl (by decide) hi.1 dL_law_1725 dL_law_1726 dL_law_1728 dL_law_1729 dL_law_1730 ?_
  refine zz_aload_n C 3 dL_law_1731 rfl ?_
  refine zz_S C [.ref 1, .int (xs (i + 1).toNatClampNeg), .ref 3] [.ref 0, .int (xs (i + 1).toNatClampNeg), .ref 455] (ctL_missing (zz_st C) 0 (xs (i + 1).toNatClampNeg) 455) zs_missing e1 (zl_I e1) (fun _ => rfl) (zz_cap hB (by omega) hI1) (fun _ _ => rfl) (fun h => ⟨zs_0 h, trivial, zs_455 h, trivial⟩) rfl (by decide) (Nat.le_of_ble_eq_true rfl) dL_law_1732 ?_
  refine zz_istore C ((6, .int (ii code)) :: zz_lv i) dL_law_1735 (by decide) rfl ?_
  refine zz_aload_n C 3 dL_law_1737 rfl ?_
  refine zz_arg C (k5 := 1) 1 6 rfl rfl (by decide) hi.1 dL_law_1738 dL_law_1739 dL_law_1741 dL_law_1742 dL_law_1743 ?_
  refine zz_V2 C [.int (xs (i + 1).toNatClampNeg)] (ctX7_missing (zz_st C) 0 (xs (i + 1).toNatClampNeg)) vzX7_missing vivzX7_missing rfl rfl rfl e2 (zz_le _ _) (fun _ => rfl) (zz_cap hB (by omega) hI1) (fun _ => rfl) ⟨trivial, trivial⟩ rfl (by decide) (Nat.le_of_ble_eq_true rfl) dL_law_1744 ?_
  refine zz_istore C ((7, .int (ii v)) :: (6, .int (ii code)) :: zz_lv i) dL_law_1747 (by decide) rfl ?_
  exact zt_I C hB (by omega) hI1 hm ha ⟨vzX7_thrown, vivzX7_thrown⟩ dL_law_1749 dL_law_1750 dL_law_1753 dL_law_1755 dL_law_1760 dL_law_1762 dL_law_1765 dL_law_1766 dL_law_1767 dL_law_1768 dL_law_1770 dL_law_1771 dL_law_1772 dL_law_1777 (by decide) (kk _ _ _ _ _ _ _ _ _ hI1)
theorem zc_27 {Γ : CX} {b L : Nat} {xs : Nat → Int32} {Q : State → Prop} {C0 N0 n : Nat} {K : Nat × Nat} {i : Int32} (C : zz_C Γ b L xs) (hB : zz_B C0 N0 K) (hn : n ≤ 512) (hi : zz_in i L) (kk : zz_N Γ b Q C0 N0 (n + 1) K 3404 i) : zz_N Γ b Q C0 N0 n K 1780 i := by
  intro pl sp tv cap c A J M g hI
  obtain ⟨code, v, pl1, sp1, tv1, cap1, c1, A1, J1, M1, g1, e1, e2, hm, ha, hI1⟩ := g_canPut (K := K) hI (xs (i + 1).toNatClampNeg).toInt (xs (i + 2).toNatClampNeg).toInt (zz_bd _) (zz_bd _)
  simp only [ii_of] at e1 e2
  refine zz_aload_n C 1 dL_law_1780 rfl ?_
  refine zz_arg C (k5 := 1) 0 5 rfl rfl (by decide) hi.1 dL_law_1781 dL_law_1782 dL_law_1784 dL_law_1785 dL_law_1786 ?_
  refine zz_arg C (k5 := 2) 0 5 rfl rfl (by decide) hi.2.1 dL_law_1787 dL_law_1788 dL_law_1790 dL_law_1791 dL_law_1792 ?_
  refine zz_aload_n C 3 dL_law_1793 rfl ?_
  refine zz_S C [.ref 1, .int (xs (i + 1).toNatClampNeg), .int (xs (i + 2).toNatClampNeg), .ref 3] [.ref 0, .int (xs (i + 1).toNatClampNeg), .int (xs (i + 2).toNatClampNeg), .ref 455] (ctL_canPut (zz_st C) 0 (xs (i + 1).toNatClampNeg) (xs (i + 2).toNatClampNeg) 455) zs_canPut e1 (zl_Z (fun _ => zl_uJ) (fun _ => zl_uJ) e1) (fun _ => rfl) (zz_cap hB (by omega) hI1) (fun _ _ => rfl) (fun h => ⟨zs_0 h, trivial, trivial, zs_455 h, trivial⟩) rfl (by decide) (Nat.le_of_ble_eq_true rfl) dL_law_1794 ?_
  refine zz_istore C ((6, .int (ii code)) :: zz_lv i) dL_law_1797 (by decide) rfl ?_
  refine zz_aload_n C 3 dL_law_1799 rfl ?_
  refine zz_arg C (k5 := 1) 1 6 rfl rfl (by decide) hi.1 dL_law_1800 dL_law_1801 dL_law_1803 dL_law_1804 dL_law_1805 ?_
  refine zz_arg C (k5 := 2) 1 6 rfl rfl (by decide) hi.2.1 dL_law_1806 dL_law_1807 dL_law_1809 dL_law_1810 dL_law_1811 ?_
  refine zz_V2 C [.int (xs (i + 1).toNatClampNeg), .int (xs (i + 2).toNatClampNeg)] (ctX7_canPut (zz_st C) 0 (xs (i + 1).toNatClampNeg) (xs (i + 2).toNatClampNeg)) vzX7_canPut vivzX7_canPut rfl rfl rfl e2 (zz_le _ _) (fun _ => rfl) (zz_cap hB (by omega) hI1) (fun _ => rfl) ⟨trivial, trivial, trivial⟩ rfl (by decide) (Nat.le_of_ble_eq_true rfl) dL_law_1812 ?_
  refine zz_istore C ((7, .int (ii v)) :: (6, .int (ii code)) :: zz_lv i) dL_law_1815 (by decide) rfl ?_
  exact zt_Z C hB (by omega) hI1 hm ha (fun h0 => zj_Z (by decide) (fun _ _ q => Or.inl (zj_uJ q)) (fun _ _ q => Or.inr (zj_uJ q)) e1 (by rw [h0]; rfl)) ⟨vzX7_thrown, vivzX7_thrown⟩ dL_law_1817 dL_law_1818 dL_law_1821 dL_law_1823 dL_law_1828 dL_law_1830 dL_law_1833 dL_law_1834 dL_law_1835 dL_law_1836 dL_law_1838 dL_law_1841 dL_law_1842 dL_law_1845 dL_law_1846 dL_law_1847 dL_law_1852 (by decide) (kk _ _ _ _ _ _ _ _ _ hI1)
theorem zc_28 {Γ : CX} {b L : Nat} {xs : Nat → Int32} {Q : State → Prop} {C0 N0 n : Nat} {K : Nat × Nat} {i : Int32} (C : zz_C Γ b L xs) (hB : zz_B C0 N0 K) (hn : n ≤ 512) (hi : zz_in i L) (kk : zz_N Γ b Q C0 N0 (n + 1) K 3404 i) : zz_N Γ b Q C0 N0 n K 1855 i := by
  intro pl sp tv cap c A J M g hI
  obtain ⟨code, v, pl1, sp1, tv1, cap1, c1, A1, J1, M1, g1, e1, e2, hm, ha, hI1⟩ := g_freshChoice (K := K) hI (xs (i + 1).toNatClampNeg).toInt (zz_bd _)
  simp only [ii_of] at e1 e2
  refine zz_aload_n C 1 dL_law_1855 rfl ?_
  refine zz_arg C (k5 := 1) 0 5 rfl rfl (by decide) hi.1 dL_law_1856 dL_law_1857 dL_law_1859 dL_law_1860 dL_law_1861 ?_
  refine zz_aload_n C 3 dL_law_1862 rfl ?_
  refine zz_S C [.ref 1, .int (xs (i + 1).toNatClampNeg), .ref 3] [.ref 0, .int (xs (i + 1).toNatClampNeg), .ref 455] (ctL_freshChoice (zz_st C) 0 (xs (i + 1).toNatClampNeg) 455) zs_freshChoice e1 (zl_I e1) (fun _ => rfl) (zz_cap hB (by omega) hI1) (fun _ _ => rfl) (fun h => ⟨zs_0 h, trivial, zs_455 h, trivial⟩) rfl (by decide) (Nat.le_of_ble_eq_true rfl) dL_law_1863 ?_
  refine zz_istore C ((6, .int (ii code)) :: zz_lv i) dL_law_1866 (by decide) rfl ?_
  refine zz_aload_n C 3 dL_law_1868 rfl ?_
  refine zz_arg C (k5 := 1) 1 6 rfl rfl (by decide) hi.1 dL_law_1869 dL_law_1870 dL_law_1872 dL_law_1873 dL_law_1874 ?_
  refine zz_V2 C [.int (xs (i + 1).toNatClampNeg)] (ctX7_freshChoice (zz_st C) 0 (xs (i + 1).toNatClampNeg)) vzX7_freshChoice vivzX7_freshChoice rfl rfl rfl e2 (zz_le _ _) (fun _ => rfl) (zz_cap hB (by omega) hI1) (fun _ => rfl) ⟨trivial, trivial⟩ rfl (by decide) (Nat.le_of_ble_eq_true rfl) dL_law_1875 ?_
  refine zz_istore C ((7, .int (ii v)) :: (6, .int (ii code)) :: zz_lv i) dL_law_1878 (by decide) rfl ?_
  exact zt_I C hB (by omega) hI1 hm ha ⟨vzX7_thrown, vivzX7_thrown⟩ dL_law_1880 dL_law_1881 dL_law_1884 dL_law_1886 dL_law_1891 dL_law_1893 dL_law_1896 dL_law_1897 dL_law_1898 dL_law_1899 dL_law_1901 dL_law_1902 dL_law_1903 dL_law_1908 (by decide) (kk _ _ _ _ _ _ _ _ _ hI1)
theorem zc_29 {Γ : CX} {b L : Nat} {xs : Nat → Int32} {Q : State → Prop} {C0 N0 n : Nat} {K : Nat × Nat} {i : Int32} (C : zz_C Γ b L xs) (hB : zz_B C0 N0 K) (hn : n ≤ 512) (hi : zz_in i L) (kk : zz_N Γ b Q C0 N0 (n + 1) K 3404 i) : zz_N Γ b Q C0 N0 n K 1911 i := by
  intro pl sp tv cap c A J M g hI
  obtain ⟨code, v, pl1, sp1, tv1, cap1, c1, A1, J1, M1, g1, e1, e2, hm, ha, hI1⟩ := g_fillable (K := K) hI (xs (i + 1).toNatClampNeg).toInt (zz_bd _)
  simp only [ii_of] at e1 e2
  refine zz_aload_n C 1 dL_law_1911 rfl ?_
  refine zz_arg C (k5 := 1) 0 5 rfl rfl (by decide) hi.1 dL_law_1912 dL_law_1913 dL_law_1915 dL_law_1916 dL_law_1917 ?_
  refine zz_aload_n C 3 dL_law_1918 rfl ?_
  refine zz_S C [.ref 1, .int (xs (i + 1).toNatClampNeg), .ref 3] [.ref 0, .int (xs (i + 1).toNatClampNeg), .ref 455] (ctL_fillable (zz_st C) 0 (xs (i + 1).toNatClampNeg) 455) zs_fillable e1 (zl_I e1) (fun _ => rfl) (zz_cap hB (by omega) hI1) (fun _ _ => rfl) (fun h => ⟨zs_0 h, trivial, zs_455 h, trivial⟩) rfl (by decide) (Nat.le_of_ble_eq_true rfl) dL_law_1919 ?_
  refine zz_istore C ((6, .int (ii code)) :: zz_lv i) dL_law_1922 (by decide) rfl ?_
  refine zz_aload_n C 3 dL_law_1924 rfl ?_
  refine zz_arg C (k5 := 1) 1 6 rfl rfl (by decide) hi.1 dL_law_1925 dL_law_1926 dL_law_1928 dL_law_1929 dL_law_1930 ?_
  refine zz_V2 C [.int (xs (i + 1).toNatClampNeg)] (ctX7_fillable (zz_st C) 0 (xs (i + 1).toNatClampNeg)) vzX7_fillable vivzX7_fillable rfl rfl rfl e2 (zz_le _ _) (fun _ => rfl) (zz_cap hB (by omega) hI1) (fun _ => rfl) ⟨trivial, trivial⟩ rfl (by decide) (Nat.le_of_ble_eq_true rfl) dL_law_1931 ?_
  refine zz_istore C ((7, .int (ii v)) :: (6, .int (ii code)) :: zz_lv i) dL_law_1934 (by decide) rfl ?_
  exact zt_I C hB (by omega) hI1 hm ha ⟨vzX7_thrown, vivzX7_thrown⟩ dL_law_1936 dL_law_1937 dL_law_1940 dL_law_1942 dL_law_1947 dL_law_1949 dL_law_1952 dL_law_1953 dL_law_1954 dL_law_1955 dL_law_1957 dL_law_1958 dL_law_1959 dL_law_1964 (by decide) (kk _ _ _ _ _ _ _ _ _ hI1)
theorem zc_30 {Γ : CX} {b L : Nat} {xs : Nat → Int32} {Q : State → Prop} {C0 N0 n : Nat} {K : Nat × Nat} {i : Int32} (C : zz_C Γ b L xs) (hB : zz_B C0 N0 K) (hn : n ≤ 512) (hi : zz_in i L) (kk : zz_N Γ b Q C0 N0 (n + 1) K 3404 i) : zz_N Γ b Q C0 N0 n K 1967 i := by
  intro pl sp tv cap c A J M g hI
  obtain ⟨code, v, pl1, sp1, tv1, cap1, c1, A1, J1, M1, g1, e1, e2, hm, ha, hI1⟩ := g_fallsIn (K := K) hI (by omega) (xs (i + 1).toNatClampNeg).toInt (if (xs (i + 2).toNatClampNeg) = 0 then 0 else 1) (zz_bd _) (zz_01 _)
  simp only [ii_of] at e1 e2
  refine zz_aload_n C 1 dL_law_1967 rfl ?_
  refine zz_arg C (k5 := 1) 0 5 rfl rfl (by decide) hi.1 dL_law_1968 dL_law_1969 dL_law_1971 dL_law_1972 dL_law_1973 ?_
  refine zz_arg C (k5 := 2) 0 5 rfl rfl (by decide) hi.2.1 dL_law_1974 dL_law_1975 dL_law_1977 dL_law_1978 dL_law_1979 ?_
  refine zz_argZ C dL_law_1980 dL_law_1983 dL_law_1984 dL_law_1987 ?_
  refine zz_aload_n C 3 dL_law_1988 rfl ?_
  refine zz_S C [.ref 1, .int (xs (i + 1).toNatClampNeg), .int (ii (if (xs (i + 2).toNatClampNeg) = 0 then 0 else 1)), .ref 3] [.ref 0, .int (xs (i + 1).toNatClampNeg), .int (ii (if (xs (i + 2).toNatClampNeg) = 0 then 0 else 1)), .ref 455] (ctL_fallsIn (zz_st C) 0 (xs (i + 1).toNatClampNeg) (ii (if (xs (i + 2).toNatClampNeg) = 0 then 0 else 1)) 455) zs_fallsIn e1 (zl_I e1) (fun _ => rfl) (zz_cap hB (by omega) hI1) (fun _ _ => rfl) (fun h => ⟨zs_0 h, trivial, trivial, zs_455 h, trivial⟩) rfl (by decide) (Nat.le_of_ble_eq_true rfl) dL_law_1989 ?_
  refine zz_istore C ((6, .int (ii code)) :: zz_lv i) dL_law_1992 (by decide) rfl ?_
  refine zz_aload_n C 3 dL_law_1994 rfl ?_
  refine zz_arg C (k5 := 1) 1 6 rfl rfl (by decide) hi.1 dL_law_1995 dL_law_1996 dL_law_1998 dL_law_1999 dL_law_2000 ?_
  refine zz_arg C (k5 := 2) 1 6 rfl rfl (by decide) hi.2.1 dL_law_2001 dL_law_2002 dL_law_2004 dL_law_2005 dL_law_2006 ?_
  refine zz_argZ C dL_law_2007 dL_law_2010 dL_law_2011 dL_law_2014 ?_
  refine zz_V2 C [.int (xs (i + 1).toNatClampNeg), .int (ii (if (xs (i + 2).toNatClampNeg) = 0 then 0 else 1))] (ctX7_fallsIn (zz_st C) 0 (xs (i + 1).toNatClampNeg) (ii (if (xs (i + 2).toNatClampNeg) = 0 then 0 else 1))) vzX7_fallsIn vivzX7_fallsIn rfl rfl rfl e2 (zz_le _ _) (fun _ => rfl) (zz_cap hB (by omega) hI1) (fun _ => rfl) ⟨trivial, trivial, trivial⟩ rfl (by decide) (Nat.le_of_ble_eq_true rfl) dL_law_2015 ?_
  refine zz_istore C ((7, .int (ii v)) :: (6, .int (ii code)) :: zz_lv i) dL_law_2018 (by decide) rfl ?_
  exact zt_I C hB (by omega) hI1 hm ha ⟨vzX7_thrown, vivzX7_thrown⟩ dL_law_2020 dL_law_2021 dL_law_2024 dL_law_2026 dL_law_2031 dL_law_2033 dL_law_2036 dL_law_2037 dL_law_2038 dL_law_2039 dL_law_2041 dL_law_2042 dL_law_2043 dL_law_2048 (by decide) (kk _ _ _ _ _ _ _ _ _ hI1)
theorem zc_31 {Γ : CX} {b L : Nat} {xs : Nat → Int32} {Q : State → Prop} {C0 N0 n : Nat} {K : Nat × Nat} {i : Int32} (C : zz_C Γ b L xs) (hB : zz_B C0 N0 K) (hn : n ≤ 512) (hi : zz_in i L) (kk : zz_N Γ b Q C0 N0 (n + 1) K 3404 i) : zz_N Γ b Q C0 N0 n K 2051 i := by
  intro pl sp tv cap c A J M g hI
  obtain ⟨code, v, pl1, sp1, tv1, cap1, c1, A1, J1, M1, g1, e1, e2, hm, ha, hI1⟩ := g_goodIn (K := K) hI (by omega) (xs (i + 1).toNatClampNeg).toInt (zz_bd _)
  simp only [ii_of] at e1 e2
  refine zz_aload_n C 1 dL_law_2051 rfl ?_
  refine zz_arg C (k5 := 1) 0 5 rfl rfl (by decide) hi.1 dL_law_2052 dL_law_2053 dL_law_2055 dL_law_2056 dL_law_2057 ?_
  refine zz_aload_n C 3 dL_law_2058 rfl ?_
  refine zz_S C [.ref 1, .int (xs (i + 1).toNatClampNeg), .ref 3] [.ref 0, .int (xs (i + 1).toNatClampNeg), .ref 455] (ctL_goodIn (zz_st C) 0 (xs (i + 1).toNatClampNeg) 455) zs_goodIn e1 (zl_I e1) (fun _ => rfl) (zz_cap hB (by omega) hI1) (fun _ _ => rfl) (fun h => ⟨zs_0 h, trivial, zs_455 h, trivial⟩) rfl (by decide) (Nat.le_of_ble_eq_true rfl) dL_law_2059 ?_
  refine zz_istore C ((6, .int (ii code)) :: zz_lv i) dL_law_2062 (by decide) rfl ?_
  refine zz_aload_n C 3 dL_law_2064 rfl ?_
  refine zz_arg C (k5 := 1) 1 6 rfl rfl (by decide) hi.1 dL_law_2065 dL_law_2066 dL_law_2068 dL_law_2069 dL_law_2070 ?_
  refine zz_V2 C [.int (xs (i + 1).toNatClampNeg)] (ctX7_goodIn (zz_st C) 0 (xs (i + 1).toNatClampNeg)) vzX7_goodIn vivzX7_goodIn rfl rfl rfl e2 (zz_le _ _) (fun _ => rfl) (zz_cap hB (by omega) hI1) (fun _ => rfl) ⟨trivial, trivial⟩ rfl (by decide) (Nat.le_of_ble_eq_true rfl) dL_law_2071 ?_
  refine zz_istore C ((7, .int (ii v)) :: (6, .int (ii code)) :: zz_lv i) dL_law_2074 (by decide) rfl ?_
  exact zt_I C hB (by omega) hI1 hm ha ⟨vzX7_thrown, vivzX7_thrown⟩ dL_law_2076 dL_law_2077 dL_law_2080 dL_law_2082 dL_law_2087 dL_law_2089 dL_law_2092 dL_law_2093 dL_law_2094 dL_law_2095 dL_law_2097 dL_law_2098 dL_law_2099 dL_law_2104 (by decide) (kk _ _ _ _ _ _ _ _ _ hI1)
theorem zc_32 {Γ : CX} {b L : Nat} {xs : Nat → Int32} {Q : State → Prop} {C0 N0 n : Nat} {K : Nat × Nat} {i : Int32} (C : zz_C Γ b L xs) (hB : zz_B C0 N0 K) (hn : n ≤ 512) (hi : zz_in i L) (kk : zz_N Γ b Q C0 N0 (n + 1) K 3404 i) : zz_N Γ b Q C0 N0 n K 2107 i := by
  intro pl sp tv cap c A J M g hI
  obtain ⟨code, v, pl1, sp1, tv1, cap1, c1, A1, J1, M1, g1, e1, e2, hm, ha, hI1⟩ := g_lockable (K := K) hI
  refine zz_aload_n C 1 dL_law_2107 rfl ?_
  refine zz_aload_n C 3 dL_law_2108 rfl ?_
  refine zz_S C [.ref 1, .ref 3] [.ref 0, .ref 455] (ctL_lockable (zz_st C) 0 455) zs_lockable e1 (zl_I e1) (fun _ => rfl) (zz_cap hB (by omega) hI1) (fun _ _ => rfl) (fun h => ⟨zs_0 h, zs_455 h, trivial⟩) rfl (by decide) (Nat.le_of_ble_eq_true rfl) dL_law_2109 ?_
  refine zz_istore C ((6, .int (ii code)) :: zz_lv i) dL_law_2112 (by decide) rfl ?_
  refine zz_aload_n C 3 dL_law_2114 rfl ?_
  refine zz_V2 C [] (ctX7_lockable (zz_st C) 0) vzX7_lockable vivzX7_lockable rfl rfl rfl e2 (zz_le _ _) (fun _ => rfl) (zz_cap hB (by omega) hI1) (fun _ => rfl) trivial rfl (by decide) (Nat.le_of_ble_eq_true rfl) dL_law_2115 ?_
  refine zz_istore C ((7, .int (ii v)) :: (6, .int (ii code)) :: zz_lv i) dL_law_2118 (by decide) rfl ?_
  exact zt_I C hB (by omega) hI1 hm ha ⟨vzX7_thrown, vivzX7_thrown⟩ dL_law_2120 dL_law_2121 dL_law_2124 dL_law_2126 dL_law_2131 dL_law_2133 dL_law_2136 dL_law_2137 dL_law_2138 dL_law_2139 dL_law_2141 dL_law_2142 dL_law_2143 dL_law_2148 (by decide) (kk _ _ _ _ _ _ _ _ _ hI1)
theorem zc_33 {Γ : CX} {b L : Nat} {xs : Nat → Int32} {Q : State → Prop} {C0 N0 n : Nat} {K : Nat × Nat} {i : Int32} (C : zz_C Γ b L xs) (hB : zz_B C0 N0 K) (hn : n ≤ 512) (hi : zz_in i L) (kk : zz_N Γ b Q C0 N0 (n + 1) K 3404 i) : zz_N Γ b Q C0 N0 n K 2151 i := by
  intro pl sp tv cap c A J M g hI
  obtain ⟨code, v, pl1, sp1, tv1, cap1, c1, A1, J1, M1, g1, e1, e2, hm, ha, hI1⟩ := g_lockedAll (K := K) hI (by omega)
  refine zz_aload_n C 1 dL_law_2151 rfl ?_
  refine zz_aload_n C 3 dL_law_2152 rfl ?_
  refine zz_S C [.ref 1, .ref 3] [.ref 0, .ref 455] (ctL_lockedAll (zz_st C) 0 455) zs_lockedAll e1 (zl_I e1) (fun _ => rfl) (zz_cap hB (by omega) hI1) (fun _ _ => rfl) (fun h => ⟨zs_0 h, zs_455 h, trivial⟩) rfl (by decide) (Nat.le_of_ble_eq_true rfl) dL_law_2153 ?_
  refine zz_istore C ((6, .int (ii code)) :: zz_lv i) dL_law_2156 (by decide) rfl ?_
  refine zz_aload_n C 3 dL_law_2158 rfl ?_
  refine zz_V2 C [] (ctX7_lockedAll (zz_st C) 0) vzX7_lockedAll vivzX7_lockedAll rfl rfl rfl e2 (zz_le _ _) (fun _ => rfl) (zz_cap hB (by omega) hI1) (fun _ => rfl) trivial rfl (by decide) (Nat.le_of_ble_eq_true rfl) dL_law_2159 ?_
  refine zz_istore C ((7, .int (ii v)) :: (6, .int (ii code)) :: zz_lv i) dL_law_2162 (by decide) rfl ?_
  exact zt_I C hB (by omega) hI1 hm ha ⟨vzX7_thrown, vivzX7_thrown⟩ dL_law_2164 dL_law_2165 dL_law_2168 dL_law_2170 dL_law_2175 dL_law_2177 dL_law_2180 dL_law_2181 dL_law_2182 dL_law_2183 dL_law_2185 dL_law_2186 dL_law_2187 dL_law_2192 (by decide) (kk _ _ _ _ _ _ _ _ _ hI1)
theorem zc_34 {Γ : CX} {b L : Nat} {xs : Nat → Int32} {Q : State → Prop} {C0 N0 n : Nat} {K : Nat × Nat} {i : Int32} (C : zz_C Γ b L xs) (hB : zz_B C0 N0 K) (hn : n ≤ 512) (hi : zz_in i L) (kk : zz_N Γ b Q C0 N0 (n + 1) K 3404 i) : zz_N Γ b Q C0 N0 n K 2195 i := by
  intro pl sp tv cap c A J M g hI
  obtain ⟨code, v, pl1, sp1, tv1, cap1, c1, A1, J1, M1, g1, e1, e2, hm, ha, hI1⟩ := g_writeRow (K := K) hI (xs (i + 1).toNatClampNeg).toInt (zz_bd _)
  simp only [ii_of] at e1 e2
  refine zz_aload_n C 1 dL_law_2195 rfl ?_
  refine zz_arg C (k5 := 1) 0 5 rfl rfl (by decide) hi.1 dL_law_2196 dL_law_2197 dL_law_2199 dL_law_2200 dL_law_2201 ?_
  refine zz_aload_n C 3 dL_law_2202 rfl ?_
  refine zz_S C [.ref 1, .int (xs (i + 1).toNatClampNeg), .ref 3] [.ref 0, .int (xs (i + 1).toNatClampNeg), .ref 455] (ctL_writeRow (zz_st C) 0 (xs (i + 1).toNatClampNeg) 455) zs_writeRow e1 (zl_I e1) (fun _ => rfl) (zz_cap hB (by omega) hI1) (fun _ _ => rfl) (fun h => ⟨zs_0 h, trivial, zs_455 h, trivial⟩) rfl (by decide) (Nat.le_of_ble_eq_true rfl) dL_law_2203 ?_
  refine zz_istore C ((6, .int (ii code)) :: zz_lv i) dL_law_2206 (by decide) rfl ?_
  refine zz_aload_n C 3 dL_law_2208 rfl ?_
  refine zz_arg C (k5 := 1) 1 6 rfl rfl (by decide) hi.1 dL_law_2209 dL_law_2210 dL_law_2212 dL_law_2213 dL_law_2214 ?_
  refine zz_V2 C [.int (xs (i + 1).toNatClampNeg)] (ctX7_writeRow (zz_st C) 0 (xs (i + 1).toNatClampNeg)) vzX7_writeRow vivzX7_writeRow rfl rfl rfl e2 (zz_le _ _) (fun _ => rfl) (zz_cap hB (by omega) hI1) (fun _ => rfl) ⟨trivial, trivial⟩ rfl (by decide) (Nat.le_of_ble_eq_true rfl) dL_law_2215 ?_
  refine zz_istore C ((7, .int (ii v)) :: (6, .int (ii code)) :: zz_lv i) dL_law_2218 (by decide) rfl ?_
  exact zt_I C hB (by omega) hI1 hm ha ⟨vzX7_thrown, vivzX7_thrown⟩ dL_law_2220 dL_law_2221 dL_law_2224 dL_law_2226 dL_law_2231 dL_law_2233 dL_law_2236 dL_law_2237 dL_law_2238 dL_law_2239 dL_law_2241 dL_law_2242 dL_law_2243 dL_law_2248 (by decide) (kk _ _ _ _ _ _ _ _ _ hI1)
theorem zc_35 {Γ : CX} {b L : Nat} {xs : Nat → Int32} {Q : State → Prop} {C0 N0 n : Nat} {K : Nat × Nat} {i : Int32} (C : zz_C Γ b L xs) (hB : zz_B C0 N0 K) (hn : n ≤ 512) (hi : zz_in i L) (kk : zz_N Γ b Q C0 N0 (n + 1) K 3404 i) : zz_N Γ b Q C0 N0 n K 2251 i := by
  intro pl sp tv cap c A J M g hI
  obtain ⟨code, v, pl1, sp1, tv1, cap1, c1, A1, J1, M1, g1, e1, e2, hm, ha, hI1⟩ := g_writeChoice (K := K) hI (xs (i + 1).toNatClampNeg).toInt (zz_bd _)
  simp only [ii_of] at e1 e2
  refine zz_aload_n C 1 dL_law_2251 rfl ?_
  refine zz_arg C (k5 := 1) 0 5 rfl rfl (by decide) hi.1 dL_law_2252 dL_law_2253 dL_law_2255 dL_law_2256 dL_law_2257 ?_
  refine zz_aload_n C 3 dL_law_2258 rfl ?_
  refine zz_S C [.ref 1, .int (xs (i + 1).toNatClampNeg), .ref 3] [.ref 0, .int (xs (i + 1).toNatClampNeg), .ref 455] (ctL_writeChoice (zz_st C) 0 (xs (i + 1).toNatClampNeg) 455) zs_writeChoice e1 (zl_I e1) (fun _ => rfl) (zz_cap hB (by omega) hI1) (fun _ _ => rfl) (fun h => ⟨zs_0 h, trivial, zs_455 h, trivial⟩) rfl (by decide) (Nat.le_of_ble_eq_true rfl) dL_law_2259 ?_
  refine zz_istore C ((6, .int (ii code)) :: zz_lv i) dL_law_2262 (by decide) rfl ?_
  refine zz_aload_n C 3 dL_law_2264 rfl ?_
  refine zz_arg C (k5 := 1) 1 6 rfl rfl (by decide) hi.1 dL_law_2265 dL_law_2266 dL_law_2268 dL_law_2269 dL_law_2270 ?_
  refine zz_V2 C [.int (xs (i + 1).toNatClampNeg)] (ctX7_writeChoice (zz_st C) 0 (xs (i + 1).toNatClampNeg)) vzX7_writeChoice vivzX7_writeChoice rfl rfl rfl e2 (zz_le _ _) (fun _ => rfl) (zz_cap hB (by omega) hI1) (fun _ => rfl) ⟨trivial, trivial⟩ rfl (by decide) (Nat.le_of_ble_eq_true rfl) dL_law_2271 ?_
  refine zz_istore C ((7, .int (ii v)) :: (6, .int (ii code)) :: zz_lv i) dL_law_2274 (by decide) rfl ?_
  exact zt_I C hB (by omega) hI1 hm ha ⟨vzX7_thrown, vivzX7_thrown⟩ dL_law_2276 dL_law_2277 dL_law_2280 dL_law_2282 dL_law_2287 dL_law_2289 dL_law_2292 dL_law_2293 dL_law_2294 dL_law_2295 dL_law_2297 dL_law_2298 dL_law_2299 dL_law_2304 (by decide) (kk _ _ _ _ _ _ _ _ _ hI1)
theorem zc_36 {Γ : CX} {b L : Nat} {xs : Nat → Int32} {Q : State → Prop} {C0 N0 n : Nat} {K : Nat × Nat} {i : Int32} (C : zz_C Γ b L xs) (hB : zz_B C0 N0 K) (hn : n ≤ 512) (hi : zz_in i L) (kk : zz_N Γ b Q C0 N0 (n + 1) K 3404 i) : zz_N Γ b Q C0 N0 n K 2307 i := by
  intro pl sp tv cap c A J M g hI
  obtain ⟨code, v, pl1, sp1, tv1, cap1, c1, A1, J1, M1, g1, e1, e2, hm, ha, hI1⟩ := g_writeStock (K := K) hI
  refine zz_aload_n C 1 dL_law_2307 rfl ?_
  refine zz_aload_n C 3 dL_law_2308 rfl ?_
  refine zz_S C [.ref 1, .ref 3] [.ref 0, .ref 455] (ctL_writeStock (zz_st C) 0 455) zs_writeStock e1 (zl_I e1) (fun _ => rfl) (zz_cap hB (by omega) hI1) (fun _ _ => rfl) (fun h => ⟨zs_0 h, zs_455 h, trivial⟩) rfl (by decide) (Nat.le_of_ble_eq_true rfl) dL_law_2309 ?_
  refine zz_istore C ((6, .int (ii code)) :: zz_lv i) dL_law_2312 (by decide) rfl ?_
  refine zz_aload_n C 3 dL_law_2314 rfl ?_
  refine zz_V2 C [] (ctX7_writeStock (zz_st C) 0) vzX7_writeStock vivzX7_writeStock rfl rfl rfl e2 (zz_le _ _) (fun _ => rfl) (zz_cap hB (by omega) hI1) (fun _ => rfl) trivial rfl (by decide) (Nat.le_of_ble_eq_true rfl) dL_law_2315 ?_
  refine zz_istore C ((7, .int (ii v)) :: (6, .int (ii code)) :: zz_lv i) dL_law_2318 (by decide) rfl ?_
  exact zt_I C hB (by omega) hI1 hm ha ⟨vzX7_thrown, vivzX7_thrown⟩ dL_law_2320 dL_law_2321 dL_law_2324 dL_law_2326 dL_law_2331 dL_law_2333 dL_law_2336 dL_law_2337 dL_law_2338 dL_law_2339 dL_law_2341 dL_law_2342 dL_law_2343 dL_law_2348 (by decide) (kk _ _ _ _ _ _ _ _ _ hI1)
theorem zc_37 {Γ : CX} {b L : Nat} {xs : Nat → Int32} {Q : State → Prop} {C0 N0 n : Nat} {K : Nat × Nat} {i : Int32} (C : zz_C Γ b L xs) (hB : zz_B C0 N0 K) (hn : n ≤ 512) (hi : zz_in i L) (kk : zz_N Γ b Q C0 N0 (n + 1) K 3404 i) : zz_N Γ b Q C0 N0 n K 2351 i := by
  intro pl sp tv cap c A J M g hI
  obtain ⟨code, v, pl1, sp1, tv1, cap1, c1, A1, J1, M1, g1, e1, e2, hm, ha, hI1⟩ := g_textByte (K := K) hI (xs (i + 1).toNatClampNeg).toInt (zz_bd _)
  simp only [ii_of] at e1 e2
  refine zz_aload_n C 1 dL_law_2351 rfl ?_
  refine zz_arg C (k5 := 1) 0 5 rfl rfl (by decide) hi.1 dL_law_2352 dL_law_2353 dL_law_2355 dL_law_2356 dL_law_2357 ?_
  refine zz_aload_n C 3 dL_law_2358 rfl ?_
  refine zz_S C [.ref 1, .int (xs (i + 1).toNatClampNeg), .ref 3] [.ref 0, .int (xs (i + 1).toNatClampNeg), .ref 455] (ctL_textByte (zz_st C) 0 (xs (i + 1).toNatClampNeg) 455) zs_textByte e1 (zl_I e1) (fun _ => rfl) (zz_cap hB (by omega) hI1) (fun _ _ => rfl) (fun h => ⟨zs_0 h, trivial, zs_455 h, trivial⟩) rfl (by decide) (Nat.le_of_ble_eq_true rfl) dL_law_2359 ?_
  refine zz_istore C ((6, .int (ii code)) :: zz_lv i) dL_law_2362 (by decide) rfl ?_
  refine zz_aload_n C 3 dL_law_2364 rfl ?_
  refine zz_arg C (k5 := 1) 1 6 rfl rfl (by decide) hi.1 dL_law_2365 dL_law_2366 dL_law_2368 dL_law_2369 dL_law_2370 ?_
  refine zz_V2 C [.int (xs (i + 1).toNatClampNeg)] (ctX7_textByte (zz_st C) 0 (xs (i + 1).toNatClampNeg)) vzX7_textByte vivzX7_textByte rfl rfl rfl e2 (zz_le _ _) (fun _ => rfl) (zz_cap hB (by omega) hI1) (fun _ => rfl) ⟨trivial, trivial⟩ rfl (by decide) (Nat.le_of_ble_eq_true rfl) dL_law_2371 ?_
  refine zz_istore C ((7, .int (ii v)) :: (6, .int (ii code)) :: zz_lv i) dL_law_2374 (by decide) rfl ?_
  exact zt_I C hB (by omega) hI1 hm ha ⟨vzX7_thrown, vivzX7_thrown⟩ dL_law_2376 dL_law_2377 dL_law_2380 dL_law_2382 dL_law_2387 dL_law_2389 dL_law_2392 dL_law_2393 dL_law_2394 dL_law_2395 dL_law_2397 dL_law_2398 dL_law_2399 dL_law_2404 (by decide) (kk _ _ _ _ _ _ _ _ _ hI1)
theorem zc_38 {Γ : CX} {b L : Nat} {xs : Nat → Int32} {Q : State → Prop} {C0 N0 n : Nat} {K : Nat × Nat} {i : Int32} (C : zz_C Γ b L xs) (hB : zz_B C0 N0 K) (hn : n ≤ 512) (hi : zz_in i L) (kk : zz_N Γ b Q C0 N0 (n + 1) K 3404 i) : zz_N Γ b Q C0 N0 n K 2407 i := by
  intro pl sp tv cap c A J M g hI
  obtain ⟨code, v, pl1, sp1, tv1, cap1, c1, A1, J1, M1, g1, e1, e2, hm, ha, hI1⟩ := g_place (K := K) hI (xs (i + 1).toNatClampNeg).toInt (xs (i + 2).toNatClampNeg).toInt (zz_bd _) (zz_bd _)
  simp only [ii_of] at e1 e2
  refine zz_aload_n C 1 dL_law_2407 rfl ?_
  refine zz_arg C (k5 := 1) 0 5 rfl rfl (by decide) hi.1 dL_law_2408 dL_law_2409 dL_law_2411 dL_law_2412 dL_law_2413 ?_
  refine zz_arg C (k5 := 2) 0 5 rfl rfl (by decide) hi.2.1 dL_law_2414 dL_law_2415 dL_law_2417 dL_law_2418 dL_law_2419 ?_
  refine zz_aload_n C 3 dL_law_2420 rfl ?_
  refine zz_S C [.ref 1, .int (xs (i + 1).toNatClampNeg), .int (xs (i + 2).toNatClampNeg), .ref 3] [.ref 0, .int (xs (i + 1).toNatClampNeg), .int (xs (i + 2).toNatClampNeg), .ref 455] (ctL_place (zz_st C) 0 (xs (i + 1).toNatClampNeg) (xs (i + 2).toNatClampNeg) 455) zs_place e1 (zl_I e1) (fun _ => rfl) (zz_cap hB (by omega) hI1) (fun _ _ => rfl) (fun h => ⟨zs_0 h, trivial, trivial, zs_455 h, trivial⟩) rfl (by decide) (Nat.le_of_ble_eq_true rfl) dL_law_2421 ?_
  refine zz_istore C ((6, .int (ii code)) :: zz_lv i) dL_law_2424 (by decide) rfl ?_
  refine zz_aload_n C 3 dL_law_2426 rfl ?_
  refine zz_arg C (k5 := 1) 1 6 rfl rfl (by decide) hi.1 dL_law_2427 dL_law_2428 dL_law_2430 dL_law_2431 dL_law_2432 ?_
  refine zz_arg C (k5 := 2) 1 6 rfl rfl (by decide) hi.2.1 dL_law_2433 dL_law_2434 dL_law_2436 dL_law_2437 dL_law_2438 ?_
  refine zz_V2 C [.int (xs (i + 1).toNatClampNeg), .int (xs (i + 2).toNatClampNeg)] (ctX7_place (zz_st C) 0 (xs (i + 1).toNatClampNeg) (xs (i + 2).toNatClampNeg)) vzX7_place vivzX7_place rfl rfl rfl e2 (zz_le _ _) (fun _ => rfl) (zz_cap hB (by omega) hI1) (fun _ => rfl) ⟨trivial, trivial, trivial⟩ rfl (by decide) (Nat.le_of_ble_eq_true rfl) dL_law_2439 ?_
  refine zz_istore C ((7, .int (ii v)) :: (6, .int (ii code)) :: zz_lv i) dL_law_2442 (by decide) rfl ?_
  exact zt_I C hB (by omega) hI1 hm ha ⟨vzX7_thrown, vivzX7_thrown⟩ dL_law_2444 dL_law_2445 dL_law_2448 dL_law_2450 dL_law_2455 dL_law_2457 dL_law_2460 dL_law_2461 dL_law_2462 dL_law_2463 dL_law_2465 dL_law_2466 dL_law_2467 dL_law_2472 (by decide) (kk _ _ _ _ _ _ _ _ _ hI1)
theorem zc_39 {Γ : CX} {b L : Nat} {xs : Nat → Int32} {Q : State → Prop} {C0 N0 n : Nat} {K : Nat × Nat} {i : Int32} (C : zz_C Γ b L xs) (hB : zz_B C0 N0 K) (hn : n ≤ 512) (hi : zz_in i L) (kk : zz_N Γ b Q C0 N0 (n + 1) K 3404 i) : zz_N Γ b Q C0 N0 n K 2475 i := by
  intro pl sp tv cap c A J M g hI
  obtain ⟨code, v, pl1, sp1, tv1, cap1, c1, A1, J1, M1, g1, e1, e2, hm, ha, hI1⟩ := g_lift (K := K) hI (xs (i + 1).toNatClampNeg).toInt (xs (i + 2).toNatClampNeg).toInt (zz_bd _) (zz_bd _)
  simp only [ii_of] at e1 e2
  refine zz_aload_n C 1 dL_law_2475 rfl ?_
  refine zz_arg C (k5 := 1) 0 5 rfl rfl (by decide) hi.1 dL_law_2476 dL_law_2477 dL_law_2479 dL_law_2480 dL_law_2481 ?_
  refine zz_arg C (k5 := 2) 0 5 rfl rfl (by decide) hi.2.1 dL_law_2482 dL_law_2483 dL_law_2485 dL_law_2486 dL_law_2487 ?_
  refine zz_aload_n C 3 dL_law_2488 rfl ?_
  refine zz_S C [.ref 1, .int (xs (i + 1).toNatClampNeg), .int (xs (i + 2).toNatClampNeg), .ref 3] [.ref 0, .int (xs (i + 1).toNatClampNeg), .int (xs (i + 2).toNatClampNeg), .ref 455] (ctL_lift (zz_st C) 0 (xs (i + 1).toNatClampNeg) (xs (i + 2).toNatClampNeg) 455) zs_lift e1 (zl_I e1) (fun _ => rfl) (zz_cap hB (by omega) hI1) (fun _ _ => rfl) (fun h => ⟨zs_0 h, trivial, trivial, zs_455 h, trivial⟩) rfl (by decide) (Nat.le_of_ble_eq_true rfl) dL_law_2489 ?_
  refine zz_istore C ((6, .int (ii code)) :: zz_lv i) dL_law_2492 (by decide) rfl ?_
  refine zz_aload_n C 3 dL_law_2494 rfl ?_
  refine zz_arg C (k5 := 1) 1 6 rfl rfl (by decide) hi.1 dL_law_2495 dL_law_2496 dL_law_2498 dL_law_2499 dL_law_2500 ?_
  refine zz_arg C (k5 := 2) 1 6 rfl rfl (by decide) hi.2.1 dL_law_2501 dL_law_2502 dL_law_2504 dL_law_2505 dL_law_2506 ?_
  refine zz_V2 C [.int (xs (i + 1).toNatClampNeg), .int (xs (i + 2).toNatClampNeg)] (ctX7_lift (zz_st C) 0 (xs (i + 1).toNatClampNeg) (xs (i + 2).toNatClampNeg)) vzX7_lift vivzX7_lift rfl rfl rfl e2 (zz_le _ _) (fun _ => rfl) (zz_cap hB (by omega) hI1) (fun _ => rfl) ⟨trivial, trivial, trivial⟩ rfl (by decide) (Nat.le_of_ble_eq_true rfl) dL_law_2507 ?_
  refine zz_istore C ((7, .int (ii v)) :: (6, .int (ii code)) :: zz_lv i) dL_law_2510 (by decide) rfl ?_
  exact zt_I C hB (by omega) hI1 hm ha ⟨vzX7_thrown, vivzX7_thrown⟩ dL_law_2512 dL_law_2513 dL_law_2516 dL_law_2518 dL_law_2523 dL_law_2525 dL_law_2528 dL_law_2529 dL_law_2530 dL_law_2531 dL_law_2533 dL_law_2534 dL_law_2535 dL_law_2540 (by decide) (kk _ _ _ _ _ _ _ _ _ hI1)
theorem zc_40 {Γ : CX} {b L : Nat} {xs : Nat → Int32} {Q : State → Prop} {C0 N0 n : Nat} {K : Nat × Nat} {i : Int32} (C : zz_C Γ b L xs) (hB : zz_B C0 N0 K) (hn : n ≤ 512) (hi : zz_in i L) (kk : zz_N Γ b Q C0 N0 (n + 1) K 3404 i) : zz_N Γ b Q C0 N0 n K 2543 i := by
  intro pl sp tv cap c A J M g hI
  obtain ⟨code, v, pl1, sp1, tv1, cap1, c1, A1, J1, M1, g1, e1, e2, hm, ha, hI1⟩ := g_put (K := K) hI (xs (i + 1).toNatClampNeg).toInt (xs (i + 2).toNatClampNeg).toInt (zz_bd _) (zz_bd _)
  simp only [ii_of] at e1 e2
  refine zz_aload_n C 1 dL_law_2543 rfl ?_
  refine zz_arg C (k5 := 1) 0 5 rfl rfl (by decide) hi.1 dL_law_2544 dL_law_2545 dL_law_2547 dL_law_2548 dL_law_2549 ?_
  refine zz_arg C (k5 := 2) 0 5 rfl rfl (by decide) hi.2.1 dL_law_2550 dL_law_2551 dL_law_2553 dL_law_2554 dL_law_2555 ?_
  refine zz_aload_n C 3 dL_law_2556 rfl ?_
  refine zz_S C [.ref 1, .int (xs (i + 1).toNatClampNeg), .int (xs (i + 2).toNatClampNeg), .ref 3] [.ref 0, .int (xs (i + 1).toNatClampNeg), .int (xs (i + 2).toNatClampNeg), .ref 455] (ctL_put (zz_st C) 0 (xs (i + 1).toNatClampNeg) (xs (i + 2).toNatClampNeg) 455) zs_put e1 (zl_I e1) (fun _ => rfl) (zz_cap hB (by omega) hI1) (fun _ _ => rfl) (fun h => ⟨zs_0 h, trivial, trivial, zs_455 h, trivial⟩) rfl (by decide) (Nat.le_of_ble_eq_true rfl) dL_law_2557 ?_
  refine zz_istore C ((6, .int (ii code)) :: zz_lv i) dL_law_2560 (by decide) rfl ?_
  refine zz_aload_n C 3 dL_law_2562 rfl ?_
  refine zz_arg C (k5 := 1) 1 6 rfl rfl (by decide) hi.1 dL_law_2563 dL_law_2564 dL_law_2566 dL_law_2567 dL_law_2568 ?_
  refine zz_arg C (k5 := 2) 1 6 rfl rfl (by decide) hi.2.1 dL_law_2569 dL_law_2570 dL_law_2572 dL_law_2573 dL_law_2574 ?_
  refine zz_V2 C [.int (xs (i + 1).toNatClampNeg), .int (xs (i + 2).toNatClampNeg)] (ctX7_put (zz_st C) 0 (xs (i + 1).toNatClampNeg) (xs (i + 2).toNatClampNeg)) vzX7_put vivzX7_put rfl rfl rfl e2 (zz_le _ _) (fun _ => rfl) (zz_cap hB (by omega) hI1) (fun _ => rfl) ⟨trivial, trivial, trivial⟩ rfl (by decide) (Nat.le_of_ble_eq_true rfl) dL_law_2575 ?_
  refine zz_istore C ((7, .int (ii v)) :: (6, .int (ii code)) :: zz_lv i) dL_law_2578 (by decide) rfl ?_
  exact zt_I C hB (by omega) hI1 hm ha ⟨vzX7_thrown, vivzX7_thrown⟩ dL_law_2580 dL_law_2581 dL_law_2584 dL_law_2586 dL_law_2591 dL_law_2593 dL_law_2596 dL_law_2597 dL_law_2598 dL_law_2599 dL_law_2601 dL_law_2602 dL_law_2603 dL_law_2608 (by decide) (kk _ _ _ _ _ _ _ _ _ hI1)
theorem zc_41 {Γ : CX} {b L : Nat} {xs : Nat → Int32} {Q : State → Prop} {C0 N0 n : Nat} {K : Nat × Nat} {i : Int32} (C : zz_C Γ b L xs) (hB : zz_B C0 N0 K) (hn : n ≤ 512) (hi : zz_in i L) (kk : zz_N Γ b Q C0 N0 (n + 1) K 3404 i) : zz_N Γ b Q C0 N0 n K 2611 i := by
  intro pl sp tv cap c A J M g hI
  obtain ⟨code, v, pl1, sp1, tv1, cap1, c1, A1, J1, M1, g1, e1, e2, hm, ha, hI1⟩ := g_take (K := K) hI (xs (i + 1).toNatClampNeg).toInt (xs (i + 2).toNatClampNeg).toInt (zz_bd _) (zz_bd _)
  simp only [ii_of] at e1 e2
  refine zz_aload_n C 1 dL_law_2611 rfl ?_
  refine zz_arg C (k5 := 1) 0 5 rfl rfl (by decide) hi.1 dL_law_2612 dL_law_2613 dL_law_2615 dL_law_2616 dL_law_2617 ?_
  refine zz_arg C (k5 := 2) 0 5 rfl rfl (by decide) hi.2.1 dL_law_2618 dL_law_2619 dL_law_2621 dL_law_2622 dL_law_2623 ?_
  refine zz_aload_n C 3 dL_law_2624 rfl ?_
  refine zz_S C [.ref 1, .int (xs (i + 1).toNatClampNeg), .int (xs (i + 2).toNatClampNeg), .ref 3] [.ref 0, .int (xs (i + 1).toNatClampNeg), .int (xs (i + 2).toNatClampNeg), .ref 455] (ctL_take (zz_st C) 0 (xs (i + 1).toNatClampNeg) (xs (i + 2).toNatClampNeg) 455) zs_take e1 (zl_I e1) (fun _ => rfl) (zz_cap hB (by omega) hI1) (fun _ _ => rfl) (fun h => ⟨zs_0 h, trivial, trivial, zs_455 h, trivial⟩) rfl (by decide) (Nat.le_of_ble_eq_true rfl) dL_law_2625 ?_
  refine zz_istore C ((6, .int (ii code)) :: zz_lv i) dL_law_2628 (by decide) rfl ?_
  refine zz_aload_n C 3 dL_law_2630 rfl ?_
  refine zz_arg C (k5 := 1) 1 6 rfl rfl (by decide) hi.1 dL_law_2631 dL_law_2632 dL_law_2634 dL_law_2635 dL_law_2636 ?_
  refine zz_arg C (k5 := 2) 1 6 rfl rfl (by decide) hi.2.1 dL_law_2637 dL_law_2638 dL_law_2640 dL_law_2641 dL_law_2642 ?_
  refine zz_V2 C [.int (xs (i + 1).toNatClampNeg), .int (xs (i + 2).toNatClampNeg)] (ctX7_take (zz_st C) 0 (xs (i + 1).toNatClampNeg) (xs (i + 2).toNatClampNeg)) vzX7_take vivzX7_take rfl rfl rfl e2 (zz_le _ _) (fun _ => rfl) (zz_cap hB (by omega) hI1) (fun _ => rfl) ⟨trivial, trivial, trivial⟩ rfl (by decide) (Nat.le_of_ble_eq_true rfl) dL_law_2643 ?_
  refine zz_istore C ((7, .int (ii v)) :: (6, .int (ii code)) :: zz_lv i) dL_law_2646 (by decide) rfl ?_
  exact zt_I C hB (by omega) hI1 hm ha ⟨vzX7_thrown, vivzX7_thrown⟩ dL_law_2648 dL_law_2649 dL_law_2652 dL_law_2654 dL_law_2659 dL_law_2661 dL_law_2664 dL_law_2665 dL_law_2666 dL_law_2667 dL_law_2669 dL_law_2670 dL_law_2671 dL_law_2676 (by decide) (kk _ _ _ _ _ _ _ _ _ hI1)
theorem zc_42 {Γ : CX} {b L : Nat} {xs : Nat → Int32} {Q : State → Prop} {C0 N0 n : Nat} {K : Nat × Nat} {i : Int32} (C : zz_C Γ b L xs) (hB : zz_B C0 N0 K) (hn : n ≤ 512) (hi : zz_in i L) (kk : zz_N Γ b Q C0 N0 (n + 1) K 3404 i) : zz_N Γ b Q C0 N0 n K 2679 i := by
  intro pl sp tv cap c A J M g hI
  obtain ⟨code, v, pl1, sp1, tv1, cap1, c1, A1, J1, M1, g1, e1, e2, hm, ha, hI1⟩ := g_quoin (K := K) hI (xs (i + 1).toNatClampNeg).toInt (if (xs (i + 2).toNatClampNeg) = 0 then 0 else 1) (zz_bd _) (zz_01 _)
  simp only [ii_of] at e1 e2
  refine zz_aload_n C 1 dL_law_2679 rfl ?_
  refine zz_arg C (k5 := 1) 0 5 rfl rfl (by decide) hi.1 dL_law_2680 dL_law_2681 dL_law_2683 dL_law_2684 dL_law_2685 ?_
  refine zz_arg C (k5 := 2) 0 5 rfl rfl (by decide) hi.2.1 dL_law_2686 dL_law_2687 dL_law_2689 dL_law_2690 dL_law_2691 ?_
  refine zz_argZ C dL_law_2692 dL_law_2695 dL_law_2696 dL_law_2699 ?_
  refine zz_aload_n C 3 dL_law_2700 rfl ?_
  refine zz_S C [.ref 1, .int (xs (i + 1).toNatClampNeg), .int (ii (if (xs (i + 2).toNatClampNeg) = 0 then 0 else 1)), .ref 3] [.ref 0, .int (xs (i + 1).toNatClampNeg), .int (ii (if (xs (i + 2).toNatClampNeg) = 0 then 0 else 1)), .ref 455] (ctL_quoin (zz_st C) 0 (xs (i + 1).toNatClampNeg) (ii (if (xs (i + 2).toNatClampNeg) = 0 then 0 else 1)) 455) zs_quoin e1 (zl_I e1) (fun _ => rfl) (zz_cap hB (by omega) hI1) (fun _ _ => rfl) (fun h => ⟨zs_0 h, trivial, trivial, zs_455 h, trivial⟩) rfl (by decide) (Nat.le_of_ble_eq_true rfl) dL_law_2701 ?_
  refine zz_istore C ((6, .int (ii code)) :: zz_lv i) dL_law_2704 (by decide) rfl ?_
  refine zz_aload_n C 3 dL_law_2706 rfl ?_
  refine zz_arg C (k5 := 1) 1 6 rfl rfl (by decide) hi.1 dL_law_2707 dL_law_2708 dL_law_2710 dL_law_2711 dL_law_2712 ?_
  refine zz_arg C (k5 := 2) 1 6 rfl rfl (by decide) hi.2.1 dL_law_2713 dL_law_2714 dL_law_2716 dL_law_2717 dL_law_2718 ?_
  refine zz_argZ C dL_law_2719 dL_law_2722 dL_law_2723 dL_law_2726 ?_
  refine zz_V2 C [.int (xs (i + 1).toNatClampNeg), .int (ii (if (xs (i + 2).toNatClampNeg) = 0 then 0 else 1))] (ctX7_quoin (zz_st C) 0 (xs (i + 1).toNatClampNeg) (ii (if (xs (i + 2).toNatClampNeg) = 0 then 0 else 1))) vzX7_quoin vivzX7_quoin rfl rfl rfl e2 (zz_le _ _) (fun _ => rfl) (zz_cap hB (by omega) hI1) (fun _ => rfl) ⟨trivial, trivial, trivial⟩ rfl (by decide) (Nat.le_of_ble_eq_true rfl) dL_law_2727 ?_
  refine zz_istore C ((7, .int (ii v)) :: (6, .int (ii code)) :: zz_lv i) dL_law_2730 (by decide) rfl ?_
  exact zt_I C hB (by omega) hI1 hm ha ⟨vzX7_thrown, vivzX7_thrown⟩ dL_law_2732 dL_law_2733 dL_law_2736 dL_law_2738 dL_law_2743 dL_law_2745 dL_law_2748 dL_law_2749 dL_law_2750 dL_law_2751 dL_law_2753 dL_law_2754 dL_law_2755 dL_law_2760 (by decide) (kk _ _ _ _ _ _ _ _ _ hI1)
theorem zc_43 {Γ : CX} {b L : Nat} {xs : Nat → Int32} {Q : State → Prop} {C0 N0 n : Nat} {K : Nat × Nat} {i : Int32} (C : zz_C Γ b L xs) (hB : zz_B C0 N0 K) (hn : n ≤ 512) (hi : zz_in i L) (kk : zz_N Γ b Q C0 N0 (n + 1) K 3404 i) : zz_N Γ b Q C0 N0 n K 2763 i := by
  intro pl sp tv cap c A J M g hI
  obtain ⟨code, v, pl1, sp1, tv1, cap1, c1, A1, J1, M1, g1, e1, e2, hm, ha, hI1⟩ := g_open (K := K) hI (xs (i + 1).toNatClampNeg).toInt (xs (i + 2).toNatClampNeg).toInt (zz_bd _) (zz_bd _)
  simp only [ii_of] at e1 e2
  refine zz_aload_n C 1 dL_law_2763 rfl ?_
  refine zz_arg C (k5 := 1) 0 5 rfl rfl (by decide) hi.1 dL_law_2764 dL_law_2765 dL_law_2767 dL_law_2768 dL_law_2769 ?_
  refine zz_arg C (k5 := 2) 0 5 rfl rfl (by decide) hi.2.1 dL_law_2770 dL_law_2771 dL_law_2773 dL_law_2774 dL_law_2775 ?_
  refine zz_aload_n C 3 dL_law_2776 rfl ?_
  refine zz_S C [.ref 1, .int (xs (i + 1).toNatClampNeg), .int (xs (i + 2).toNatClampNeg), .ref 3] [.ref 0, .int (xs (i + 1).toNatClampNeg), .int (xs (i + 2).toNatClampNeg), .ref 455] (ctL_open (zz_st C) 0 (xs (i + 1).toNatClampNeg) (xs (i + 2).toNatClampNeg) 455) zs_open e1 (zl_I e1) (fun _ => rfl) (zz_cap hB (by omega) hI1) (fun _ _ => rfl) (fun h => ⟨zs_0 h, trivial, trivial, zs_455 h, trivial⟩) rfl (by decide) (Nat.le_of_ble_eq_true rfl) dL_law_2777 ?_
  refine zz_istore C ((6, .int (ii code)) :: zz_lv i) dL_law_2780 (by decide) rfl ?_
  refine zz_aload_n C 3 dL_law_2782 rfl ?_
  refine zz_arg C (k5 := 1) 1 6 rfl rfl (by decide) hi.1 dL_law_2783 dL_law_2784 dL_law_2786 dL_law_2787 dL_law_2788 ?_
  refine zz_arg C (k5 := 2) 1 6 rfl rfl (by decide) hi.2.1 dL_law_2789 dL_law_2790 dL_law_2792 dL_law_2793 dL_law_2794 ?_
  refine zz_V2 C [.int (xs (i + 1).toNatClampNeg), .int (xs (i + 2).toNatClampNeg)] (ctX7_open (zz_st C) 0 (xs (i + 1).toNatClampNeg) (xs (i + 2).toNatClampNeg)) vzX7_open vivzX7_open rfl rfl rfl e2 (zz_le _ _) (fun _ => rfl) (zz_cap hB (by omega) hI1) (fun _ => rfl) ⟨trivial, trivial, trivial⟩ rfl (by decide) (Nat.le_of_ble_eq_true rfl) dL_law_2795 ?_
  refine zz_istore C ((7, .int (ii v)) :: (6, .int (ii code)) :: zz_lv i) dL_law_2798 (by decide) rfl ?_
  exact zt_I C hB (by omega) hI1 hm ha ⟨vzX7_thrown, vivzX7_thrown⟩ dL_law_2800 dL_law_2801 dL_law_2804 dL_law_2806 dL_law_2811 dL_law_2813 dL_law_2816 dL_law_2817 dL_law_2818 dL_law_2819 dL_law_2821 dL_law_2822 dL_law_2823 dL_law_2828 (by decide) (kk _ _ _ _ _ _ _ _ _ hI1)
theorem zc_44 {Γ : CX} {b L : Nat} {xs : Nat → Int32} {Q : State → Prop} {C0 N0 n : Nat} {K : Nat × Nat} {i : Int32} (C : zz_C Γ b L xs) (hB : zz_B C0 N0 K) (hn : n ≤ 512) (hi : zz_in i L) (kk : zz_N Γ b Q C0 N0 (n + 1) K 3404 i) : zz_N Γ b Q C0 N0 n K 2831 i := by
  intro pl sp tv cap c A J M g hI
  obtain ⟨code, v, pl1, sp1, tv1, cap1, c1, A1, J1, M1, g1, e1, e2, hm, ha, hI1⟩ := g_lock (K := K) hI (by omega) (xs (i + 1).toNatClampNeg).toInt (zz_bd _)
  simp only [ii_of] at e1 e2
  refine zz_aload_n C 1 dL_law_2831 rfl ?_
  refine zz_arg C (k5 := 1) 0 5 rfl rfl (by decide) hi.1 dL_law_2832 dL_law_2833 dL_law_2835 dL_law_2836 dL_law_2837 ?_
  refine zz_aload_n C 3 dL_law_2838 rfl ?_
  refine zz_S C [.ref 1, .int (xs (i + 1).toNatClampNeg), .ref 3] [.ref 0, .int (xs (i + 1).toNatClampNeg), .ref 455] (ctL_lock (zz_st C) 0 (xs (i + 1).toNatClampNeg) 455) zs_lock e1 (zl_I e1) (fun _ => rfl) (zz_cap hB (by omega) hI1) (fun _ _ => rfl) (fun h => ⟨zs_0 h, trivial, zs_455 h, trivial⟩) rfl (by decide) (Nat.le_of_ble_eq_true rfl) dL_law_2839 ?_
  refine zz_istore C ((6, .int (ii code)) :: zz_lv i) dL_law_2842 (by decide) rfl ?_
  refine zz_aload_n C 3 dL_law_2844 rfl ?_
  refine zz_arg C (k5 := 1) 1 6 rfl rfl (by decide) hi.1 dL_law_2845 dL_law_2846 dL_law_2848 dL_law_2849 dL_law_2850 ?_
  refine zz_V2 C [.int (xs (i + 1).toNatClampNeg)] (ctX7_lock (zz_st C) 0 (xs (i + 1).toNatClampNeg)) vzX7_lock vivzX7_lock rfl rfl rfl e2 (zz_le _ _) (fun _ => rfl) (zz_cap hB (by omega) hI1) (fun _ => rfl) ⟨trivial, trivial⟩ rfl (by decide) (Nat.le_of_ble_eq_true rfl) dL_law_2851 ?_
  refine zz_istore C ((7, .int (ii v)) :: (6, .int (ii code)) :: zz_lv i) dL_law_2854 (by decide) rfl ?_
  exact zt_I C hB (by omega) hI1 hm ha ⟨vzX7_thrown, vivzX7_thrown⟩ dL_law_2856 dL_law_2857 dL_law_2860 dL_law_2862 dL_law_2867 dL_law_2869 dL_law_2872 dL_law_2873 dL_law_2874 dL_law_2875 dL_law_2877 dL_law_2878 dL_law_2879 dL_law_2884 (by decide) (kk _ _ _ _ _ _ _ _ _ hI1)
theorem zc_45 {Γ : CX} {b L : Nat} {xs : Nat → Int32} {Q : State → Prop} {C0 N0 n : Nat} {K : Nat × Nat} {i : Int32} (C : zz_C Γ b L xs) (hB : zz_B C0 N0 K) (hn : n ≤ 512) (hi : zz_in i L) (kk : zz_N Γ b Q C0 N0 (n + 1) K 3404 i) : zz_N Γ b Q C0 N0 n K 2887 i := by
  intro pl sp tv cap c A J M g hI
  obtain ⟨code, v, pl1, sp1, tv1, cap1, c1, A1, J1, M1, g1, e1, e2, hm, ha, hI1⟩ := g_unlock (K := K) hI (xs (i + 1).toNatClampNeg).toInt (zz_bd _)
  simp only [ii_of] at e1 e2
  refine zz_aload_n C 1 dL_law_2887 rfl ?_
  refine zz_arg C (k5 := 1) 0 5 rfl rfl (by decide) hi.1 dL_law_2888 dL_law_2889 dL_law_2891 dL_law_2892 dL_law_2893 ?_
  refine zz_aload_n C 3 dL_law_2894 rfl ?_
  refine zz_S C [.ref 1, .int (xs (i + 1).toNatClampNeg), .ref 3] [.ref 0, .int (xs (i + 1).toNatClampNeg), .ref 455] (ctL_unlock (zz_st C) 0 (xs (i + 1).toNatClampNeg) 455) zs_unlock e1 (zl_I e1) (fun _ => rfl) (zz_cap hB (by omega) hI1) (fun _ _ => rfl) (fun h => ⟨zs_0 h, trivial, zs_455 h, trivial⟩) rfl (by decide) (Nat.le_of_ble_eq_true rfl) dL_law_2895 ?_
  refine zz_istore C ((6, .int (ii code)) :: zz_lv i) dL_law_2898 (by decide) rfl ?_
  refine zz_aload_n C 3 dL_law_2900 rfl ?_
  refine zz_arg C (k5 := 1) 1 6 rfl rfl (by decide) hi.1 dL_law_2901 dL_law_2902 dL_law_2904 dL_law_2905 dL_law_2906 ?_
  refine zz_V2 C [.int (xs (i + 1).toNatClampNeg)] (ctX7_unlock (zz_st C) 0 (xs (i + 1).toNatClampNeg)) vzX7_unlock vivzX7_unlock rfl rfl rfl e2 (zz_le _ _) (fun _ => rfl) (zz_cap hB (by omega) hI1) (fun _ => rfl) ⟨trivial, trivial⟩ rfl (by decide) (Nat.le_of_ble_eq_true rfl) dL_law_2907 ?_
  refine zz_istore C ((7, .int (ii v)) :: (6, .int (ii code)) :: zz_lv i) dL_law_2910 (by decide) rfl ?_
  exact zt_I C hB (by omega) hI1 hm ha ⟨vzX7_thrown, vivzX7_thrown⟩ dL_law_2912 dL_law_2913 dL_law_2916 dL_law_2918 dL_law_2923 dL_law_2925 dL_law_2928 dL_law_2929 dL_law_2930 dL_law_2931 dL_law_2933 dL_law_2934 dL_law_2935 dL_law_2940 (by decide) (kk _ _ _ _ _ _ _ _ _ hI1)
theorem zc_46 {Γ : CX} {b L : Nat} {xs : Nat → Int32} {Q : State → Prop} {C0 N0 n : Nat} {K : Nat × Nat} {i : Int32} (C : zz_C Γ b L xs) (hB : zz_B C0 N0 K) (hn : n ≤ 512) (hi : zz_in i L) (kk : zz_N Γ b Q C0 N0 (n + 1) K 3404 i) : zz_N Γ b Q C0 N0 n K 2943 i := by
  intro pl sp tv cap c A J M g hI
  obtain ⟨code, v, pl1, sp1, tv1, cap1, c1, A1, J1, M1, g1, e1, e2, hm, ha, hI1⟩ := g_relock (K := K) hI (by omega) (xs (i + 1).toNatClampNeg).toInt (zz_bd _)
  simp only [ii_of] at e1 e2
  refine zz_aload_n C 1 dL_law_2943 rfl ?_
  refine zz_arg C (k5 := 1) 0 5 rfl rfl (by decide) hi.1 dL_law_2944 dL_law_2945 dL_law_2947 dL_law_2948 dL_law_2949 ?_
  refine zz_aload_n C 3 dL_law_2950 rfl ?_
  refine zz_S C [.ref 1, .int (xs (i + 1).toNatClampNeg), .ref 3] [.ref 0, .int (xs (i + 1).toNatClampNeg), .ref 455] (ctL_relock (zz_st C) 0 (xs (i + 1).toNatClampNeg) 455) zs_relock e1 (zl_I e1) (fun _ => rfl) (zz_cap hB (by omega) hI1) (fun _ _ => rfl) (fun h => ⟨zs_0 h, trivial, zs_455 h, trivial⟩) rfl (by decide) (Nat.le_of_ble_eq_true rfl) dL_law_2951 ?_
  refine zz_istore C ((6, .int (ii code)) :: zz_lv i) dL_law_2954 (by decide) rfl ?_
  refine zz_aload_n C 3 dL_law_2956 rfl ?_
  refine zz_arg C (k5 := 1) 1 6 rfl rfl (by decide) hi.1 dL_law_2957 dL_law_2958 dL_law_2960 dL_law_2961 dL_law_2962 ?_
  refine zz_V2 C [.int (xs (i + 1).toNatClampNeg)] (ctX7_relock (zz_st C) 0 (xs (i + 1).toNatClampNeg)) vzX7_relock vivzX7_relock rfl rfl rfl e2 (zz_le _ _) (fun _ => rfl) (zz_cap hB (by omega) hI1) (fun _ => rfl) ⟨trivial, trivial⟩ rfl (by decide) (Nat.le_of_ble_eq_true rfl) dL_law_2963 ?_
  refine zz_istore C ((7, .int (ii v)) :: (6, .int (ii code)) :: zz_lv i) dL_law_2966 (by decide) rfl ?_
  exact zt_I C hB (by omega) hI1 hm ha ⟨vzX7_thrown, vivzX7_thrown⟩ dL_law_2968 dL_law_2969 dL_law_2972 dL_law_2974 dL_law_2979 dL_law_2981 dL_law_2984 dL_law_2985 dL_law_2986 dL_law_2987 dL_law_2989 dL_law_2990 dL_law_2991 dL_law_2996 (by decide) (kk _ _ _ _ _ _ _ _ _ hI1)
theorem zc_47 {Γ : CX} {b L : Nat} {xs : Nat → Int32} {Q : State → Prop} {C0 N0 n : Nat} {K : Nat × Nat} {i : Int32} (C : zz_C Γ b L xs) (hB : zz_B C0 N0 K) (hn : n ≤ 512) (hi : zz_in i L) (kk : zz_N Γ b Q C0 N0 (n + 1) K 3404 i) : zz_N Γ b Q C0 N0 n K 2999 i := by
  intro pl sp tv cap c A J M g hI
  obtain ⟨code, v, pl1, sp1, tv1, cap1, c1, A1, J1, M1, g1, e1, e2, hm, ha, hI1⟩ := g_tighten (K := K) hI (xs (i + 1).toNatClampNeg).toInt (zz_bd _)
  simp only [ii_of] at e1 e2
  refine zz_aload_n C 1 dL_law_2999 rfl ?_
  refine zz_arg C (k5 := 1) 0 5 rfl rfl (by decide) hi.1 dL_law_3000 dL_law_3001 dL_law_3003 dL_law_3004 dL_law_3005 ?_
  refine zz_aload_n C 3 dL_law_3006 rfl ?_
  refine zz_S C [.ref 1, .int (xs (i + 1).toNatClampNeg), .ref 3] [.ref 0, .int (xs (i + 1).toNatClampNeg), .ref 455] (ctL_tighten (zz_st C) 0 (xs (i + 1).toNatClampNeg) 455) zs_tighten e1 (zl_I e1) (fun _ => rfl) (zz_cap hB (by omega) hI1) (fun _ _ => rfl) (fun h => ⟨zs_0 h, trivial, zs_455 h, trivial⟩) rfl (by decide) (Nat.le_of_ble_eq_true rfl) dL_law_3007 ?_
  refine zz_istore C ((6, .int (ii code)) :: zz_lv i) dL_law_3010 (by decide) rfl ?_
  refine zz_aload_n C 3 dL_law_3012 rfl ?_
  refine zz_arg C (k5 := 1) 1 6 rfl rfl (by decide) hi.1 dL_law_3013 dL_law_3014 dL_law_3016 dL_law_3017 dL_law_3018 ?_
  refine zz_V2 C [.int (xs (i + 1).toNatClampNeg)] (ctX7_tighten (zz_st C) 0 (xs (i + 1).toNatClampNeg)) vzX7_tighten vivzX7_tighten rfl rfl rfl e2 (zz_le _ _) (fun _ => rfl) (zz_cap hB (by omega) hI1) (fun _ => rfl) ⟨trivial, trivial⟩ rfl (by decide) (Nat.le_of_ble_eq_true rfl) dL_law_3019 ?_
  refine zz_istore C ((7, .int (ii v)) :: (6, .int (ii code)) :: zz_lv i) dL_law_3022 (by decide) rfl ?_
  exact zt_I C hB (by omega) hI1 hm ha ⟨vzX7_thrown, vivzX7_thrown⟩ dL_law_3024 dL_law_3025 dL_law_3028 dL_law_3030 dL_law_3035 dL_law_3037 dL_law_3040 dL_law_3041 dL_law_3042 dL_law_3043 dL_law_3045 dL_law_3046 dL_law_3047 dL_law_3052 (by decide) (kk _ _ _ _ _ _ _ _ _ hI1)
theorem zc_48 {Γ : CX} {b L : Nat} {xs : Nat → Int32} {Q : State → Prop} {C0 N0 n : Nat} {K : Nat × Nat} {i : Int32} (C : zz_C Γ b L xs) (hB : zz_B C0 N0 K) (hn : n ≤ 512) (hi : zz_in i L) (kk : zz_N Γ b Q C0 N0 (n + 1) K 3404 i) : zz_N Γ b Q C0 N0 n K 3055 i := by
  intro pl sp tv cap c A J M g hI
  obtain ⟨code, v, pl1, sp1, tv1, cap1, c1, A1, J1, M1, g1, e1, e2, hm, ha, hI1⟩ := g_print (K := K) hI (by omega) (xs (i + 1).toNatClampNeg).toInt (zz_bd _)
  simp only [ii_of] at e1 e2
  refine zz_aload_n C 1 dL_law_3055 rfl ?_
  refine zz_arg C (k5 := 1) 0 5 rfl rfl (by decide) hi.1 dL_law_3056 dL_law_3057 dL_law_3059 dL_law_3060 dL_law_3061 ?_
  refine zz_aload_n C 3 dL_law_3062 rfl ?_
  refine zz_S C [.ref 1, .int (xs (i + 1).toNatClampNeg), .ref 3] [.ref 0, .int (xs (i + 1).toNatClampNeg), .ref 455] (ctL_print (zz_st C) 0 (xs (i + 1).toNatClampNeg) 455) zs_print e1 (zl_I e1) (fun _ => rfl) (zz_cap hB (by omega) hI1) (fun _ _ => rfl) (fun h => ⟨zs_0 h, trivial, zs_455 h, trivial⟩) rfl (by decide) (Nat.le_of_ble_eq_true rfl) dL_law_3063 ?_
  refine zz_istore C ((6, .int (ii code)) :: zz_lv i) dL_law_3066 (by decide) rfl ?_
  refine zz_aload_n C 3 dL_law_3068 rfl ?_
  refine zz_arg C (k5 := 1) 1 6 rfl rfl (by decide) hi.1 dL_law_3069 dL_law_3070 dL_law_3072 dL_law_3073 dL_law_3074 ?_
  refine zz_V2 C [.int (xs (i + 1).toNatClampNeg)] (ctX7_print (zz_st C) 0 (xs (i + 1).toNatClampNeg)) vzX7_print vivzX7_print rfl rfl rfl e2 (zz_le _ _) (fun _ => rfl) (zz_cap hB (by omega) hI1) (fun _ => rfl) ⟨trivial, trivial⟩ rfl (by decide) (Nat.le_of_ble_eq_true rfl) dL_law_3075 ?_
  refine zz_istore C ((7, .int (ii v)) :: (6, .int (ii code)) :: zz_lv i) dL_law_3078 (by decide) rfl ?_
  exact zt_I C hB (by omega) hI1 hm ha ⟨vzX7_thrown, vivzX7_thrown⟩ dL_law_3080 dL_law_3081 dL_law_3084 dL_law_3086 dL_law_3091 dL_law_3093 dL_law_3096 dL_law_3097 dL_law_3098 dL_law_3099 dL_law_3101 dL_law_3102 dL_law_3103 dL_law_3108 (by decide) (kk _ _ _ _ _ _ _ _ _ hI1)
theorem zc_49 {Γ : CX} {b L : Nat} {xs : Nat → Int32} {Q : State → Prop} {C0 N0 n : Nat} {K : Nat × Nat} {i : Int32} (C : zz_C Γ b L xs) (hB : zz_B C0 N0 K) (hn : n ≤ 512) (hi : zz_in i L) (kk : zz_N Γ b Q C0 N0 (n + 1) K 3404 i) : zz_N Γ b Q C0 N0 n K 3111 i := by
  intro pl sp tv cap c A J M g hI
  obtain ⟨code, v, pl1, sp1, tv1, cap1, c1, A1, J1, M1, g1, e1, e2, hm, ha, hI1⟩ := g_rest (K := K) hI (by omega) (xs (i + 1).toNatClampNeg).toInt (zz_bd _)
  simp only [ii_of] at e1 e2
  refine zz_aload_n C 1 dL_law_3111 rfl ?_
  refine zz_arg C (k5 := 1) 0 5 rfl rfl (by decide) hi.1 dL_law_3112 dL_law_3113 dL_law_3115 dL_law_3116 dL_law_3117 ?_
  refine zz_aload_n C 3 dL_law_3118 rfl ?_
  refine zz_S C [.ref 1, .int (xs (i + 1).toNatClampNeg), .ref 3] [.ref 0, .int (xs (i + 1).toNatClampNeg), .ref 455] (ctL_rest (zz_st C) 0 (xs (i + 1).toNatClampNeg) 455) zs_rest e1 (zl_I e1) (fun _ => rfl) (zz_cap hB (by omega) hI1) (fun _ _ => rfl) (fun h => ⟨zs_0 h, trivial, zs_455 h, trivial⟩) rfl (by decide) (Nat.le_of_ble_eq_true rfl) dL_law_3119 ?_
  refine zz_istore C ((6, .int (ii code)) :: zz_lv i) dL_law_3122 (by decide) rfl ?_
  refine zz_aload_n C 3 dL_law_3124 rfl ?_
  refine zz_arg C (k5 := 1) 1 6 rfl rfl (by decide) hi.1 dL_law_3125 dL_law_3126 dL_law_3128 dL_law_3129 dL_law_3130 ?_
  refine zz_V2 C [.int (xs (i + 1).toNatClampNeg)] (ctX7_rest (zz_st C) 0 (xs (i + 1).toNatClampNeg)) vzX7_rest vivzX7_rest rfl rfl rfl e2 (zz_le _ _) (fun _ => rfl) (zz_cap hB (by omega) hI1) (fun _ => rfl) ⟨trivial, trivial⟩ rfl (by decide) (Nat.le_of_ble_eq_true rfl) dL_law_3131 ?_
  refine zz_istore C ((7, .int (ii v)) :: (6, .int (ii code)) :: zz_lv i) dL_law_3134 (by decide) rfl ?_
  exact zt_I C hB (by omega) hI1 hm ha ⟨vzX7_thrown, vivzX7_thrown⟩ dL_law_3136 dL_law_3137 dL_law_3140 dL_law_3142 dL_law_3147 dL_law_3149 dL_law_3152 dL_law_3153 dL_law_3154 dL_law_3155 dL_law_3157 dL_law_3158 dL_law_3159 dL_law_3164 (by decide) (kk _ _ _ _ _ _ _ _ _ hI1)
theorem zc_50 {Γ : CX} {b L : Nat} {xs : Nat → Int32} {Q : State → Prop} {C0 N0 n : Nat} {K : Nat × Nat} {i : Int32} (C : zz_C Γ b L xs) (hB : zz_B C0 N0 K) (hn : n ≤ 512) (hi : zz_in i L) (kk : zz_N Γ b Q C0 N0 (n + 1) K 3404 i) : zz_N Γ b Q C0 N0 n K 3167 i := by
  intro pl sp tv cap c A J M g hI
  obtain ⟨code, v, pl1, sp1, tv1, cap1, c1, A1, J1, M1, g1, e1, e2, hm, ha, hI1⟩ := g_buy (K := K) hI (xs (i + 1).toNatClampNeg).toInt (xs (i + 2).toNatClampNeg).toInt (zz_bd _) (zz_bd _)
  simp only [ii_of] at e1 e2
  refine zz_aload_n C 1 dL_law_3167 rfl ?_
  refine zz_arg C (k5 := 1) 0 5 rfl rfl (by decide) hi.1 dL_law_3168 dL_law_3169 dL_law_3171 dL_law_3172 dL_law_3173 ?_
  refine zz_arg C (k5 := 2) 0 5 rfl rfl (by decide) hi.2.1 dL_law_3174 dL_law_3175 dL_law_3177 dL_law_3178 dL_law_3179 ?_
  refine zz_aload_n C 3 dL_law_3180 rfl ?_
  refine zz_S C [.ref 1, .int (xs (i + 1).toNatClampNeg), .int (xs (i + 2).toNatClampNeg), .ref 3] [.ref 0, .int (xs (i + 1).toNatClampNeg), .int (xs (i + 2).toNatClampNeg), .ref 455] (ctL_buy (zz_st C) 0 (xs (i + 1).toNatClampNeg) (xs (i + 2).toNatClampNeg) 455) zs_buy e1 (zl_I e1) (fun _ => rfl) (zz_cap hB (by omega) hI1) (fun _ _ => rfl) (fun h => ⟨zs_0 h, trivial, trivial, zs_455 h, trivial⟩) rfl (by decide) (Nat.le_of_ble_eq_true rfl) dL_law_3181 ?_
  refine zz_istore C ((6, .int (ii code)) :: zz_lv i) dL_law_3184 (by decide) rfl ?_
  refine zz_aload_n C 3 dL_law_3186 rfl ?_
  refine zz_arg C (k5 := 1) 1 6 rfl rfl (by decide) hi.1 dL_law_3187 dL_law_3188 dL_law_3190 dL_law_3191 dL_law_3192 ?_
  refine zz_arg C (k5 := 2) 1 6 rfl rfl (by decide) hi.2.1 dL_law_3193 dL_law_3194 dL_law_3196 dL_law_3197 dL_law_3198 ?_
  refine zz_V2 C [.int (xs (i + 1).toNatClampNeg), .int (xs (i + 2).toNatClampNeg)] (ctX7_buy (zz_st C) 0 (xs (i + 1).toNatClampNeg) (xs (i + 2).toNatClampNeg)) vzX7_buy vivzX7_buy rfl rfl rfl e2 (zz_le _ _) (fun _ => rfl) (zz_cap hB (by omega) hI1) (fun _ => rfl) ⟨trivial, trivial, trivial⟩ rfl (by decide) (Nat.le_of_ble_eq_true rfl) dL_law_3199 ?_
  refine zz_istore C ((7, .int (ii v)) :: (6, .int (ii code)) :: zz_lv i) dL_law_3202 (by decide) rfl ?_
  exact zt_I C hB (by omega) hI1 hm ha ⟨vzX7_thrown, vivzX7_thrown⟩ dL_law_3204 dL_law_3205 dL_law_3208 dL_law_3210 dL_law_3215 dL_law_3217 dL_law_3220 dL_law_3221 dL_law_3222 dL_law_3223 dL_law_3225 dL_law_3226 dL_law_3227 dL_law_3232 (by decide) (kk _ _ _ _ _ _ _ _ _ hI1)
theorem zc_51 {Γ : CX} {b L : Nat} {xs : Nat → Int32} {Q : State → Prop} {C0 N0 n : Nat} {K : Nat × Nat} {i : Int32} (C : zz_C Γ b L xs) (hB : zz_B C0 N0 K) (hn : n ≤ 512) (hi : zz_in i L) (kk : zz_N Γ b Q C0 N0 (n + 1) K 3404 i) : zz_N Γ b Q C0 N0 n K 3235 i := by
  intro pl sp tv cap c A J M g hI
  obtain ⟨code, v, pl1, sp1, tv1, cap1, c1, A1, J1, M1, g1, e1, e2, hm, ha, hI1⟩ := g_undo (K := K) hI
  refine zz_aload_n C 1 dL_law_3235 rfl ?_
  refine zz_aload_n C 3 dL_law_3236 rfl ?_
  refine zz_S C [.ref 1, .ref 3] [.ref 0, .ref 455] (ctL_undo (zz_st C) 0 455) zs_undo e1 (zl_I e1) (fun _ => rfl) (zz_cap hB (by omega) hI1) (fun _ _ => rfl) (fun h => ⟨zs_0 h, zs_455 h, trivial⟩) rfl (by decide) (Nat.le_of_ble_eq_true rfl) dL_law_3237 ?_
  refine zz_istore C ((6, .int (ii code)) :: zz_lv i) dL_law_3240 (by decide) rfl ?_
  refine zz_aload_n C 3 dL_law_3242 rfl ?_
  refine zz_V2 C [] (ctX7_undo (zz_st C) 0) vzX7_undo vivzX7_undo rfl rfl rfl e2 (zz_le _ _) (fun _ => rfl) (zz_cap hB (by omega) hI1) (fun _ => rfl) trivial rfl (by decide) (Nat.le_of_ble_eq_true rfl) dL_law_3243 ?_
  refine zz_istore C ((7, .int (ii v)) :: (6, .int (ii code)) :: zz_lv i) dL_law_3246 (by decide) rfl ?_
  exact zt_I C hB (by omega) hI1 hm ha ⟨vzX7_thrown, vivzX7_thrown⟩ dL_law_3248 dL_law_3249 dL_law_3252 dL_law_3254 dL_law_3259 dL_law_3261 dL_law_3264 dL_law_3265 dL_law_3266 dL_law_3267 dL_law_3269 dL_law_3270 dL_law_3271 dL_law_3276 (by decide) (kk _ _ _ _ _ _ _ _ _ hI1)
theorem zc_52 {Γ : CX} {b L : Nat} {xs : Nat → Int32} {Q : State → Prop} {C0 N0 n : Nat} {K : Nat × Nat} {i : Int32} (C : zz_C Γ b L xs) (hB : zz_B C0 N0 K) (hn : n ≤ 512) (hi : zz_in i L) (kk : zz_N Γ b Q C0 N0 (n + 1) K 3404 i) : zz_N Γ b Q C0 N0 n K 3279 i := by
  intro pl sp tv cap c A J M g hI
  obtain ⟨v, pl1, sp1, tv1, cap1, c1, A1, J1, M1, g1, e1, e2, hI1⟩ := g_undoable (K := K) hI
  refine zz_aload_n C 1 dL_law_3279 rfl ?_
  refine zz_V1 C [] (ctX6_undoable (zz_st C) 0) vzX6_undoable vivzX6_undoable rfl rfl (zz_H10 hI.1) e1 (zl_undoable e1) (fun _ => rfl) (zz_cap hB (by omega) hI1) (fun _ => rfl) trivial rfl (by decide) (Nat.le_of_ble_eq_true rfl) dL_law_3280 ?_
  refine zz_aload_n C 2 dL_law_3283 rfl ?_
  refine zz_V2 C [] (ctX7_undoable (zz_st C) 0) vzX7_undoable vivzX7_undoable rfl rfl rfl e2 (zz_le _ _) (fun _ => rfl) (zz_cap hB (by omega) hI1) (fun _ => rfl) trivial rfl (by decide) (Nat.le_of_ble_eq_true rfl) dL_law_3284 ?_
  exact zz_icmpT C 3404 dL_law_3287 (by decide) rfl (kk _ _ _ _ _ _ _ _ _ hI1)
theorem zc_53 {Γ : CX} {b L : Nat} {xs : Nat → Int32} {Q : State → Prop} {C0 N0 n : Nat} {K : Nat × Nat} {i : Int32} (C : zz_C Γ b L xs) (hB : zz_B C0 N0 K) (hn : n ≤ 512) (hi : zz_in i L) (kk : zz_N Γ b Q C0 N0 (n + 1) K 3404 i) : zz_N Γ b Q C0 N0 n K 3292 i := by
  intro pl sp tv cap c A J M g hI
  obtain ⟨code, v, pl1, sp1, tv1, cap1, c1, A1, J1, M1, g1, e1, e2, hm, ha, hI1⟩ := g_save (K := K) hI (xs (i + 1).toNatClampNeg).toInt (zz_bd _)
  simp only [ii_of] at e1 e2
  refine zz_aload_n C 1 dL_law_3292 rfl ?_
  refine zz_arg C (k5 := 1) 0 5 rfl rfl (by decide) hi.1 dL_law_3293 dL_law_3294 dL_law_3296 dL_law_3297 dL_law_3298 ?_
  refine zz_aload_n C 3 dL_law_3299 rfl ?_
  refine zz_S C [.ref 1, .int (xs (i + 1).toNatClampNeg), .ref 3] [.ref 0, .int (xs (i + 1).toNatClampNeg), .ref 455] (ctL_save (zz_st C) 0 (xs (i + 1).toNatClampNeg) 455) zs_save e1 (zl_I e1) (fun _ => rfl) (zz_cap hB (by omega) hI1) (fun _ _ => rfl) (fun h => ⟨zs_0 h, trivial, zs_455 h, trivial⟩) rfl (by decide) (Nat.le_of_ble_eq_true rfl) dL_law_3300 ?_
  refine zz_istore C ((6, .int (ii code)) :: zz_lv i) dL_law_3303 (by decide) rfl ?_
  refine zz_aload_n C 3 dL_law_3305 rfl ?_
  refine zz_arg C (k5 := 1) 1 6 rfl rfl (by decide) hi.1 dL_law_3306 dL_law_3307 dL_law_3309 dL_law_3310 dL_law_3311 ?_
  refine zz_V2 C [.int (xs (i + 1).toNatClampNeg)] (ctX7_save (zz_st C) 0 (xs (i + 1).toNatClampNeg)) vzX7_save vivzX7_save rfl rfl rfl e2 (zz_le _ _) (fun _ => rfl) (zz_cap hB (by omega) hI1) (fun _ => rfl) ⟨trivial, trivial⟩ rfl (by decide) (Nat.le_of_ble_eq_true rfl) dL_law_3312 ?_
  refine zz_istore C ((7, .int (ii v)) :: (6, .int (ii code)) :: zz_lv i) dL_law_3315 (by decide) rfl ?_
  exact zt_I C hB (by omega) hI1 hm ha ⟨vzX7_thrown, vivzX7_thrown⟩ dL_law_3317 dL_law_3318 dL_law_3321 dL_law_3323 dL_law_3328 dL_law_3330 dL_law_3333 dL_law_3334 dL_law_3335 dL_law_3336 dL_law_3338 dL_law_3339 dL_law_3340 dL_law_3345 (by decide) (kk _ _ _ _ _ _ _ _ _ hI1)
theorem zc_54 {Γ : CX} {b L : Nat} {xs : Nat → Int32} {Q : State → Prop} {C0 N0 n : Nat} {K : Nat × Nat} {i : Int32} (C : zz_C Γ b L xs) (hB : zz_B C0 N0 K) (hn : n ≤ 512) (hi : zz_in i L) (kk : zz_N Γ b Q C0 N0 (n + 1) K 3404 i) : zz_N Γ b Q C0 N0 n K 3348 i := by
  intro pl sp tv cap c A J M g hI
  obtain ⟨code, v, pl1, sp1, tv1, cap1, c1, A1, J1, M1, g1, e1, e2, hm, ha, hI1⟩ := g_restore (K := K) hI (xs (i + 1).toNatClampNeg).toInt (zz_bd _)
  simp only [ii_of] at e1 e2
  refine zz_aload_n C 1 dL_law_3348 rfl ?_
  refine zz_arg C (k5 := 1) 0 5 rfl rfl (by decide) hi.1 dL_law_3349 dL_law_3350 dL_law_3352 dL_law_3353 dL_law_3354 ?_
  refine zz_aload_n C 3 dL_law_3355 rfl ?_
  refine zz_S C [.ref 1, .int (xs (i + 1).toNatClampNeg), .ref 3] [.ref 0, .int (xs (i + 1).toNatClampNeg), .ref 455] (ctL_restore (zz_st C) 0 (xs (i + 1).toNatClampNeg) 455) zs_restore e1 (zl_I e1) (fun _ => rfl) (zz_cap hB (by omega) hI1) (fun _ _ => rfl) (fun h => ⟨zs_0 h, trivial, zs_455 h, trivial⟩) rfl (by decide) (Nat.le_of_ble_eq_true rfl) dL_law_3356 ?_
  refine zz_istore C ((6, .int (ii code)) :: zz_lv i) dL_law_3359 (by decide) rfl ?_
  refine zz_aload_n C 3 dL_law_3361 rfl ?_
  refine zz_arg C (k5 := 1) 1 6 rfl rfl (by decide) hi.1 dL_law_3362 dL_law_3363 dL_law_3365 dL_law_3366 dL_law_3367 ?_
  refine zz_V2 C [.int (xs (i + 1).toNatClampNeg)] (ctX7_restore (zz_st C) 0 (xs (i + 1).toNatClampNeg)) vzX7_restore vivzX7_restore rfl rfl rfl e2 (zz_le _ _) (fun _ => rfl) (zz_cap hB (by omega) hI1) (fun _ => rfl) ⟨trivial, trivial⟩ rfl (by decide) (Nat.le_of_ble_eq_true rfl) dL_law_3368 ?_
  refine zz_istore C ((7, .int (ii v)) :: (6, .int (ii code)) :: zz_lv i) dL_law_3371 (by decide) rfl ?_
  exact zt_I C hB (by omega) hI1 hm ha ⟨vzX7_thrown, vivzX7_thrown⟩ dL_law_3373 dL_law_3374 dL_law_3377 dL_law_3379 dL_law_3384 dL_law_3386 dL_law_3389 dL_law_3390 dL_law_3391 dL_law_3392 dL_law_3394 dL_law_3395 dL_law_3396 dL_law_3401 (by decide) (kk _ _ _ _ _ _ _ _ _ hI1)
