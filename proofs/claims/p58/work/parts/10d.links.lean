theorem iwJ0 : ∀ w ∈ u_ws RJ0 TJ0 4, w ∈ ax_ALL := ax_all_in (by decide +kernel)
theorem ax_DF0 : ax_DF 0 4 := ⟨RJ0, TJ0, tyJ0, rfl, by decide, iwJ0, tyJ0_ok, by decide, by decide, kw_1, kw_0⟩
theorem iwJ4 : ∀ w ∈ u_ws RJ4 TJ4 4, w ∈ ax_ALL := ax_all_in (by decide +kernel)
theorem ax_DF1 : ax_DF 1 4 := ⟨RJ4, TJ4, tyJ4, rfl, by decide, iwJ4, tyJ4_ok, by decide, by decide, kw_3, kw_2⟩
theorem iwX0 : ∀ w ∈ u_ws RX0 TX0 3, w ∈ ax_ALL := ax_all_in (by decide +kernel)
theorem ax_DF4 : ax_DF 4 3 := ⟨RX0, TX0, tyX0, rfl, by decide, iwX0, tyX0_ok, by decide, by decide, kw_5, kw_4⟩
theorem iwX1 : ∀ w ∈ u_ws RX1 TX1 11, w ∈ ax_ALL := ax_all_in (by decide +kernel)
theorem ax_DF5 : ax_DF 5 11 := ⟨RX1, TX1, tyX1, rfl, by decide, iwX1, tyX1_ok, by decide, by decide, kw_7, kw_6⟩
theorem iwX2 : ∀ w ∈ u_ws RX2 TX2 9, w ∈ ax_ALL := ax_all_in (by decide +kernel)
theorem ax_DF6 : ax_DF 6 9 := ⟨RX2, TX2, tyX2, rfl, by decide, iwX2, tyX2_ok, by decide, by decide, kw_9, kw_8⟩
theorem iwX3 : ∀ w ∈ u_ws RX3 TX3 10, w ∈ ax_ALL := ax_all_in (by decide +kernel)
theorem ax_DF7 : ax_DF 7 10 := ⟨RX3, TX3, tyX3, rfl, by decide, iwX3, tyX3_ok, by decide, by decide, kw_11, kw_10⟩
theorem iwX4 : ∀ w ∈ u_ws RX4 TX4 8, w ∈ ax_ALL := ax_all_in (by decide +kernel)
theorem ax_DF8 : ax_DF 8 8 := ⟨RX4, TX4, tyX4, rfl, by decide, iwX4, tyX4_ok, by decide, by decide, kw_13, kw_12⟩
theorem iwX5 : ∀ w ∈ u_ws RX5 TX5 8, w ∈ ax_ALL := ax_all_in (by decide +kernel)
theorem ax_DF9 : ax_DF 9 8 := ⟨RX5, TX5, tyX5, rfl, by decide, iwX5, tyX5_ok, by decide, by decide, kw_15, kw_14⟩
theorem iwX6 : ∀ w ∈ u_ws RX6 TX6 11, w ∈ ax_ALL := ax_all_in (by decide +kernel)
theorem ax_DF10 : ax_DF 10 11 := ⟨RX6, TX6, tyX6, rfl, by decide, iwX6, tyX6_ok, by decide, by decide, kw_17, kw_16⟩
theorem iwX17 : ∀ w ∈ u_ws RX17 TX17 2, w ∈ ax_ALL := ax_all_in (by decide +kernel)
theorem ax_DF11 : ax_DF 11 2 := ⟨RX17, TX17, tyX17, rfl, by decide, iwX17, tyX17_ok, by decide, by decide, kw_19, kw_18⟩
theorem iwX18 : ∀ w ∈ u_ws RX18 TX18 4, w ∈ ax_ALL := ax_all_in (by decide +kernel)
theorem ax_DF12 : ax_DF 12 4 := ⟨RX18, TX18, tyX18, rfl, by decide, iwX18, tyX18_ok, by decide, by decide, kw_21, kw_20⟩
theorem iwX19 : ∀ w ∈ u_ws RX19 TX19 16, w ∈ ax_ALL := ax_all_in (by decide +kernel)
theorem ax_DF13 : ax_DF 13 16 := ⟨RX19, TX19, tyX19, rfl, by decide, iwX19, tyX19_ok, by decide, by decide, kw_23, kw_22⟩
theorem vlJ0_335 : ax_VL RJ0 335 yJ0_coder_7d493 cJ0_coder_7d493 1 (some (.byte)) 0 := ⟨kw_28, kw_0, kw_27, by decide +kernel⟩
theorem viJ0_coder_7d493 : ax_VI yJ0_coder_7d493 := ⟨kw_29, kw_30⟩
theorem vlJ0_492 : ax_VL RJ0 492 yJ0_isLatin1_aae02 cJ0_isLatin1_aae02 1 (some (.boolean)) 0 := ⟨kw_32, kw_0, kw_31, by decide +kernel⟩
theorem viJ0_isLatin1_aae02 : ax_VI yJ0_isLatin1_aae02 := ⟨kw_33, kw_34⟩
theorem vlJ0_1059 : ax_VL RJ0 1059 yJ3_checkIndex_8e157 cJ3_checkIndex_8e157 3 (some (.int)) 3 := ⟨kw_38, kw_37, kw_36, by decide +kernel⟩
theorem vlJ1_9 : ax_VL RJ1 9 yJ0_checkIndex_df160 cJ0_checkIndex_df160 2 (none) 2 := ⟨kw_41, kw_0, kw_40, by decide +kernel⟩
theorem vlJ0_495 : ax_VL RJ0 495 yJ1_charAt_3b067 cJ1_charAt_3b067 2 (some (.char)) 2 := ⟨kw_45, kw_44, kw_43, by decide +kernel⟩
theorem flJ5_15_1 : ax_FL RJ5 15 1 0 2 (.array .byte) false := ⟨RJ4, TJ4, 4, tyJ4, rfl, by decide, by decide, by decide, by decide, iwJ4, kw_52, tyJ4_ok, nmJ4, rfl, (fun h => by cases h), rfl⟩
theorem flJ5_22_1 : ax_FL RJ5 22 1 1 0 (.byte) false := ⟨RJ4, TJ4, 4, tyJ4, rfl, by decide, by decide, by decide, by decide, iwJ4, kw_53, tyJ4_ok, nmJ4, rfl, (fun h => by cases h), rfl⟩
theorem vlJ4_1 : ax_VL RJ4 1 yJ5_init_d00df cJ5_init_d00df 2 (none) 1 := ⟨kw_57, kw_55, kw_54, by decide +kernel⟩
theorem frJ5_79_1 : ax_FR RJ5 79 1 3 0 := ⟨RJ4, TJ4, 4, rfl, by decide, by decide, by decide, iwJ4, kw_58⟩
theorem frJ5_15_1 : ax_FR RJ5 15 1 0 2 := ⟨RJ4, TJ4, 4, rfl, by decide, by decide, by decide, iwJ4, kw_52⟩
theorem frJ5_22_1 : ax_FR RJ5 22 1 1 0 := ⟨RJ4, TJ4, 4, rfl, by decide, by decide, by decide, iwJ4, kw_53⟩
theorem mlJ8_194 : ax_ML RJ8 194 Lib.Math.max.name Lib.Math.max.code := ⟨kw_59, kw_60, kw_61, kw_62⟩
theorem vlJ5_114 : ax_VL RJ5 114 yJ8_newLength_cabcc cJ8_newLength_cabcc 4 (some (.int)) 3 := ⟨kw_66, kw_65, kw_64, by decide +kernel⟩
theorem vlJ5_104 : ax_VL RJ5 104 yJ5_newCapacity_0f7a4 cJ5_newCapacity_0f7a4 6 (some (.int)) 1 := ⟨kw_70, kw_55, kw_69, by decide +kernel⟩
theorem unJ5_104 : ax_UL RJ5 104 RJ4 yJ5_newCapacity_0f7a4 cJ5_newCapacity_0f7a4 6 (some (.int)) 1 := ⟨vlJ5_104, kw_71, kw_72, ax_mN⟩
theorem mlJ7_304 : ax_ML RJ7 304 Lib.Math.min.name Lib.Math.min.code := ⟨kw_73, kw_74, kw_61, kw_75⟩
theorem clJ7_150 : ax_CL RJ7 150 := ⟨kw_76, kw_77, kw_78, kw_79⟩
theorem vlJ5_108 : ax_VL RJ5 108 yJ7_copyOf_9075b cJ7_copyOf_9075b 3 (some (.array .byte)) 2 := ⟨kw_82, kw_81, kw_80, by decide +kernel⟩
theorem vlJ5_100 : ax_VL RJ5 100 yJ5_ensureCapacityInternal_d00df cJ5_ensureCapacityInternal_d00df 3 (none) 1 := ⟨kw_85, kw_55, kw_84, by decide +kernel⟩
theorem unJ5_100 : ax_UL RJ5 100 RJ4 yJ5_ensureCapacityInternal_d00df cJ5_ensureCapacityInternal_d00df 3 (none) 1 := ⟨vlJ5_100, kw_86, kw_87, ax_mE⟩
theorem vlJ5_83 : ax_VL RJ5 83 yJ5_isLatin1_aae02 cJ5_isLatin1_aae02 1 (some (.boolean)) 0 := ⟨kw_89, kw_55, kw_88, by decide +kernel⟩
theorem unJ5_83 : ax_UL RJ5 83 RJ4 yJ5_isLatin1_aae02 cJ5_isLatin1_aae02 1 (some (.boolean)) 0 := ⟨vlJ5_83, kw_90, kw_91, kw_92⟩
theorem flJ5_79_1 : ax_FL RJ5 79 1 3 0 (.int) false := ⟨RJ4, TJ4, 4, tyJ4, rfl, by decide, by decide, by decide, by decide, iwJ4, kw_58, tyJ4_ok, nmJ4, rfl, (fun h => by cases h), rfl⟩
theorem vlJ5_191 : ax_VL RJ5 191 yJ1_canEncode_fc78d cJ1_canEncode_fc78d 1 (some (.boolean)) 1 := ⟨kw_94, kw_44, kw_93, by decide +kernel⟩
theorem vlJ4_50 : ax_VL RJ4 50 yJ5_append_3fe6f cJ5_append_3fe6f 2 (some (.object "java/lang/AbstractStringBuilder")) 1 := ⟨kw_97, kw_55, kw_96, by decide +kernel⟩
theorem suJ4_50 : ax_SL RJ4 50 yJ5_append_3fe6f cJ5_append_3fe6f 2 (some (.object "java/lang/AbstractStringBuilder")) 1 := ⟨vlJ4_50, kw_98, kw_99, kw_100, by decide⟩
theorem vlJ5_245 : ax_VL RJ5 245 yJ6_stringSize_0f7a4 cJ6_stringSize_0f7a4 4 (some (.int)) 1 := ⟨kw_103, kw_102, kw_101, by decide +kernel⟩
theorem vlJ5_248 : ax_VL RJ5 248 yJ6_getChars_ba4f3 cJ6_getChars_ba4f3 7 (some (.int)) 3 := ⟨kw_108, kw_102, kw_107, by decide +kernel⟩
theorem vlJ4_53 : ax_VL RJ4 53 yJ5_append_c97b9 cJ5_append_c97b9 4 (some (.object "java/lang/AbstractStringBuilder")) 1 := ⟨kw_111, kw_55, kw_110, by decide +kernel⟩
theorem suJ4_53 : ax_SL RJ4 53 yJ5_append_c97b9 cJ5_append_c97b9 4 (some (.object "java/lang/AbstractStringBuilder")) 1 := ⟨vlJ4_53, kw_112, kw_113, kw_114, by decide⟩
theorem vlJ4_343 : ax_VL RJ4 343 yJ5_length_8abf5 cJ5_length_8abf5 1 (some (.int)) 0 := ⟨kw_116, kw_55, kw_115, by decide +kernel⟩
theorem suJ4_343 : ax_SL RJ4 343 yJ5_length_8abf5 cJ5_length_8abf5 1 (some (.int)) 0 := ⟨vlJ4_343, kw_117, kw_118, kw_119, by decide⟩
theorem flJ5_73_1 : ax_FL RJ5 73 1 2 0 (.boolean) false := ⟨RJ4, TJ4, 4, tyJ4, rfl, by decide, by decide, by decide, by decide, iwJ4, kw_120, tyJ4_ok, nmJ4, rfl, (fun h => by cases h), rfl⟩
theorem vlJ4_333 : ax_VL RJ4 333 yJ5_setLength_d00df cJ5_setLength_d00df 2 (none) 1 := ⟨kw_122, kw_55, kw_121, by decide +kernel⟩
theorem suJ4_333 : ax_SL RJ4 333 yJ5_setLength_d00df cJ5_setLength_d00df 2 (none) 1 := ⟨vlJ4_333, kw_123, kw_124, kw_125, by decide⟩
theorem mlJ5_138 : ax_ML RJ5 138 Lib.Math.min.name Lib.Math.min.code := ⟨kw_126, kw_74, kw_61, kw_75⟩
theorem vlJ5_144 : ax_VL RJ5 144 yJ0_checkIndex_df160 cJ0_checkIndex_df160 2 (none) 2 := ⟨kw_127, kw_0, kw_40, by decide +kernel⟩
theorem vlJ4_329 : ax_VL RJ4 329 yJ5_charAt_5068e cJ5_charAt_5068e 5 (some (.char)) 1 := ⟨kw_129, kw_55, kw_128, by decide +kernel⟩
theorem suJ4_329 : ax_SL RJ4 329 yJ5_charAt_5068e cJ5_charAt_5068e 5 (some (.char)) 1 := ⟨vlJ4_329, kw_130, kw_131, kw_132, by decide⟩
theorem flX1_9_5 : ax_FL RX1 9 5 8 2 (.array .boolean) true := ⟨RX1, TX1, 11, tyX1, rfl, by decide, by decide, by decide, by decide, iwX1, kw_135, tyX1_ok, nmX1, rfl, (fun h => rfl), rfl⟩
theorem flX1_15_5 : ax_FL RX1 15 5 9 2 (.array .int) true := ⟨RX1, TX1, 11, tyX1, rfl, by decide, by decide, by decide, by decide, iwX1, kw_137, tyX1_ok, nmX1, rfl, (fun h => rfl), rfl⟩
theorem flX1_19_5 : ax_FL RX1 19 5 10 2 (.array .int) true := ⟨RX1, TX1, 11, tyX1, rfl, by decide, by decide, by decide, by decide, iwX1, kw_138, tyX1_ok, nmX1, rfl, (fun h => rfl), rfl⟩
theorem frX1_22_5 : ax_FR RX1 22 5 7 0 := ⟨RX1, TX1, 11, rfl, by decide, by decide, by decide, iwX1, kw_139⟩
theorem frX1_9_5 : ax_FR RX1 9 5 8 2 := ⟨RX1, TX1, 11, rfl, by decide, by decide, by decide, iwX1, kw_135⟩
theorem frX1_15_5 : ax_FR RX1 15 5 9 2 := ⟨RX1, TX1, 11, rfl, by decide, by decide, by decide, iwX1, kw_137⟩
theorem frX1_19_5 : ax_FR RX1 19 5 10 2 := ⟨RX1, TX1, 11, rfl, by decide, by decide, by decide, iwX1, kw_138⟩
theorem flX1_22_5 : ax_FL RX1 22 5 7 0 (.int) false := ⟨RX1, TX1, 11, tyX1, rfl, by decide, by decide, by decide, by decide, iwX1, kw_139, tyX1_ok, nmX1, rfl, (fun h => by cases h), rfl⟩
theorem vlX1_26 : ax_VL RX1 26 yX1_isAhead cX1_isAhead 3 (some (.boolean)) 2 := ⟨kw_141, kw_6, kw_140, by decide +kernel⟩
theorem viX1_isAhead : ax_VI yX1_isAhead := ⟨kw_142, kw_143⟩
theorem flX3_11_7 : ax_FL RX3 11 7 0 2 (.array .int) true := ⟨RX3, TX3, 10, tyX3, rfl, by decide, by decide, by decide, by decide, iwX3, kw_145, tyX3_ok, nmX3, rfl, (fun h => rfl), rfl⟩
theorem flX3_15_7 : ax_FL RX3 15 7 3 2 (.array .long) true := ⟨RX3, TX3, 10, tyX3, rfl, by decide, by decide, by decide, by decide, iwX3, kw_147, tyX3_ok, nmX3, rfl, (fun h => rfl), rfl⟩
theorem flX3_19_7 : ax_FL RX3 19 7 6 2 (.array .int) true := ⟨RX3, TX3, 10, tyX3, rfl, by decide, by decide, by decide, by decide, iwX3, kw_148, tyX3_ok, nmX3, rfl, (fun h => rfl), rfl⟩
theorem flX3_22_7 : ax_FL RX3 22 7 7 0 (.int) false := ⟨RX3, TX3, 10, tyX3, rfl, by decide, by decide, by decide, by decide, iwX3, kw_149, tyX3_ok, nmX3, rfl, (fun h => by cases h), rfl⟩
theorem flX3_44_7 : ax_FL RX3 44 7 1 0 (.int) false := ⟨RX3, TX3, 10, tyX3, rfl, by decide, by decide, by decide, by decide, iwX3, kw_150, tyX3_ok, nmX3, rfl, (fun h => by cases h), rfl⟩
theorem flX3_47_7 : ax_FL RX3 47 7 2 0 (.int) false := ⟨RX3, TX3, 10, tyX3, rfl, by decide, by decide, by decide, by decide, iwX3, kw_151, tyX3_ok, nmX3, rfl, (fun h => by cases h), rfl⟩
theorem vlX3_26 : ax_VL RX3 26 yX3_dropBlocks cX3_dropBlocks 1 (none) 0 := ⟨kw_153, kw_10, kw_152, by decide +kernel⟩
theorem viX3_dropBlocks : ax_VI yX3_dropBlocks := ⟨kw_154, kw_155⟩
theorem flX3_50_7 : ax_FL RX3 50 7 4 0 (.int) false := ⟨RX3, TX3, 10, tyX3, rfl, by decide, by decide, by decide, by decide, iwX3, kw_156, tyX3_ok, nmX3, rfl, (fun h => by cases h), rfl⟩
theorem flX3_53_7 : ax_FL RX3 53 7 5 0 (.int) false := ⟨RX3, TX3, 10, tyX3, rfl, by decide, by decide, by decide, by decide, iwX3, kw_157, tyX3_ok, nmX3, rfl, (fun h => by cases h), rfl⟩
theorem frX3_19_7 : ax_FR RX3 19 7 6 2 := ⟨RX3, TX3, 10, rfl, by decide, by decide, by decide, iwX3, kw_148⟩
theorem vlX3_29 : ax_VL RX3 29 yX3_dropPieces cX3_dropPieces 2 (none) 0 := ⟨kw_159, kw_10, kw_158, by decide +kernel⟩
theorem viX3_dropPieces : ax_VI yX3_dropPieces := ⟨kw_160, kw_161⟩
theorem flX3_32_7 : ax_FL RX3 32 7 8 0 (.int) false := ⟨RX3, TX3, 10, tyX3, rfl, by decide, by decide, by decide, by decide, iwX3, kw_162, tyX3_ok, nmX3, rfl, (fun h => by cases h), rfl⟩
theorem flX3_35_7 : ax_FL RX3 35 7 9 0 (.int) false := ⟨RX3, TX3, 10, tyX3, rfl, by decide, by decide, by decide, by decide, iwX3, kw_163, tyX3_ok, nmX3, rfl, (fun h => by cases h), rfl⟩
theorem frX3_11_7 : ax_FR RX3 11 7 0 2 := ⟨RX3, TX3, 10, rfl, by decide, by decide, by decide, iwX3, kw_145⟩
theorem clX3_38 : ax_CL RX3 38 := ⟨kw_164, kw_77, kw_78, kw_79⟩
theorem frX3_44_7 : ax_FR RX3 44 7 1 0 := ⟨RX3, TX3, 10, rfl, by decide, by decide, by decide, iwX3, kw_150⟩
theorem frX3_47_7 : ax_FR RX3 47 7 2 0 := ⟨RX3, TX3, 10, rfl, by decide, by decide, by decide, iwX3, kw_151⟩
theorem frX3_15_7 : ax_FR RX3 15 7 3 2 := ⟨RX3, TX3, 10, rfl, by decide, by decide, by decide, iwX3, kw_147⟩
theorem frX3_50_7 : ax_FR RX3 50 7 4 0 := ⟨RX3, TX3, 10, rfl, by decide, by decide, by decide, iwX3, kw_156⟩
theorem frX3_53_7 : ax_FR RX3 53 7 5 0 := ⟨RX3, TX3, 10, rfl, by decide, by decide, by decide, iwX3, kw_157⟩
theorem frX3_22_7 : ax_FR RX3 22 7 7 0 := ⟨RX3, TX3, 10, rfl, by decide, by decide, by decide, iwX3, kw_149⟩
theorem frX3_32_7 : ax_FR RX3 32 7 8 0 := ⟨RX3, TX3, 10, rfl, by decide, by decide, by decide, iwX3, kw_162⟩
theorem frX3_35_7 : ax_FR RX3 35 7 9 0 := ⟨RX3, TX3, 10, rfl, by decide, by decide, by decide, iwX3, kw_163⟩
theorem frX3_56_5 : ax_FR RX3 56 5 0 0 := ⟨RX1, TX1, 11, rfl, by decide, by decide, by decide, iwX1, kw_165⟩
theorem vlX3_61 : ax_VL RX3 61 yX3_roomIn cX3_roomIn 2 (some (.int)) 1 := ⟨kw_167, kw_10, kw_166, by decide +kernel⟩
theorem viX3_roomIn : ax_VI yX3_roomIn := ⟨kw_168, kw_169⟩
theorem vlX3_65 : ax_VL RX3 65 yX3_hasQuoin cX3_hasQuoin 1 (some (.boolean)) 0 := ⟨kw_171, kw_10, kw_170, by decide +kernel⟩
theorem viX3_hasQuoin : ax_VI yX3_hasQuoin := ⟨kw_172, kw_173⟩
theorem frX3_69_5 : ax_FR RX3 69 5 2 0 := ⟨RX1, TX1, 11, rfl, by decide, by decide, by decide, iwX1, kw_174⟩
theorem vlX3_72 : ax_VL RX3 72 yX3_gapIn cX3_gapIn 2 (some (.int)) 1 := ⟨kw_176, kw_10, kw_175, by decide +kernel⟩
theorem viX3_gapIn : ax_VI yX3_gapIn := ⟨kw_177, kw_178⟩
theorem frX3_75_5 : ax_FR RX3 75 5 4 0 := ⟨RX1, TX1, 11, rfl, by decide, by decide, by decide, iwX1, kw_179⟩
theorem frX3_78_5 : ax_FR RX3 78 5 5 0 := ⟨RX1, TX1, 11, rfl, by decide, by decide, by decide, iwX1, kw_180⟩
theorem frX3_84_5 : ax_FR RX3 84 5 7 0 := ⟨RX1, TX1, 11, rfl, by decide, by decide, by decide, iwX1, kw_181⟩
theorem frX3_87_5 : ax_FR RX3 87 5 8 2 := ⟨RX1, TX1, 11, rfl, by decide, by decide, by decide, iwX1, kw_182⟩
theorem vlX3_81 : ax_VL RX3 81 yX3_woodIn cX3_woodIn 4 (some (.int)) 1 := ⟨kw_184, kw_10, kw_183, by decide +kernel⟩
theorem viX3_woodIn : ax_VI yX3_woodIn := ⟨kw_185, kw_186⟩
theorem vlX3_91 : ax_VL RX3 91 yX3_blockAt cX3_blockAt 2 (some (.int)) 1 := ⟨kw_188, kw_10, kw_187, by decide +kernel⟩
theorem viX3_blockAt : ax_VI yX3_blockAt := ⟨kw_189, kw_190⟩
theorem vlX3_99 : ax_VL RX3 99 yX3_setPiece cX3_setPiece 6 (none) 2 := ⟨kw_194, kw_10, kw_193, by decide +kernel⟩
theorem viX3_setPiece : ax_VI yX3_setPiece := ⟨kw_195, kw_196⟩
theorem frX3_103_5 : ax_FR RX3 103 5 9 2 := ⟨RX1, TX1, 11, rfl, by decide, by decide, by decide, iwX1, kw_197⟩
theorem vlX3_106 : ax_VL RX3 106 yX3_pieceAt cX3_pieceAt 3 (some (.int)) 1 := ⟨kw_199, kw_10, kw_198, by decide +kernel⟩
theorem viX3_pieceAt : ax_VI yX3_pieceAt := ⟨kw_200, kw_201⟩
theorem flX0_11_4 : ax_FL RX0 11 4 0 2 (.array (.object "ChaseLocker$State")) true := ⟨RX0, TX0, 3, tyX0, rfl, by decide, by decide, by decide, by decide, iwX0, kw_204, tyX0_ok, nmX0, rfl, (fun h => rfl), rfl⟩
theorem frX0_11_4 : ax_FR RX0 11 4 0 2 := ⟨RX0, TX0, 3, rfl, by decide, by decide, by decide, iwX0, kw_204⟩
theorem flX5_11_9 : ax_FL RX5 11 9 0 2 (.array (.object "ChaseLocker$Row")) true := ⟨RX5, TX5, 8, tyX5, rfl, by decide, by decide, by decide, by decide, iwX5, kw_207, tyX5_ok, nmX5, rfl, (fun h => rfl), rfl⟩
theorem flX5_17_9 : ax_FL RX5 17 9 1 2 (.array .int) true := ⟨RX5, TX5, 8, tyX5, rfl, by decide, by decide, by decide, by decide, iwX5, kw_208, tyX5_ok, nmX5, rfl, (fun h => rfl), rfl⟩
theorem frX5_11_9 : ax_FR RX5 11 9 0 2 := ⟨RX5, TX5, 8, rfl, by decide, by decide, by decide, iwX5, kw_207⟩
theorem nlX5_21 : ax_NL RX5 21 yX3_init "ChaseLocker" cX3_init 1 0 := ⟨by unfold ax_nests; simp, kw_10, kw_209, by decide +kernel⟩
theorem vlX0_17 : ax_VL RX0 17 yX5_init cX5_init 2 (none) 0 := ⟨kw_213, kw_14, kw_211, by decide +kernel⟩
theorem flX0_18_4 : ax_FL RX0 18 4 2 0 (.int) false := ⟨RX0, TX0, 3, tyX0, rfl, by decide, by decide, by decide, by decide, iwX0, kw_214, tyX0_ok, nmX0, rfl, (fun h => by cases h), rfl⟩
theorem frX0_22_4 : ax_FR RX0 22 4 1 0 := ⟨RX0, TX0, 3, rfl, by decide, by decide, by decide, iwX0, kw_215⟩
theorem frX5_17_9 : ax_FR RX5 17 9 1 2 := ⟨RX5, TX5, 8, rfl, by decide, by decide, by decide, iwX5, kw_208⟩
theorem clX5_48 : ax_CL RX5 48 := ⟨kw_216, kw_77, kw_78, kw_79⟩
theorem frX5_25_9 : ax_FR RX5 25 9 2 0 := ⟨RX5, TX5, 8, rfl, by decide, by decide, by decide, iwX5, kw_217⟩
theorem flX5_25_9 : ax_FL RX5 25 9 2 0 (.int) false := ⟨RX5, TX5, 8, tyX5, rfl, by decide, by decide, by decide, by decide, iwX5, kw_217, tyX5_ok, nmX5, rfl, (fun h => by cases h), rfl⟩
theorem frX5_29_9 : ax_FR RX5 29 9 3 0 := ⟨RX5, TX5, 8, rfl, by decide, by decide, by decide, iwX5, kw_218⟩
theorem flX5_29_9 : ax_FL RX5 29 9 3 0 (.int) false := ⟨RX5, TX5, 8, tyX5, rfl, by decide, by decide, by decide, by decide, iwX5, kw_218, tyX5_ok, nmX5, rfl, (fun h => by cases h), rfl⟩
theorem frX5_32_9 : ax_FR RX5 32 9 4 0 := ⟨RX5, TX5, 8, rfl, by decide, by decide, by decide, iwX5, kw_219⟩
theorem flX5_32_9 : ax_FL RX5 32 9 4 0 (.int) false := ⟨RX5, TX5, 8, tyX5, rfl, by decide, by decide, by decide, by decide, iwX5, kw_219, tyX5_ok, nmX5, rfl, (fun h => by cases h), rfl⟩
theorem frX5_35_9 : ax_FR RX5 35 9 5 0 := ⟨RX5, TX5, 8, rfl, by decide, by decide, by decide, iwX5, kw_220⟩
theorem flX5_35_9 : ax_FL RX5 35 9 5 0 (.int) false := ⟨RX5, TX5, 8, tyX5, rfl, by decide, by decide, by decide, by decide, iwX5, kw_220, tyX5_ok, nmX5, rfl, (fun h => by cases h), rfl⟩
theorem frX5_38_9 : ax_FR RX5 38 9 6 0 := ⟨RX5, TX5, 8, rfl, by decide, by decide, by decide, iwX5, kw_221⟩
theorem flX5_38_9 : ax_FL RX5 38 9 6 0 (.int) false := ⟨RX5, TX5, 8, tyX5, rfl, by decide, by decide, by decide, by decide, iwX5, kw_221, tyX5_ok, nmX5, rfl, (fun h => by cases h), rfl⟩
theorem frX5_41_9 : ax_FR RX5 41 9 7 0 := ⟨RX5, TX5, 8, rfl, by decide, by decide, by decide, iwX5, kw_222⟩
theorem flX5_41_9 : ax_FL RX5 41 9 7 0 (.int) false := ⟨RX5, TX5, 8, tyX5, rfl, by decide, by decide, by decide, by decide, iwX5, kw_222, tyX5_ok, nmX5, rfl, (fun h => by cases h), rfl⟩
theorem vlX5_44 : ax_VL RX5 44 yX3_copyFrom cX3_copyFrom 2 (none) 1 := ⟨kw_224, kw_10, kw_223, by decide +kernel⟩
theorem viX3_copyFrom : ax_VI yX3_copyFrom := ⟨kw_225, kw_226⟩
theorem vlX0_25 : ax_VL RX0 25 yX5_copyFrom cX5_copyFrom 3 (none) 1 := ⟨kw_228, kw_14, kw_227, by decide +kernel⟩
theorem viX5_copyFrom : ax_VI yX5_copyFrom := ⟨kw_229, kw_230⟩
theorem flX0_22_4 : ax_FL RX0 22 4 1 0 (.int) false := ⟨RX0, TX0, 3, tyX0, rfl, by decide, by decide, by decide, by decide, iwX0, kw_215, tyX0_ok, nmX0, rfl, (fun h => by cases h), rfl⟩
theorem frX0_18_4 : ax_FR RX0 18 4 2 0 := ⟨RX0, TX0, 3, rfl, by decide, by decide, by decide, iwX0, kw_214⟩
theorem mlX0_29 : ax_ML RX0 29 Lib.Math.min.name Lib.Math.min.code := ⟨kw_231, kw_74, kw_61, kw_75⟩
theorem vlX5_22 : ax_VL RX5 22 yX3_clear cX3_clear 1 (none) 0 := ⟨kw_233, kw_10, kw_232, by decide +kernel⟩
theorem viX3_clear : ax_VI yX3_clear := ⟨kw_234, kw_235⟩
theorem frX5_54_7 : ax_FR RX5 54 7 1 0 := ⟨RX3, TX3, 10, rfl, by decide, by decide, by decide, iwX3, kw_236⟩
theorem frX5_57_7 : ax_FR RX5 57 7 4 0 := ⟨RX3, TX3, 10, rfl, by decide, by decide, by decide, iwX3, kw_237⟩
theorem frX5_60_7 : ax_FR RX5 60 7 6 2 := ⟨RX3, TX3, 10, rfl, by decide, by decide, by decide, iwX3, kw_238⟩
theorem vlX5_63 : ax_VL RX5 63 yX3_isTightIn cX3_isTightIn 2 (some (.boolean)) 1 := ⟨kw_240, kw_10, kw_239, by decide +kernel⟩
theorem viX3_isTightIn : ax_VI yX3_isTightIn := ⟨kw_241, kw_242⟩
theorem vlX5_67 : ax_VL RX5 67 yX3_hasQuoin cX3_hasQuoin 1 (some (.boolean)) 0 := ⟨kw_243, kw_10, kw_170, by decide +kernel⟩
theorem flX5_71_7 : ax_FL RX5 71 7 7 0 (.int) false := ⟨RX3, TX3, 10, tyX3, rfl, by decide, by decide, by decide, by decide, iwX3, kw_244, tyX3_ok, nmX3, rfl, (fun h => by cases h), rfl⟩
theorem flX5_74_7 : ax_FL RX5 74 7 8 0 (.int) false := ⟨RX3, TX3, 10, tyX3, rfl, by decide, by decide, by decide, by decide, iwX3, kw_245, tyX3_ok, nmX3, rfl, (fun h => by cases h), rfl⟩
theorem vlX5_77 : ax_VL RX5 77 yX3_addPiece cX3_addPiece 3 (none) 2 := ⟨kw_247, kw_10, kw_246, by decide +kernel⟩
theorem viX3_addPiece : ax_VI yX3_addPiece := ⟨kw_248, kw_249⟩
theorem vlX5_81 : ax_VL RX5 81 yX3_removePiece cX3_removePiece 5 (some (.int)) 2 := ⟨kw_251, kw_10, kw_250, by decide +kernel⟩
theorem viX3_removePiece : ax_VI yX3_removePiece := ⟨kw_252, kw_253⟩
theorem frX5_85_5 : ax_FR RX5 85 5 7 0 := ⟨RX1, TX1, 11, rfl, by decide, by decide, by decide, iwX1, kw_254⟩
theorem frX5_102_8 : ax_FR RX5 102 8 7 0 := ⟨RX4, TX4, 8, rfl, by decide, by decide, by decide, iwX4, kw_255⟩
theorem flX5_107_7 : ax_FL RX5 107 7 9 0 (.int) false := ⟨RX3, TX3, 10, tyX3, rfl, by decide, by decide, by decide, by decide, iwX3, kw_256, tyX3_ok, nmX3, rfl, (fun h => by cases h), rfl⟩
theorem vlX5_103 : ax_VL RX5 103 yX5_setQuoin cX5_setQuoin 3 (none) 2 := ⟨kw_258, kw_14, kw_257, by decide +kernel⟩
theorem viX5_setQuoin : ax_VI yX5_setQuoin := ⟨kw_259, kw_260⟩
theorem frX5_90_5 : ax_FR RX5 90 5 10 2 := ⟨RX1, TX1, 11, rfl, by decide, by decide, by decide, iwX1, kw_261⟩
theorem frX5_93_8 : ax_FR RX5 93 8 4 2 := ⟨RX4, TX4, 8, rfl, by decide, by decide, by decide, iwX4, kw_262⟩
theorem vlX5_98 : ax_VL RX5 98 yX5_movePieceIn cX5_movePieceIn 4 (none) 3 := ⟨kw_264, kw_14, kw_263, by decide +kernel⟩
theorem viX5_movePieceIn : ax_VI yX5_movePieceIn := ⟨kw_265, kw_266⟩
theorem vlX5_110 : ax_VL RX5 110 yX3_dropPieces cX3_dropPieces 2 (none) 0 := ⟨kw_267, kw_10, kw_158, by decide +kernel⟩
theorem vlX5_113 : ax_VL RX5 113 yX5_removeQuoin cX5_removeQuoin 2 (none) 1 := ⟨kw_269, kw_14, kw_268, by decide +kernel⟩
theorem viX5_removeQuoin : ax_VI yX5_removeQuoin := ⟨kw_270, kw_271⟩
theorem vlX5_133 : ax_VL RX5 133 yX3_loosenessIn cX3_loosenessIn 2 (some (.int)) 1 := ⟨kw_273, kw_10, kw_272, by decide +kernel⟩
theorem viX3_loosenessIn : ax_VI yX3_loosenessIn := ⟨kw_274, kw_275⟩
theorem frX5_136_5 : ax_FR RX5 136 5 6 0 := ⟨RX1, TX1, 11, rfl, by decide, by decide, by decide, iwX1, kw_276⟩
theorem vlX5_139 : ax_VL RX5 139 yX3_dropBlocks cX3_dropBlocks 1 (none) 0 := ⟨kw_277, kw_10, kw_152, by decide +kernel⟩
theorem vlX5_142 : ax_VL RX5 142 yX5_empty cX5_empty 4 (none) 1 := ⟨kw_279, kw_14, kw_278, by decide +kernel⟩
theorem viX5_empty : ax_VI yX5_empty := ⟨kw_280, kw_281⟩
theorem vlX5_124 : ax_VL RX5 124 yX5_dropLooseRows cX5_dropLooseRows 4 (some (.int)) 1 := ⟨kw_283, kw_14, kw_282, by decide +kernel⟩
theorem viX5_dropLooseRows : ax_VI yX5_dropLooseRows := ⟨kw_284, kw_285⟩
theorem vlX5_146 : ax_VL RX5 146 yX3_isFirmIn cX3_isFirmIn 2 (some (.boolean)) 1 := ⟨kw_287, kw_10, kw_286, by decide +kernel⟩
theorem viX3_isFirmIn : ax_VI yX3_isFirmIn := ⟨kw_288, kw_289⟩
theorem vlX5_127 : ax_VL RX5 127 yX5_isFirm cX5_isFirm 3 (some (.boolean)) 1 := ⟨kw_291, kw_14, kw_290, by decide +kernel⟩
theorem viX5_isFirm : ax_VI yX5_isFirm := ⟨kw_292, kw_293⟩
theorem frX5_107_7 : ax_FR RX5 107 7 9 0 := ⟨RX3, TX3, 10, rfl, by decide, by decide, by decide, iwX3, kw_256⟩
theorem vlX5_120 : ax_VL RX5 120 yX3_growthInImpression cX3_growthInImpression 2 (some (.int)) 1 := ⟨kw_295, kw_10, kw_294, by decide +kernel⟩
theorem viX3_growthInImpression : ax_VI yX3_growthInImpression := ⟨kw_296, kw_297⟩
theorem vlX5_116 : ax_VL RX5 116 yX5_impress cX5_impress 3 (none) 1 := ⟨kw_299, kw_14, kw_298, by decide +kernel⟩
theorem viX5_impress : ax_VI yX5_impress := ⟨kw_300, kw_301⟩
theorem vlX5_130 : ax_VL RX5 130 yX3_growthInDay cX3_growthInDay 2 (some (.int)) 1 := ⟨kw_303, kw_10, kw_302, by decide +kernel⟩
theorem viX3_growthInDay : ax_VI yX3_growthInDay := ⟨kw_304, kw_305⟩
theorem flX4_11_8 : ax_FL RX4 11 8 0 2 (.array (.array .int)) true := ⟨RX4, TX4, 8, tyX4, rfl, by decide, by decide, by decide, by decide, iwX4, kw_308, tyX4_ok, nmX4, rfl, (fun h => rfl), rfl⟩
theorem flX4_16_8 : ax_FL RX4 16 8 1 2 (.array .int) true := ⟨RX4, TX4, 8, tyX4, rfl, by decide, by decide, by decide, by decide, iwX4, kw_309, tyX4_ok, nmX4, rfl, (fun h => rfl), rfl⟩
theorem flX4_20_8 : ax_FL RX4 20 8 2 2 (.array .int) true := ⟨RX4, TX4, 8, tyX4, rfl, by decide, by decide, by decide, by decide, iwX4, kw_310, tyX4_ok, nmX4, rfl, (fun h => rfl), rfl⟩
theorem flX4_23_8 : ax_FL RX4 23 8 3 2 (.array .int) true := ⟨RX4, TX4, 8, tyX4, rfl, by decide, by decide, by decide, by decide, iwX4, kw_311, tyX4_ok, nmX4, rfl, (fun h => rfl), rfl⟩
theorem flX4_26_8 : ax_FL RX4 26 8 4 2 (.array .int) true := ⟨RX4, TX4, 8, tyX4, rfl, by decide, by decide, by decide, by decide, iwX4, kw_312, tyX4_ok, nmX4, rfl, (fun h => rfl), rfl⟩
theorem frX4_29_9 : ax_FR RX4 29 9 1 2 := ⟨RX5, TX5, 8, rfl, by decide, by decide, by decide, iwX5, kw_313⟩
theorem frX4_23_8 : ax_FR RX4 23 8 3 2 := ⟨RX4, TX4, 8, rfl, by decide, by decide, by decide, iwX4, kw_311⟩
theorem clX4_34 : ax_CL RX4 34 := ⟨kw_314, kw_77, kw_78, kw_79⟩
theorem frX4_11_8 : ax_FR RX4 11 8 0 2 := ⟨RX4, TX4, 8, rfl, by decide, by decide, by decide, iwX4, kw_308⟩
theorem frX4_40_5 : ax_FR RX4 40 5 7 0 := ⟨RX1, TX1, 11, rfl, by decide, by decide, by decide, iwX1, kw_315⟩
theorem frX4_51_5 : ax_FR RX4 51 5 10 2 := ⟨RX1, TX1, 11, rfl, by decide, by decide, by decide, iwX1, kw_316⟩
theorem frX4_54_5 : ax_FR RX4 54 5 0 0 := ⟨RX1, TX1, 11, rfl, by decide, by decide, by decide, iwX1, kw_317⟩
theorem frX4_57_5 : ax_FR RX4 57 5 9 2 := ⟨RX1, TX1, 11, rfl, by decide, by decide, by decide, iwX1, kw_318⟩
theorem mlX4_64 : ax_ML RX4 64 Lib.Math.min.name Lib.Math.min.code := ⟨kw_319, kw_74, kw_61, kw_75⟩
theorem vlX4_70 : ax_VL RX4 70 yX4_addBundle cX4_addBundle 6 (none) 4 := ⟨kw_321, kw_12, kw_320, by decide +kernel⟩
theorem vlX4_60 : ax_VL RX4 60 yX4_addKind cX4_addKind 7 (none) 4 := ⟨kw_324, kw_12, kw_323, by decide +kernel⟩
theorem vlX4_47 : ax_VL RX4 47 yX4_studyFrom cX4_studyFrom 5 (none) 2 := ⟨kw_327, kw_12, kw_326, by decide +kernel⟩
theorem viX4_studyFrom : ax_VI yX4_studyFrom := ⟨kw_328, kw_329⟩
theorem flX4_73_8 : ax_FL RX4 73 8 5 0 (.int) false := ⟨RX4, TX4, 8, tyX4, rfl, by decide, by decide, by decide, by decide, iwX4, kw_331, tyX4_ok, nmX4, rfl, (fun h => by cases h), rfl⟩
theorem vlX4_90 : ax_VL RX4 90 yX4_canMake cX4_canMake 2 (some (.boolean)) 1 := ⟨kw_333, kw_12, kw_332, by decide +kernel⟩
theorem viX4_canMake : ax_VI yX4_canMake := ⟨kw_334, kw_335⟩
theorem frX4_73_8 : ax_FR RX4 73 8 5 0 := ⟨RX4, TX4, 8, rfl, by decide, by decide, by decide, iwX4, kw_331⟩
theorem flX4_94_8 : ax_FL RX4 94 8 6 0 (.int) false := ⟨RX4, TX4, 8, tyX4, rfl, by decide, by decide, by decide, by decide, iwX4, kw_336, tyX4_ok, nmX4, rfl, (fun h => by cases h), rfl⟩
theorem flX4_97_8 : ax_FL RX4 97 8 7 0 (.int) false := ⟨RX4, TX4, 8, tyX4, rfl, by decide, by decide, by decide, by decide, iwX4, kw_337, tyX4_ok, nmX4, rfl, (fun h => by cases h), rfl⟩
theorem vlX4_82 : ax_VL RX4 82 yX4_chooseIfFewer cX4_chooseIfFewer 3 (none) 2 := ⟨kw_339, kw_12, kw_338, by decide +kernel⟩
theorem viX4_chooseIfFewer : ax_VI yX4_chooseIfFewer := ⟨kw_340, kw_341⟩
theorem frX4_94_8 : ax_FR RX4 94 8 6 0 := ⟨RX4, TX4, 8, rfl, by decide, by decide, by decide, iwX4, kw_336⟩
theorem frX4_26_8 : ax_FR RX4 26 8 4 2 := ⟨RX4, TX4, 8, rfl, by decide, by decide, by decide, iwX4, kw_312⟩
theorem vlX4_100 : ax_VL RX4 100 yX4_mostAt cX4_mostAt 6 (some (.int)) 4 := ⟨kw_343, kw_12, kw_342, by decide +kernel⟩
theorem viX4_mostAt : ax_VI yX4_mostAt := ⟨kw_344, kw_345⟩
theorem vlX4_86 : ax_VL RX4 86 yX4_takeLongestFirst cX4_takeLongestFirst 5 (none) 1 := ⟨kw_347, kw_12, kw_346, by decide +kernel⟩
theorem viX4_takeLongestFirst : ax_VI yX4_takeLongestFirst := ⟨kw_348, kw_349⟩
theorem frX4_76_5 : ax_FR RX4 76 5 3 0 := ⟨RX1, TX1, 11, rfl, by decide, by decide, by decide, iwX1, kw_350⟩
theorem frX4_79_5 : ax_FR RX4 79 5 2 0 := ⟨RX1, TX1, 11, rfl, by decide, by decide, by decide, iwX1, kw_351⟩
theorem frX4_104_5 : ax_FR RX4 104 5 8 2 := ⟨RX1, TX1, 11, rfl, by decide, by decide, by decide, iwX1, kw_352⟩
theorem flX2_9_6 : ax_FL RX2 9 6 0 2 (.array .int) true := ⟨RX2, TX2, 9, tyX2, rfl, by decide, by decide, by decide, by decide, iwX2, kw_354, tyX2_ok, nmX2, rfl, (fun h => rfl), rfl⟩
theorem flX2_15_6 : ax_FL RX2 15 6 1 2 (.array .boolean) true := ⟨RX2, TX2, 9, tyX2, rfl, by decide, by decide, by decide, by decide, iwX2, kw_355, tyX2_ok, nmX2, rfl, (fun h => rfl), rfl⟩
theorem flX2_19_6 : ax_FL RX2 19 6 4 0 (.int) false := ⟨RX2, TX2, 9, tyX2, rfl, by decide, by decide, by decide, by decide, iwX2, kw_356, tyX2_ok, nmX2, rfl, (fun h => by cases h), rfl⟩
theorem frX2_23_6 : ax_FR RX2 23 6 2 0 := ⟨RX2, TX2, 9, rfl, by decide, by decide, by decide, iwX2, kw_357⟩
theorem frX2_9_6 : ax_FR RX2 9 6 0 2 := ⟨RX2, TX2, 9, rfl, by decide, by decide, by decide, iwX2, kw_354⟩
theorem flX2_23_6 : ax_FL RX2 23 6 2 0 (.int) false := ⟨RX2, TX2, 9, tyX2, rfl, by decide, by decide, by decide, by decide, iwX2, kw_357, tyX2_ok, nmX2, rfl, (fun h => by cases h), rfl⟩
theorem vlX2_26 : ax_VL RX2 26 yX2_addWord cX2_addWord 3 (none) 1 := ⟨kw_359, kw_8, kw_358, by decide +kernel⟩
theorem viX2_addWord : ax_VI yX2_addWord := ⟨kw_360, kw_361⟩
theorem mlX2_66 : ax_ML RX2 66 Lib.Math.min.name Lib.Math.min.code := ⟨kw_362, kw_74, kw_61, kw_75⟩
theorem flX2_72_6 : ax_FL RX2 72 6 5 0 (.int) false := ⟨RX2, TX2, 9, tyX2, rfl, by decide, by decide, by decide, by decide, iwX2, kw_363, tyX2_ok, nmX2, rfl, (fun h => by cases h), rfl⟩
theorem flX2_47_6 : ax_FL RX2 47 6 3 0 (.int) false := ⟨RX2, TX2, 9, tyX2, rfl, by decide, by decide, by decide, by decide, iwX2, kw_364, tyX2_ok, nmX2, rfl, (fun h => by cases h), rfl⟩
theorem flX2_75_6 : ax_FL RX2 75 6 8 0 (.int) false := ⟨RX2, TX2, 9, tyX2, rfl, by decide, by decide, by decide, by decide, iwX2, kw_365, tyX2_ok, nmX2, rfl, (fun h => by cases h), rfl⟩
theorem frX2_75_6 : ax_FR RX2 75 6 8 0 := ⟨RX2, TX2, 9, rfl, by decide, by decide, by decide, iwX2, kw_365⟩
theorem flX2_59_6 : ax_FL RX2 59 6 7 0 (.int) false := ⟨RX2, TX2, 9, tyX2, rfl, by decide, by decide, by decide, by decide, iwX2, kw_366, tyX2_ok, nmX2, rfl, (fun h => by cases h), rfl⟩
theorem frX2_59_6 : ax_FR RX2 59 6 7 0 := ⟨RX2, TX2, 9, rfl, by decide, by decide, by decide, iwX2, kw_366⟩
theorem frX2_72_6 : ax_FR RX2 72 6 5 0 := ⟨RX2, TX2, 9, rfl, by decide, by decide, by decide, iwX2, kw_363⟩
theorem vlX2_170 : ax_VL RX2 170 yX2_isBetween cX2_isBetween 4 (some (.boolean)) 3 := ⟨kw_368, kw_8, kw_367, by decide +kernel⟩
theorem viX2_isBetween : ax_VI yX2_isBetween := ⟨kw_369, kw_370⟩
theorem flX2_50_6 : ax_FL RX2 50 6 6 0 (.int) false := ⟨RX2, TX2, 9, tyX2, rfl, by decide, by decide, by decide, by decide, iwX2, kw_371, tyX2_ok, nmX2, rfl, (fun h => by cases h), rfl⟩
theorem vlX2_174 : ax_VL RX2 174 yX2_endOfRun cX2_endOfRun 4 (some (.int)) 2 := ⟨kw_373, kw_8, kw_372, by decide +kernel⟩
theorem viX2_endOfRun : ax_VI yX2_endOfRun := ⟨kw_374, kw_375⟩
theorem vlX2_53 : ax_VL RX2 53 yX2_advance cX2_advance 1 (none) 0 := ⟨kw_377, kw_8, kw_376, by decide +kernel⟩
theorem viX2_advance : ax_VI yX2_advance := ⟨kw_378, kw_379⟩
theorem frX2_15_6 : ax_FR RX2 15 6 1 2 := ⟨RX2, TX2, 9, rfl, by decide, by decide, by decide, iwX2, kw_355⟩
theorem vlX2_30 : ax_VL RX2 30 yX2_startText cX2_startText 3 (none) 1 := ⟨kw_381, kw_8, kw_380, by decide +kernel⟩
theorem viX2_startText : ax_VI yX2_startText := ⟨kw_382, kw_383⟩
theorem flX2_33_5 : ax_FL RX2 33 5 7 0 (.int) false := ⟨RX1, TX1, 11, tyX1, rfl, by decide, by decide, by decide, by decide, iwX1, kw_384, tyX1_ok, nmX1, rfl, (fun h => by cases h), rfl⟩
theorem vlX2_38 : ax_VL RX2 38 yX5_clear cX5_clear 2 (none) 0 := ⟨kw_386, kw_14, kw_385, by decide +kernel⟩
theorem viX5_clear : ax_VI yX5_clear := ⟨kw_387, kw_388⟩
theorem frX2_50_6 : ax_FR RX2 50 6 6 0 := ⟨RX2, TX2, 9, rfl, by decide, by decide, by decide, iwX2, kw_371⟩
theorem vlX2_161 : ax_VL RX2 161 yJ0_length_8abf5 cJ0_length_8abf5 1 (some (.int)) 0 := ⟨kw_390, kw_0, kw_389, by decide +kernel⟩
theorem viJ0_length_8abf5 : ax_VI yJ0_length_8abf5 := ⟨kw_391, kw_392⟩
theorem vlX2_166 : ax_VL RX2 166 yJ0_charAt_5068e cJ0_charAt_5068e 2 (some (.char)) 1 := ⟨kw_394, kw_0, kw_393, by decide +kernel⟩
theorem viJ0_charAt_5068e : ax_VI yJ0_charAt_5068e := ⟨kw_395, kw_396⟩
theorem vlX2_116 : ax_VL RX2 116 yX2_isWord cX2_isWord 3 (some (.boolean)) 1 := ⟨kw_398, kw_8, kw_397, by decide +kernel⟩
theorem viX2_isWord : ax_VI yX2_isWord := ⟨kw_399, kw_400⟩
theorem frX2_47_6 : ax_FR RX2 47 6 3 0 := ⟨RX2, TX2, 9, rfl, by decide, by decide, by decide, iwX2, kw_364⟩
theorem vlX2_62 : ax_VL RX2 62 yX2_fail cX2_fail 3 (none) 2 := ⟨kw_402, kw_8, kw_401, by decide +kernel⟩
theorem viX2_fail : ax_VI yX2_fail := ⟨kw_403, kw_404⟩
theorem vlX2_80 : ax_VL RX2 80 yX2_takeWord cX2_takeWord 2 (none) 1 := ⟨kw_406, kw_8, kw_405, by decide +kernel⟩
theorem viX2_takeWord : ax_VI yX2_takeWord := ⟨kw_407, kw_408⟩
theorem vlX2_157 : ax_VL RX2 157 yX2_numberHere cX2_numberHere 3 (some (.int)) 0 := ⟨kw_410, kw_8, kw_409, by decide +kernel⟩
theorem viX2_numberHere : ax_VI yX2_numberHere := ⟨kw_411, kw_412⟩
theorem vlX2_84 : ax_VL RX2 84 yX2_takeNumber cX2_takeNumber 4 (some (.int)) 2 := ⟨kw_414, kw_8, kw_413, by decide +kernel⟩
theorem viX2_takeNumber : ax_VI yX2_takeNumber := ⟨kw_415, kw_416⟩
theorem flX2_87_5 : ax_FL RX2 87 5 0 0 (.int) false := ⟨RX1, TX1, 11, tyX1, rfl, by decide, by decide, by decide, by decide, iwX1, kw_417, tyX1_ok, nmX1, rfl, (fun h => by cases h), rfl⟩
theorem flX2_88_5 : ax_FL RX2 88 5 1 0 (.int) false := ⟨RX1, TX1, 11, tyX1, rfl, by decide, by decide, by decide, by decide, iwX1, kw_418, tyX1_ok, nmX1, rfl, (fun h => by cases h), rfl⟩
theorem flX2_91_5 : ax_FL RX2 91 5 2 0 (.int) false := ⟨RX1, TX1, 11, tyX1, rfl, by decide, by decide, by decide, by decide, iwX1, kw_419, tyX1_ok, nmX1, rfl, (fun h => by cases h), rfl⟩
theorem flX2_94_5 : ax_FL RX2 94 5 3 0 (.int) false := ⟨RX1, TX1, 11, tyX1, rfl, by decide, by decide, by decide, by decide, iwX1, kw_420, tyX1_ok, nmX1, rfl, (fun h => by cases h), rfl⟩
theorem flX2_97_9 : ax_FL RX2 97 9 2 0 (.int) false := ⟨RX5, TX5, 8, tyX5, rfl, by decide, by decide, by decide, by decide, iwX5, kw_421, tyX5_ok, nmX5, rfl, (fun h => by cases h), rfl⟩
theorem vlX2_100 : ax_VL RX2 100 yX2_takeSemicolon cX2_takeSemicolon 1 (none) 0 := ⟨kw_423, kw_8, kw_422, by decide +kernel⟩
theorem viX2_takeSemicolon : ax_VI yX2_takeSemicolon := ⟨kw_424, kw_425⟩
theorem flX2_105_5 : ax_FL RX2 105 5 4 0 (.int) false := ⟨RX1, TX1, 11, tyX1, rfl, by decide, by decide, by decide, by decide, iwX1, kw_426, tyX1_ok, nmX1, rfl, (fun h => by cases h), rfl⟩
theorem flX2_108_5 : ax_FL RX2 108 5 5 0 (.int) false := ⟨RX1, TX1, 11, tyX1, rfl, by decide, by decide, by decide, by decide, iwX1, kw_427, tyX1_ok, nmX1, rfl, (fun h => by cases h), rfl⟩
theorem flX2_111_5 : ax_FL RX2 111 5 6 0 (.int) false := ⟨RX1, TX1, 11, tyX1, rfl, by decide, by decide, by decide, by decide, iwX1, kw_428, tyX1_ok, nmX1, rfl, (fun h => by cases h), rfl⟩
theorem vlX2_43 : ax_VL RX2 43 yX2_readHead cX2_readHead 3 (none) 2 := ⟨kw_430, kw_8, kw_429, by decide +kernel⟩
theorem viX2_readHead : ax_VI yX2_readHead := ⟨kw_431, kw_432⟩
theorem frX2_88_5 : ax_FR RX2 88 5 1 0 := ⟨RX1, TX1, 11, rfl, by decide, by decide, by decide, iwX1, kw_418⟩
theorem frX2_142_9 : ax_FR RX2 142 9 0 2 := ⟨RX5, TX5, 8, rfl, by decide, by decide, by decide, iwX5, kw_433⟩
theorem frX2_145_7 : ax_FR RX2 145 7 1 0 := ⟨RX3, TX3, 10, rfl, by decide, by decide, by decide, iwX3, kw_434⟩
theorem vlX2_150 : ax_VL RX2 150 yX3_gapIn cX3_gapIn 2 (some (.int)) 1 := ⟨kw_435, kw_10, kw_175, by decide +kernel⟩
theorem vlX2_154 : ax_VL RX2 154 yX3_addBlock cX3_addBlock 2 (none) 1 := ⟨kw_437, kw_10, kw_436, by decide +kernel⟩
theorem viX3_addBlock : ax_VI yX3_addBlock := ⟨kw_438, kw_439⟩
theorem vlX2_128 : ax_VL RX2 128 yX2_readRow cX2_readRow 8 (none) 2 := ⟨kw_441, kw_8, kw_440, by decide +kernel⟩
theorem viX2_readRow : ax_VI yX2_readRow := ⟨kw_442, kw_443⟩
theorem frX2_33_5 : ax_FR RX2 33 5 7 0 := ⟨RX1, TX1, 11, rfl, by decide, by decide, by decide, iwX1, kw_384⟩
theorem vlX2_131 : ax_VL RX2 131 yX1_find cX1_find 4 (some (.int)) 2 := ⟨kw_445, kw_6, kw_444, by decide +kernel⟩
theorem viX1_find : ax_VI yX1_find := ⟨kw_446, kw_447⟩
theorem frX2_135_9 : ax_FR RX2 135 9 1 2 := ⟨RX5, TX5, 8, rfl, by decide, by decide, by decide, iwX5, kw_448⟩
theorem vlX2_138 : ax_VL RX2 138 yX1_addKind cX1_addKind 4 (none) 2 := ⟨kw_450, kw_6, kw_449, by decide +kernel⟩
theorem viX1_addKind : ax_VI yX1_addKind := ⟨kw_451, kw_452⟩
theorem vlX2_120 : ax_VL RX2 120 yX2_readKind cX2_readKind 7 (none) 3 := ⟨kw_454, kw_8, kw_453, by decide +kernel⟩
theorem viX2_readKind : ax_VI yX2_readKind := ⟨kw_455, kw_456⟩
theorem vlX2_56 : ax_VL RX2 56 yX2_readLine cX2_readLine 3 (none) 2 := ⟨kw_458, kw_8, kw_457, by decide +kernel⟩
theorem viX2_readLine : ax_VI yX2_readLine := ⟨kw_459, kw_460⟩
theorem nlX6_9 : ax_NL RX6 9 yX2_init "ChaseLocker" cX2_init 1 0 := ⟨by unfold ax_nests; simp, kw_8, kw_463, by decide +kernel⟩
theorem flX6_10_10 : ax_FL RX6 10 10 0 2 (.object "ChaseLocker$Reader") true := ⟨RX6, TX6, 11, tyX6, rfl, by decide, by decide, by decide, by decide, iwX6, kw_465, tyX6_ok, nmX6, rfl, (fun h => rfl), rfl⟩
theorem nlX6_18 : ax_NL RX6 18 yX4_init "ChaseLocker" cX4_init 1 0 := ⟨by unfold ax_nests; simp, kw_12, kw_467, by decide +kernel⟩
theorem flX6_19_10 : ax_FL RX6 19 10 1 2 (.object "ChaseLocker$Solver") true := ⟨RX6, TX6, 11, tyX6, rfl, by decide, by decide, by decide, by decide, iwX6, kw_469, tyX6_ok, nmX6, rfl, (fun h => rfl), rfl⟩
theorem vlX6_25 : ax_VL RX6 25 yX0_init cX0_init 2 (none) 0 := ⟨kw_473, kw_4, kw_471, by decide +kernel⟩
theorem flX6_26_10 : ax_FL RX6 26 10 2 2 (.object "ChaseLocker$History") true := ⟨RX6, TX6, 11, tyX6, rfl, by decide, by decide, by decide, by decide, iwX6, kw_474, tyX6_ok, nmX6, rfl, (fun h => rfl), rfl⟩
theorem vlX6_32 : ax_VL RX6 32 yX5_init cX5_init 2 (none) 0 := ⟨kw_476, kw_14, kw_211, by decide +kernel⟩
theorem flX6_33_10 : ax_FL RX6 33 10 3 2 (.object "ChaseLocker$State") true := ⟨RX6, TX6, 11, tyX6, rfl, by decide, by decide, by decide, by decide, iwX6, kw_477, tyX6_ok, nmX6, rfl, (fun h => rfl), rfl⟩
theorem flX6_37_10 : ax_FL RX6 37 10 4 2 (.object "ChaseLocker$State") true := ⟨RX6, TX6, 11, tyX6, rfl, by decide, by decide, by decide, by decide, iwX6, kw_478, tyX6_ok, nmX6, rfl, (fun h => rfl), rfl⟩
theorem flX6_40_10 : ax_FL RX6 40 10 5 2 (.array (.object "ChaseLocker$State")) true := ⟨RX6, TX6, 11, tyX6, rfl, by decide, by decide, by decide, by decide, iwX6, kw_479, tyX6_ok, nmX6, rfl, (fun h => rfl), rfl⟩
theorem flX6_44_10 : ax_FL RX6 44 10 6 2 (.array .boolean) true := ⟨RX6, TX6, 11, tyX6, rfl, by decide, by decide, by decide, by decide, iwX6, kw_480, tyX6_ok, nmX6, rfl, (fun h => rfl), rfl⟩
theorem vlX6_50 : ax_VL RX6 50 yJ4_init_da8c8 cJ4_init_da8c8 1 (none) 0 := ⟨kw_484, kw_2, kw_482, by decide +kernel⟩
theorem flX6_51_10 : ax_FL RX6 51 10 7 2 (.object "java/lang/StringBuilder") true := ⟨RX6, TX6, 11, tyX6, rfl, by decide, by decide, by decide, by decide, iwX6, kw_485, tyX6_ok, nmX6, rfl, (fun h => rfl), rfl⟩
theorem nlX6_57 : ax_NL RX6 57 yX1_init "ChaseLocker" cX1_init 1 0 := ⟨by unfold ax_nests; simp, kw_6, kw_487, by decide +kernel⟩
theorem flX6_58_10 : ax_FL RX6 58 10 8 2 (.object "ChaseLocker$Plan") false := ⟨RX6, TX6, 11, tyX6, rfl, by decide, by decide, by decide, by decide, iwX6, kw_489, tyX6_ok, nmX6, rfl, (fun h => by cases h), rfl⟩
theorem flX6_62_10 : ax_FL RX6 62 10 9 2 (.object "ChaseLocker$Plan") false := ⟨RX6, TX6, 11, tyX6, rfl, by decide, by decide, by decide, by decide, iwX6, kw_490, tyX6_ok, nmX6, rfl, (fun h => by cases h), rfl⟩
theorem frX6_40_10 : ax_FR RX6 40 10 5 2 := ⟨RX6, TX6, 11, rfl, by decide, by decide, by decide, iwX6, kw_479⟩
theorem frX6_10_10 : ax_FR RX6 10 10 0 2 := ⟨RX6, TX6, 11, rfl, by decide, by decide, by decide, iwX6, kw_465⟩
theorem vlX6_65 : ax_VL RX6 65 yX2_addBytes cX2_addBytes 6 (some (.boolean)) 5 := ⟨kw_492, kw_8, kw_491, by decide +kernel⟩
theorem viX2_addBytes : ax_VI yX2_addBytes := ⟨kw_493, kw_494⟩
theorem frX6_69_6 : ax_FR RX6 69 6 2 0 := ⟨RX2, TX2, 9, rfl, by decide, by decide, by decide, iwX2, kw_495⟩
theorem tlX6_73_77 : ax_TL RX6 73 77 "java/lang/IndexOutOfBoundsException" := ax_TL.of (by decide +kernel) kw_496 kw_497 (by decide +kernel) (by decide +kernel)
theorem frX6_62_10 : ax_FR RX6 62 10 9 2 := ⟨RX6, TX6, 11, rfl, by decide, by decide, by decide, iwX6, kw_490⟩
theorem frX6_37_10 : ax_FR RX6 37 10 4 2 := ⟨RX6, TX6, 11, rfl, by decide, by decide, by decide, iwX6, kw_478⟩
theorem vlX6_80 : ax_VL RX6 80 yX2_readText cX2_readText 5 (some (.boolean)) 3 := ⟨kw_499, kw_8, kw_498, by decide +kernel⟩
theorem viX2_readText : ax_VI yX2_readText := ⟨kw_500, kw_501⟩
theorem frX6_58_10 : ax_FR RX6 58 10 8 2 := ⟨RX6, TX6, 11, rfl, by decide, by decide, by decide, iwX6, kw_489⟩
theorem frX6_33_10 : ax_FR RX6 33 10 3 2 := ⟨RX6, TX6, 11, rfl, by decide, by decide, by decide, iwX6, kw_477⟩
theorem vlX6_95 : ax_VL RX6 95 yX5_copyFrom cX5_copyFrom 3 (none) 1 := ⟨kw_502, kw_14, kw_227, by decide +kernel⟩
theorem frX6_26_10 : ax_FR RX6 26 10 2 2 := ⟨RX6, TX6, 11, rfl, by decide, by decide, by decide, iwX6, kw_474⟩
theorem vlX6_99 : ax_VL RX6 99 yX0_clear cX0_clear 1 (none) 0 := ⟨kw_504, kw_4, kw_503, by decide +kernel⟩
theorem viX0_clear : ax_VI yX0_clear := ⟨kw_505, kw_506⟩
theorem flX6_102_10 : ax_FL RX6 102 10 10 0 (.boolean) false := ⟨RX6, TX6, 11, tyX6, rfl, by decide, by decide, by decide, by decide, iwX6, kw_507, tyX6_ok, nmX6, rfl, (fun h => by cases h), rfl⟩
theorem frX6_44_10 : ax_FR RX6 44 10 6 2 := ⟨RX6, TX6, 11, rfl, by decide, by decide, by decide, iwX6, kw_480⟩
theorem vlX6_89 : ax_VL RX6 89 yX6_takeOverText cX6_takeOverText 3 (none) 0 := ⟨kw_509, kw_16, kw_508, by decide +kernel⟩
theorem viX6_takeOverText : ax_VI yX6_takeOverText := ⟨kw_510, kw_511⟩
theorem frX6_92_5 : ax_FR RX6 92 5 7 0 := ⟨RX1, TX1, 11, rfl, by decide, by decide, by decide, iwX1, kw_512⟩
theorem tlX6_84_88 : ax_TL RX6 84 88 "java/lang/IllegalArgumentException" := ax_TL.of (by decide +kernel) kw_513 kw_514 (by decide +kernel) (by decide +kernel)
theorem frX6_106_6 : ax_FR RX6 106 6 3 0 := ⟨RX2, TX2, 9, rfl, by decide, by decide, by decide, iwX2, kw_515⟩
theorem frX6_109_6 : ax_FR RX6 109 6 4 0 := ⟨RX2, TX2, 9, rfl, by decide, by decide, by decide, iwX2, kw_516⟩
theorem frX6_102_10 : ax_FR RX6 102 10 10 0 := ⟨RX6, TX6, 11, rfl, by decide, by decide, by decide, iwX6, kw_507⟩
theorem tlX6_428_432 : ax_TL RX6 428 432 "java/lang/IllegalStateException" := ax_TL.of (by decide +kernel) kw_517 kw_518 (by decide +kernel) (by decide +kernel)
theorem vlX6_112 : ax_VL RX6 112 yX6_needChase cX6_needChase 1 (none) 0 := ⟨kw_520, kw_16, kw_519, by decide +kernel⟩
theorem viX6_needChase : ax_VI yX6_needChase := ⟨kw_521, kw_522⟩
theorem frX6_115_5 : ax_FR RX6 115 5 1 0 := ⟨RX1, TX1, 11, rfl, by decide, by decide, by decide, iwX1, kw_523⟩
theorem frX6_118_9 : ax_FR RX6 118 9 2 0 := ⟨RX5, TX5, 8, rfl, by decide, by decide, by decide, iwX5, kw_524⟩
theorem vlX6_121 : ax_VL RX6 121 yX5_blocksInRows cX5_blocksInRows 3 (some (.int)) 0 := ⟨kw_526, kw_14, kw_525, by decide +kernel⟩
theorem viX5_blocksInRows : ax_VI yX5_blocksInRows := ⟨kw_527, kw_528⟩
theorem vlX6_125 : ax_VL RX6 125 yX5_piecesInRows cX5_piecesInRows 3 (some (.int)) 0 := ⟨kw_530, kw_14, kw_529, by decide +kernel⟩
theorem viX5_piecesInRows : ax_VI yX5_piecesInRows := ⟨kw_531, kw_532⟩
theorem vlX6_128 : ax_VL RX6 128 yX5_tightRows cX5_tightRows 4 (some (.int)) 1 := ⟨kw_534, kw_14, kw_533, by decide +kernel⟩
theorem viX5_tightRows : ax_VI yX5_tightRows := ⟨kw_535, kw_536⟩
theorem frX6_132_9 : ax_FR RX6 132 9 3 0 := ⟨RX5, TX5, 8, rfl, by decide, by decide, by decide, iwX5, kw_537⟩
theorem frX6_135_9 : ax_FR RX6 135 9 4 0 := ⟨RX5, TX5, 8, rfl, by decide, by decide, by decide, iwX5, kw_538⟩
theorem frX6_138_9 : ax_FR RX6 138 9 5 0 := ⟨RX5, TX5, 8, rfl, by decide, by decide, by decide, iwX5, kw_539⟩
theorem frX6_141_9 : ax_FR RX6 141 9 6 0 := ⟨RX5, TX5, 8, rfl, by decide, by decide, by decide, iwX5, kw_540⟩
theorem frX6_144_9 : ax_FR RX6 144 9 7 0 := ⟨RX5, TX5, 8, rfl, by decide, by decide, by decide, iwX5, kw_541⟩
theorem vlX6_147 : ax_VL RX6 147 yX5_piecesLeft cX5_piecesLeft 3 (some (.int)) 0 := ⟨kw_543, kw_14, kw_542, by decide +kernel⟩
theorem viX5_piecesLeft : ax_VI yX5_piecesLeft := ⟨kw_544, kw_545⟩
theorem frX6_152_5 : ax_FR RX6 152 5 0 0 := ⟨RX1, TX1, 11, rfl, by decide, by decide, by decide, iwX1, kw_546⟩
theorem frX6_155_5 : ax_FR RX6 155 5 2 0 := ⟨RX1, TX1, 11, rfl, by decide, by decide, by decide, iwX1, kw_547⟩
theorem frX6_158_5 : ax_FR RX6 158 5 3 0 := ⟨RX1, TX1, 11, rfl, by decide, by decide, by decide, iwX1, kw_548⟩
theorem frX6_161_5 : ax_FR RX6 161 5 4 0 := ⟨RX1, TX1, 11, rfl, by decide, by decide, by decide, iwX1, kw_549⟩
theorem frX6_164_5 : ax_FR RX6 164 5 5 0 := ⟨RX1, TX1, 11, rfl, by decide, by decide, by decide, iwX1, kw_550⟩
theorem frX6_167_5 : ax_FR RX6 167 5 6 0 := ⟨RX1, TX1, 11, rfl, by decide, by decide, by decide, iwX1, kw_551⟩
theorem frX6_246_9 : ax_FR RX6 246 9 0 2 := ⟨RX5, TX5, 8, rfl, by decide, by decide, by decide, iwX5, kw_552⟩
theorem vlX6_172 : ax_VL RX6 172 yX6_needRow cX6_needRow 2 (some (.object "ChaseLocker$Row")) 1 := ⟨kw_554, kw_16, kw_553, by decide +kernel⟩
theorem viX6_needRow : ax_VI yX6_needRow := ⟨kw_555, kw_556⟩
theorem frX6_176_7 : ax_FR RX6 176 7 1 0 := ⟨RX3, TX3, 10, rfl, by decide, by decide, by decide, iwX3, kw_557⟩
theorem frX6_181_7 : ax_FR RX6 181 7 4 0 := ⟨RX3, TX3, 10, rfl, by decide, by decide, by decide, iwX3, kw_558⟩
theorem vlX6_184 : ax_VL RX6 184 yX3_gapIn cX3_gapIn 2 (some (.int)) 1 := ⟨kw_559, kw_10, kw_175, by decide +kernel⟩
theorem frX6_187_7 : ax_FR RX6 187 7 7 0 := ⟨RX3, TX3, 10, rfl, by decide, by decide, by decide, iwX3, kw_560⟩
theorem frX6_190_7 : ax_FR RX6 190 7 9 0 := ⟨RX3, TX3, 10, rfl, by decide, by decide, by decide, iwX3, kw_561⟩
theorem vlX6_193 : ax_VL RX6 193 yX3_woodIn cX3_woodIn 4 (some (.int)) 1 := ⟨kw_562, kw_10, kw_183, by decide +kernel⟩
theorem frX6_196_7 : ax_FR RX6 196 7 2 0 := ⟨RX3, TX3, 10, rfl, by decide, by decide, by decide, iwX3, kw_563⟩
theorem vlX6_199 : ax_VL RX6 199 yX3_hasQuoin cX3_hasQuoin 1 (some (.boolean)) 0 := ⟨kw_564, kw_10, kw_170, by decide +kernel⟩
theorem frX6_203_7 : ax_FR RX6 203 7 8 0 := ⟨RX3, TX3, 10, rfl, by decide, by decide, by decide, iwX3, kw_565⟩
theorem vlX6_208 : ax_VL RX6 208 yX6_needIndex cX6_needIndex 2 (none) 2 := ⟨kw_567, kw_16, kw_566, by decide +kernel⟩
theorem vlX6_212 : ax_VL RX6 212 yX3_blockAt cX3_blockAt 2 (some (.int)) 1 := ⟨kw_569, kw_10, kw_187, by decide +kernel⟩
theorem vlX6_216 : ax_VL RX6 216 yX3_pieceAt cX3_pieceAt 3 (some (.int)) 1 := ⟨kw_570, kw_10, kw_198, by decide +kernel⟩
theorem vlX6_219 : ax_VL RX6 219 yX6_needKind cX6_needKind 2 (none) 1 := ⟨kw_572, kw_16, kw_571, by decide +kernel⟩
theorem viX6_needKind : ax_VI yX6_needKind := ⟨kw_573, kw_574⟩
theorem frX6_223_5 : ax_FR RX6 223 5 8 2 := ⟨RX1, TX1, 11, rfl, by decide, by decide, by decide, iwX1, kw_575⟩
theorem frX6_226_5 : ax_FR RX6 226 5 9 2 := ⟨RX1, TX1, 11, rfl, by decide, by decide, by decide, iwX1, kw_576⟩
theorem frX6_230_9 : ax_FR RX6 230 9 1 2 := ⟨RX5, TX5, 8, rfl, by decide, by decide, by decide, iwX5, kw_577⟩
theorem vlX6_233 : ax_VL RX6 233 yX5_inRows cX5_inRows 4 (some (.int)) 1 := ⟨kw_579, kw_14, kw_578, by decide +kernel⟩
theorem viX5_inRows : ax_VI yX5_inRows := ⟨kw_580, kw_581⟩
theorem vlX6_238 : ax_VL RX6 238 yX1_find cX1_find 4 (some (.int)) 2 := ⟨kw_582, kw_6, kw_444, by decide +kernel⟩
theorem vlX6_242 : ax_VL RX6 242 yX3_isTightIn cX3_isTightIn 2 (some (.boolean)) 1 := ⟨kw_583, kw_10, kw_239, by decide +kernel⟩
theorem vlX6_249 : ax_VL RX6 249 yX3_loosenessIn cX3_loosenessIn 2 (some (.int)) 1 := ⟨kw_584, kw_10, kw_272, by decide +kernel⟩
theorem frX6_252_5 : ax_FR RX6 252 5 10 2 := ⟨RX1, TX1, 11, rfl, by decide, by decide, by decide, iwX1, kw_585⟩
theorem vlX6_255 : ax_VL RX6 255 yX6_share cX6_share 2 (some (.float)) 2 := ⟨kw_587, kw_16, kw_586, by decide +kernel⟩
theorem frX6_19_10 : ax_FR RX6 19 10 1 2 := ⟨RX6, TX6, 11, rfl, by decide, by decide, by decide, iwX6, kw_469⟩
theorem vlX6_278 : ax_VL RX6 278 yX4_stockFrom cX4_stockFrom 2 (none) 1 := ⟨kw_590, kw_12, kw_589, by decide +kernel⟩
theorem viX4_stockFrom : ax_VI yX4_stockFrom := ⟨kw_591, kw_592⟩
theorem vlX6_292 : ax_VL RX6 292 yX4_study cX4_study 4 (none) 1 := ⟨kw_594, kw_12, kw_593, by decide +kernel⟩
theorem viX4_study : ax_VI yX4_study := ⟨kw_595, kw_596⟩
theorem vlX6_281 : ax_VL RX6 281 yX3_roomIn cX3_roomIn 2 (some (.int)) 1 := ⟨kw_597, kw_10, kw_166, by decide +kernel⟩
theorem vlX6_284 : ax_VL RX6 284 yX5_canHaveQuoin cX5_canHaveQuoin 2 (some (.boolean)) 1 := ⟨kw_599, kw_14, kw_598, by decide +kernel⟩
theorem viX5_canHaveQuoin : ax_VI yX5_canHaveQuoin := ⟨kw_600, kw_601⟩
theorem vlX6_318 : ax_VL RX6 318 yX4_choose cX4_choose 5 (some (.boolean)) 3 := ⟨kw_603, kw_12, kw_602, by decide +kernel⟩
theorem viX4_choose : ax_VI yX4_choose := ⟨kw_604, kw_605⟩
theorem vlX6_261 : ax_VL RX6 261 yX6_solve cX6_solve 3 (some (.boolean)) 2 := ⟨kw_607, kw_16, kw_606, by decide +kernel⟩
theorem viX6_solve : ax_VI yX6_solve := ⟨kw_608, kw_609⟩
theorem frX6_265_8 : ax_FR RX6 265 8 5 0 := ⟨RX4, TX4, 8, rfl, by decide, by decide, by decide, iwX4, kw_610⟩
theorem frX6_268_8 : ax_FR RX6 268 8 7 0 := ⟨RX4, TX4, 8, rfl, by decide, by decide, by decide, iwX4, kw_611⟩
theorem frX6_269_8 : ax_FR RX6 269 8 6 0 := ⟨RX4, TX4, 8, rfl, by decide, by decide, by decide, iwX4, kw_612⟩
theorem vlX6_272 : ax_VL RX6 272 yX4_woodTaken cX4_woodTaken 4 (some (.int)) 1 := ⟨kw_614, kw_12, kw_613, by decide +kernel⟩
theorem viX4_woodTaken : ax_VI yX4_woodTaken := ⟨kw_615, kw_616⟩
theorem vlX6_306 : ax_VL RX6 306 yX6_needBlockLength cX6_needBlockLength 1 (none) 1 := ⟨kw_618, kw_16, kw_617, by decide +kernel⟩
theorem vlX6_314 : ax_VL RX6 314 yX3_takesBlock cX3_takesBlock 3 (some (.boolean)) 2 := ⟨kw_621, kw_10, kw_620, by decide +kernel⟩
theorem viX3_takesBlock : ax_VI yX3_takesBlock := ⟨kw_622, kw_623⟩
theorem vlX6_309 : ax_VL RX6 309 yX6_fewestWith cX6_fewestWith 4 (some (.int)) 2 := ⟨kw_625, kw_16, kw_624, by decide +kernel⟩
theorem viX6_fewestWith : ax_VI yX6_fewestWith := ⟨kw_626, kw_627⟩
theorem vlX6_325 : ax_VL RX6 325 yX6_takesPiece cX6_takesPiece 3 (some (.boolean)) 2 := ⟨kw_630, kw_16, kw_629, by decide +kernel⟩
theorem viX6_takesPiece : ax_VI yX6_takesPiece := ⟨kw_631, kw_632⟩
theorem vlX6_296 : ax_VL RX6 296 yX4_canMake cX4_canMake 2 (some (.boolean)) 1 := ⟨kw_633, kw_12, kw_332, by decide +kernel⟩
theorem vlX6_342 : ax_VL RX6 342 yX5_impressOften cX5_impressOften 5 (some (.int)) 2 := ⟨kw_635, kw_14, kw_634, by decide +kernel⟩
theorem viX5_impressOften : ax_VI yX5_impressOften := ⟨kw_636, kw_637⟩
theorem frX6_51_10 : ax_FR RX6 51 10 7 2 := ⟨RX6, TX6, 11, rfl, by decide, by decide, by decide, iwX6, kw_485⟩
theorem vlX6_350 : ax_VL RX6 350 yJ4_setLength_d00df cJ4_setLength_d00df 2 (none) 1 := ⟨kw_639, kw_2, kw_638, by decide +kernel⟩
theorem viJ4_setLength_d00df : ax_VI yJ4_setLength_d00df := ⟨kw_640, kw_641⟩
theorem vlX6_369 : ax_VL RX6 369 yJ4_length_8abf5 cJ4_length_8abf5 1 (some (.int)) 0 := ⟨kw_643, kw_2, kw_642, by decide +kernel⟩
theorem viJ4_length_8abf5 : ax_VI yJ4_length_8abf5 := ⟨kw_644, kw_645⟩
theorem vlX6_356 : ax_VL RX6 356 yJ4_append_cf468 cJ4_append_cf468 2 (some (.object "java/lang/StringBuilder")) 1 := ⟨kw_647, kw_2, kw_646, by decide +kernel⟩
theorem viJ4_append_cf468 : ax_VI yJ4_append_cf468 := ⟨kw_648, kw_649⟩
theorem vlX6_353 : ax_VL RX6 353 yX6_writeGapBefore cX6_writeGapBefore 1 (none) 0 := ⟨kw_651, kw_16, kw_650, by decide +kernel⟩
theorem viX6_writeGapBefore : ax_VI yX6_writeGapBefore := ⟨kw_652, kw_653⟩
theorem vlX6_360 : ax_VL RX6 360 yJ4_append_bf812 cJ4_append_bf812 2 (some (.object "java/lang/StringBuilder")) 1 := ⟨kw_655, kw_2, kw_654, by decide +kernel⟩
theorem viJ4_append_bf812 : ax_VI yJ4_append_bf812 := ⟨kw_656, kw_657⟩
theorem vlX6_366 : ax_VL RX6 366 yX6_writeOpening cX6_writeOpening 2 (none) 1 := ⟨kw_659, kw_16, kw_658, by decide +kernel⟩
theorem viX6_writeOpening : ax_VI yX6_writeOpening := ⟨kw_660, kw_661⟩
theorem vlX6_363 : ax_VL RX6 363 yX6_writeKind cX6_writeKind 2 (none) 1 := ⟨kw_663, kw_16, kw_662, by decide +kernel⟩
theorem viX6_writeKind : ax_VI yX6_writeKind := ⟨kw_664, kw_665⟩
theorem vlX6_372 : ax_VL RX6 372 yJ4_charAt_5068e cJ4_charAt_5068e 2 (some (.char)) 1 := ⟨kw_667, kw_2, kw_666, by decide +kernel⟩
theorem viJ4_charAt_5068e : ax_VI yJ4_charAt_5068e := ⟨kw_668, kw_669⟩
theorem vlX6_378 : ax_VL RX6 378 yX0_remember cX0_remember 2 (none) 1 := ⟨kw_671, kw_4, kw_670, by decide +kernel⟩
theorem viX0_remember : ax_VI yX0_remember := ⟨kw_672, kw_673⟩
theorem vlX6_381 : ax_VL RX6 381 yX3_addBlock cX3_addBlock 2 (none) 1 := ⟨kw_674, kw_10, kw_436, by decide +kernel⟩
theorem vlX6_384 : ax_VL RX6 384 yX3_removeBlock cX3_removeBlock 4 (some (.int)) 1 := ⟨kw_676, kw_10, kw_675, by decide +kernel⟩
theorem viX3_removeBlock : ax_VI yX3_removeBlock := ⟨kw_677, kw_678⟩
theorem vlX6_389 : ax_VL RX6 389 yX5_movePieceIn cX5_movePieceIn 4 (none) 3 := ⟨kw_679, kw_14, kw_263, by decide +kernel⟩
theorem vlX6_393 : ax_VL RX6 393 yX5_movePieceOut cX5_movePieceOut 5 (some (.int)) 3 := ⟨kw_681, kw_14, kw_680, by decide +kernel⟩
theorem viX5_movePieceOut : ax_VI yX5_movePieceOut := ⟨kw_682, kw_683⟩
theorem vlX6_405 : ax_VL RX6 405 yX5_removeQuoin cX5_removeQuoin 2 (none) 1 := ⟨kw_684, kw_14, kw_268, by decide +kernel⟩
theorem vlX6_401 : ax_VL RX6 401 yX5_setQuoin cX5_setQuoin 3 (none) 2 := ⟨kw_685, kw_14, kw_257, by decide +kernel⟩
theorem vlX6_346 : ax_VL RX6 346 yX5_fill cX5_fill 8 (none) 3 := ⟨kw_687, kw_14, kw_686, by decide +kernel⟩
theorem viX5_fill : ax_VI yX5_fill := ⟨kw_688, kw_689⟩
theorem vlX6_329 : ax_VL RX6 329 yX5_empty cX5_empty 4 (none) 1 := ⟨kw_690, kw_14, kw_278, by decide +kernel⟩
theorem flX6_187_7 : ax_FL RX6 187 7 7 0 (.int) false := ⟨RX3, TX3, 10, tyX3, rfl, by decide, by decide, by decide, by decide, iwX3, kw_560, tyX3_ok, nmX3, rfl, (fun h => by cases h), rfl⟩
theorem flX6_203_7 : ax_FL RX6 203 7 8 0 (.int) false := ⟨RX3, TX3, 10, tyX3, rfl, by decide, by decide, by decide, by decide, iwX3, kw_565, tyX3_ok, nmX3, rfl, (fun h => by cases h), rfl⟩
theorem mlX6_300 : ax_ML RX6 300 Lib.Math.max.name Lib.Math.max.code := ⟨kw_691, kw_60, kw_61, kw_62⟩
theorem flX6_190_7 : ax_FL RX6 190 7 9 0 (.int) false := ⟨RX3, TX3, 10, tyX3, rfl, by decide, by decide, by decide, by decide, iwX3, kw_561, tyX3_ok, nmX3, rfl, (fun h => by cases h), rfl⟩
theorem vlX6_417 : ax_VL RX6 417 yX6_needTurns cX6_needTurns 1 (none) 1 := ⟨kw_693, kw_16, kw_692, by decide +kernel⟩
theorem vlX6_420 : ax_VL RX6 420 yX5_passDay cX5_passDay 3 (some (.int)) 1 := ⟨kw_696, kw_14, kw_695, by decide +kernel⟩
theorem viX5_passDay : ax_VI yX5_passDay := ⟨kw_697, kw_698⟩
theorem frX6_425_4 : ax_FR RX6 425 4 2 0 := ⟨RX0, TX0, 3, rfl, by decide, by decide, by decide, iwX0, kw_699⟩
theorem vlX6_433 : ax_VL RX6 433 yX0_bringBack cX0_bringBack 2 (none) 1 := ⟨kw_701, kw_4, kw_700, by decide +kernel⟩
theorem viX0_bringBack : ax_VI yX0_bringBack := ⟨kw_702, kw_703⟩
theorem vlJ5_32 : ax_VL RJ5 32 yJ0_length_8abf5 cJ0_length_8abf5 1 (some (.int)) 0 := ⟨kw_704, kw_0, kw_389, by decide +kernel⟩
theorem vlJ5_40 : ax_VL RJ5 40 yJ0_coder_7d493 cJ0_coder_7d493 1 (some (.byte)) 0 := ⟨kw_706, kw_0, kw_27, by decide +kernel⟩
theorem vlJ5_397 : ax_VL RJ5 397 yJ5_inflateIfNeededFor_a7421 cJ5_inflateIfNeededFor_a7421 2 (none) 1 := ⟨kw_708, kw_55, kw_707, by decide +kernel⟩
theorem unJ5_397 : ax_UL RJ5 397 RJ4 yJ5_inflateIfNeededFor_a7421 cJ5_inflateIfNeededFor_a7421 2 (none) 1 := ⟨vlJ5_397, kw_709, kw_710, ax_mI⟩
theorem clJ0_212 : ax_CL RJ0 212 := ⟨kw_711, kw_77, kw_78, kw_79⟩
theorem vlJ5_399 : ax_VL RJ5 399 yJ0_getBytes_840e7 cJ0_getBytes_840e7 4 (none) 3 := ⟨kw_713, kw_0, kw_712, by decide +kernel⟩
theorem viJ0_getBytes_840e7 : ax_VI yJ0_getBytes_840e7 := ⟨kw_714, kw_715⟩
theorem vlJ5_208 : ax_VL RJ5 208 yJ5_putStringAt_47b60 cJ5_putStringAt_47b60 3 (none) 2 := ⟨kw_717, kw_55, kw_716, by decide +kernel⟩
theorem unJ5_208 : ax_UL RJ5 208 RJ4 yJ5_putStringAt_47b60 cJ5_putStringAt_47b60 3 (none) 2 := ⟨vlJ5_208, kw_718, kw_719, ax_mP⟩
theorem vlJ4_29 : ax_VL RJ4 29 yJ5_append_cf1ce cJ5_append_cf1ce 3 (some (.object "java/lang/AbstractStringBuilder")) 1 := ⟨kw_721, kw_55, kw_720, by decide +kernel⟩
theorem suJ4_29 : ax_SL RJ4 29 yJ5_append_cf1ce cJ5_append_cf1ce 3 (some (.object "java/lang/AbstractStringBuilder")) 1 := ⟨vlJ4_29, kw_722, kw_723, kw_724, by decide⟩
theorem vlJ4_23 : ax_VL RJ4 23 yJ4_append_15ec4 cJ4_append_15ec4 2 (some (.object "java/lang/StringBuilder")) 1 := ⟨kw_726, kw_2, kw_725, by decide +kernel⟩
theorem viJ4_append_15ec4 : ax_VI yJ4_append_15ec4 := ⟨kw_727, kw_728⟩
theorem u2J5_43 : ax_U2 RJ5 43 RJ4 yJ5_append_cf1ce yJ4_append_cf1ce cJ4_append_cf1ce 2 (some (.object "java/lang/AbstractStringBuilder")) cJ5_append_cf1ce 3 (some (.object "java/lang/AbstractStringBuilder")) 1 := ⟨⟨kw_730, kw_2, kw_729⟩, by decide +kernel, kw_722, kw_720, kw_723, kw_731, kw_732⟩
theorem vlJ4_7 : ax_VL RJ4 7 yJ5_init_a7421 cJ5_init_a7421 5 (none) 1 := ⟨kw_735, kw_55, kw_733, by decide +kernel⟩
theorem vlJ0_552 : ax_VL RJ0 552 yJ5_getValue_6d5f1 cJ5_getValue_6d5f1 1 (some (.array .byte)) 0 := ⟨kw_739, kw_55, kw_738, by decide +kernel⟩
theorem unJ0_552 : ax_UL RJ0 552 RJ4 yJ5_getValue_6d5f1 cJ5_getValue_6d5f1 1 (some (.array .byte)) 0 := ⟨vlJ0_552, kw_740, kw_741, kw_742⟩
theorem u2J0_549 : ax_U2 RJ0 549 RJ4 yJ5_length_8abf5 yJ4_length_8abf5 cJ4_length_8abf5 1 (some (.int)) cJ5_length_8abf5 1 (some (.int)) 0 := ⟨⟨kw_743, kw_2, kw_642⟩, by decide +kernel, kw_117, kw_115, kw_118, kw_744, kw_644⟩
theorem vlJ0_1047 : ax_VL RJ0 1047 yJ5_isLatin1_aae02 cJ5_isLatin1_aae02 1 (some (.boolean)) 0 := ⟨kw_745, kw_55, kw_88, by decide +kernel⟩
theorem unJ0_1047 : ax_UL RJ0 1047 RJ4 yJ5_isLatin1_aae02 cJ5_isLatin1_aae02 1 (some (.boolean)) 0 := ⟨vlJ0_1047, kw_90, kw_91, kw_92⟩
theorem flJ0_15_0 : ax_FL RJ0 15 0 1 0 (.byte) true := ⟨RJ0, TJ0, 4, tyJ0, rfl, by decide, by decide, by decide, by decide, iwJ0, kw_26, tyJ0_ok, nmJ0, rfl, (fun h => rfl), rfl⟩
theorem vlJ7_343 : ax_VL RJ7 343 yJ7_checkLength_df160 cJ7_checkLength_df160 2 (none) 2 := ⟨kw_747, kw_81, kw_746, by decide +kernel⟩
theorem vlJ7_339 : ax_VL RJ7 339 yJ7_copyOfRangeByte_39247 cJ7_copyOfRangeByte_39247 5 (some (.array .byte)) 3 := ⟨kw_750, kw_81, kw_749, by decide +kernel⟩
theorem vlJ0_54 : ax_VL RJ0 54 yJ7_copyOfRange_39247 cJ7_copyOfRange_39247 3 (some (.array .byte)) 3 := ⟨kw_759, kw_81, kw_758, by decide +kernel⟩
theorem flJ0_9_0 : ax_FL RJ0 9 0 0 2 (.array .byte) true := ⟨RJ0, TJ0, 4, tyJ0, rfl, by decide, by decide, by decide, by decide, iwJ0, kw_24, tyJ0_ok, nmJ0, rfl, (fun h => rfl), rfl⟩
theorem frJ0_1048_1 : ax_FR RJ0 1048 1 2 0 := ⟨RJ4, TJ4, 4, rfl, by decide, by decide, by decide, iwJ4, kw_761⟩
theorem vlJ0_489 : ax_VL RJ0 489 yJ0_init_db425 cJ0_init_db425 5 (none) 2 := ⟨kw_764, kw_0, kw_762, by decide +kernel⟩
theorem vlJ4_137 : ax_VL RJ4 137 yJ0_init_81219 cJ0_init_81219 2 (none) 1 := ⟨kw_767, kw_0, kw_765, by decide +kernel⟩
theorem frJ0_9_0 : ax_FR RJ0 9 0 0 2 := ⟨RJ0, TJ0, 4, rfl, by decide, by decide, by decide, iwJ0, kw_24⟩
theorem frJ0_15_0 : ax_FR RJ0 15 0 1 0 := ⟨RJ0, TJ0, 4, rfl, by decide, by decide, by decide, iwJ0, kw_26⟩
theorem vlJ0_505 : ax_VL RJ0 505 yJ0_length_8abf5 cJ0_length_8abf5 1 (some (.int)) 0 := ⟨kw_768, kw_0, kw_389, by decide +kernel⟩
theorem vlJ0_1062 : ax_VL RJ0 1062 yJ3_checkFromToIndex_8c36e cJ3_checkFromToIndex_8c36e 4 (some (.int)) 4 := ⟨kw_770, kw_37, kw_769, by decide +kernel⟩
theorem vlJ0_521 : ax_VL RJ0 521 yJ0_checkBoundsBeginEnd_23922 cJ0_checkBoundsBeginEnd_23922 3 (none) 3 := ⟨kw_773, kw_0, kw_772, by decide +kernel⟩
theorem vlJ1_232 : ax_VL RJ1 232 yJ7_copyOfRange_39247 cJ7_copyOfRange_39247 3 (some (.array .byte)) 3 := ⟨kw_776, kw_81, kw_758, by decide +kernel⟩
theorem vlJ1_112 : ax_VL RJ1 112 yJ0_init_031fb cJ0_init_031fb 3 (none) 2 := ⟨kw_779, kw_0, kw_777, by decide +kernel⟩
theorem vlJ0_685 : ax_VL RJ0 685 yJ1_newString_b4f7a cJ1_newString_b4f7a 3 (some (.object "java/lang/String")) 3 := ⟨kw_781, kw_44, kw_780, by decide +kernel⟩
theorem vlJ0_681 : ax_VL RJ0 681 yJ0_substring_37a41 cJ0_substring_37a41 5 (some (.object "java/lang/String")) 2 := ⟨kw_784, kw_0, kw_783, by decide +kernel⟩
theorem viJ0_substring_37a41 : ax_VI yJ0_substring_37a41 := ⟨kw_785, kw_786⟩
theorem flX17_7_11 : ax_FL RX17 7 11 0 2 (.array .int) true := ⟨RX17, TX17, 2, tyX17, rfl, by decide, by decide, by decide, by decide, iwX17, kw_788, tyX17_ok, nmX17, rfl, (fun h => rfl), rfl⟩
theorem frX17_13_11 : ax_FR RX17 13 11 1 0 := ⟨RX17, TX17, 2, rfl, by decide, by decide, by decide, iwX17, kw_789⟩
theorem frX17_7_11 : ax_FR RX17 7 11 0 2 := ⟨RX17, TX17, 2, rfl, by decide, by decide, by decide, iwX17, kw_788⟩
theorem flX17_13_11 : ax_FL RX17 13 11 1 0 (.int) false := ⟨RX17, TX17, 2, tyX17, rfl, by decide, by decide, by decide, by decide, iwX17, kw_789, tyX17_ok, nmX17, rfl, (fun h => by cases h), rfl⟩
theorem flX18_7_12 : ax_FL RX18 7 12 0 2 (.array .int) true := ⟨RX18, TX18, 4, tyX18, rfl, by decide, by decide, by decide, by decide, iwX18, kw_792, tyX18_ok, nmX18, rfl, (fun h => rfl), rfl⟩
theorem flX18_14_12 : ax_FL RX18 14 12 1 0 (.int) false := ⟨RX18, TX18, 4, tyX18, rfl, by decide, by decide, by decide, by decide, iwX18, kw_794, tyX18_ok, nmX18, rfl, (fun h => by cases h), rfl⟩
theorem flX18_18_12 : ax_FL RX18 18 12 2 0 (.int) false := ⟨RX18, TX18, 4, tyX18, rfl, by decide, by decide, by decide, by decide, iwX18, kw_795, tyX18_ok, nmX18, rfl, (fun h => by cases h), rfl⟩
theorem vlX19_11 : ax_VL RX19 11 yJ4_init_a7421 cJ4_init_a7421 2 (none) 1 := ⟨kw_800, kw_2, kw_798, by decide +kernel⟩
theorem flX19_14_13 : ax_FL RX19 14 13 0 2 (.object "java/lang/StringBuilder") true := ⟨RX19, TX19, 16, tyX19, rfl, by decide, by decide, by decide, by decide, iwX19, kw_801, tyX19_ok, nmX19, rfl, (fun h => rfl), rfl⟩
theorem flX19_20_13 : ax_FL RX19 20 13 1 2 (.array .int) true := ⟨RX19, TX19, 16, tyX19, rfl, by decide, by decide, by decide, by decide, iwX19, kw_802, tyX19_ok, nmX19, rfl, (fun h => rfl), rfl⟩
theorem flX19_24_13 : ax_FL RX19 24 13 2 2 (.array .int) true := ⟨RX19, TX19, 16, tyX19, rfl, by decide, by decide, by decide, by decide, iwX19, kw_803, tyX19_ok, nmX19, rfl, (fun h => rfl), rfl⟩
theorem flX19_27_13 : ax_FL RX19 27 13 3 2 (.array .int) true := ⟨RX19, TX19, 16, tyX19, rfl, by decide, by decide, by decide, by decide, iwX19, kw_804, tyX19_ok, nmX19, rfl, (fun h => rfl), rfl⟩
theorem flX19_30_13 : ax_FL RX19 30 13 4 2 (.array .int) true := ⟨RX19, TX19, 16, tyX19, rfl, by decide, by decide, by decide, by decide, iwX19, kw_805, tyX19_ok, nmX19, rfl, (fun h => rfl), rfl⟩
theorem flX19_33_13 : ax_FL RX19 33 13 5 2 (.array .int) true := ⟨RX19, TX19, 16, tyX19, rfl, by decide, by decide, by decide, by decide, iwX19, kw_806, tyX19_ok, nmX19, rfl, (fun h => rfl), rfl⟩
theorem flX19_36_13 : ax_FL RX19 36 13 6 2 (.array .boolean) true := ⟨RX19, TX19, 16, tyX19, rfl, by decide, by decide, by decide, by decide, iwX19, kw_807, tyX19_ok, nmX19, rfl, (fun h => rfl), rfl⟩
theorem flX19_42_13 : ax_FL RX19 42 13 7 2 (.array (.array .int)) true := ⟨RX19, TX19, 16, tyX19, rfl, by decide, by decide, by decide, by decide, iwX19, kw_809, tyX19_ok, nmX19, rfl, (fun h => rfl), rfl⟩
theorem flX19_45_13 : ax_FL RX19 45 13 8 2 (.array (.array .int)) true := ⟨RX19, TX19, 16, tyX19, rfl, by decide, by decide, by decide, by decide, iwX19, kw_810, tyX19_ok, nmX19, rfl, (fun h => rfl), rfl⟩
theorem flX19_48_13 : ax_FL RX19 48 13 9 2 (.array .int) true := ⟨RX19, TX19, 16, tyX19, rfl, by decide, by decide, by decide, by decide, iwX19, kw_811, tyX19_ok, nmX19, rfl, (fun h => rfl), rfl⟩
theorem flX19_51_13 : ax_FL RX19 51 13 10 2 (.array .int) true := ⟨RX19, TX19, 16, tyX19, rfl, by decide, by decide, by decide, by decide, iwX19, kw_812, tyX19_ok, nmX19, rfl, (fun h => rfl), rfl⟩
theorem flX19_54_13 : ax_FL RX19 54 13 11 2 (.array .int) true := ⟨RX19, TX19, 16, tyX19, rfl, by decide, by decide, by decide, by decide, iwX19, kw_813, tyX19_ok, nmX19, rfl, (fun h => rfl), rfl⟩
theorem flX19_57_13 : ax_FL RX19 57 13 12 2 (.array .int) true := ⟨RX19, TX19, 16, tyX19, rfl, by decide, by decide, by decide, by decide, iwX19, kw_814, tyX19_ok, nmX19, rfl, (fun h => rfl), rfl⟩
theorem flX19_60_13 : ax_FL RX19 60 13 13 2 (.array .int) true := ⟨RX19, TX19, 16, tyX19, rfl, by decide, by decide, by decide, by decide, iwX19, kw_815, tyX19_ok, nmX19, rfl, (fun h => rfl), rfl⟩
theorem frX19_20_13 : ax_FR RX19 20 13 1 2 := ⟨RX19, TX19, 16, rfl, by decide, by decide, by decide, iwX19, kw_802⟩
theorem vlX19_63 : ax_VL RX19 63 yX17_next cX17_next 4 (some (.int)) 2 := ⟨kw_817, kw_18, kw_816, by decide +kernel⟩
theorem viX17_next : ax_VI yX17_next := ⟨kw_818, kw_819⟩
theorem flX19_69_13 : ax_FL RX19 69 13 15 0 (.int) false := ⟨RX19, TX19, 16, tyX19, rfl, by decide, by decide, by decide, by decide, iwX19, kw_820, tyX19_ok, nmX19, rfl, (fun h => by cases h), rfl⟩
theorem frX19_14_13 : ax_FR RX19 14 13 0 2 := ⟨RX19, TX19, 16, rfl, by decide, by decide, by decide, iwX19, kw_801⟩
theorem frX19_69_13 : ax_FR RX19 69 13 15 0 := ⟨RX19, TX19, 16, rfl, by decide, by decide, by decide, iwX19, kw_820⟩
theorem vlX19_73 : ax_VL RX19 73 yJ4_append_bf812 cJ4_append_bf812 2 (some (.object "java/lang/StringBuilder")) 1 := ⟨kw_821, kw_2, kw_654, by decide +kernel⟩
theorem vlX19_82 : ax_VL RX19 82 yJ4_append_15ec4 cJ4_append_15ec4 2 (some (.object "java/lang/StringBuilder")) 1 := ⟨kw_822, kw_2, kw_725, by decide +kernel⟩
theorem vlX19_77 : ax_VL RX19 77 yJ4_append_cf468 cJ4_append_cf468 2 (some (.object "java/lang/StringBuilder")) 1 := ⟨kw_823, kw_2, kw_646, by decide +kernel⟩
theorem frX19_89_13 : ax_FR RX19 89 13 14 0 := ⟨RX19, TX19, 16, rfl, by decide, by decide, by decide, iwX19, kw_824⟩
theorem frX19_36_13 : ax_FR RX19 36 13 6 2 := ⟨RX19, TX19, 16, rfl, by decide, by decide, by decide, iwX19, kw_807⟩
theorem frX19_24_13 : ax_FR RX19 24 13 2 2 := ⟨RX19, TX19, 16, rfl, by decide, by decide, by decide, iwX19, kw_803⟩
theorem vlX19_85 : ax_VL RX19 85 yX19_kind cX19_kind 4 (some (.int)) 2 := ⟨kw_826, kw_22, kw_825, by decide +kernel⟩
theorem viX19_kind : ax_VI yX19_kind := ⟨kw_827, kw_828⟩
theorem frX19_30_13 : ax_FR RX19 30 13 4 2 := ⟨RX19, TX19, 16, rfl, by decide, by decide, by decide, iwX19, kw_805⟩
theorem vlX19_102 : ax_VL RX19 102 yX19_sorts cX19_sorts 3 (none) 0 := ⟨kw_830, kw_22, kw_829, by decide +kernel⟩
theorem viX19_sorts : ax_VI yX19_sorts := ⟨kw_831, kw_832⟩
theorem frX19_48_13 : ax_FR RX19 48 13 9 2 := ⟨RX19, TX19, 16, rfl, by decide, by decide, by decide, iwX19, kw_811⟩
theorem frX19_42_13 : ax_FR RX19 42 13 7 2 := ⟨RX19, TX19, 16, rfl, by decide, by decide, by decide, iwX19, kw_809⟩
theorem vlX19_111 : ax_VL RX19 111 yX19_blocksIn cX19_blocksIn 4 (some (.int)) 1 := ⟨kw_834, kw_22, kw_833, by decide +kernel⟩
theorem viX19_blocksIn : ax_VI yX19_blocksIn := ⟨kw_835, kw_836⟩
theorem frX19_51_13 : ax_FR RX19 51 13 10 2 := ⟨RX19, TX19, 16, rfl, by decide, by decide, by decide, iwX19, kw_812⟩
theorem frX19_45_13 : ax_FR RX19 45 13 8 2 := ⟨RX19, TX19, 16, rfl, by decide, by decide, by decide, iwX19, kw_810⟩
theorem vlX19_114 : ax_VL RX19 114 yX19_need cX19_need 4 (some (.int)) 1 := ⟨kw_838, kw_22, kw_837, by decide +kernel⟩
theorem viX19_need : ax_VI yX19_need := ⟨kw_839, kw_840⟩
theorem frX19_54_13 : ax_FR RX19 54 13 11 2 := ⟨RX19, TX19, 16, rfl, by decide, by decide, by decide, iwX19, kw_813⟩
theorem frX19_57_13 : ax_FR RX19 57 13 12 2 := ⟨RX19, TX19, 16, rfl, by decide, by decide, by decide, iwX19, kw_814⟩
theorem vlX19_98 : ax_VL RX19 98 yX19_gap cX19_gap 2 (some (.int)) 1 := ⟨kw_842, kw_22, kw_841, by decide +kernel⟩
theorem viX19_gap : ax_VI yX19_gap := ⟨kw_843, kw_844⟩
theorem frX19_27_13 : ax_FR RX19 27 13 3 2 := ⟨RX19, TX19, 16, rfl, by decide, by decide, by decide, iwX19, kw_804⟩
theorem flX19_89_13 : ax_FL RX19 89 13 14 0 (.int) false := ⟨RX19, TX19, 16, tyX19, rfl, by decide, by decide, by decide, by decide, iwX19, kw_824, tyX19_ok, nmX19, rfl, (fun h => by cases h), rfl⟩
theorem clX19_105 : ax_CL RX19 105 := ⟨kw_845, kw_77, kw_78, kw_79⟩
theorem frX19_33_13 : ax_FR RX19 33 13 5 2 := ⟨RX19, TX19, 16, rfl, by decide, by decide, by decide, iwX19, kw_806⟩
theorem frX19_60_13 : ax_FR RX19 60 13 13 2 := ⟨RX19, TX19, 16, rfl, by decide, by decide, by decide, iwX19, kw_815⟩
theorem vlX19_117 : ax_VL RX19 117 yX19_loose cX19_loose 2 (some (.int)) 1 := ⟨kw_847, kw_22, kw_846, by decide +kernel⟩
theorem viX19_loose : ax_VI yX19_loose := ⟨kw_848, kw_849⟩
theorem vlX19_120 : ax_VL RX19 120 yX19_unlock cX19_unlock 4 (some (.int)) 1 := ⟨kw_851, kw_22, kw_850, by decide +kernel⟩
theorem viX19_unlock : ax_VI yX19_unlock := ⟨kw_852, kw_853⟩
theorem vlX19_123 : ax_VL RX19 123 yX19_falls cX19_falls 4 (some (.int)) 0 := ⟨kw_855, kw_22, kw_854, by decide +kernel⟩
theorem viX19_falls : ax_VI yX19_falls := ⟨kw_856, kw_857⟩
theorem vlX19_127 : ax_VL RX19 127 yX19_wood cX19_wood 4 (some (.int)) 1 := ⟨kw_859, kw_22, kw_858, by decide +kernel⟩
theorem viX19_wood : ax_VI yX19_wood := ⟨kw_860, kw_861⟩
theorem nlX19_132 : ax_NL RX19 132 yX18_init "ChaseLockerLaw" cX18_init 1 0 := ⟨by unfold ax_nests; simp, kw_20, kw_863, by decide +kernel⟩
theorem fnrX19_133_12 : ax_FRN RX19 133 12 3 0 := ⟨RX18, TX18, 4, "ChaseLockerLaw", rfl, by decide, by decide, by decide, iwX18, (by unfold ax_fnests; decide +kernel)⟩
theorem fnlX19_133_12 : ax_FLN RX19 133 12 3 0 (.int) false := ⟨RX18, TX18, 4, tyX18, "ChaseLockerLaw", rfl, by decide, by decide, by decide, by decide, iwX18, (by unfold ax_fnests; decide +kernel), tyX18_ok, nmX18, rfl, (fun h => by cases h), rfl⟩
theorem fnrX19_136_12 : ax_FRN RX19 136 12 1 0 := ⟨RX18, TX18, 4, "ChaseLockerLaw", rfl, by decide, by decide, by decide, iwX18, (by unfold ax_fnests; decide +kernel)⟩
theorem fnlX19_136_12 : ax_FLN RX19 136 12 1 0 (.int) false := ⟨RX18, TX18, 4, tyX18, "ChaseLockerLaw", rfl, by decide, by decide, by decide, by decide, iwX18, (by unfold ax_fnests; decide +kernel), tyX18_ok, nmX18, rfl, (fun h => by cases h), rfl⟩
theorem fnlX19_138_12 : ax_FLN RX19 138 12 2 0 (.int) false := ⟨RX18, TX18, 4, tyX18, "ChaseLockerLaw", rfl, by decide, by decide, by decide, by decide, iwX18, (by unfold ax_fnests; decide +kernel), tyX18_ok, nmX18, rfl, (fun h => by cases h), rfl⟩
theorem fnrX19_141_12 : ax_FRN RX19 141 12 0 2 := ⟨RX18, TX18, 4, "ChaseLockerLaw", rfl, by decide, by decide, by decide, iwX18, (by unfold ax_fnests; decide +kernel)⟩
theorem vlX19_142 : ax_VL RX19 142 yX19_fills cX19_fills 12 (some (.object "ChaseLockerLaw$Filling")) 1 := ⟨kw_866, kw_22, kw_865, by decide +kernel⟩
theorem viX19_fills : ax_VI yX19_fills := ⟨kw_867, kw_868⟩
theorem fnrX19_138_12 : ax_FRN RX19 138 12 2 0 := ⟨RX18, TX18, 4, "ChaseLockerLaw", rfl, by decide, by decide, by decide, iwX18, (by unfold ax_fnests; decide +kernel)⟩
theorem vlX19_146 : ax_VL RX19 146 yX19_puts cX19_puts 3 (none) 2 := ⟨kw_870, kw_22, kw_869, by decide +kernel⟩
theorem viX19_puts : ax_VI yX19_puts := ⟨kw_871, kw_872⟩
theorem vlX19_150 : ax_VL RX19 150 yX19_isTight cX19_isTight 2 (some (.boolean)) 1 := ⟨kw_874, kw_22, kw_873, by decide +kernel⟩
theorem viX19_isTight : ax_VI yX19_isTight := ⟨kw_875, kw_876⟩
theorem vlL_7 : ax_VL RL 7 yJ0_length_8abf5 cJ0_length_8abf5 1 (some (.int)) 0 := ⟨kw_877, kw_0, kw_389, by decide +kernel⟩
theorem vlL_17 : ax_VL RL 17 yX6_append cX6_append 6 (some (.int)) 5 := ⟨kw_879, kw_16, kw_878, by decide +kernel⟩
theorem viX6_append : ax_VI yX6_append := ⟨kw_880, kw_881⟩
theorem vlL_13 : ax_VL RL 13 yJ0_charAt_5068e cJ0_charAt_5068e 2 (some (.char)) 1 := ⟨kw_882, kw_0, kw_393, by decide +kernel⟩
theorem vlL_23 : ax_VL RL 23 yL_feeds cL_feeds 5 (some (.boolean)) 2 := ⟨kw_885, kw_884, kw_883, by decide +kernel⟩
theorem vlL_29 : ax_VL RL 29 yX6_load cX6_load 2 (some (.int)) 1 := ⟨kw_888, kw_16, kw_887, by decide +kernel⟩
theorem viX6_load : ax_VI yX6_load := ⟨kw_889, kw_890⟩
theorem vlL_33 : ax_VL RL 33 yX6_count cX6_count 2 (some (.int)) 1 := ⟨kw_892, kw_16, kw_891, by decide +kernel⟩
theorem viX6_count : ax_VI yX6_count := ⟨kw_893, kw_894⟩
theorem vlL_36 : ax_VL RL 36 yX6_setting cX6_setting 2 (some (.int)) 1 := ⟨kw_896, kw_16, kw_895, by decide +kernel⟩
theorem viX6_setting : ax_VI yX6_setting := ⟨kw_897, kw_898⟩
theorem vlL_39 : ax_VL RL 39 yX6_row cX6_row 4 (some (.int)) 2 := ⟨kw_900, kw_16, kw_899, by decide +kernel⟩
theorem viX6_row : ax_VI yX6_row := ⟨kw_901, kw_902⟩
theorem vlL_43 : ax_VL RL 43 yX6_block cX6_block 4 (some (.int)) 2 := ⟨kw_904, kw_16, kw_903, by decide +kernel⟩
theorem viX6_block : ax_VI yX6_block := ⟨kw_905, kw_906⟩
theorem vlL_46 : ax_VL RL 46 yX6_piece cX6_piece 4 (some (.int)) 2 := ⟨kw_908, kw_16, kw_907, by decide +kernel⟩
theorem viX6_piece : ax_VI yX6_piece := ⟨kw_909, kw_910⟩
theorem vlL_49 : ax_VL RL 49 yX6_kind cX6_kind 3 (some (.int)) 2 := ⟨kw_912, kw_16, kw_911, by decide +kernel⟩
theorem viX6_kind : ax_VI yX6_kind := ⟨kw_913, kw_914⟩
theorem vlL_52 : ax_VL RL 52 yX6_choice cX6_choice 4 (some (.int)) 2 := ⟨kw_916, kw_16, kw_915, by decide +kernel⟩
theorem viX6_choice : ax_VI yX6_choice := ⟨kw_917, kw_918⟩
theorem vlL_55 : ax_VL RL 55 yX6_fewestAt cX6_fewestAt 4 (some (.int)) 2 := ⟨kw_920, kw_16, kw_919, by decide +kernel⟩
theorem viX6_fewestAt : ax_VI yX6_fewestAt := ⟨kw_921, kw_922⟩
theorem vlL_58 : ax_VL RL 58 yX6_rowFor cX6_rowFor 6 (some (.int)) 1 := ⟨kw_924, kw_16, kw_923, by decide +kernel⟩
theorem viX6_rowFor : ax_VI yX6_rowFor := ⟨kw_925, kw_926⟩
theorem vlL_61 : ax_VL RL 61 yX6_goodIn cX6_goodIn 2 (some (.int)) 1 := ⟨kw_928, kw_16, kw_927, by decide +kernel⟩
theorem viX6_goodIn : ax_VI yX6_goodIn := ⟨kw_929, kw_930⟩
theorem vlL_64 : ax_VL RL 64 yX6_fillable cX6_fillable 4 (some (.int)) 1 := ⟨kw_932, kw_16, kw_931, by decide +kernel⟩
theorem viX6_fillable : ax_VI yX6_fillable := ⟨kw_933, kw_934⟩
theorem vlL_67 : ax_VL RL 67 yX6_textByte cX6_textByte 2 (some (.int)) 1 := ⟨kw_936, kw_16, kw_935, by decide +kernel⟩
theorem viX6_textByte : ax_VI yX6_textByte := ⟨kw_937, kw_938⟩
theorem vlL_70 : ax_VL RL 70 yX6_place cX6_place 4 (some (.int)) 2 := ⟨kw_940, kw_16, kw_939, by decide +kernel⟩
theorem viX6_place : ax_VI yX6_place := ⟨kw_941, kw_942⟩
theorem vlL_73 : ax_VL RL 73 yX6_lift cX6_lift 4 (some (.int)) 2 := ⟨kw_944, kw_16, kw_943, by decide +kernel⟩
theorem viX6_lift : ax_VI yX6_lift := ⟨kw_945, kw_946⟩
theorem vlL_76 : ax_VL RL 76 yX6_put cX6_put 4 (some (.int)) 2 := ⟨kw_948, kw_16, kw_947, by decide +kernel⟩
theorem viX6_put : ax_VI yX6_put := ⟨kw_949, kw_950⟩
theorem vlL_79 : ax_VL RL 79 yX6_take cX6_take 4 (some (.int)) 2 := ⟨kw_952, kw_16, kw_951, by decide +kernel⟩
theorem viX6_take : ax_VI yX6_take := ⟨kw_953, kw_954⟩
theorem vlL_82 : ax_VL RL 82 yX6_quoin cX6_quoin 4 (some (.int)) 2 := ⟨kw_956, kw_16, kw_955, by decide +kernel⟩
theorem viX6_quoin : ax_VI yX6_quoin := ⟨kw_957, kw_958⟩
theorem vlL_86 : ax_VL RL 86 yX6_open cX6_open 4 (some (.int)) 2 := ⟨kw_960, kw_16, kw_959, by decide +kernel⟩
theorem viX6_open : ax_VI yX6_open := ⟨kw_961, kw_962⟩
theorem vlL_89 : ax_VL RL 89 yX6_lock cX6_lock 3 (some (.int)) 1 := ⟨kw_964, kw_16, kw_963, by decide +kernel⟩
theorem viX6_lock : ax_VI yX6_lock := ⟨kw_965, kw_966⟩
theorem vlL_92 : ax_VL RL 92 yX6_relock cX6_relock 2 (some (.int)) 1 := ⟨kw_968, kw_16, kw_967, by decide +kernel⟩
theorem viX6_relock : ax_VI yX6_relock := ⟨kw_969, kw_970⟩
theorem vlL_95 : ax_VL RL 95 yX6_tighten cX6_tighten 3 (some (.int)) 1 := ⟨kw_972, kw_16, kw_971, by decide +kernel⟩
theorem viX6_tighten : ax_VI yX6_tighten := ⟨kw_973, kw_974⟩
theorem vlL_98 : ax_VL RL 98 yX6_print cX6_print 2 (some (.int)) 1 := ⟨kw_976, kw_16, kw_975, by decide +kernel⟩
theorem viX6_print : ax_VI yX6_print := ⟨kw_977, kw_978⟩
theorem vlL_101 : ax_VL RL 101 yX6_rest cX6_rest 4 (some (.int)) 1 := ⟨kw_980, kw_16, kw_979, by decide +kernel⟩
theorem viX6_rest : ax_VI yX6_rest := ⟨kw_981, kw_982⟩
theorem vlL_104 : ax_VL RL 104 yX6_buy cX6_buy 3 (some (.int)) 2 := ⟨kw_984, kw_16, kw_983, by decide +kernel⟩
theorem viX6_buy : ax_VI yX6_buy := ⟨kw_985, kw_986⟩
theorem vlL_107 : ax_VL RL 107 yX6_undo cX6_undo 1 (some (.int)) 0 := ⟨kw_988, kw_16, kw_987, by decide +kernel⟩
theorem viX6_undo : ax_VI yX6_undo := ⟨kw_989, kw_990⟩
theorem vlL_110 : ax_VL RL 110 yX6_save cX6_save 2 (some (.int)) 1 := ⟨kw_992, kw_16, kw_991, by decide +kernel⟩
theorem viX6_save : ax_VI yX6_save := ⟨kw_993, kw_994⟩
theorem vlL_113 : ax_VL RL 113 yX6_restore cX6_restore 2 (some (.int)) 1 := ⟨kw_996, kw_16, kw_995, by decide +kernel⟩
theorem viX6_restore : ax_VI yX6_restore := ⟨kw_997, kw_998⟩
theorem clL_116 : ax_CL RL 116 := ⟨kw_999, kw_77, kw_78, kw_79⟩
theorem vlL_122 : ax_VL RL 122 yL_calls cL_calls 3 (some (.long)) 3 := ⟨kw_1001, kw_884, kw_1000, by decide +kernel⟩
theorem fnrL_134_13 : ax_FRN RL 134 13 1 2 := ⟨RX19, TX19, 16, "ChaseLockerLaw", rfl, by decide, by decide, by decide, iwX19, (by unfold ax_fnests; decide +kernel)⟩
theorem fnrL_170_13 : ax_FRN RL 170 13 14 0 := ⟨RX19, TX19, 16, "ChaseLockerLaw", rfl, by decide, by decide, by decide, iwX19, (by unfold ax_fnests; decide +kernel)⟩
theorem fnrL_197_13 : ax_FRN RL 197 13 15 0 := ⟨RX19, TX19, 16, "ChaseLockerLaw", rfl, by decide, by decide, by decide, iwX19, (by unfold ax_fnests; decide +kernel)⟩
theorem vlL_200 : ax_VL RL 200 yX19_tight cX19_tight 3 (some (.int)) 0 := ⟨kw_1011, kw_22, kw_1010, by decide +kernel⟩
theorem viX19_tight : ax_VI yX19_tight := ⟨kw_1012, kw_1013⟩
theorem fnrL_203_13 : ax_FRN RL 203 13 5 2 := ⟨RX19, TX19, 16, "ChaseLockerLaw", rfl, by decide, by decide, by decide, iwX19, (by unfold ax_fnests; decide +kernel)⟩
theorem fnrL_193_13 : ax_FRN RL 193 13 6 2 := ⟨RX19, TX19, 16, "ChaseLockerLaw", rfl, by decide, by decide, by decide, iwX19, (by unfold ax_fnests; decide +kernel)⟩
theorem fnrL_181_13 : ax_FRN RL 181 13 2 2 := ⟨RX19, TX19, 16, "ChaseLockerLaw", rfl, by decide, by decide, by decide, iwX19, (by unfold ax_fnests; decide +kernel)⟩
theorem fnrL_178_13 : ax_FRN RL 178 13 3 2 := ⟨RX19, TX19, 16, "ChaseLockerLaw", rfl, by decide, by decide, by decide, iwX19, (by unfold ax_fnests; decide +kernel)⟩
theorem fnrL_145_13 : ax_FRN RL 145 13 10 2 := ⟨RX19, TX19, 16, "ChaseLockerLaw", rfl, by decide, by decide, by decide, iwX19, (by unfold ax_fnests; decide +kernel)⟩
theorem fnrL_167_13 : ax_FRN RL 167 13 8 2 := ⟨RX19, TX19, 16, "ChaseLockerLaw", rfl, by decide, by decide, by decide, iwX19, (by unfold ax_fnests; decide +kernel)⟩
theorem fnrL_140_13 : ax_FRN RL 140 13 11 2 := ⟨RX19, TX19, 16, "ChaseLockerLaw", rfl, by decide, by decide, by decide, iwX19, (by unfold ax_fnests; decide +kernel)⟩
theorem fnrL_142_13 : ax_FRN RL 142 13 9 2 := ⟨RX19, TX19, 16, "ChaseLockerLaw", rfl, by decide, by decide, by decide, iwX19, (by unfold ax_fnests; decide +kernel)⟩
theorem vlL_148 : ax_VL RL 148 yX19_gap cX19_gap 2 (some (.int)) 1 := ⟨kw_1014, kw_22, kw_841, by decide +kernel⟩
theorem fnrL_151_13 : ax_FRN RL 151 13 13 2 := ⟨RX19, TX19, 16, "ChaseLockerLaw", rfl, by decide, by decide, by decide, iwX19, (by unfold ax_fnests; decide +kernel)⟩
theorem vlL_154 : ax_VL RL 154 yX19_wood cX19_wood 4 (some (.int)) 1 := ⟨kw_1015, kw_22, kw_858, by decide +kernel⟩
theorem vlL_157 : ax_VL RL 157 yX19_blocksIn cX19_blocksIn 4 (some (.int)) 1 := ⟨kw_1016, kw_22, kw_833, by decide +kernel⟩
theorem vlL_184 : ax_VL RL 184 yX6_isTight cX6_isTight 2 (some (.boolean)) 1 := ⟨kw_1018, kw_16, kw_1017, by decide +kernel⟩
theorem viX6_isTight : ax_VI yX6_isTight := ⟨kw_1019, kw_1020⟩
theorem vlL_188 : ax_VL RL 188 yX19_isTight cX19_isTight 2 (some (.boolean)) 1 := ⟨kw_1021, kw_22, kw_873, by decide +kernel⟩
theorem vlL_174 : ax_VL RL 174 yX6_canPut cX6_canPut 4 (some (.boolean)) 2 := ⟨kw_1023, kw_16, kw_1022, by decide +kernel⟩
theorem viX6_canPut : ax_VI yX6_canPut := ⟨kw_1024, kw_1025⟩
theorem fnrL_163_13 : ax_FRN RL 163 13 7 2 := ⟨RX19, TX19, 16, "ChaseLockerLaw", rfl, by decide, by decide, by decide, iwX19, (by unfold ax_fnests; decide +kernel)⟩
theorem fnrL_160_13 : ax_FRN RL 160 13 12 2 := ⟨RX19, TX19, 16, "ChaseLockerLaw", rfl, by decide, by decide, by decide, iwX19, (by unfold ax_fnests; decide +kernel)⟩
theorem vlL_205 : ax_VL RL 205 yX17_next cX17_next 4 (some (.int)) 2 := ⟨kw_1026, kw_18, kw_816, by decide +kernel⟩
theorem mlL_231 : ax_ML RL 231 Lib.Math.max.name Lib.Math.max.code := ⟨kw_1027, kw_60, kw_61, kw_62⟩
theorem vlL_228 : ax_VL RL 228 yX19_init_ cX19_init_ 3 (none) 1 := ⟨kw_1031, kw_22, kw_1029, by decide +kernel⟩
theorem vlL_227 : ax_VL RL 227 yX19_unlock cX19_unlock 4 (some (.int)) 1 := ⟨kw_1032, kw_22, kw_850, by decide +kernel⟩
theorem vlL_222 : ax_VL RL 222 yX19_lock cX19_lock 5 (some (.boolean)) 1 := ⟨kw_1034, kw_22, kw_1033, by decide +kernel⟩
theorem viX19_lock : ax_VI yX19_lock := ⟨kw_1035, kw_1036⟩
theorem vlL_224 : ax_VL RL 224 yX6_unlock cX6_unlock 4 (some (.int)) 1 := ⟨kw_1038, kw_16, kw_1037, by decide +kernel⟩
theorem viX6_unlock : ax_VI yX6_unlock := ⟨kw_1039, kw_1040⟩
theorem vlL_219 : ax_VL RL 219 yX19_need cX19_need 4 (some (.int)) 1 := ⟨kw_1041, kw_22, kw_837, by decide +kernel⟩
theorem fnlL_197_13 : ax_FLN RL 197 13 15 0 (.int) false := ⟨RX19, TX19, 16, tyX19, "ChaseLockerLaw", rfl, by decide, by decide, by decide, by decide, iwX19, (by unfold ax_fnests; decide +kernel), tyX19_ok, nmX19, rfl, (fun h => by cases h), rfl⟩
theorem vlL_215 : ax_VL RL 215 yX19_puts cX19_puts 3 (none) 2 := ⟨kw_1042, kw_22, kw_869, by decide +kernel⟩
theorem vlL_212 : ax_VL RL 212 yX19_day cX19_day 2 (some (.int)) 0 := ⟨kw_1044, kw_22, kw_1043, by decide +kernel⟩
theorem viX19_day : ax_VI yX19_day := ⟨kw_1045, kw_1046⟩
theorem vlL_210 : ax_VL RL 210 yX19_print cX19_print 4 (some (.int)) 0 := ⟨kw_1048, kw_22, kw_1047, by decide +kernel⟩
theorem viX19_print : ax_VI yX19_print := ⟨kw_1049, kw_1050⟩
theorem vlL_241 : ax_VL RL 241 yJ4_init_da8c8 cJ4_init_da8c8 1 (none) 0 := ⟨kw_1052, kw_2, kw_482, by decide +kernel⟩
theorem vlL_251 : ax_VL RL 251 yX6_widestGap cX6_widestGap 3 (some (.int)) 0 := ⟨kw_1054, kw_16, kw_1053, by decide +kernel⟩
theorem viX6_widestGap : ax_VI yX6_widestGap := ⟨kw_1055, kw_1056⟩
theorem vlL_254 : ax_VL RL 254 yX6_loosest cX6_loosest 5 (some (.int)) 0 := ⟨kw_1058, kw_16, kw_1057, by decide +kernel⟩
theorem viX6_loosest : ax_VI yX6_loosest := ⟨kw_1059, kw_1060⟩
theorem vlL_257 : ax_VL RL 257 yX6_longestLeft cX6_longestLeft 3 (some (.int)) 0 := ⟨kw_1062, kw_16, kw_1061, by decide +kernel⟩
theorem viX6_longestLeft : ax_VI yX6_longestLeft := ⟨kw_1063, kw_1064⟩
theorem vlL_260 : ax_VL RL 260 yX6_lengthLeft cX6_lengthLeft 3 (some (.int)) 0 := ⟨kw_1066, kw_16, kw_1065, by decide +kernel⟩
theorem viX6_lengthLeft : ax_VI yX6_lengthLeft := ⟨kw_1067, kw_1068⟩
theorem vlL_263 : ax_VL RL 263 yX6_meanGap cX6_meanGap 3 (some (.double)) 0 := ⟨kw_1070, kw_16, kw_1069, by decide +kernel⟩
theorem viX6_meanGap : ax_VI yX6_meanGap := ⟨kw_1071, kw_1072⟩
theorem vlL_267 : ax_VL RL 267 yX6_woodShare cX6_woodShare 3 (some (.float)) 0 := ⟨kw_1074, kw_16, kw_1073, by decide +kernel⟩
theorem viX6_woodShare : ax_VI yX6_woodShare := ⟨kw_1075, kw_1076⟩
theorem vlL_271 : ax_VL RL 271 yX6_goodShare cX6_goodShare 1 (some (.float)) 0 := ⟨kw_1078, kw_16, kw_1077, by decide +kernel⟩
theorem viX6_goodShare : ax_VI yX6_goodShare := ⟨kw_1079, kw_1080⟩
theorem vlL_280 : ax_VL RL 280 yX6_writeStock cX6_writeStock 2 (some (.int)) 0 := ⟨kw_1082, kw_16, kw_1081, by decide +kernel⟩
theorem viX6_writeStock : ax_VI yX6_writeStock := ⟨kw_1083, kw_1084⟩
theorem vlL_283 : ax_VL RL 283 yJ4_toString_0e30d cJ4_toString_0e30d 1 (some (.object "java/lang/String")) 0 := ⟨kw_1086, kw_2, kw_1085, by decide +kernel⟩
theorem viJ4_toString_0e30d : ax_VI yJ4_toString_0e30d := ⟨kw_1087, kw_1088⟩
theorem vlL_287 : ax_VL RL 287 yL_isText cL_isText 4 (some (.boolean)) 3 := ⟨kw_1090, kw_884, kw_1089, by decide +kernel⟩
theorem vlL_274 : ax_VL RL 274 yX6_kindOf cX6_kindOf 3 (some (.int)) 2 := ⟨kw_1093, kw_16, kw_1092, by decide +kernel⟩
theorem viX6_kindOf : ax_VI yX6_kindOf := ⟨kw_1094, kw_1095⟩
theorem vlL_278 : ax_VL RL 278 yX19_kind cX19_kind 4 (some (.int)) 2 := ⟨kw_1096, kw_22, kw_825, by decide +kernel⟩
theorem vlL_242 : ax_VL RL 242 yJ4_append_cf468 cJ4_append_cf468 2 (some (.object "java/lang/StringBuilder")) 1 := ⟨kw_1097, kw_2, kw_646, by decide +kernel⟩
theorem vlL_245 : ax_VL RL 245 yJ4_append_bf812 cJ4_append_bf812 2 (some (.object "java/lang/StringBuilder")) 1 := ⟨kw_1098, kw_2, kw_654, by decide +kernel⟩
theorem fnrL_248_13 : ax_FRN RL 248 13 4 2 := ⟨RX19, TX19, 16, "ChaseLockerLaw", rfl, by decide, by decide, by decide, iwX19, (by unfold ax_fnests; decide +kernel)⟩
theorem vlL_236 : ax_VL RL 236 yX19_loose cX19_loose 2 (some (.int)) 1 := ⟨kw_1099, kw_22, kw_846, by decide +kernel⟩
theorem vlL_302 : ax_VL RL 302 yX6_writeRow cX6_writeRow 4 (some (.int)) 1 := ⟨kw_1101, kw_16, kw_1100, by decide +kernel⟩
theorem viX6_writeRow : ax_VI yX6_writeRow := ⟨kw_1102, kw_1103⟩
theorem vlL_305 : ax_VL RL 305 yJ0_substring_b52d3 cJ0_substring_b52d3 2 (some (.object "java/lang/String")) 1 := ⟨kw_1105, kw_0, kw_1104, by decide +kernel⟩
theorem viJ0_substring_b52d3 : ax_VI yJ0_substring_b52d3 := ⟨kw_1106, kw_1107⟩
theorem vlL_293 : ax_VL RL 293 yJ4_append_15ec4 cJ4_append_15ec4 2 (some (.object "java/lang/StringBuilder")) 1 := ⟨kw_1108, kw_2, kw_725, by decide +kernel⟩
theorem vlL_309 : ax_VL RL 309 yX17_init cX17_init 2 (none) 1 := ⟨kw_1112, kw_18, kw_1110, by decide +kernel⟩
theorem vlL_312 : ax_VL RL 312 yX19_init cX19_init 5 (none) 1 := ⟨kw_1115, kw_22, kw_1113, by decide +kernel⟩
theorem vlL_315 : ax_VL RL 315 yX6_init cX6_init 2 (none) 0 := ⟨kw_1119, kw_16, kw_1117, by decide +kernel⟩
theorem vlL_316 : ax_VL RL 316 yX6_undoable cX6_undoable 1 (some (.int)) 0 := ⟨kw_1121, kw_16, kw_1120, by decide +kernel⟩
theorem viX6_undoable : ax_VI yX6_undoable := ⟨kw_1122, kw_1123⟩
theorem fnrL_319_13 : ax_FRN RL 319 13 0 2 := ⟨RX19, TX19, 16, "ChaseLockerLaw", rfl, by decide, by decide, by decide, iwX19, (by unfold ax_fnests; decide +kernel)⟩
theorem vlL_323 : ax_VL RL 323 yL_tell cL_tell 2 (some (.int)) 2 := ⟨kw_1125, kw_884, kw_1124, by decide +kernel⟩
theorem vlL_327 : ax_VL RL 327 yX6_parseError cX6_parseError 1 (some (.int)) 0 := ⟨kw_1128, kw_16, kw_1127, by decide +kernel⟩
theorem viX6_parseError : ax_VI yX6_parseError := ⟨kw_1129, kw_1130⟩
theorem vlL_330 : ax_VL RL 330 yX6_errorPosition cX6_errorPosition 1 (some (.int)) 0 := ⟨kw_1132, kw_16, kw_1131, by decide +kernel⟩
theorem viX6_errorPosition : ax_VI yX6_errorPosition := ⟨kw_1133, kw_1134⟩
theorem vlL_333 : ax_VL RL 333 yL_isLike cL_isLike 9 (some (.boolean)) 2 := ⟨kw_1136, kw_884, kw_1135, by decide +kernel⟩
theorem vlL_341 : ax_VL RL 341 yL_looks cL_looks 15 (some (.boolean)) 2 := ⟨kw_1139, kw_884, kw_1138, by decide +kernel⟩
theorem vlL_344 : ax_VL RL 344 yL_rows cL_rows 5 (some (.boolean)) 2 := ⟨kw_1142, kw_884, kw_1141, by decide +kernel⟩
theorem vlL_337 : ax_VL RL 337 yL_act cL_act 9 (some (.boolean)) 3 := ⟨kw_1145, kw_884, kw_1144, by decide +kernel⟩
