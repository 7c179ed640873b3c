theorem iwJ4 : ∀ w ∈ u_ws RJ4 TJ4 4, w ∈ ax_ALL := ax_all_in (by decide +kernel)
theorem ax_DF1 : ax_DF 1 4 := ⟨RJ4, TJ4, tyJ4, rfl, by decide, iwJ4, tyJ4_ok, by decide, by decide, kw_1, kw_0⟩
theorem iwX0 : ∀ w ∈ u_ws RX0 TX0 3, w ∈ ax_ALL := ax_all_in (by decide +kernel)
theorem ax_DF4 : ax_DF 4 3 := ⟨RX0, TX0, tyX0, rfl, by decide, iwX0, tyX0_ok, by decide, by decide, kw_3, kw_2⟩
theorem iwX1 : ∀ w ∈ u_ws RX1 TX1 11, w ∈ ax_ALL := ax_all_in (by decide +kernel)
theorem ax_DF5 : ax_DF 5 11 := ⟨RX1, TX1, tyX1, rfl, by decide, iwX1, tyX1_ok, by decide, by decide, kw_5, kw_4⟩
theorem iwX2 : ∀ w ∈ u_ws RX2 TX2 9, w ∈ ax_ALL := ax_all_in (by decide +kernel)
theorem ax_DF6 : ax_DF 6 9 := ⟨RX2, TX2, tyX2, rfl, by decide, iwX2, tyX2_ok, by decide, by decide, kw_7, kw_6⟩
theorem iwX3 : ∀ w ∈ u_ws RX3 TX3 10, w ∈ ax_ALL := ax_all_in (by decide +kernel)
theorem ax_DF7 : ax_DF 7 10 := ⟨RX3, TX3, tyX3, rfl, by decide, iwX3, tyX3_ok, by decide, by decide, kw_9, kw_8⟩
theorem iwX4 : ∀ w ∈ u_ws RX4 TX4 8, w ∈ ax_ALL := ax_all_in (by decide +kernel)
theorem ax_DF8 : ax_DF 8 8 := ⟨RX4, TX4, tyX4, rfl, by decide, iwX4, tyX4_ok, by decide, by decide, kw_11, kw_10⟩
theorem iwX5 : ∀ w ∈ u_ws RX5 TX5 8, w ∈ ax_ALL := ax_all_in (by decide +kernel)
theorem ax_DF9 : ax_DF 9 8 := ⟨RX5, TX5, tyX5, rfl, by decide, iwX5, tyX5_ok, by decide, by decide, kw_13, kw_12⟩
theorem iwX6 : ∀ w ∈ u_ws RX6 TX6 11, w ∈ ax_ALL := ax_all_in (by decide +kernel)
theorem ax_DF10 : ax_DF 10 11 := ⟨RX6, TX6, tyX6, rfl, by decide, iwX6, tyX6_ok, by decide, by decide, kw_15, kw_14⟩
theorem iwX7 : ∀ w ∈ u_ws RX7 TX7 41, w ∈ ax_ALL := ax_all_in (by decide +kernel)
theorem ax_DF11 : ax_DF 11 41 := ⟨RX7, TX7, tyX7, rfl, by decide, iwX7, tyX7_ok, by decide, by decide, kw_17, kw_16⟩
theorem vlJ0_335 : ax_VL RJ0 335 yJ0_coder_7d493 cJ0_coder_7d493 1 (some (.byte)) 0 := ⟨kw_23, kw_22, kw_21, by decide +kernel⟩
theorem viJ0_coder_7d493 : ax_VI yJ0_coder_7d493 := ⟨kw_24, kw_25⟩
theorem vlJ0_492 : ax_VL RJ0 492 yJ0_isLatin1_aae02 cJ0_isLatin1_aae02 1 (some (.boolean)) 0 := ⟨kw_27, kw_22, kw_26, by decide +kernel⟩
theorem viJ0_isLatin1_aae02 : ax_VI yJ0_isLatin1_aae02 := ⟨kw_28, kw_29⟩
theorem vlJ0_1059 : ax_VL RJ0 1059 yJ3_checkIndex_8e157 cJ3_checkIndex_8e157 3 (some (.int)) 3 := ⟨kw_33, kw_32, kw_31, by decide +kernel⟩
theorem vlJ1_9 : ax_VL RJ1 9 yJ0_checkIndex_df160 cJ0_checkIndex_df160 2 (none) 2 := ⟨kw_36, kw_22, kw_35, by decide +kernel⟩
theorem vlJ0_495 : ax_VL RJ0 495 yJ1_charAt_3b067 cJ1_charAt_3b067 2 (some (.char)) 2 := ⟨kw_40, kw_39, kw_38, by decide +kernel⟩
theorem flJ5_15_1 : ax_FL RJ5 15 1 0 2 (.array .byte) false := ⟨RJ4, TJ4, 4, tyJ4, rfl, by decide, by decide, by decide, by decide, iwJ4, kw_47, tyJ4_ok, nmJ4, rfl, (fun h => by cases h), rfl⟩
theorem flJ5_22_1 : ax_FL RJ5 22 1 1 0 (.byte) false := ⟨RJ4, TJ4, 4, tyJ4, rfl, by decide, by decide, by decide, by decide, iwJ4, kw_48, tyJ4_ok, nmJ4, rfl, (fun h => by cases h), rfl⟩
theorem vlJ4_1 : ax_VL RJ4 1 yJ5_init_d00df cJ5_init_d00df 2 (none) 1 := ⟨kw_52, kw_50, kw_49, by decide +kernel⟩
theorem frJ5_79_1 : ax_FR RJ5 79 1 3 0 := ⟨RJ4, TJ4, 4, rfl, by decide, by decide, by decide, iwJ4, kw_53⟩
theorem frJ5_15_1 : ax_FR RJ5 15 1 0 2 := ⟨RJ4, TJ4, 4, rfl, by decide, by decide, by decide, iwJ4, kw_47⟩
theorem frJ5_22_1 : ax_FR RJ5 22 1 1 0 := ⟨RJ4, TJ4, 4, rfl, by decide, by decide, by decide, iwJ4, kw_48⟩
theorem mlJ8_194 : ax_ML RJ8 194 Lib.Math.max.name Lib.Math.max.code := ⟨kw_54, kw_55, kw_56, kw_57⟩
theorem vlJ5_114 : ax_VL RJ5 114 yJ8_newLength_cabcc cJ8_newLength_cabcc 4 (some (.int)) 3 := ⟨kw_61, kw_60, kw_59, by decide +kernel⟩
theorem vlJ5_104 : ax_VL RJ5 104 yJ5_newCapacity_0f7a4 cJ5_newCapacity_0f7a4 6 (some (.int)) 1 := ⟨kw_65, kw_50, kw_64, by decide +kernel⟩
theorem unJ5_104 : ax_UL RJ5 104 RJ4 yJ5_newCapacity_0f7a4 cJ5_newCapacity_0f7a4 6 (some (.int)) 1 := ⟨vlJ5_104, kw_66, kw_67, ax_mN⟩
theorem mlJ7_304 : ax_ML RJ7 304 Lib.Math.min.name Lib.Math.min.code := ⟨kw_68, kw_69, kw_56, kw_70⟩
theorem clJ7_150 : ax_CL RJ7 150 := ⟨kw_71, kw_72, kw_73, kw_74⟩
theorem vlJ5_108 : ax_VL RJ5 108 yJ7_copyOf_9075b cJ7_copyOf_9075b 3 (some (.array .byte)) 2 := ⟨kw_77, kw_76, kw_75, by decide +kernel⟩
theorem vlJ5_100 : ax_VL RJ5 100 yJ5_ensureCapacityInternal_d00df cJ5_ensureCapacityInternal_d00df 3 (none) 1 := ⟨kw_80, kw_50, kw_79, by decide +kernel⟩
theorem unJ5_100 : ax_UL RJ5 100 RJ4 yJ5_ensureCapacityInternal_d00df cJ5_ensureCapacityInternal_d00df 3 (none) 1 := ⟨vlJ5_100, kw_81, kw_82, ax_mE⟩
theorem vlJ5_83 : ax_VL RJ5 83 yJ5_isLatin1_aae02 cJ5_isLatin1_aae02 1 (some (.boolean)) 0 := ⟨kw_84, kw_50, kw_83, by decide +kernel⟩
theorem unJ5_83 : ax_UL RJ5 83 RJ4 yJ5_isLatin1_aae02 cJ5_isLatin1_aae02 1 (some (.boolean)) 0 := ⟨vlJ5_83, kw_85, kw_86, kw_87⟩
theorem flJ5_79_1 : ax_FL RJ5 79 1 3 0 (.int) false := ⟨RJ4, TJ4, 4, tyJ4, rfl, by decide, by decide, by decide, by decide, iwJ4, kw_53, tyJ4_ok, nmJ4, rfl, (fun h => by cases h), rfl⟩
theorem vlJ5_191 : ax_VL RJ5 191 yJ1_canEncode_fc78d cJ1_canEncode_fc78d 1 (some (.boolean)) 1 := ⟨kw_89, kw_39, kw_88, by decide +kernel⟩
theorem vlJ4_50 : ax_VL RJ4 50 yJ5_append_3fe6f cJ5_append_3fe6f 2 (some (.object "java/lang/AbstractStringBuilder")) 1 := ⟨kw_92, kw_50, kw_91, by decide +kernel⟩
theorem suJ4_50 : ax_SL RJ4 50 yJ5_append_3fe6f cJ5_append_3fe6f 2 (some (.object "java/lang/AbstractStringBuilder")) 1 := ⟨vlJ4_50, kw_93, kw_94, kw_95, by decide⟩
theorem vlJ5_245 : ax_VL RJ5 245 yJ6_stringSize_0f7a4 cJ6_stringSize_0f7a4 4 (some (.int)) 1 := ⟨kw_98, kw_97, kw_96, by decide +kernel⟩
theorem vlJ5_248 : ax_VL RJ5 248 yJ6_getChars_ba4f3 cJ6_getChars_ba4f3 7 (some (.int)) 3 := ⟨kw_103, kw_97, kw_102, by decide +kernel⟩
theorem vlJ4_53 : ax_VL RJ4 53 yJ5_append_c97b9 cJ5_append_c97b9 4 (some (.object "java/lang/AbstractStringBuilder")) 1 := ⟨kw_106, kw_50, kw_105, by decide +kernel⟩
theorem suJ4_53 : ax_SL RJ4 53 yJ5_append_c97b9 cJ5_append_c97b9 4 (some (.object "java/lang/AbstractStringBuilder")) 1 := ⟨vlJ4_53, kw_107, kw_108, kw_109, by decide⟩
theorem vlJ4_343 : ax_VL RJ4 343 yJ5_length_8abf5 cJ5_length_8abf5 1 (some (.int)) 0 := ⟨kw_111, kw_50, kw_110, by decide +kernel⟩
theorem suJ4_343 : ax_SL RJ4 343 yJ5_length_8abf5 cJ5_length_8abf5 1 (some (.int)) 0 := ⟨vlJ4_343, kw_112, kw_113, kw_114, by decide⟩
theorem flJ5_73_1 : ax_FL RJ5 73 1 2 0 (.boolean) false := ⟨RJ4, TJ4, 4, tyJ4, rfl, by decide, by decide, by decide, by decide, iwJ4, kw_115, tyJ4_ok, nmJ4, rfl, (fun h => by cases h), rfl⟩
theorem vlJ4_333 : ax_VL RJ4 333 yJ5_setLength_d00df cJ5_setLength_d00df 2 (none) 1 := ⟨kw_117, kw_50, kw_116, by decide +kernel⟩
theorem suJ4_333 : ax_SL RJ4 333 yJ5_setLength_d00df cJ5_setLength_d00df 2 (none) 1 := ⟨vlJ4_333, kw_118, kw_119, kw_120, by decide⟩
theorem mlJ5_138 : ax_ML RJ5 138 Lib.Math.min.name Lib.Math.min.code := ⟨kw_121, kw_69, kw_56, kw_70⟩
theorem vlJ5_144 : ax_VL RJ5 144 yJ0_checkIndex_df160 cJ0_checkIndex_df160 2 (none) 2 := ⟨kw_122, kw_22, kw_35, by decide +kernel⟩
theorem vlJ4_329 : ax_VL RJ4 329 yJ5_charAt_5068e cJ5_charAt_5068e 5 (some (.char)) 1 := ⟨kw_124, kw_50, kw_123, by decide +kernel⟩
theorem suJ4_329 : ax_SL RJ4 329 yJ5_charAt_5068e cJ5_charAt_5068e 5 (some (.char)) 1 := ⟨vlJ4_329, kw_125, kw_126, kw_127, by decide⟩
theorem flX1_9_5 : ax_FL RX1 9 5 8 2 (.array .boolean) true := ⟨RX1, TX1, 11, tyX1, rfl, by decide, by decide, by decide, by decide, iwX1, kw_130, tyX1_ok, nmX1, rfl, (fun h => rfl), rfl⟩
theorem flX1_15_5 : ax_FL RX1 15 5 9 2 (.array .int) true := ⟨RX1, TX1, 11, tyX1, rfl, by decide, by decide, by decide, by decide, iwX1, kw_132, tyX1_ok, nmX1, rfl, (fun h => rfl), rfl⟩
theorem flX1_19_5 : ax_FL RX1 19 5 10 2 (.array .int) true := ⟨RX1, TX1, 11, tyX1, rfl, by decide, by decide, by decide, by decide, iwX1, kw_133, tyX1_ok, nmX1, rfl, (fun h => rfl), rfl⟩
theorem frX1_22_5 : ax_FR RX1 22 5 7 0 := ⟨RX1, TX1, 11, rfl, by decide, by decide, by decide, iwX1, kw_134⟩
theorem frX1_9_5 : ax_FR RX1 9 5 8 2 := ⟨RX1, TX1, 11, rfl, by decide, by decide, by decide, iwX1, kw_130⟩
theorem frX1_15_5 : ax_FR RX1 15 5 9 2 := ⟨RX1, TX1, 11, rfl, by decide, by decide, by decide, iwX1, kw_132⟩
theorem frX1_19_5 : ax_FR RX1 19 5 10 2 := ⟨RX1, TX1, 11, rfl, by decide, by decide, by decide, iwX1, kw_133⟩
theorem flX1_22_5 : ax_FL RX1 22 5 7 0 (.int) false := ⟨RX1, TX1, 11, tyX1, rfl, by decide, by decide, by decide, by decide, iwX1, kw_134, tyX1_ok, nmX1, rfl, (fun h => by cases h), rfl⟩
theorem vlX1_26 : ax_VL RX1 26 yX1_isAhead cX1_isAhead 3 (some (.boolean)) 2 := ⟨kw_136, kw_4, kw_135, by decide +kernel⟩
theorem viX1_isAhead : ax_VI yX1_isAhead := ⟨kw_137, kw_138⟩
theorem flX3_11_7 : ax_FL RX3 11 7 0 2 (.array .int) true := ⟨RX3, TX3, 10, tyX3, rfl, by decide, by decide, by decide, by decide, iwX3, kw_140, tyX3_ok, nmX3, rfl, (fun h => rfl), rfl⟩
theorem flX3_15_7 : ax_FL RX3 15 7 3 2 (.array .long) true := ⟨RX3, TX3, 10, tyX3, rfl, by decide, by decide, by decide, by decide, iwX3, kw_142, tyX3_ok, nmX3, rfl, (fun h => rfl), rfl⟩
theorem flX3_19_7 : ax_FL RX3 19 7 6 2 (.array .int) true := ⟨RX3, TX3, 10, tyX3, rfl, by decide, by decide, by decide, by decide, iwX3, kw_143, tyX3_ok, nmX3, rfl, (fun h => rfl), rfl⟩
theorem flX3_22_7 : ax_FL RX3 22 7 7 0 (.int) false := ⟨RX3, TX3, 10, tyX3, rfl, by decide, by decide, by decide, by decide, iwX3, kw_144, tyX3_ok, nmX3, rfl, (fun h => by cases h), rfl⟩
theorem flX3_44_7 : ax_FL RX3 44 7 1 0 (.int) false := ⟨RX3, TX3, 10, tyX3, rfl, by decide, by decide, by decide, by decide, iwX3, kw_145, tyX3_ok, nmX3, rfl, (fun h => by cases h), rfl⟩
theorem flX3_47_7 : ax_FL RX3 47 7 2 0 (.int) false := ⟨RX3, TX3, 10, tyX3, rfl, by decide, by decide, by decide, by decide, iwX3, kw_146, tyX3_ok, nmX3, rfl, (fun h => by cases h), rfl⟩
theorem vlX3_26 : ax_VL RX3 26 yX3_dropBlocks cX3_dropBlocks 1 (none) 0 := ⟨kw_148, kw_8, kw_147, by decide +kernel⟩
theorem viX3_dropBlocks : ax_VI yX3_dropBlocks := ⟨kw_149, kw_150⟩
theorem flX3_50_7 : ax_FL RX3 50 7 4 0 (.int) false := ⟨RX3, TX3, 10, tyX3, rfl, by decide, by decide, by decide, by decide, iwX3, kw_151, tyX3_ok, nmX3, rfl, (fun h => by cases h), rfl⟩
theorem flX3_53_7 : ax_FL RX3 53 7 5 0 (.int) false := ⟨RX3, TX3, 10, tyX3, rfl, by decide, by decide, by decide, by decide, iwX3, kw_152, tyX3_ok, nmX3, rfl, (fun h => by cases h), rfl⟩
theorem frX3_19_7 : ax_FR RX3 19 7 6 2 := ⟨RX3, TX3, 10, rfl, by decide, by decide, by decide, iwX3, kw_143⟩
theorem vlX3_29 : ax_VL RX3 29 yX3_dropPieces cX3_dropPieces 2 (none) 0 := ⟨kw_154, kw_8, kw_153, by decide +kernel⟩
theorem viX3_dropPieces : ax_VI yX3_dropPieces := ⟨kw_155, kw_156⟩
theorem flX3_32_7 : ax_FL RX3 32 7 8 0 (.int) false := ⟨RX3, TX3, 10, tyX3, rfl, by decide, by decide, by decide, by decide, iwX3, kw_157, tyX3_ok, nmX3, rfl, (fun h => by cases h), rfl⟩
theorem flX3_35_7 : ax_FL RX3 35 7 9 0 (.int) false := ⟨RX3, TX3, 10, tyX3, rfl, by decide, by decide, by decide, by decide, iwX3, kw_158, tyX3_ok, nmX3, rfl, (fun h => by cases h), rfl⟩
theorem frX3_11_7 : ax_FR RX3 11 7 0 2 := ⟨RX3, TX3, 10, rfl, by decide, by decide, by decide, iwX3, kw_140⟩
theorem clX3_38 : ax_CL RX3 38 := ⟨kw_159, kw_72, kw_73, kw_74⟩
theorem frX3_44_7 : ax_FR RX3 44 7 1 0 := ⟨RX3, TX3, 10, rfl, by decide, by decide, by decide, iwX3, kw_145⟩
theorem frX3_47_7 : ax_FR RX3 47 7 2 0 := ⟨RX3, TX3, 10, rfl, by decide, by decide, by decide, iwX3, kw_146⟩
theorem frX3_15_7 : ax_FR RX3 15 7 3 2 := ⟨RX3, TX3, 10, rfl, by decide, by decide, by decide, iwX3, kw_142⟩
theorem frX3_50_7 : ax_FR RX3 50 7 4 0 := ⟨RX3, TX3, 10, rfl, by decide, by decide, by decide, iwX3, kw_151⟩
theorem frX3_53_7 : ax_FR RX3 53 7 5 0 := ⟨RX3, TX3, 10, rfl, by decide, by decide, by decide, iwX3, kw_152⟩
theorem frX3_22_7 : ax_FR RX3 22 7 7 0 := ⟨RX3, TX3, 10, rfl, by decide, by decide, by decide, iwX3, kw_144⟩
theorem frX3_32_7 : ax_FR RX3 32 7 8 0 := ⟨RX3, TX3, 10, rfl, by decide, by decide, by decide, iwX3, kw_157⟩
theorem frX3_35_7 : ax_FR RX3 35 7 9 0 := ⟨RX3, TX3, 10, rfl, by decide, by decide, by decide, iwX3, kw_158⟩
theorem frX3_56_5 : ax_FR RX3 56 5 0 0 := ⟨RX1, TX1, 11, rfl, by decide, by decide, by decide, iwX1, kw_160⟩
theorem vlX3_61 : ax_VL RX3 61 yX3_roomIn cX3_roomIn 2 (some (.int)) 1 := ⟨kw_162, kw_8, kw_161, by decide +kernel⟩
theorem viX3_roomIn : ax_VI yX3_roomIn := ⟨kw_163, kw_164⟩
theorem vlX3_65 : ax_VL RX3 65 yX3_hasQuoin cX3_hasQuoin 1 (some (.boolean)) 0 := ⟨kw_166, kw_8, kw_165, by decide +kernel⟩
theorem viX3_hasQuoin : ax_VI yX3_hasQuoin := ⟨kw_167, kw_168⟩
theorem frX3_69_5 : ax_FR RX3 69 5 2 0 := ⟨RX1, TX1, 11, rfl, by decide, by decide, by decide, iwX1, kw_169⟩
theorem vlX3_72 : ax_VL RX3 72 yX3_gapIn cX3_gapIn 2 (some (.int)) 1 := ⟨kw_171, kw_8, kw_170, by decide +kernel⟩
theorem viX3_gapIn : ax_VI yX3_gapIn := ⟨kw_172, kw_173⟩
theorem frX3_75_5 : ax_FR RX3 75 5 4 0 := ⟨RX1, TX1, 11, rfl, by decide, by decide, by decide, iwX1, kw_174⟩
theorem frX3_78_5 : ax_FR RX3 78 5 5 0 := ⟨RX1, TX1, 11, rfl, by decide, by decide, by decide, iwX1, kw_175⟩
theorem frX3_84_5 : ax_FR RX3 84 5 7 0 := ⟨RX1, TX1, 11, rfl, by decide, by decide, by decide, iwX1, kw_176⟩
theorem frX3_87_5 : ax_FR RX3 87 5 8 2 := ⟨RX1, TX1, 11, rfl, by decide, by decide, by decide, iwX1, kw_177⟩
theorem vlX3_81 : ax_VL RX3 81 yX3_woodIn cX3_woodIn 4 (some (.int)) 1 := ⟨kw_179, kw_8, kw_178, by decide +kernel⟩
theorem viX3_woodIn : ax_VI yX3_woodIn := ⟨kw_180, kw_181⟩
theorem vlX3_91 : ax_VL RX3 91 yX3_blockAt cX3_blockAt 2 (some (.int)) 1 := ⟨kw_183, kw_8, kw_182, by decide +kernel⟩
theorem viX3_blockAt : ax_VI yX3_blockAt := ⟨kw_184, kw_185⟩
theorem vlX3_99 : ax_VL RX3 99 yX3_setPiece cX3_setPiece 6 (none) 2 := ⟨kw_189, kw_8, kw_188, by decide +kernel⟩
theorem viX3_setPiece : ax_VI yX3_setPiece := ⟨kw_190, kw_191⟩
theorem frX3_103_5 : ax_FR RX3 103 5 9 2 := ⟨RX1, TX1, 11, rfl, by decide, by decide, by decide, iwX1, kw_192⟩
theorem vlX3_106 : ax_VL RX3 106 yX3_pieceAt cX3_pieceAt 3 (some (.int)) 1 := ⟨kw_194, kw_8, kw_193, by decide +kernel⟩
theorem viX3_pieceAt : ax_VI yX3_pieceAt := ⟨kw_195, kw_196⟩
theorem flX0_11_4 : ax_FL RX0 11 4 0 2 (.array (.object "ChaseLocker$State")) true := ⟨RX0, TX0, 3, tyX0, rfl, by decide, by decide, by decide, by decide, iwX0, kw_199, tyX0_ok, nmX0, rfl, (fun h => rfl), rfl⟩
theorem frX0_11_4 : ax_FR RX0 11 4 0 2 := ⟨RX0, TX0, 3, rfl, by decide, by decide, by decide, iwX0, kw_199⟩
theorem flX5_11_9 : ax_FL RX5 11 9 0 2 (.array (.object "ChaseLocker$Row")) true := ⟨RX5, TX5, 8, tyX5, rfl, by decide, by decide, by decide, by decide, iwX5, kw_202, tyX5_ok, nmX5, rfl, (fun h => rfl), rfl⟩
theorem flX5_17_9 : ax_FL RX5 17 9 1 2 (.array .int) true := ⟨RX5, TX5, 8, tyX5, rfl, by decide, by decide, by decide, by decide, iwX5, kw_203, tyX5_ok, nmX5, rfl, (fun h => rfl), rfl⟩
theorem frX5_11_9 : ax_FR RX5 11 9 0 2 := ⟨RX5, TX5, 8, rfl, by decide, by decide, by decide, iwX5, kw_202⟩
theorem nlX5_21 : ax_NL RX5 21 yX3_init cX3_init 1 0 := ⟨by unfold ax_nests; simp, kw_8, kw_204, by decide +kernel⟩
theorem vlX0_17 : ax_VL RX0 17 yX5_init cX5_init 2 (none) 0 := ⟨kw_208, kw_12, kw_206, by decide +kernel⟩
theorem flX0_18_4 : ax_FL RX0 18 4 2 0 (.int) false := ⟨RX0, TX0, 3, tyX0, rfl, by decide, by decide, by decide, by decide, iwX0, kw_209, tyX0_ok, nmX0, rfl, (fun h => by cases h), rfl⟩
theorem frX0_22_4 : ax_FR RX0 22 4 1 0 := ⟨RX0, TX0, 3, rfl, by decide, by decide, by decide, iwX0, kw_210⟩
theorem frX5_17_9 : ax_FR RX5 17 9 1 2 := ⟨RX5, TX5, 8, rfl, by decide, by decide, by decide, iwX5, kw_203⟩
theorem clX5_48 : ax_CL RX5 48 := ⟨kw_211, kw_72, kw_73, kw_74⟩
theorem frX5_25_9 : ax_FR RX5 25 9 2 0 := ⟨RX5, TX5, 8, rfl, by decide, by decide, by decide, iwX5, kw_212⟩
theorem flX5_25_9 : ax_FL RX5 25 9 2 0 (.int) false := ⟨RX5, TX5, 8, tyX5, rfl, by decide, by decide, by decide, by decide, iwX5, kw_212, tyX5_ok, nmX5, rfl, (fun h => by cases h), rfl⟩
theorem frX5_29_9 : ax_FR RX5 29 9 3 0 := ⟨RX5, TX5, 8, rfl, by decide, by decide, by decide, iwX5, kw_213⟩
theorem flX5_29_9 : ax_FL RX5 29 9 3 0 (.int) false := ⟨RX5, TX5, 8, tyX5, rfl, by decide, by decide, by decide, by decide, iwX5, kw_213, tyX5_ok, nmX5, rfl, (fun h => by cases h), rfl⟩
theorem frX5_32_9 : ax_FR RX5 32 9 4 0 := ⟨RX5, TX5, 8, rfl, by decide, by decide, by decide, iwX5, kw_214⟩
theorem flX5_32_9 : ax_FL RX5 32 9 4 0 (.int) false := ⟨RX5, TX5, 8, tyX5, rfl, by decide, by decide, by decide, by decide, iwX5, kw_214, tyX5_ok, nmX5, rfl, (fun h => by cases h), rfl⟩
theorem frX5_35_9 : ax_FR RX5 35 9 5 0 := ⟨RX5, TX5, 8, rfl, by decide, by decide, by decide, iwX5, kw_215⟩
theorem flX5_35_9 : ax_FL RX5 35 9 5 0 (.int) false := ⟨RX5, TX5, 8, tyX5, rfl, by decide, by decide, by decide, by decide, iwX5, kw_215, tyX5_ok, nmX5, rfl, (fun h => by cases h), rfl⟩
theorem frX5_38_9 : ax_FR RX5 38 9 6 0 := ⟨RX5, TX5, 8, rfl, by decide, by decide, by decide, iwX5, kw_216⟩
theorem flX5_38_9 : ax_FL RX5 38 9 6 0 (.int) false := ⟨RX5, TX5, 8, tyX5, rfl, by decide, by decide, by decide, by decide, iwX5, kw_216, tyX5_ok, nmX5, rfl, (fun h => by cases h), rfl⟩
theorem frX5_41_9 : ax_FR RX5 41 9 7 0 := ⟨RX5, TX5, 8, rfl, by decide, by decide, by decide, iwX5, kw_217⟩
theorem flX5_41_9 : ax_FL RX5 41 9 7 0 (.int) false := ⟨RX5, TX5, 8, tyX5, rfl, by decide, by decide, by decide, by decide, iwX5, kw_217, tyX5_ok, nmX5, rfl, (fun h => by cases h), rfl⟩
theorem vlX5_44 : ax_VL RX5 44 yX3_copyFrom cX3_copyFrom 2 (none) 1 := ⟨kw_219, kw_8, kw_218, by decide +kernel⟩
theorem viX3_copyFrom : ax_VI yX3_copyFrom := ⟨kw_220, kw_221⟩
theorem vlX0_25 : ax_VL RX0 25 yX5_copyFrom cX5_copyFrom 3 (none) 1 := ⟨kw_223, kw_12, kw_222, by decide +kernel⟩
theorem viX5_copyFrom : ax_VI yX5_copyFrom := ⟨kw_224, kw_225⟩
theorem flX0_22_4 : ax_FL RX0 22 4 1 0 (.int) false := ⟨RX0, TX0, 3, tyX0, rfl, by decide, by decide, by decide, by decide, iwX0, kw_210, tyX0_ok, nmX0, rfl, (fun h => by cases h), rfl⟩
theorem frX0_18_4 : ax_FR RX0 18 4 2 0 := ⟨RX0, TX0, 3, rfl, by decide, by decide, by decide, iwX0, kw_209⟩
theorem mlX0_29 : ax_ML RX0 29 Lib.Math.min.name Lib.Math.min.code := ⟨kw_226, kw_69, kw_56, kw_70⟩
theorem vlX5_22 : ax_VL RX5 22 yX3_clear cX3_clear 1 (none) 0 := ⟨kw_228, kw_8, kw_227, by decide +kernel⟩
theorem viX3_clear : ax_VI yX3_clear := ⟨kw_229, kw_230⟩
theorem frX5_54_7 : ax_FR RX5 54 7 1 0 := ⟨RX3, TX3, 10, rfl, by decide, by decide, by decide, iwX3, kw_231⟩
theorem frX5_57_7 : ax_FR RX5 57 7 4 0 := ⟨RX3, TX3, 10, rfl, by decide, by decide, by decide, iwX3, kw_232⟩
theorem frX5_60_7 : ax_FR RX5 60 7 6 2 := ⟨RX3, TX3, 10, rfl, by decide, by decide, by decide, iwX3, kw_233⟩
theorem vlX5_63 : ax_VL RX5 63 yX3_isTightIn cX3_isTightIn 2 (some (.boolean)) 1 := ⟨kw_235, kw_8, kw_234, by decide +kernel⟩
theorem viX3_isTightIn : ax_VI yX3_isTightIn := ⟨kw_236, kw_237⟩
theorem vlX5_67 : ax_VL RX5 67 yX3_hasQuoin cX3_hasQuoin 1 (some (.boolean)) 0 := ⟨kw_238, kw_8, kw_165, by decide +kernel⟩
theorem flX5_71_7 : ax_FL RX5 71 7 7 0 (.int) false := ⟨RX3, TX3, 10, tyX3, rfl, by decide, by decide, by decide, by decide, iwX3, kw_239, tyX3_ok, nmX3, rfl, (fun h => by cases h), rfl⟩
theorem flX5_74_7 : ax_FL RX5 74 7 8 0 (.int) false := ⟨RX3, TX3, 10, tyX3, rfl, by decide, by decide, by decide, by decide, iwX3, kw_240, tyX3_ok, nmX3, rfl, (fun h => by cases h), rfl⟩
theorem vlX5_77 : ax_VL RX5 77 yX3_addPiece cX3_addPiece 3 (none) 2 := ⟨kw_242, kw_8, kw_241, by decide +kernel⟩
theorem viX3_addPiece : ax_VI yX3_addPiece := ⟨kw_243, kw_244⟩
theorem vlX5_81 : ax_VL RX5 81 yX3_removePiece cX3_removePiece 5 (some (.int)) 2 := ⟨kw_246, kw_8, kw_245, by decide +kernel⟩
theorem viX3_removePiece : ax_VI yX3_removePiece := ⟨kw_247, kw_248⟩
theorem frX5_85_5 : ax_FR RX5 85 5 7 0 := ⟨RX1, TX1, 11, rfl, by decide, by decide, by decide, iwX1, kw_249⟩
theorem frX5_102_8 : ax_FR RX5 102 8 7 0 := ⟨RX4, TX4, 8, rfl, by decide, by decide, by decide, iwX4, kw_250⟩
theorem flX5_107_7 : ax_FL RX5 107 7 9 0 (.int) false := ⟨RX3, TX3, 10, tyX3, rfl, by decide, by decide, by decide, by decide, iwX3, kw_251, tyX3_ok, nmX3, rfl, (fun h => by cases h), rfl⟩
theorem vlX5_103 : ax_VL RX5 103 yX5_setQuoin cX5_setQuoin 3 (none) 2 := ⟨kw_253, kw_12, kw_252, by decide +kernel⟩
theorem viX5_setQuoin : ax_VI yX5_setQuoin := ⟨kw_254, kw_255⟩
theorem frX5_90_5 : ax_FR RX5 90 5 10 2 := ⟨RX1, TX1, 11, rfl, by decide, by decide, by decide, iwX1, kw_256⟩
theorem frX5_93_8 : ax_FR RX5 93 8 4 2 := ⟨RX4, TX4, 8, rfl, by decide, by decide, by decide, iwX4, kw_257⟩
theorem vlX5_98 : ax_VL RX5 98 yX5_movePieceIn cX5_movePieceIn 4 (none) 3 := ⟨kw_259, kw_12, kw_258, by decide +kernel⟩
theorem viX5_movePieceIn : ax_VI yX5_movePieceIn := ⟨kw_260, kw_261⟩
theorem vlX5_110 : ax_VL RX5 110 yX3_dropPieces cX3_dropPieces 2 (none) 0 := ⟨kw_262, kw_8, kw_153, by decide +kernel⟩
theorem vlX5_113 : ax_VL RX5 113 yX5_removeQuoin cX5_removeQuoin 2 (none) 1 := ⟨kw_264, kw_12, kw_263, by decide +kernel⟩
theorem viX5_removeQuoin : ax_VI yX5_removeQuoin := ⟨kw_265, kw_266⟩
theorem vlX5_133 : ax_VL RX5 133 yX3_loosenessIn cX3_loosenessIn 2 (some (.int)) 1 := ⟨kw_268, kw_8, kw_267, by decide +kernel⟩
theorem viX3_loosenessIn : ax_VI yX3_loosenessIn := ⟨kw_269, kw_270⟩
theorem frX5_136_5 : ax_FR RX5 136 5 6 0 := ⟨RX1, TX1, 11, rfl, by decide, by decide, by decide, iwX1, kw_271⟩
theorem vlX5_139 : ax_VL RX5 139 yX3_dropBlocks cX3_dropBlocks 1 (none) 0 := ⟨kw_272, kw_8, kw_147, by decide +kernel⟩
theorem vlX5_142 : ax_VL RX5 142 yX5_empty cX5_empty 4 (none) 1 := ⟨kw_274, kw_12, kw_273, by decide +kernel⟩
theorem viX5_empty : ax_VI yX5_empty := ⟨kw_275, kw_276⟩
theorem vlX5_124 : ax_VL RX5 124 yX5_dropLooseRows cX5_dropLooseRows 4 (some (.int)) 1 := ⟨kw_278, kw_12, kw_277, by decide +kernel⟩
theorem viX5_dropLooseRows : ax_VI yX5_dropLooseRows := ⟨kw_279, kw_280⟩
theorem vlX5_146 : ax_VL RX5 146 yX3_isFirmIn cX3_isFirmIn 2 (some (.boolean)) 1 := ⟨kw_282, kw_8, kw_281, by decide +kernel⟩
theorem viX3_isFirmIn : ax_VI yX3_isFirmIn := ⟨kw_283, kw_284⟩
theorem vlX5_127 : ax_VL RX5 127 yX5_isFirm cX5_isFirm 3 (some (.boolean)) 1 := ⟨kw_286, kw_12, kw_285, by decide +kernel⟩
theorem viX5_isFirm : ax_VI yX5_isFirm := ⟨kw_287, kw_288⟩
theorem frX5_107_7 : ax_FR RX5 107 7 9 0 := ⟨RX3, TX3, 10, rfl, by decide, by decide, by decide, iwX3, kw_251⟩
theorem vlX5_120 : ax_VL RX5 120 yX3_growthInImpression cX3_growthInImpression 2 (some (.int)) 1 := ⟨kw_290, kw_8, kw_289, by decide +kernel⟩
theorem viX3_growthInImpression : ax_VI yX3_growthInImpression := ⟨kw_291, kw_292⟩
theorem vlX5_116 : ax_VL RX5 116 yX5_impress cX5_impress 3 (none) 1 := ⟨kw_294, kw_12, kw_293, by decide +kernel⟩
theorem viX5_impress : ax_VI yX5_impress := ⟨kw_295, kw_296⟩
theorem vlX5_130 : ax_VL RX5 130 yX3_growthInDay cX3_growthInDay 2 (some (.int)) 1 := ⟨kw_298, kw_8, kw_297, by decide +kernel⟩
theorem viX3_growthInDay : ax_VI yX3_growthInDay := ⟨kw_299, kw_300⟩
theorem flX4_11_8 : ax_FL RX4 11 8 0 2 (.array (.array .int)) true := ⟨RX4, TX4, 8, tyX4, rfl, by decide, by decide, by decide, by decide, iwX4, kw_303, tyX4_ok, nmX4, rfl, (fun h => rfl), rfl⟩
theorem flX4_16_8 : ax_FL RX4 16 8 1 2 (.array .int) true := ⟨RX4, TX4, 8, tyX4, rfl, by decide, by decide, by decide, by decide, iwX4, kw_304, tyX4_ok, nmX4, rfl, (fun h => rfl), rfl⟩
theorem flX4_20_8 : ax_FL RX4 20 8 2 2 (.array .int) true := ⟨RX4, TX4, 8, tyX4, rfl, by decide, by decide, by decide, by decide, iwX4, kw_305, tyX4_ok, nmX4, rfl, (fun h => rfl), rfl⟩
theorem flX4_23_8 : ax_FL RX4 23 8 3 2 (.array .int) true := ⟨RX4, TX4, 8, tyX4, rfl, by decide, by decide, by decide, by decide, iwX4, kw_306, tyX4_ok, nmX4, rfl, (fun h => rfl), rfl⟩
theorem flX4_26_8 : ax_FL RX4 26 8 4 2 (.array .int) true := ⟨RX4, TX4, 8, tyX4, rfl, by decide, by decide, by decide, by decide, iwX4, kw_307, tyX4_ok, nmX4, rfl, (fun h => rfl), rfl⟩
theorem frX4_29_9 : ax_FR RX4 29 9 1 2 := ⟨RX5, TX5, 8, rfl, by decide, by decide, by decide, iwX5, kw_308⟩
theorem frX4_23_8 : ax_FR RX4 23 8 3 2 := ⟨RX4, TX4, 8, rfl, by decide, by decide, by decide, iwX4, kw_306⟩
theorem clX4_34 : ax_CL RX4 34 := ⟨kw_309, kw_72, kw_73, kw_74⟩
theorem frX4_11_8 : ax_FR RX4 11 8 0 2 := ⟨RX4, TX4, 8, rfl, by decide, by decide, by decide, iwX4, kw_303⟩
theorem frX4_40_5 : ax_FR RX4 40 5 7 0 := ⟨RX1, TX1, 11, rfl, by decide, by decide, by decide, iwX1, kw_310⟩
theorem frX4_51_5 : ax_FR RX4 51 5 10 2 := ⟨RX1, TX1, 11, rfl, by decide, by decide, by decide, iwX1, kw_311⟩
theorem frX4_54_5 : ax_FR RX4 54 5 0 0 := ⟨RX1, TX1, 11, rfl, by decide, by decide, by decide, iwX1, kw_312⟩
theorem frX4_57_5 : ax_FR RX4 57 5 9 2 := ⟨RX1, TX1, 11, rfl, by decide, by decide, by decide, iwX1, kw_313⟩
theorem mlX4_64 : ax_ML RX4 64 Lib.Math.min.name Lib.Math.min.code := ⟨kw_314, kw_69, kw_56, kw_70⟩
theorem vlX4_70 : ax_VL RX4 70 yX4_addBundle cX4_addBundle 6 (none) 4 := ⟨kw_316, kw_10, kw_315, by decide +kernel⟩
theorem vlX4_60 : ax_VL RX4 60 yX4_addKind cX4_addKind 7 (none) 4 := ⟨kw_319, kw_10, kw_318, by decide +kernel⟩
theorem vlX4_47 : ax_VL RX4 47 yX4_studyFrom cX4_studyFrom 5 (none) 2 := ⟨kw_322, kw_10, kw_321, by decide +kernel⟩
theorem viX4_studyFrom : ax_VI yX4_studyFrom := ⟨kw_323, kw_324⟩
theorem flX4_73_8 : ax_FL RX4 73 8 5 0 (.int) false := ⟨RX4, TX4, 8, tyX4, rfl, by decide, by decide, by decide, by decide, iwX4, kw_326, tyX4_ok, nmX4, rfl, (fun h => by cases h), rfl⟩
theorem vlX4_90 : ax_VL RX4 90 yX4_canMake cX4_canMake 2 (some (.boolean)) 1 := ⟨kw_328, kw_10, kw_327, by decide +kernel⟩
theorem viX4_canMake : ax_VI yX4_canMake := ⟨kw_329, kw_330⟩
theorem frX4_73_8 : ax_FR RX4 73 8 5 0 := ⟨RX4, TX4, 8, rfl, by decide, by decide, by decide, iwX4, kw_326⟩
theorem flX4_94_8 : ax_FL RX4 94 8 6 0 (.int) false := ⟨RX4, TX4, 8, tyX4, rfl, by decide, by decide, by decide, by decide, iwX4, kw_331, tyX4_ok, nmX4, rfl, (fun h => by cases h), rfl⟩
theorem flX4_97_8 : ax_FL RX4 97 8 7 0 (.int) false := ⟨RX4, TX4, 8, tyX4, rfl, by decide, by decide, by decide, by decide, iwX4, kw_332, tyX4_ok, nmX4, rfl, (fun h => by cases h), rfl⟩
theorem vlX4_82 : ax_VL RX4 82 yX4_chooseIfFewer cX4_chooseIfFewer 3 (none) 2 := ⟨kw_334, kw_10, kw_333, by decide +kernel⟩
theorem viX4_chooseIfFewer : ax_VI yX4_chooseIfFewer := ⟨kw_335, kw_336⟩
theorem frX4_94_8 : ax_FR RX4 94 8 6 0 := ⟨RX4, TX4, 8, rfl, by decide, by decide, by decide, iwX4, kw_331⟩
theorem frX4_26_8 : ax_FR RX4 26 8 4 2 := ⟨RX4, TX4, 8, rfl, by decide, by decide, by decide, iwX4, kw_307⟩
theorem vlX4_100 : ax_VL RX4 100 yX4_mostAt cX4_mostAt 6 (some (.int)) 4 := ⟨kw_338, kw_10, kw_337, by decide +kernel⟩
theorem viX4_mostAt : ax_VI yX4_mostAt := ⟨kw_339, kw_340⟩
theorem vlX4_86 : ax_VL RX4 86 yX4_takeLongestFirst cX4_takeLongestFirst 5 (none) 1 := ⟨kw_342, kw_10, kw_341, by decide +kernel⟩
theorem viX4_takeLongestFirst : ax_VI yX4_takeLongestFirst := ⟨kw_343, kw_344⟩
theorem frX4_76_5 : ax_FR RX4 76 5 3 0 := ⟨RX1, TX1, 11, rfl, by decide, by decide, by decide, iwX1, kw_345⟩
theorem frX4_79_5 : ax_FR RX4 79 5 2 0 := ⟨RX1, TX1, 11, rfl, by decide, by decide, by decide, iwX1, kw_346⟩
theorem frX4_104_5 : ax_FR RX4 104 5 8 2 := ⟨RX1, TX1, 11, rfl, by decide, by decide, by decide, iwX1, kw_347⟩
theorem vlX4_108 : ax_VL RX4 108 yX4_choose cX4_choose 5 (some (.boolean)) 3 := ⟨kw_349, kw_10, kw_348, by decide +kernel⟩
theorem viX4_choose : ax_VI yX4_choose := ⟨kw_350, kw_351⟩
theorem frX4_16_8 : ax_FR RX4 16 8 1 2 := ⟨RX4, TX4, 8, rfl, by decide, by decide, by decide, iwX4, kw_304⟩
theorem frX4_20_8 : ax_FR RX4 20 8 2 2 := ⟨RX4, TX4, 8, rfl, by decide, by decide, by decide, iwX4, kw_305⟩
theorem vlX4_120 : ax_VL RX4 120 yX4_addWays cX4_addWays 6 (none) 2 := ⟨kw_354, kw_10, kw_353, by decide +kernel⟩
theorem viX4_addWays : ax_VI yX4_addWays := ⟨kw_355, kw_356⟩
theorem vlX4_112 : ax_VL RX4 112 yX4_studyWays cX4_studyWays 3 (none) 1 := ⟨kw_358, kw_10, kw_357, by decide +kernel⟩
theorem viX4_studyWays : ax_VI yX4_studyWays := ⟨kw_359, kw_360⟩
theorem vlX4_115 : ax_VL RX4 115 yX4_waysOf cX4_waysOf 2 (some (.int)) 1 := ⟨kw_362, kw_10, kw_361, by decide +kernel⟩
theorem viX4_waysOf : ax_VI yX4_waysOf := ⟨kw_363, kw_364⟩
theorem flX2_9_6 : ax_FL RX2 9 6 0 2 (.array .int) true := ⟨RX2, TX2, 9, tyX2, rfl, by decide, by decide, by decide, by decide, iwX2, kw_366, tyX2_ok, nmX2, rfl, (fun h => rfl), rfl⟩
theorem flX2_15_6 : ax_FL RX2 15 6 1 2 (.array .boolean) true := ⟨RX2, TX2, 9, tyX2, rfl, by decide, by decide, by decide, by decide, iwX2, kw_367, tyX2_ok, nmX2, rfl, (fun h => rfl), rfl⟩
theorem flX2_19_6 : ax_FL RX2 19 6 4 0 (.int) false := ⟨RX2, TX2, 9, tyX2, rfl, by decide, by decide, by decide, by decide, iwX2, kw_368, tyX2_ok, nmX2, rfl, (fun h => by cases h), rfl⟩
theorem frX2_23_6 : ax_FR RX2 23 6 2 0 := ⟨RX2, TX2, 9, rfl, by decide, by decide, by decide, iwX2, kw_369⟩
theorem frX2_9_6 : ax_FR RX2 9 6 0 2 := ⟨RX2, TX2, 9, rfl, by decide, by decide, by decide, iwX2, kw_366⟩
theorem flX2_23_6 : ax_FL RX2 23 6 2 0 (.int) false := ⟨RX2, TX2, 9, tyX2, rfl, by decide, by decide, by decide, by decide, iwX2, kw_369, tyX2_ok, nmX2, rfl, (fun h => by cases h), rfl⟩
theorem vlX2_26 : ax_VL RX2 26 yX2_addWord cX2_addWord 3 (none) 1 := ⟨kw_371, kw_6, kw_370, by decide +kernel⟩
theorem viX2_addWord : ax_VI yX2_addWord := ⟨kw_372, kw_373⟩
theorem mlX2_66 : ax_ML RX2 66 Lib.Math.min.name Lib.Math.min.code := ⟨kw_374, kw_69, kw_56, kw_70⟩
theorem flX2_72_6 : ax_FL RX2 72 6 5 0 (.int) false := ⟨RX2, TX2, 9, tyX2, rfl, by decide, by decide, by decide, by decide, iwX2, kw_375, tyX2_ok, nmX2, rfl, (fun h => by cases h), rfl⟩
theorem flX2_47_6 : ax_FL RX2 47 6 3 0 (.int) false := ⟨RX2, TX2, 9, tyX2, rfl, by decide, by decide, by decide, by decide, iwX2, kw_376, tyX2_ok, nmX2, rfl, (fun h => by cases h), rfl⟩
theorem flX2_75_6 : ax_FL RX2 75 6 8 0 (.int) false := ⟨RX2, TX2, 9, tyX2, rfl, by decide, by decide, by decide, by decide, iwX2, kw_377, tyX2_ok, nmX2, rfl, (fun h => by cases h), rfl⟩
theorem frX2_75_6 : ax_FR RX2 75 6 8 0 := ⟨RX2, TX2, 9, rfl, by decide, by decide, by decide, iwX2, kw_377⟩
theorem flX2_59_6 : ax_FL RX2 59 6 7 0 (.int) false := ⟨RX2, TX2, 9, tyX2, rfl, by decide, by decide, by decide, by decide, iwX2, kw_378, tyX2_ok, nmX2, rfl, (fun h => by cases h), rfl⟩
theorem frX2_59_6 : ax_FR RX2 59 6 7 0 := ⟨RX2, TX2, 9, rfl, by decide, by decide, by decide, iwX2, kw_378⟩
theorem frX2_72_6 : ax_FR RX2 72 6 5 0 := ⟨RX2, TX2, 9, rfl, by decide, by decide, by decide, iwX2, kw_375⟩
theorem vlX2_170 : ax_VL RX2 170 yX2_isBetween cX2_isBetween 4 (some (.boolean)) 3 := ⟨kw_380, kw_6, kw_379, by decide +kernel⟩
theorem viX2_isBetween : ax_VI yX2_isBetween := ⟨kw_381, kw_382⟩
theorem flX2_50_6 : ax_FL RX2 50 6 6 0 (.int) false := ⟨RX2, TX2, 9, tyX2, rfl, by decide, by decide, by decide, by decide, iwX2, kw_383, tyX2_ok, nmX2, rfl, (fun h => by cases h), rfl⟩
theorem vlX2_174 : ax_VL RX2 174 yX2_endOfRun cX2_endOfRun 4 (some (.int)) 2 := ⟨kw_385, kw_6, kw_384, by decide +kernel⟩
theorem viX2_endOfRun : ax_VI yX2_endOfRun := ⟨kw_386, kw_387⟩
theorem vlX2_53 : ax_VL RX2 53 yX2_advance cX2_advance 1 (none) 0 := ⟨kw_389, kw_6, kw_388, by decide +kernel⟩
theorem viX2_advance : ax_VI yX2_advance := ⟨kw_390, kw_391⟩
theorem frX2_15_6 : ax_FR RX2 15 6 1 2 := ⟨RX2, TX2, 9, rfl, by decide, by decide, by decide, iwX2, kw_367⟩
theorem vlX2_30 : ax_VL RX2 30 yX2_startText cX2_startText 3 (none) 1 := ⟨kw_393, kw_6, kw_392, by decide +kernel⟩
theorem viX2_startText : ax_VI yX2_startText := ⟨kw_394, kw_395⟩
theorem flX2_33_5 : ax_FL RX2 33 5 7 0 (.int) false := ⟨RX1, TX1, 11, tyX1, rfl, by decide, by decide, by decide, by decide, iwX1, kw_396, tyX1_ok, nmX1, rfl, (fun h => by cases h), rfl⟩
theorem vlX2_38 : ax_VL RX2 38 yX5_clear cX5_clear 2 (none) 0 := ⟨kw_398, kw_12, kw_397, by decide +kernel⟩
theorem viX5_clear : ax_VI yX5_clear := ⟨kw_399, kw_400⟩
theorem frX2_50_6 : ax_FR RX2 50 6 6 0 := ⟨RX2, TX2, 9, rfl, by decide, by decide, by decide, iwX2, kw_383⟩
theorem vlX2_161 : ax_VL RX2 161 yJ0_length_8abf5 cJ0_length_8abf5 1 (some (.int)) 0 := ⟨kw_402, kw_22, kw_401, by decide +kernel⟩
theorem viJ0_length_8abf5 : ax_VI yJ0_length_8abf5 := ⟨kw_403, kw_404⟩
theorem vlX2_166 : ax_VL RX2 166 yJ0_charAt_5068e cJ0_charAt_5068e 2 (some (.char)) 1 := ⟨kw_406, kw_22, kw_405, by decide +kernel⟩
theorem viJ0_charAt_5068e : ax_VI yJ0_charAt_5068e := ⟨kw_407, kw_408⟩
theorem vlX2_116 : ax_VL RX2 116 yX2_isWord cX2_isWord 3 (some (.boolean)) 1 := ⟨kw_410, kw_6, kw_409, by decide +kernel⟩
theorem viX2_isWord : ax_VI yX2_isWord := ⟨kw_411, kw_412⟩
theorem frX2_47_6 : ax_FR RX2 47 6 3 0 := ⟨RX2, TX2, 9, rfl, by decide, by decide, by decide, iwX2, kw_376⟩
theorem vlX2_62 : ax_VL RX2 62 yX2_fail cX2_fail 3 (none) 2 := ⟨kw_414, kw_6, kw_413, by decide +kernel⟩
theorem viX2_fail : ax_VI yX2_fail := ⟨kw_415, kw_416⟩
theorem vlX2_80 : ax_VL RX2 80 yX2_takeWord cX2_takeWord 2 (none) 1 := ⟨kw_418, kw_6, kw_417, by decide +kernel⟩
theorem viX2_takeWord : ax_VI yX2_takeWord := ⟨kw_419, kw_420⟩
theorem vlX2_157 : ax_VL RX2 157 yX2_numberHere cX2_numberHere 3 (some (.int)) 0 := ⟨kw_422, kw_6, kw_421, by decide +kernel⟩
theorem viX2_numberHere : ax_VI yX2_numberHere := ⟨kw_423, kw_424⟩
theorem vlX2_84 : ax_VL RX2 84 yX2_takeNumber cX2_takeNumber 4 (some (.int)) 2 := ⟨kw_426, kw_6, kw_425, by decide +kernel⟩
theorem viX2_takeNumber : ax_VI yX2_takeNumber := ⟨kw_427, kw_428⟩
theorem flX2_87_5 : ax_FL RX2 87 5 0 0 (.int) false := ⟨RX1, TX1, 11, tyX1, rfl, by decide, by decide, by decide, by decide, iwX1, kw_429, tyX1_ok, nmX1, rfl, (fun h => by cases h), rfl⟩
theorem flX2_88_5 : ax_FL RX2 88 5 1 0 (.int) false := ⟨RX1, TX1, 11, tyX1, rfl, by decide, by decide, by decide, by decide, iwX1, kw_430, tyX1_ok, nmX1, rfl, (fun h => by cases h), rfl⟩
theorem flX2_91_5 : ax_FL RX2 91 5 2 0 (.int) false := ⟨RX1, TX1, 11, tyX1, rfl, by decide, by decide, by decide, by decide, iwX1, kw_431, tyX1_ok, nmX1, rfl, (fun h => by cases h), rfl⟩
theorem flX2_94_5 : ax_FL RX2 94 5 3 0 (.int) false := ⟨RX1, TX1, 11, tyX1, rfl, by decide, by decide, by decide, by decide, iwX1, kw_432, tyX1_ok, nmX1, rfl, (fun h => by cases h), rfl⟩
theorem flX2_97_9 : ax_FL RX2 97 9 2 0 (.int) false := ⟨RX5, TX5, 8, tyX5, rfl, by decide, by decide, by decide, by decide, iwX5, kw_433, tyX5_ok, nmX5, rfl, (fun h => by cases h), rfl⟩
theorem vlX2_100 : ax_VL RX2 100 yX2_takeSemicolon cX2_takeSemicolon 1 (none) 0 := ⟨kw_435, kw_6, kw_434, by decide +kernel⟩
theorem viX2_takeSemicolon : ax_VI yX2_takeSemicolon := ⟨kw_436, kw_437⟩
theorem flX2_105_5 : ax_FL RX2 105 5 4 0 (.int) false := ⟨RX1, TX1, 11, tyX1, rfl, by decide, by decide, by decide, by decide, iwX1, kw_438, tyX1_ok, nmX1, rfl, (fun h => by cases h), rfl⟩
theorem flX2_108_5 : ax_FL RX2 108 5 5 0 (.int) false := ⟨RX1, TX1, 11, tyX1, rfl, by decide, by decide, by decide, by decide, iwX1, kw_439, tyX1_ok, nmX1, rfl, (fun h => by cases h), rfl⟩
theorem flX2_111_5 : ax_FL RX2 111 5 6 0 (.int) false := ⟨RX1, TX1, 11, tyX1, rfl, by decide, by decide, by decide, by decide, iwX1, kw_440, tyX1_ok, nmX1, rfl, (fun h => by cases h), rfl⟩
theorem vlX2_43 : ax_VL RX2 43 yX2_readHead cX2_readHead 3 (none) 2 := ⟨kw_442, kw_6, kw_441, by decide +kernel⟩
theorem viX2_readHead : ax_VI yX2_readHead := ⟨kw_443, kw_444⟩
theorem frX2_88_5 : ax_FR RX2 88 5 1 0 := ⟨RX1, TX1, 11, rfl, by decide, by decide, by decide, iwX1, kw_430⟩
theorem frX2_142_9 : ax_FR RX2 142 9 0 2 := ⟨RX5, TX5, 8, rfl, by decide, by decide, by decide, iwX5, kw_445⟩
theorem frX2_145_7 : ax_FR RX2 145 7 1 0 := ⟨RX3, TX3, 10, rfl, by decide, by decide, by decide, iwX3, kw_446⟩
theorem vlX2_150 : ax_VL RX2 150 yX3_gapIn cX3_gapIn 2 (some (.int)) 1 := ⟨kw_447, kw_8, kw_170, by decide +kernel⟩
theorem vlX2_154 : ax_VL RX2 154 yX3_addBlock cX3_addBlock 2 (none) 1 := ⟨kw_449, kw_8, kw_448, by decide +kernel⟩
theorem viX3_addBlock : ax_VI yX3_addBlock := ⟨kw_450, kw_451⟩
theorem vlX2_128 : ax_VL RX2 128 yX2_readRow cX2_readRow 8 (none) 2 := ⟨kw_453, kw_6, kw_452, by decide +kernel⟩
theorem viX2_readRow : ax_VI yX2_readRow := ⟨kw_454, kw_455⟩
theorem frX2_33_5 : ax_FR RX2 33 5 7 0 := ⟨RX1, TX1, 11, rfl, by decide, by decide, by decide, iwX1, kw_396⟩
theorem vlX2_131 : ax_VL RX2 131 yX1_find cX1_find 4 (some (.int)) 2 := ⟨kw_457, kw_4, kw_456, by decide +kernel⟩
theorem viX1_find : ax_VI yX1_find := ⟨kw_458, kw_459⟩
theorem frX2_135_9 : ax_FR RX2 135 9 1 2 := ⟨RX5, TX5, 8, rfl, by decide, by decide, by decide, iwX5, kw_460⟩
theorem vlX2_138 : ax_VL RX2 138 yX1_addKind cX1_addKind 4 (none) 2 := ⟨kw_462, kw_4, kw_461, by decide +kernel⟩
theorem viX1_addKind : ax_VI yX1_addKind := ⟨kw_463, kw_464⟩
theorem vlX2_120 : ax_VL RX2 120 yX2_readKind cX2_readKind 7 (none) 3 := ⟨kw_466, kw_6, kw_465, by decide +kernel⟩
theorem viX2_readKind : ax_VI yX2_readKind := ⟨kw_467, kw_468⟩
theorem vlX2_56 : ax_VL RX2 56 yX2_readLine cX2_readLine 3 (none) 2 := ⟨kw_470, kw_6, kw_469, by decide +kernel⟩
theorem viX2_readLine : ax_VI yX2_readLine := ⟨kw_471, kw_472⟩
theorem nlX6_9 : ax_NL RX6 9 yX2_init cX2_init 1 0 := ⟨by unfold ax_nests; simp, kw_6, kw_475, by decide +kernel⟩
theorem flX6_10_10 : ax_FL RX6 10 10 0 2 (.object "ChaseLocker$Reader") true := ⟨RX6, TX6, 11, tyX6, rfl, by decide, by decide, by decide, by decide, iwX6, kw_477, tyX6_ok, nmX6, rfl, (fun h => rfl), rfl⟩
theorem nlX6_18 : ax_NL RX6 18 yX4_init cX4_init 1 0 := ⟨by unfold ax_nests; simp, kw_10, kw_479, by decide +kernel⟩
theorem flX6_19_10 : ax_FL RX6 19 10 1 2 (.object "ChaseLocker$Solver") true := ⟨RX6, TX6, 11, tyX6, rfl, by decide, by decide, by decide, by decide, iwX6, kw_481, tyX6_ok, nmX6, rfl, (fun h => rfl), rfl⟩
theorem vlX6_25 : ax_VL RX6 25 yX0_init cX0_init 2 (none) 0 := ⟨kw_485, kw_2, kw_483, by decide +kernel⟩
theorem flX6_26_10 : ax_FL RX6 26 10 2 2 (.object "ChaseLocker$History") true := ⟨RX6, TX6, 11, tyX6, rfl, by decide, by decide, by decide, by decide, iwX6, kw_486, tyX6_ok, nmX6, rfl, (fun h => rfl), rfl⟩
theorem vlX6_32 : ax_VL RX6 32 yX5_init cX5_init 2 (none) 0 := ⟨kw_488, kw_12, kw_206, by decide +kernel⟩
theorem flX6_33_10 : ax_FL RX6 33 10 3 2 (.object "ChaseLocker$State") true := ⟨RX6, TX6, 11, tyX6, rfl, by decide, by decide, by decide, by decide, iwX6, kw_489, tyX6_ok, nmX6, rfl, (fun h => rfl), rfl⟩
theorem flX6_37_10 : ax_FL RX6 37 10 4 2 (.object "ChaseLocker$State") true := ⟨RX6, TX6, 11, tyX6, rfl, by decide, by decide, by decide, by decide, iwX6, kw_490, tyX6_ok, nmX6, rfl, (fun h => rfl), rfl⟩
theorem flX6_40_10 : ax_FL RX6 40 10 5 2 (.array (.object "ChaseLocker$State")) true := ⟨RX6, TX6, 11, tyX6, rfl, by decide, by decide, by decide, by decide, iwX6, kw_491, tyX6_ok, nmX6, rfl, (fun h => rfl), rfl⟩
theorem flX6_44_10 : ax_FL RX6 44 10 6 2 (.array .boolean) true := ⟨RX6, TX6, 11, tyX6, rfl, by decide, by decide, by decide, by decide, iwX6, kw_492, tyX6_ok, nmX6, rfl, (fun h => rfl), rfl⟩
theorem vlX6_50 : ax_VL RX6 50 yJ4_init_da8c8 cJ4_init_da8c8 1 (none) 0 := ⟨kw_496, kw_0, kw_494, by decide +kernel⟩
theorem flX6_51_10 : ax_FL RX6 51 10 7 2 (.object "java/lang/StringBuilder") true := ⟨RX6, TX6, 11, tyX6, rfl, by decide, by decide, by decide, by decide, iwX6, kw_497, tyX6_ok, nmX6, rfl, (fun h => rfl), rfl⟩
theorem nlX6_57 : ax_NL RX6 57 yX1_init cX1_init 1 0 := ⟨by unfold ax_nests; simp, kw_4, kw_499, by decide +kernel⟩
theorem flX6_58_10 : ax_FL RX6 58 10 8 2 (.object "ChaseLocker$Plan") false := ⟨RX6, TX6, 11, tyX6, rfl, by decide, by decide, by decide, by decide, iwX6, kw_501, tyX6_ok, nmX6, rfl, (fun h => by cases h), rfl⟩
theorem flX6_62_10 : ax_FL RX6 62 10 9 2 (.object "ChaseLocker$Plan") false := ⟨RX6, TX6, 11, tyX6, rfl, by decide, by decide, by decide, by decide, iwX6, kw_502, tyX6_ok, nmX6, rfl, (fun h => by cases h), rfl⟩
theorem frX6_40_10 : ax_FR RX6 40 10 5 2 := ⟨RX6, TX6, 11, rfl, by decide, by decide, by decide, iwX6, kw_491⟩
theorem frX6_10_10 : ax_FR RX6 10 10 0 2 := ⟨RX6, TX6, 11, rfl, by decide, by decide, by decide, iwX6, kw_477⟩
theorem vlX6_65 : ax_VL RX6 65 yX2_addBytes cX2_addBytes 6 (some (.boolean)) 5 := ⟨kw_504, kw_6, kw_503, by decide +kernel⟩
theorem viX2_addBytes : ax_VI yX2_addBytes := ⟨kw_505, kw_506⟩
theorem frX6_69_6 : ax_FR RX6 69 6 2 0 := ⟨RX2, TX2, 9, rfl, by decide, by decide, by decide, iwX2, kw_507⟩
theorem tlX6_73_77 : ax_TL RX6 73 77 "java/lang/IndexOutOfBoundsException" := ax_TL.of (by decide +kernel) kw_508 kw_509 (by decide +kernel) (by decide +kernel)
theorem frX6_62_10 : ax_FR RX6 62 10 9 2 := ⟨RX6, TX6, 11, rfl, by decide, by decide, by decide, iwX6, kw_502⟩
theorem frX6_37_10 : ax_FR RX6 37 10 4 2 := ⟨RX6, TX6, 11, rfl, by decide, by decide, by decide, iwX6, kw_490⟩
theorem vlX6_80 : ax_VL RX6 80 yX2_readText cX2_readText 5 (some (.boolean)) 3 := ⟨kw_511, kw_6, kw_510, by decide +kernel⟩
theorem viX2_readText : ax_VI yX2_readText := ⟨kw_512, kw_513⟩
theorem frX6_58_10 : ax_FR RX6 58 10 8 2 := ⟨RX6, TX6, 11, rfl, by decide, by decide, by decide, iwX6, kw_501⟩
theorem frX6_33_10 : ax_FR RX6 33 10 3 2 := ⟨RX6, TX6, 11, rfl, by decide, by decide, by decide, iwX6, kw_489⟩
theorem vlX6_95 : ax_VL RX6 95 yX5_copyFrom cX5_copyFrom 3 (none) 1 := ⟨kw_514, kw_12, kw_222, by decide +kernel⟩
theorem frX6_26_10 : ax_FR RX6 26 10 2 2 := ⟨RX6, TX6, 11, rfl, by decide, by decide, by decide, iwX6, kw_486⟩
theorem vlX6_99 : ax_VL RX6 99 yX0_clear cX0_clear 1 (none) 0 := ⟨kw_516, kw_2, kw_515, by decide +kernel⟩
theorem viX0_clear : ax_VI yX0_clear := ⟨kw_517, kw_518⟩
theorem flX6_102_10 : ax_FL RX6 102 10 10 0 (.boolean) false := ⟨RX6, TX6, 11, tyX6, rfl, by decide, by decide, by decide, by decide, iwX6, kw_519, tyX6_ok, nmX6, rfl, (fun h => by cases h), rfl⟩
theorem frX6_44_10 : ax_FR RX6 44 10 6 2 := ⟨RX6, TX6, 11, rfl, by decide, by decide, by decide, iwX6, kw_492⟩
theorem vlX6_89 : ax_VL RX6 89 yX6_takeOverText cX6_takeOverText 3 (none) 0 := ⟨kw_521, kw_14, kw_520, by decide +kernel⟩
theorem viX6_takeOverText : ax_VI yX6_takeOverText := ⟨kw_522, kw_523⟩
theorem frX6_92_5 : ax_FR RX6 92 5 7 0 := ⟨RX1, TX1, 11, rfl, by decide, by decide, by decide, iwX1, kw_524⟩
theorem tlX6_84_88 : ax_TL RX6 84 88 "java/lang/IllegalArgumentException" := ax_TL.of (by decide +kernel) kw_525 kw_526 (by decide +kernel) (by decide +kernel)
theorem frX6_106_6 : ax_FR RX6 106 6 3 0 := ⟨RX2, TX2, 9, rfl, by decide, by decide, by decide, iwX2, kw_527⟩
theorem frX6_109_6 : ax_FR RX6 109 6 4 0 := ⟨RX2, TX2, 9, rfl, by decide, by decide, by decide, iwX2, kw_528⟩
theorem frX6_102_10 : ax_FR RX6 102 10 10 0 := ⟨RX6, TX6, 11, rfl, by decide, by decide, by decide, iwX6, kw_519⟩
theorem tlX6_428_432 : ax_TL RX6 428 432 "java/lang/IllegalStateException" := ax_TL.of (by decide +kernel) kw_529 kw_530 (by decide +kernel) (by decide +kernel)
theorem vlX6_112 : ax_VL RX6 112 yX6_needChase cX6_needChase 1 (none) 0 := ⟨kw_532, kw_14, kw_531, by decide +kernel⟩
theorem viX6_needChase : ax_VI yX6_needChase := ⟨kw_533, kw_534⟩
theorem frX6_115_5 : ax_FR RX6 115 5 1 0 := ⟨RX1, TX1, 11, rfl, by decide, by decide, by decide, iwX1, kw_535⟩
theorem frX6_118_9 : ax_FR RX6 118 9 2 0 := ⟨RX5, TX5, 8, rfl, by decide, by decide, by decide, iwX5, kw_536⟩
theorem vlX6_121 : ax_VL RX6 121 yX5_blocksInRows cX5_blocksInRows 3 (some (.int)) 0 := ⟨kw_538, kw_12, kw_537, by decide +kernel⟩
theorem viX5_blocksInRows : ax_VI yX5_blocksInRows := ⟨kw_539, kw_540⟩
theorem vlX6_125 : ax_VL RX6 125 yX5_piecesInRows cX5_piecesInRows 3 (some (.int)) 0 := ⟨kw_542, kw_12, kw_541, by decide +kernel⟩
theorem viX5_piecesInRows : ax_VI yX5_piecesInRows := ⟨kw_543, kw_544⟩
theorem vlX6_128 : ax_VL RX6 128 yX5_tightRows cX5_tightRows 4 (some (.int)) 1 := ⟨kw_546, kw_12, kw_545, by decide +kernel⟩
theorem viX5_tightRows : ax_VI yX5_tightRows := ⟨kw_547, kw_548⟩
theorem frX6_132_9 : ax_FR RX6 132 9 3 0 := ⟨RX5, TX5, 8, rfl, by decide, by decide, by decide, iwX5, kw_549⟩
theorem frX6_135_9 : ax_FR RX6 135 9 4 0 := ⟨RX5, TX5, 8, rfl, by decide, by decide, by decide, iwX5, kw_550⟩
theorem frX6_138_9 : ax_FR RX6 138 9 5 0 := ⟨RX5, TX5, 8, rfl, by decide, by decide, by decide, iwX5, kw_551⟩
theorem frX6_141_9 : ax_FR RX6 141 9 6 0 := ⟨RX5, TX5, 8, rfl, by decide, by decide, by decide, iwX5, kw_552⟩
theorem frX6_144_9 : ax_FR RX6 144 9 7 0 := ⟨RX5, TX5, 8, rfl, by decide, by decide, by decide, iwX5, kw_553⟩
theorem vlX6_147 : ax_VL RX6 147 yX5_piecesLeft cX5_piecesLeft 3 (some (.int)) 0 := ⟨kw_555, kw_12, kw_554, by decide +kernel⟩
theorem viX5_piecesLeft : ax_VI yX5_piecesLeft := ⟨kw_556, kw_557⟩
theorem frX6_152_5 : ax_FR RX6 152 5 0 0 := ⟨RX1, TX1, 11, rfl, by decide, by decide, by decide, iwX1, kw_558⟩
theorem frX6_155_5 : ax_FR RX6 155 5 2 0 := ⟨RX1, TX1, 11, rfl, by decide, by decide, by decide, iwX1, kw_559⟩
theorem frX6_158_5 : ax_FR RX6 158 5 3 0 := ⟨RX1, TX1, 11, rfl, by decide, by decide, by decide, iwX1, kw_560⟩
theorem frX6_161_5 : ax_FR RX6 161 5 4 0 := ⟨RX1, TX1, 11, rfl, by decide, by decide, by decide, iwX1, kw_561⟩
theorem frX6_164_5 : ax_FR RX6 164 5 5 0 := ⟨RX1, TX1, 11, rfl, by decide, by decide, by decide, iwX1, kw_562⟩
theorem frX6_167_5 : ax_FR RX6 167 5 6 0 := ⟨RX1, TX1, 11, rfl, by decide, by decide, by decide, iwX1, kw_563⟩
theorem frX6_246_9 : ax_FR RX6 246 9 0 2 := ⟨RX5, TX5, 8, rfl, by decide, by decide, by decide, iwX5, kw_564⟩
theorem vlX6_172 : ax_VL RX6 172 yX6_needRow cX6_needRow 2 (some (.object "ChaseLocker$Row")) 1 := ⟨kw_566, kw_14, kw_565, by decide +kernel⟩
theorem viX6_needRow : ax_VI yX6_needRow := ⟨kw_567, kw_568⟩
theorem frX6_176_7 : ax_FR RX6 176 7 1 0 := ⟨RX3, TX3, 10, rfl, by decide, by decide, by decide, iwX3, kw_569⟩
theorem frX6_181_7 : ax_FR RX6 181 7 4 0 := ⟨RX3, TX3, 10, rfl, by decide, by decide, by decide, iwX3, kw_570⟩
theorem vlX6_184 : ax_VL RX6 184 yX3_gapIn cX3_gapIn 2 (some (.int)) 1 := ⟨kw_571, kw_8, kw_170, by decide +kernel⟩
theorem frX6_187_7 : ax_FR RX6 187 7 7 0 := ⟨RX3, TX3, 10, rfl, by decide, by decide, by decide, iwX3, kw_572⟩
theorem frX6_190_7 : ax_FR RX6 190 7 9 0 := ⟨RX3, TX3, 10, rfl, by decide, by decide, by decide, iwX3, kw_573⟩
theorem vlX6_193 : ax_VL RX6 193 yX3_woodIn cX3_woodIn 4 (some (.int)) 1 := ⟨kw_574, kw_8, kw_178, by decide +kernel⟩
theorem frX6_196_7 : ax_FR RX6 196 7 2 0 := ⟨RX3, TX3, 10, rfl, by decide, by decide, by decide, iwX3, kw_575⟩
theorem vlX6_199 : ax_VL RX6 199 yX3_hasQuoin cX3_hasQuoin 1 (some (.boolean)) 0 := ⟨kw_576, kw_8, kw_165, by decide +kernel⟩
theorem frX6_203_7 : ax_FR RX6 203 7 8 0 := ⟨RX3, TX3, 10, rfl, by decide, by decide, by decide, iwX3, kw_577⟩
theorem vlX6_208 : ax_VL RX6 208 yX6_needIndex cX6_needIndex 2 (none) 2 := ⟨kw_579, kw_14, kw_578, by decide +kernel⟩
theorem vlX6_212 : ax_VL RX6 212 yX3_blockAt cX3_blockAt 2 (some (.int)) 1 := ⟨kw_581, kw_8, kw_182, by decide +kernel⟩
theorem vlX6_216 : ax_VL RX6 216 yX3_pieceAt cX3_pieceAt 3 (some (.int)) 1 := ⟨kw_582, kw_8, kw_193, by decide +kernel⟩
theorem vlX6_219 : ax_VL RX6 219 yX6_needKind cX6_needKind 2 (none) 1 := ⟨kw_584, kw_14, kw_583, by decide +kernel⟩
theorem viX6_needKind : ax_VI yX6_needKind := ⟨kw_585, kw_586⟩
theorem frX6_223_5 : ax_FR RX6 223 5 8 2 := ⟨RX1, TX1, 11, rfl, by decide, by decide, by decide, iwX1, kw_587⟩
theorem frX6_226_5 : ax_FR RX6 226 5 9 2 := ⟨RX1, TX1, 11, rfl, by decide, by decide, by decide, iwX1, kw_588⟩
theorem frX6_230_9 : ax_FR RX6 230 9 1 2 := ⟨RX5, TX5, 8, rfl, by decide, by decide, by decide, iwX5, kw_589⟩
theorem vlX6_233 : ax_VL RX6 233 yX5_inRows cX5_inRows 4 (some (.int)) 1 := ⟨kw_591, kw_12, kw_590, by decide +kernel⟩
theorem viX5_inRows : ax_VI yX5_inRows := ⟨kw_592, kw_593⟩
theorem vlX6_238 : ax_VL RX6 238 yX1_find cX1_find 4 (some (.int)) 2 := ⟨kw_594, kw_4, kw_456, by decide +kernel⟩
theorem vlX6_242 : ax_VL RX6 242 yX3_isTightIn cX3_isTightIn 2 (some (.boolean)) 1 := ⟨kw_595, kw_8, kw_234, by decide +kernel⟩
theorem vlX6_249 : ax_VL RX6 249 yX3_loosenessIn cX3_loosenessIn 2 (some (.int)) 1 := ⟨kw_596, kw_8, kw_267, by decide +kernel⟩
theorem frX6_252_5 : ax_FR RX6 252 5 10 2 := ⟨RX1, TX1, 11, rfl, by decide, by decide, by decide, iwX1, kw_597⟩
theorem vlX6_255 : ax_VL RX6 255 yX6_share cX6_share 2 (some (.float)) 2 := ⟨kw_599, kw_14, kw_598, by decide +kernel⟩
theorem frX6_19_10 : ax_FR RX6 19 10 1 2 := ⟨RX6, TX6, 11, rfl, by decide, by decide, by decide, iwX6, kw_481⟩
theorem vlX6_278 : ax_VL RX6 278 yX4_stockFrom cX4_stockFrom 2 (none) 1 := ⟨kw_602, kw_10, kw_601, by decide +kernel⟩
theorem viX4_stockFrom : ax_VI yX4_stockFrom := ⟨kw_603, kw_604⟩
theorem vlX6_292 : ax_VL RX6 292 yX4_study cX4_study 4 (none) 1 := ⟨kw_606, kw_10, kw_605, by decide +kernel⟩
theorem viX4_study : ax_VI yX4_study := ⟨kw_607, kw_608⟩
theorem vlX6_281 : ax_VL RX6 281 yX3_roomIn cX3_roomIn 2 (some (.int)) 1 := ⟨kw_609, kw_8, kw_161, by decide +kernel⟩
theorem vlX6_284 : ax_VL RX6 284 yX5_canHaveQuoin cX5_canHaveQuoin 2 (some (.boolean)) 1 := ⟨kw_611, kw_12, kw_610, by decide +kernel⟩
theorem viX5_canHaveQuoin : ax_VI yX5_canHaveQuoin := ⟨kw_612, kw_613⟩
theorem vlX6_318 : ax_VL RX6 318 yX4_choose cX4_choose 5 (some (.boolean)) 3 := ⟨kw_614, kw_10, kw_348, by decide +kernel⟩
theorem vlX6_261 : ax_VL RX6 261 yX6_solve cX6_solve 3 (some (.boolean)) 2 := ⟨kw_616, kw_14, kw_615, by decide +kernel⟩
theorem viX6_solve : ax_VI yX6_solve := ⟨kw_617, kw_618⟩
theorem frX6_265_8 : ax_FR RX6 265 8 5 0 := ⟨RX4, TX4, 8, rfl, by decide, by decide, by decide, iwX4, kw_619⟩
theorem frX6_268_8 : ax_FR RX6 268 8 7 0 := ⟨RX4, TX4, 8, rfl, by decide, by decide, by decide, iwX4, kw_620⟩
theorem frX6_269_8 : ax_FR RX6 269 8 6 0 := ⟨RX4, TX4, 8, rfl, by decide, by decide, by decide, iwX4, kw_621⟩
theorem vlX6_272 : ax_VL RX6 272 yX4_woodTaken cX4_woodTaken 4 (some (.int)) 1 := ⟨kw_623, kw_10, kw_622, by decide +kernel⟩
theorem viX4_woodTaken : ax_VI yX4_woodTaken := ⟨kw_624, kw_625⟩
theorem frX6_275_8 : ax_FR RX6 275 8 4 2 := ⟨RX4, TX4, 8, rfl, by decide, by decide, by decide, iwX4, kw_626⟩
theorem vlX6_288 : ax_VL RX6 288 yX4_countWays cX4_countWays 6 (some (.int)) 3 := ⟨kw_628, kw_10, kw_627, by decide +kernel⟩
theorem viX4_countWays : ax_VI yX4_countWays := ⟨kw_629, kw_630⟩
theorem mlX6_300 : ax_ML RX6 300 Lib.Math.max.name Lib.Math.max.code := ⟨kw_631, kw_55, kw_56, kw_57⟩
theorem vlX6_296 : ax_VL RX6 296 yX4_canMake cX4_canMake 2 (some (.boolean)) 1 := ⟨kw_632, kw_10, kw_327, by decide +kernel⟩
theorem vlX6_306 : ax_VL RX6 306 yX6_needBlockLength cX6_needBlockLength 1 (none) 1 := ⟨kw_634, kw_14, kw_633, by decide +kernel⟩
theorem vlX6_314 : ax_VL RX6 314 yX3_takesBlock cX3_takesBlock 3 (some (.boolean)) 2 := ⟨kw_637, kw_8, kw_636, by decide +kernel⟩
theorem viX3_takesBlock : ax_VI yX3_takesBlock := ⟨kw_638, kw_639⟩
theorem vlX6_309 : ax_VL RX6 309 yX6_fewestWith cX6_fewestWith 4 (some (.int)) 2 := ⟨kw_641, kw_14, kw_640, by decide +kernel⟩
theorem viX6_fewestWith : ax_VI yX6_fewestWith := ⟨kw_642, kw_643⟩
theorem vlX6_322 : ax_VL RX6 322 yX4_findMissing cX4_findMissing 7 (some (.int)) 3 := ⟨kw_646, kw_10, kw_645, by decide +kernel⟩
theorem viX4_findMissing : ax_VI yX4_findMissing := ⟨kw_647, kw_648⟩
theorem vlX6_325 : ax_VL RX6 325 yX6_takesPiece cX6_takesPiece 3 (some (.boolean)) 2 := ⟨kw_650, kw_14, kw_649, by decide +kernel⟩
theorem viX6_takesPiece : ax_VI yX6_takesPiece := ⟨kw_651, kw_652⟩
theorem vlX6_329 : ax_VL RX6 329 yX5_empty cX5_empty 4 (none) 1 := ⟨kw_653, kw_12, kw_273, by decide +kernel⟩
theorem vlX6_337 : ax_VL RX6 337 yX3_growthInImpression cX3_growthInImpression 2 (some (.int)) 1 := ⟨kw_654, kw_8, kw_289, by decide +kernel⟩
theorem vlX6_334 : ax_VL RX6 334 yX3_growthInDay cX3_growthInDay 2 (some (.int)) 1 := ⟨kw_655, kw_8, kw_297, by decide +kernel⟩
theorem vlX6_342 : ax_VL RX6 342 yX5_impressOften cX5_impressOften 5 (some (.int)) 2 := ⟨kw_657, kw_12, kw_656, by decide +kernel⟩
theorem viX5_impressOften : ax_VI yX5_impressOften := ⟨kw_658, kw_659⟩
theorem vlX6_346 : ax_VL RX6 346 yX5_fill cX5_fill 8 (none) 3 := ⟨kw_661, kw_12, kw_660, by decide +kernel⟩
theorem viX5_fill : ax_VI yX5_fill := ⟨kw_662, kw_663⟩
theorem frX6_51_10 : ax_FR RX6 51 10 7 2 := ⟨RX6, TX6, 11, rfl, by decide, by decide, by decide, iwX6, kw_497⟩
theorem vlX6_350 : ax_VL RX6 350 yJ4_setLength_d00df cJ4_setLength_d00df 2 (none) 1 := ⟨kw_665, kw_0, kw_664, by decide +kernel⟩
theorem viJ4_setLength_d00df : ax_VI yJ4_setLength_d00df := ⟨kw_666, kw_667⟩
theorem vlX6_369 : ax_VL RX6 369 yJ4_length_8abf5 cJ4_length_8abf5 1 (some (.int)) 0 := ⟨kw_669, kw_0, kw_668, by decide +kernel⟩
theorem viJ4_length_8abf5 : ax_VI yJ4_length_8abf5 := ⟨kw_670, kw_671⟩
theorem vlX6_356 : ax_VL RX6 356 yJ4_append_cf468 cJ4_append_cf468 2 (some (.object "java/lang/StringBuilder")) 1 := ⟨kw_673, kw_0, kw_672, by decide +kernel⟩
theorem viJ4_append_cf468 : ax_VI yJ4_append_cf468 := ⟨kw_674, kw_675⟩
theorem vlX6_353 : ax_VL RX6 353 yX6_writeGapBefore cX6_writeGapBefore 1 (none) 0 := ⟨kw_677, kw_14, kw_676, by decide +kernel⟩
theorem viX6_writeGapBefore : ax_VI yX6_writeGapBefore := ⟨kw_678, kw_679⟩
theorem vlX6_360 : ax_VL RX6 360 yJ4_append_bf812 cJ4_append_bf812 2 (some (.object "java/lang/StringBuilder")) 1 := ⟨kw_681, kw_0, kw_680, by decide +kernel⟩
theorem viJ4_append_bf812 : ax_VI yJ4_append_bf812 := ⟨kw_682, kw_683⟩
theorem vlX6_366 : ax_VL RX6 366 yX6_writeOpening cX6_writeOpening 2 (none) 1 := ⟨kw_685, kw_14, kw_684, by decide +kernel⟩
theorem viX6_writeOpening : ax_VI yX6_writeOpening := ⟨kw_686, kw_687⟩
theorem vlX6_363 : ax_VL RX6 363 yX6_writeKind cX6_writeKind 2 (none) 1 := ⟨kw_689, kw_14, kw_688, by decide +kernel⟩
theorem viX6_writeKind : ax_VI yX6_writeKind := ⟨kw_690, kw_691⟩
theorem vlX6_372 : ax_VL RX6 372 yJ4_charAt_5068e cJ4_charAt_5068e 2 (some (.char)) 1 := ⟨kw_693, kw_0, kw_692, by decide +kernel⟩
theorem viJ4_charAt_5068e : ax_VI yJ4_charAt_5068e := ⟨kw_694, kw_695⟩
theorem vlX6_378 : ax_VL RX6 378 yX0_remember cX0_remember 2 (none) 1 := ⟨kw_697, kw_2, kw_696, by decide +kernel⟩
theorem viX0_remember : ax_VI yX0_remember := ⟨kw_698, kw_699⟩
theorem vlX6_381 : ax_VL RX6 381 yX3_addBlock cX3_addBlock 2 (none) 1 := ⟨kw_700, kw_8, kw_448, by decide +kernel⟩
theorem vlX6_384 : ax_VL RX6 384 yX3_removeBlock cX3_removeBlock 4 (some (.int)) 1 := ⟨kw_702, kw_8, kw_701, by decide +kernel⟩
theorem viX3_removeBlock : ax_VI yX3_removeBlock := ⟨kw_703, kw_704⟩
theorem vlX6_389 : ax_VL RX6 389 yX5_movePieceIn cX5_movePieceIn 4 (none) 3 := ⟨kw_705, kw_12, kw_258, by decide +kernel⟩
theorem vlX6_393 : ax_VL RX6 393 yX5_movePieceOut cX5_movePieceOut 5 (some (.int)) 3 := ⟨kw_707, kw_12, kw_706, by decide +kernel⟩
theorem viX5_movePieceOut : ax_VI yX5_movePieceOut := ⟨kw_708, kw_709⟩
theorem vlX6_405 : ax_VL RX6 405 yX5_removeQuoin cX5_removeQuoin 2 (none) 1 := ⟨kw_710, kw_12, kw_263, by decide +kernel⟩
theorem vlX6_401 : ax_VL RX6 401 yX5_setQuoin cX5_setQuoin 3 (none) 2 := ⟨kw_711, kw_12, kw_252, by decide +kernel⟩
theorem flX6_187_7 : ax_FL RX6 187 7 7 0 (.int) false := ⟨RX3, TX3, 10, tyX3, rfl, by decide, by decide, by decide, by decide, iwX3, kw_572, tyX3_ok, nmX3, rfl, (fun h => by cases h), rfl⟩
theorem flX6_203_7 : ax_FL RX6 203 7 8 0 (.int) false := ⟨RX3, TX3, 10, tyX3, rfl, by decide, by decide, by decide, by decide, iwX3, kw_577, tyX3_ok, nmX3, rfl, (fun h => by cases h), rfl⟩
theorem flX6_190_7 : ax_FL RX6 190 7 9 0 (.int) false := ⟨RX3, TX3, 10, tyX3, rfl, by decide, by decide, by decide, by decide, iwX3, kw_573, tyX3_ok, nmX3, rfl, (fun h => by cases h), rfl⟩
theorem vlX6_417 : ax_VL RX6 417 yX6_needTurns cX6_needTurns 1 (none) 1 := ⟨kw_713, kw_14, kw_712, by decide +kernel⟩
theorem vlX6_420 : ax_VL RX6 420 yX5_passDay cX5_passDay 3 (some (.int)) 1 := ⟨kw_716, kw_12, kw_715, by decide +kernel⟩
theorem viX5_passDay : ax_VI yX5_passDay := ⟨kw_717, kw_718⟩
theorem frX6_425_4 : ax_FR RX6 425 4 2 0 := ⟨RX0, TX0, 3, rfl, by decide, by decide, by decide, iwX0, kw_719⟩
theorem vlX6_433 : ax_VL RX6 433 yX0_bringBack cX0_bringBack 2 (none) 1 := ⟨kw_721, kw_2, kw_720, by decide +kernel⟩
theorem viX0_bringBack : ax_VI yX0_bringBack := ⟨kw_722, kw_723⟩
theorem flX7_7_11 : ax_FL RX7 7 11 10 2 (.array .boolean) true := ⟨RX7, TX7, 41, tyX7, rfl, by decide, by decide, by decide, by decide, iwX7, kw_725, tyX7_ok, nmX7, rfl, (fun h => rfl), rfl⟩
theorem flX7_13_11 : ax_FL RX7 13 11 11 2 (.array .int) true := ⟨RX7, TX7, 41, tyX7, rfl, by decide, by decide, by decide, by decide, iwX7, kw_726, tyX7_ok, nmX7, rfl, (fun h => rfl), rfl⟩
theorem flX7_17_11 : ax_FL RX7 17 11 12 2 (.array .int) true := ⟨RX7, TX7, 41, tyX7, rfl, by decide, by decide, by decide, by decide, iwX7, kw_727, tyX7_ok, nmX7, rfl, (fun h => rfl), rfl⟩
theorem flX7_20_11 : ax_FL RX7 20 11 13 2 (.array .int) true := ⟨RX7, TX7, 41, tyX7, rfl, by decide, by decide, by decide, by decide, iwX7, kw_728, tyX7_ok, nmX7, rfl, (fun h => rfl), rfl⟩
theorem flX7_24_11 : ax_FL RX7 24 11 14 2 (.array .int) true := ⟨RX7, TX7, 41, tyX7, rfl, by decide, by decide, by decide, by decide, iwX7, kw_730, tyX7_ok, nmX7, rfl, (fun h => rfl), rfl⟩
theorem flX7_27_11 : ax_FL RX7 27 11 16 2 (.array .boolean) true := ⟨RX7, TX7, 41, tyX7, rfl, by decide, by decide, by decide, by decide, iwX7, kw_731, tyX7_ok, nmX7, rfl, (fun h => rfl), rfl⟩
theorem flX7_30_11 : ax_FL RX7 30 11 17 2 (.array .int) true := ⟨RX7, TX7, 41, tyX7, rfl, by decide, by decide, by decide, by decide, iwX7, kw_732, tyX7_ok, nmX7, rfl, (fun h => rfl), rfl⟩
theorem flX7_33_11 : ax_FL RX7 33 11 20 0 (.int) false := ⟨RX7, TX7, 41, tyX7, rfl, by decide, by decide, by decide, by decide, iwX7, kw_733, tyX7_ok, nmX7, rfl, (fun h => by cases h), rfl⟩
theorem flX7_37_11 : ax_FL RX7 37 11 28 2 (.array .int) true := ⟨RX7, TX7, 41, tyX7, rfl, by decide, by decide, by decide, by decide, iwX7, kw_734, tyX7_ok, nmX7, rfl, (fun h => rfl), rfl⟩
theorem flX7_40_11 : ax_FL RX7 40 11 29 2 (.array .int) true := ⟨RX7, TX7, 41, tyX7, rfl, by decide, by decide, by decide, by decide, iwX7, kw_735, tyX7_ok, nmX7, rfl, (fun h => rfl), rfl⟩
theorem flX7_43_11 : ax_FL RX7 43 11 30 2 (.array .int) true := ⟨RX7, TX7, 41, tyX7, rfl, by decide, by decide, by decide, by decide, iwX7, kw_736, tyX7_ok, nmX7, rfl, (fun h => rfl), rfl⟩
theorem flX7_46_11 : ax_FL RX7 46 11 31 2 (.array .boolean) true := ⟨RX7, TX7, 41, tyX7, rfl, by decide, by decide, by decide, by decide, iwX7, kw_737, tyX7_ok, nmX7, rfl, (fun h => rfl), rfl⟩
theorem flX7_49_11 : ax_FL RX7 49 11 33 2 (.array .int) true := ⟨RX7, TX7, 41, tyX7, rfl, by decide, by decide, by decide, by decide, iwX7, kw_738, tyX7_ok, nmX7, rfl, (fun h => rfl), rfl⟩
theorem flX7_52_11 : ax_FL RX7 52 11 34 2 (.array .int) true := ⟨RX7, TX7, 41, tyX7, rfl, by decide, by decide, by decide, by decide, iwX7, kw_739, tyX7_ok, nmX7, rfl, (fun h => rfl), rfl⟩
theorem flX7_55_11 : ax_FL RX7 55 11 35 2 (.array .int) true := ⟨RX7, TX7, 41, tyX7, rfl, by decide, by decide, by decide, by decide, iwX7, kw_740, tyX7_ok, nmX7, rfl, (fun h => rfl), rfl⟩
theorem flX7_58_11 : ax_FL RX7 58 11 37 0 (.int) false := ⟨RX7, TX7, 41, tyX7, rfl, by decide, by decide, by decide, by decide, iwX7, kw_741, tyX7_ok, nmX7, rfl, (fun h => by cases h), rfl⟩
theorem flX7_61_11 : ax_FL RX7 61 11 38 2 (.array .int) true := ⟨RX7, TX7, 41, tyX7, rfl, by decide, by decide, by decide, by decide, iwX7, kw_742, tyX7_ok, nmX7, rfl, (fun h => rfl), rfl⟩
theorem flX7_64_11 : ax_FL RX7 64 11 39 2 (.array .int) true := ⟨RX7, TX7, 41, tyX7, rfl, by decide, by decide, by decide, by decide, iwX7, kw_743, tyX7_ok, nmX7, rfl, (fun h => rfl), rfl⟩
theorem frX7_67_11 : ax_FR RX7 67 11 0 0 := ⟨RX7, TX7, 41, rfl, by decide, by decide, by decide, iwX7, kw_744⟩
theorem flX7_67_11 : ax_FL RX7 67 11 0 0 (.int) false := ⟨RX7, TX7, 41, tyX7, rfl, by decide, by decide, by decide, by decide, iwX7, kw_744, tyX7_ok, nmX7, rfl, (fun h => by cases h), rfl⟩
theorem frX7_70_11 : ax_FR RX7 70 11 1 0 := ⟨RX7, TX7, 41, rfl, by decide, by decide, by decide, iwX7, kw_745⟩
theorem vlX7_74 : ax_VL RX7 74 yX7_refuse cX7_refuse 3 (some (.boolean)) 2 := ⟨kw_747, kw_16, kw_746, by decide +kernel⟩
theorem viX7_refuse : ax_VI yX7_refuse := ⟨kw_748, kw_749⟩
theorem frX7_78_11 : ax_FR RX7 78 11 18 0 := ⟨RX7, TX7, 41, rfl, by decide, by decide, by decide, iwX7, kw_750⟩
theorem flX7_78_11 : ax_FL RX7 78 11 18 0 (.int) false := ⟨RX7, TX7, 41, tyX7, rfl, by decide, by decide, by decide, by decide, iwX7, kw_750, tyX7_ok, nmX7, rfl, (fun h => by cases h), rfl⟩
theorem frX7_30_11 : ax_FR RX7 30 11 17 2 := ⟨RX7, TX7, 41, rfl, by decide, by decide, by decide, iwX7, kw_732⟩
theorem frX7_81_11 : ax_FR RX7 81 11 19 0 := ⟨RX7, TX7, 41, rfl, by decide, by decide, by decide, iwX7, kw_751⟩
theorem frX7_33_11 : ax_FR RX7 33 11 20 0 := ⟨RX7, TX7, 41, rfl, by decide, by decide, by decide, iwX7, kw_733⟩
theorem frX7_84_11 : ax_FR RX7 84 11 21 0 := ⟨RX7, TX7, 41, rfl, by decide, by decide, by decide, iwX7, kw_752⟩
theorem frX7_87_11 : ax_FR RX7 87 11 22 0 := ⟨RX7, TX7, 41, rfl, by decide, by decide, by decide, iwX7, kw_753⟩
theorem vlX7_90 : ax_VL RX7 90 yX7_seen cX7_seen 2 (some (.int)) 1 := ⟨kw_755, kw_16, kw_754, by decide +kernel⟩
theorem viX7_seen : ax_VI yX7_seen := ⟨kw_756, kw_757⟩
theorem flX7_94_11 : ax_FL RX7 94 11 23 0 (.int) false := ⟨RX7, TX7, 41, tyX7, rfl, by decide, by decide, by decide, by decide, iwX7, kw_758, tyX7_ok, nmX7, rfl, (fun h => by cases h), rfl⟩
theorem vlX7_100 : ax_VL RX7 100 yX7_isSmall cX7_isSmall 1 (some (.boolean)) 1 := ⟨kw_760, kw_16, kw_759, by decide +kernel⟩
theorem vlX7_104 : ax_VL RX7 104 yX7_isDigit cX7_isDigit 1 (some (.boolean)) 1 := ⟨kw_763, kw_16, kw_762, by decide +kernel⟩
theorem flX7_97_11 : ax_FL RX7 97 11 24 0 (.int) false := ⟨RX7, TX7, 41, tyX7, rfl, by decide, by decide, by decide, by decide, iwX7, kw_765, tyX7_ok, nmX7, rfl, (fun h => by cases h), rfl⟩
theorem flX7_87_11 : ax_FL RX7 87 11 22 0 (.int) false := ⟨RX7, TX7, 41, tyX7, rfl, by decide, by decide, by decide, by decide, iwX7, kw_753, tyX7_ok, nmX7, rfl, (fun h => by cases h), rfl⟩
theorem flX7_107_11 : ax_FL RX7 107 11 25 0 (.int) false := ⟨RX7, TX7, 41, tyX7, rfl, by decide, by decide, by decide, by decide, iwX7, kw_766, tyX7_ok, nmX7, rfl, (fun h => by cases h), rfl⟩
theorem frX7_94_11 : ax_FR RX7 94 11 23 0 := ⟨RX7, TX7, 41, rfl, by decide, by decide, by decide, iwX7, kw_758⟩
theorem frX7_107_11 : ax_FR RX7 107 11 25 0 := ⟨RX7, TX7, 41, rfl, by decide, by decide, by decide, iwX7, kw_766⟩
theorem frX7_110_11 : ax_FR RX7 110 11 26 0 := ⟨RX7, TX7, 41, rfl, by decide, by decide, by decide, iwX7, kw_767⟩
theorem flX7_110_11 : ax_FL RX7 110 11 26 0 (.int) false := ⟨RX7, TX7, 41, tyX7, rfl, by decide, by decide, by decide, by decide, iwX7, kw_767, tyX7_ok, nmX7, rfl, (fun h => by cases h), rfl⟩
theorem flX7_113_11 : ax_FL RX7 113 11 27 0 (.int) false := ⟨RX7, TX7, 41, tyX7, rfl, by decide, by decide, by decide, by decide, iwX7, kw_768, tyX7_ok, nmX7, rfl, (fun h => by cases h), rfl⟩
theorem vlX7_116 : ax_VL RX7 116 yX7_fails cX7_fails 2 (none) 1 := ⟨kw_770, kw_16, kw_769, by decide +kernel⟩
theorem viX7_fails : ax_VI yX7_fails := ⟨kw_771, kw_772⟩
theorem vlX7_120 : ax_VL RX7 120 yX7_token cX7_token 2 (none) 0 := ⟨kw_774, kw_16, kw_773, by decide +kernel⟩
theorem viX7_token : ax_VI yX7_token := ⟨kw_775, kw_776⟩
theorem frX7_97_11 : ax_FR RX7 97 11 24 0 := ⟨RX7, TX7, 41, rfl, by decide, by decide, by decide, iwX7, kw_765⟩
theorem vlX7_123 : ax_VL RX7 123 yJ0_length_8abf5 cJ0_length_8abf5 1 (some (.int)) 0 := ⟨kw_777, kw_22, kw_401, by decide +kernel⟩
theorem vlX7_128 : ax_VL RX7 128 yJ0_charAt_5068e cJ0_charAt_5068e 2 (some (.char)) 1 := ⟨kw_778, kw_22, kw_405, by decide +kernel⟩
theorem vlX7_132 : ax_VL RX7 132 yX7_isWord cX7_isWord 3 (some (.boolean)) 1 := ⟨kw_780, kw_16, kw_779, by decide +kernel⟩
theorem viX7_isWord : ax_VI yX7_isWord := ⟨kw_781, kw_782⟩
theorem vlX7_136 : ax_VL RX7 136 yX7_failsIf cX7_failsIf 3 (none) 2 := ⟨kw_784, kw_16, kw_783, by decide +kernel⟩
theorem viX7_failsIf : ax_VI yX7_failsIf := ⟨kw_785, kw_786⟩
theorem vlX7_140 : ax_VL RX7 140 yX7_goesOn cX7_goesOn 1 (none) 0 := ⟨kw_788, kw_16, kw_787, by decide +kernel⟩
theorem viX7_goesOn : ax_VI yX7_goesOn := ⟨kw_789, kw_790⟩
theorem vlX7_143 : ax_VL RX7 143 yX7_in cX7_in 3 (some (.boolean)) 3 := ⟨kw_792, kw_16, kw_791, by decide +kernel⟩
theorem vlX7_147 : ax_VL RX7 147 yX7_looks cX7_looks 3 (some (.int)) 2 := ⟨kw_795, kw_16, kw_794, by decide +kernel⟩
theorem viX7_looks : ax_VI yX7_looks := ⟨kw_796, kw_797⟩
theorem frX7_40_11 : ax_FR RX7 40 11 29 2 := ⟨RX7, TX7, 41, rfl, by decide, by decide, by decide, iwX7, kw_735⟩
theorem frX7_151_11 : ax_FR RX7 151 11 2 0 := ⟨RX7, TX7, 41, rfl, by decide, by decide, by decide, iwX7, kw_798⟩
theorem frX7_154_11 : ax_FR RX7 154 11 3 0 := ⟨RX7, TX7, 41, rfl, by decide, by decide, by decide, iwX7, kw_799⟩
theorem frX7_157_11 : ax_FR RX7 157 11 4 0 := ⟨RX7, TX7, 41, rfl, by decide, by decide, by decide, iwX7, kw_800⟩
theorem frX7_160_11 : ax_FR RX7 160 11 5 0 := ⟨RX7, TX7, 41, rfl, by decide, by decide, by decide, iwX7, kw_801⟩
theorem frX7_163_11 : ax_FR RX7 163 11 6 0 := ⟨RX7, TX7, 41, rfl, by decide, by decide, by decide, iwX7, kw_802⟩
theorem frX7_166_11 : ax_FR RX7 166 11 7 0 := ⟨RX7, TX7, 41, rfl, by decide, by decide, by decide, iwX7, kw_803⟩
theorem frX7_169_11 : ax_FR RX7 169 11 8 0 := ⟨RX7, TX7, 41, rfl, by decide, by decide, by decide, iwX7, kw_804⟩
theorem frX7_172_11 : ax_FR RX7 172 11 9 0 := ⟨RX7, TX7, 41, rfl, by decide, by decide, by decide, iwX7, kw_805⟩
theorem frX7_43_11 : ax_FR RX7 43 11 30 2 := ⟨RX7, TX7, 41, rfl, by decide, by decide, by decide, iwX7, kw_736⟩
theorem frX7_13_11 : ax_FR RX7 13 11 11 2 := ⟨RX7, TX7, 41, rfl, by decide, by decide, by decide, iwX7, kw_726⟩
theorem frX7_46_11 : ax_FR RX7 46 11 31 2 := ⟨RX7, TX7, 41, rfl, by decide, by decide, by decide, iwX7, kw_737⟩
theorem frX7_7_11 : ax_FR RX7 7 11 10 2 := ⟨RX7, TX7, 41, rfl, by decide, by decide, by decide, iwX7, kw_725⟩
theorem frX7_37_11 : ax_FR RX7 37 11 28 2 := ⟨RX7, TX7, 41, rfl, by decide, by decide, by decide, iwX7, kw_734⟩
theorem frX7_17_11 : ax_FR RX7 17 11 12 2 := ⟨RX7, TX7, 41, rfl, by decide, by decide, by decide, iwX7, kw_727⟩
theorem flX7_151_11 : ax_FL RX7 151 11 2 0 (.int) false := ⟨RX7, TX7, 41, tyX7, rfl, by decide, by decide, by decide, by decide, iwX7, kw_798, tyX7_ok, nmX7, rfl, (fun h => by cases h), rfl⟩
theorem flX7_154_11 : ax_FL RX7 154 11 3 0 (.int) false := ⟨RX7, TX7, 41, tyX7, rfl, by decide, by decide, by decide, by decide, iwX7, kw_799, tyX7_ok, nmX7, rfl, (fun h => by cases h), rfl⟩
theorem flX7_157_11 : ax_FL RX7 157 11 4 0 (.int) false := ⟨RX7, TX7, 41, tyX7, rfl, by decide, by decide, by decide, by decide, iwX7, kw_800, tyX7_ok, nmX7, rfl, (fun h => by cases h), rfl⟩
theorem flX7_160_11 : ax_FL RX7 160 11 5 0 (.int) false := ⟨RX7, TX7, 41, tyX7, rfl, by decide, by decide, by decide, by decide, iwX7, kw_801, tyX7_ok, nmX7, rfl, (fun h => by cases h), rfl⟩
theorem flX7_163_11 : ax_FL RX7 163 11 6 0 (.int) false := ⟨RX7, TX7, 41, tyX7, rfl, by decide, by decide, by decide, by decide, iwX7, kw_802, tyX7_ok, nmX7, rfl, (fun h => by cases h), rfl⟩
theorem flX7_166_11 : ax_FL RX7 166 11 7 0 (.int) false := ⟨RX7, TX7, 41, tyX7, rfl, by decide, by decide, by decide, by decide, iwX7, kw_803, tyX7_ok, nmX7, rfl, (fun h => by cases h), rfl⟩
theorem flX7_169_11 : ax_FL RX7 169 11 8 0 (.int) false := ⟨RX7, TX7, 41, tyX7, rfl, by decide, by decide, by decide, by decide, iwX7, kw_804, tyX7_ok, nmX7, rfl, (fun h => by cases h), rfl⟩
theorem flX7_172_11 : ax_FL RX7 172 11 9 0 (.int) false := ⟨RX7, TX7, 41, tyX7, rfl, by decide, by decide, by decide, by decide, iwX7, kw_805, tyX7_ok, nmX7, rfl, (fun h => by cases h), rfl⟩
theorem flX7_175_11 : ax_FL RX7 175 11 32 0 (.int) false := ⟨RX7, TX7, 41, tyX7, rfl, by decide, by decide, by decide, by decide, iwX7, kw_806, tyX7_ok, nmX7, rfl, (fun h => by cases h), rfl⟩
theorem vlX7_178 : ax_VL RX7 178 yX7_puts cX7_puts 4 (none) 3 := ⟨kw_808, kw_16, kw_807, by decide +kernel⟩
theorem viX7_puts : ax_VI yX7_puts := ⟨kw_809, kw_810⟩
theorem vlX7_186 : ax_VL RX7 186 yX7_takes cX7_takes 4 (some (.int)) 2 := ⟨kw_812, kw_16, kw_811, by decide +kernel⟩
theorem viX7_takes : ax_VI yX7_takes := ⟨kw_813, kw_814⟩
theorem vlX7_182 : ax_VL RX7 182 yX7_ofLength cX7_ofLength 4 (some (.int)) 2 := ⟨kw_816, kw_16, kw_815, by decide +kernel⟩
theorem viX7_ofLength : ax_VI yX7_ofLength := ⟨kw_817, kw_818⟩
theorem frX7_175_11 : ax_FR RX7 175 11 32 0 := ⟨RX7, TX7, 41, rfl, by decide, by decide, by decide, iwX7, kw_806⟩
theorem vlX7_189 : ax_VL RX7 189 yX7_of cX7_of 3 (some (.int)) 2 := ⟨kw_820, kw_16, kw_819, by decide +kernel⟩
theorem viX7_of : ax_VI yX7_of := ⟨kw_821, kw_822⟩
theorem vlX7_195 : ax_VL RX7 195 yX7_adds cX7_adds 3 (none) 2 := ⟨kw_824, kw_16, kw_823, by decide +kernel⟩
theorem viX7_adds : ax_VI yX7_adds := ⟨kw_825, kw_826⟩
theorem vlX7_241 : ax_VL RX7 241 yX7_blocksLong cX7_blocksLong 4 (some (.int)) 1 := ⟨kw_828, kw_16, kw_827, by decide +kernel⟩
theorem viX7_blocksLong : ax_VI yX7_blocksLong := ⟨kw_829, kw_830⟩
theorem vlX7_238 : ax_VL RX7 238 yX7_hasQuoin cX7_hasQuoin 2 (some (.boolean)) 1 := ⟨kw_832, kw_16, kw_831, by decide +kernel⟩
theorem viX7_hasQuoin : ax_VI yX7_hasQuoin := ⟨kw_833, kw_834⟩
theorem vlX7_244 : ax_VL RX7 244 yX7_quoinLong cX7_quoinLong 2 (some (.int)) 1 := ⟨kw_836, kw_16, kw_835, by decide +kernel⟩
theorem viX7_quoinLong : ax_VI yX7_quoinLong := ⟨kw_837, kw_838⟩
theorem vlX7_247 : ax_VL RX7 247 yX7_filledLong cX7_filledLong 4 (some (.int)) 1 := ⟨kw_840, kw_16, kw_839, by decide +kernel⟩
theorem viX7_filledLong : ax_VI yX7_filledLong := ⟨kw_841, kw_842⟩
theorem vlX7_192 : ax_VL RX7 192 yX7_gap cX7_gap 2 (some (.int)) 1 := ⟨kw_844, kw_16, kw_843, by decide +kernel⟩
theorem viX7_gap : ax_VI yX7_gap := ⟨kw_845, kw_846⟩
theorem vlX7_203 : ax_VL RX7 203 yX7_kindLine cX7_kindLine 4 (none) 1 := ⟨kw_848, kw_16, kw_847, by decide +kernel⟩
theorem viX7_kindLine : ax_VI yX7_kindLine := ⟨kw_849, kw_850⟩
theorem vlX7_209 : ax_VL RX7 209 yX7_rowLine cX7_rowLine 3 (none) 0 := ⟨kw_852, kw_16, kw_851, by decide +kernel⟩
theorem viX7_rowLine : ax_VI yX7_rowLine := ⟨kw_853, kw_854⟩
theorem flX7_84_11 : ax_FL RX7 84 11 21 0 (.int) false := ⟨RX7, TX7, 41, tyX7, rfl, by decide, by decide, by decide, by decide, iwX7, kw_752, tyX7_ok, nmX7, rfl, (fun h => by cases h), rfl⟩
theorem vlX7_212 : ax_VL RX7 212 yX7_clears cX7_clears 2 (none) 0 := ⟨kw_856, kw_16, kw_855, by decide +kernel⟩
theorem viX7_clears : ax_VI yX7_clears := ⟨kw_857, kw_858⟩
theorem vlX7_217 : ax_VL RX7 217 yX7_word cX7_word 2 (none) 1 := ⟨kw_860, kw_16, kw_859, by decide +kernel⟩
theorem viX7_word : ax_VI yX7_word := ⟨kw_861, kw_862⟩
theorem vlX7_223 : ax_VL RX7 223 yX7_line cX7_line 1 (none) 0 := ⟨kw_864, kw_16, kw_863, by decide +kernel⟩
theorem viX7_line : ax_VI yX7_line := ⟨kw_865, kw_866⟩
theorem vlX7_226 : ax_VL RX7 226 yX7_holds cX7_holds 2 (none) 0 := ⟨kw_868, kw_16, kw_867, by decide +kernel⟩
theorem viX7_holds : ax_VI yX7_holds := ⟨kw_869, kw_870⟩
theorem vlX7_229 : ax_VL RX7 229 yX7_reads cX7_reads 2 (none) 1 := ⟨kw_872, kw_16, kw_871, by decide +kernel⟩
theorem viX7_reads : ax_VI yX7_reads := ⟨kw_873, kw_874⟩
theorem flX7_81_11 : ax_FL RX7 81 11 19 0 (.int) false := ⟨RX7, TX7, 41, tyX7, rfl, by decide, by decide, by decide, by decide, iwX7, kw_751, tyX7_ok, nmX7, rfl, (fun h => by cases h), rfl⟩
theorem frX7_113_11 : ax_FR RX7 113 11 27 0 := ⟨RX7, TX7, 41, rfl, by decide, by decide, by decide, iwX7, kw_768⟩
theorem flX7_70_11 : ax_FL RX7 70 11 1 0 (.boolean) false := ⟨RX7, TX7, 41, tyX7, rfl, by decide, by decide, by decide, by decide, iwX7, kw_745, tyX7_ok, nmX7, rfl, (fun h => by cases h), rfl⟩
theorem flX7_235_11 : ax_FL RX7 235 11 15 0 (.int) false := ⟨RX7, TX7, 41, tyX7, rfl, by decide, by decide, by decide, by decide, iwX7, kw_875, tyX7_ok, nmX7, rfl, (fun h => by cases h), rfl⟩
theorem frX7_27_11 : ax_FR RX7 27 11 16 2 := ⟨RX7, TX7, 41, rfl, by decide, by decide, by decide, iwX7, kw_731⟩
theorem vlX7_232 : ax_VL RX7 232 yX7_laysBack cX7_laysBack 2 (none) 0 := ⟨kw_877, kw_16, kw_876, by decide +kernel⟩
theorem viX7_laysBack : ax_VI yX7_laysBack := ⟨kw_878, kw_879⟩
theorem vlX7_250 : ax_VL RX7 250 yX7_flag cX7_flag 1 (some (.int)) 1 := ⟨kw_881, kw_16, kw_880, by decide +kernel⟩
theorem vlX7_254 : ax_VL RX7 254 yX7_takesQuoin cX7_takesQuoin 2 (none) 1 := ⟨kw_884, kw_16, kw_883, by decide +kernel⟩
theorem viX7_takesQuoin : ax_VI yX7_takesQuoin := ⟨kw_885, kw_886⟩
theorem vlX7_257 : ax_VL RX7 257 yX7_looseness cX7_looseness 2 (some (.int)) 1 := ⟨kw_888, kw_16, kw_887, by decide +kernel⟩
theorem viX7_looseness : ax_VI yX7_looseness := ⟨kw_889, kw_890⟩
theorem vlX7_260 : ax_VL RX7 260 yX7_empties cX7_empties 4 (some (.int)) 1 := ⟨kw_892, kw_16, kw_891, by decide +kernel⟩
theorem viX7_empties : ax_VI yX7_empties := ⟨kw_893, kw_894⟩
theorem vlX7_263 : ax_VL RX7 263 yX7_looksAtRows cX7_looksAtRows 4 (some (.int)) 0 := ⟨kw_896, kw_16, kw_895, by decide +kernel⟩
theorem viX7_looksAtRows : ax_VI yX7_looksAtRows := ⟨kw_897, kw_898⟩
theorem vlX7_266 : ax_VL RX7 266 yX7_areGood cX7_areGood 3 (some (.boolean)) 0 := ⟨kw_900, kw_16, kw_899, by decide +kernel⟩
theorem viX7_areGood : ax_VI yX7_areGood := ⟨kw_901, kw_902⟩
theorem vlX7_270 : ax_VL RX7 270 yX7_woodIn cX7_woodIn 4 (some (.int)) 1 := ⟨kw_904, kw_16, kw_903, by decide +kernel⟩
theorem viX7_woodIn : ax_VI yX7_woodIn := ⟨kw_905, kw_906⟩
theorem frX7_49_11 : ax_FR RX7 49 11 33 2 := ⟨RX7, TX7, 41, rfl, by decide, by decide, by decide, iwX7, kw_738⟩
theorem vlX7_273 : ax_VL RX7 273 yX7_isAhead cX7_isAhead 3 (some (.boolean)) 2 := ⟨kw_908, kw_16, kw_907, by decide +kernel⟩
theorem viX7_isAhead : ax_VI yX7_isAhead := ⟨kw_909, kw_910⟩
theorem frX7_58_11 : ax_FR RX7 58 11 37 0 := ⟨RX7, TX7, 41, rfl, by decide, by decide, by decide, iwX7, kw_741⟩
theorem vlX7_277 : ax_VL RX7 277 yX7_laysOrder cX7_laysOrder 4 (none) 0 := ⟨kw_912, kw_16, kw_911, by decide +kernel⟩
theorem viX7_laysOrder : ax_VI yX7_laysOrder := ⟨kw_913, kw_914⟩
theorem frX7_52_11 : ax_FR RX7 52 11 34 2 := ⟨RX7, TX7, 41, rfl, by decide, by decide, by decide, iwX7, kw_739⟩
theorem vlX7_284 : ax_VL RX7 284 yX7_leftOf cX7_leftOf 2 (some (.int)) 1 := ⟨kw_917, kw_16, kw_916, by decide +kernel⟩
theorem viX7_leftOf : ax_VI yX7_leftOf := ⟨kw_918, kw_919⟩
theorem mlX7_287 : ax_ML RX7 287 Lib.Math.min.name Lib.Math.min.code := ⟨kw_920, kw_69, kw_56, kw_70⟩
theorem vlX7_281 : ax_VL RX7 281 yX7_fewestWith cX7_fewestWith 6 (some (.int)) 2 := ⟨kw_922, kw_16, kw_921, by decide +kernel⟩
theorem viX7_fewestWith : ax_VI yX7_fewestWith := ⟨kw_923, kw_924⟩
theorem vlX7_292 : ax_VL RX7 292 yX7_need cX7_need 2 (some (.int)) 1 := ⟨kw_926, kw_16, kw_925, by decide +kernel⟩
theorem viX7_need : ax_VI yX7_need := ⟨kw_927, kw_928⟩
theorem vlX7_295 : ax_VL RX7 295 yX7_laysFewest cX7_laysFewest 4 (none) 1 := ⟨kw_930, kw_16, kw_929, by decide +kernel⟩
theorem viX7_laysFewest : ax_VI yX7_laysFewest := ⟨kw_931, kw_932⟩
theorem flX7_298_11 : ax_FL RX7 298 11 36 0 (.int) false := ⟨RX7, TX7, 41, tyX7, rfl, by decide, by decide, by decide, by decide, iwX7, kw_933, tyX7_ok, nmX7, rfl, (fun h => by cases h), rfl⟩
theorem vlX7_301 : ax_VL RX7 301 yX7_canOpen cX7_canOpen 2 (some (.boolean)) 1 := ⟨kw_935, kw_16, kw_934, by decide +kernel⟩
theorem viX7_canOpen : ax_VI yX7_canOpen := ⟨kw_936, kw_937⟩
theorem frX7_298_11 : ax_FR RX7 298 11 36 0 := ⟨RX7, TX7, 41, rfl, by decide, by decide, by decide, iwX7, kw_933⟩
theorem vlX7_304 : ax_VL RX7 304 yX7_sumFor cX7_sumFor 3 (some (.int)) 2 := ⟨kw_939, kw_16, kw_938, by decide +kernel⟩
theorem viX7_sumFor : ax_VI yX7_sumFor := ⟨kw_940, kw_941⟩
theorem frX7_55_11 : ax_FR RX7 55 11 35 2 := ⟨RX7, TX7, 41, rfl, by decide, by decide, by decide, iwX7, kw_740⟩
theorem vlX7_307 : ax_VL RX7 307 yX7_laysChosen cX7_laysChosen 8 (none) 1 := ⟨kw_943, kw_16, kw_942, by decide +kernel⟩
theorem viX7_laysChosen : ax_VI yX7_laysChosen := ⟨kw_944, kw_945⟩
theorem frX7_61_11 : ax_FR RX7 61 11 38 2 := ⟨RX7, TX7, 41, rfl, by decide, by decide, by decide, iwX7, kw_742⟩
theorem vlX7_311 : ax_VL RX7 311 yX7_chooses cX7_chooses 8 (some (.boolean)) 1 := ⟨kw_948, kw_16, kw_947, by decide +kernel⟩
theorem viX7_chooses : ax_VI yX7_chooses := ⟨kw_949, kw_950⟩
theorem vlX7_314 : ax_VL RX7 314 yX7_putsPiece cX7_putsPiece 3 (none) 2 := ⟨kw_952, kw_16, kw_951, by decide +kernel⟩
theorem viX7_putsPiece : ax_VI yX7_putsPiece := ⟨kw_953, kw_954⟩
theorem vlX7_317 : ax_VL RX7 317 yX7_isTightRow cX7_isTightRow 2 (some (.boolean)) 1 := ⟨kw_956, kw_16, kw_955, by decide +kernel⟩
theorem viX7_isTightRow : ax_VI yX7_isTightRow := ⟨kw_957, kw_958⟩
theorem vlX7_320 : ax_VL RX7 320 yX7_notLoaded cX7_notLoaded 1 (some (.boolean)) 0 := ⟨kw_960, kw_16, kw_959, by decide +kernel⟩
theorem viX7_notLoaded : ax_VI yX7_notLoaded := ⟨kw_961, kw_962⟩
theorem vlX7_323 : ax_VL RX7 323 yX7_sumOver cX7_sumOver 4 (some (.int)) 1 := ⟨kw_964, kw_16, kw_963, by decide +kernel⟩
theorem viX7_sumOver : ax_VI yX7_sumOver := ⟨kw_965, kw_966⟩
theorem vlX7_326 : ax_VL RX7 326 yX7_tightRows cX7_tightRows 3 (some (.int)) 0 := ⟨kw_968, kw_16, kw_967, by decide +kernel⟩
theorem viX7_tightRows : ax_VI yX7_tightRows := ⟨kw_969, kw_970⟩
theorem vlX7_329 : ax_VL RX7 329 yX7_leftAll cX7_leftAll 4 (some (.int)) 1 := ⟨kw_972, kw_16, kw_971, by decide +kernel⟩
theorem viX7_leftAll : ax_VI yX7_leftAll := ⟨kw_973, kw_974⟩
theorem vlX7_332 : ax_VL RX7 332 yX7_isRow cX7_isRow 2 (some (.boolean)) 1 := ⟨kw_976, kw_16, kw_975, by decide +kernel⟩
theorem viX7_isRow : ax_VI yX7_isRow := ⟨kw_977, kw_978⟩
theorem vlX7_335 : ax_VL RX7 335 yX7_noRow cX7_noRow 2 (some (.boolean)) 1 := ⟨kw_980, kw_16, kw_979, by decide +kernel⟩
theorem viX7_noRow : ax_VI yX7_noRow := ⟨kw_981, kw_982⟩
theorem vlX7_338 : ax_VL RX7 338 yX7_isKind cX7_isKind 2 (some (.boolean)) 1 := ⟨kw_984, kw_16, kw_983, by decide +kernel⟩
theorem viX7_isKind : ax_VI yX7_isKind := ⟨kw_985, kw_986⟩
theorem vlX7_341 : ax_VL RX7 341 yX7_usedOf cX7_usedOf 5 (some (.int)) 1 := ⟨kw_988, kw_16, kw_987, by decide +kernel⟩
theorem viX7_usedOf : ax_VI yX7_usedOf := ⟨kw_989, kw_990⟩
theorem vlX7_344 : ax_VL RX7 344 yX7_chosenMany cX7_chosenMany 4 (some (.int)) 1 := ⟨kw_992, kw_16, kw_991, by decide +kernel⟩
theorem viX7_chosenMany : ax_VI yX7_chosenMany := ⟨kw_993, kw_994⟩
theorem vlX7_347 : ax_VL RX7 347 yX7_chosenLong cX7_chosenLong 3 (some (.int)) 0 := ⟨kw_996, kw_16, kw_995, by decide +kernel⟩
theorem viX7_chosenLong : ax_VI yX7_chosenLong := ⟨kw_997, kw_998⟩
theorem vlX7_350 : ax_VL RX7 350 yX7_laysWays cX7_laysWays 6 (none) 1 := ⟨kw_1000, kw_16, kw_999, by decide +kernel⟩
theorem viX7_laysWays : ax_VI yX7_laysWays := ⟨kw_1001, kw_1002⟩
theorem frX7_20_11 : ax_FR RX7 20 11 13 2 := ⟨RX7, TX7, 41, rfl, by decide, by decide, by decide, iwX7, kw_728⟩
theorem vlX7_353 : ax_VL RX7 353 yX7_putsAside cX7_putsAside 2 (none) 0 := ⟨kw_1004, kw_16, kw_1003, by decide +kernel⟩
theorem viX7_putsAside : ax_VI yX7_putsAside := ⟨kw_1005, kw_1006⟩
theorem vlX7_356 : ax_VL RX7 356 yX7_fetchesBack cX7_fetchesBack 3 (some (.int)) 1 := ⟨kw_1008, kw_16, kw_1007, by decide +kernel⟩
theorem viX7_fetchesBack : ax_VI yX7_fetchesBack := ⟨kw_1009, kw_1010⟩
theorem vlX7_359 : ax_VL RX7 359 yX7_fewestIf cX7_fewestIf 4 (some (.int)) 2 := ⟨kw_1012, kw_16, kw_1011, by decide +kernel⟩
theorem viX7_fewestIf : ax_VI yX7_fewestIf := ⟨kw_1013, kw_1014⟩
theorem vlX7_365 : ax_VL RX7 365 yX7_prints cX7_prints 2 (some (.int)) 0 := ⟨kw_1016, kw_16, kw_1015, by decide +kernel⟩
theorem viX7_prints : ax_VI yX7_prints := ⟨kw_1017, kw_1018⟩
theorem vlX7_362 : ax_VL RX7 362 yX7_passes cX7_passes 2 (some (.int)) 0 := ⟨kw_1020, kw_16, kw_1019, by decide +kernel⟩
theorem viX7_passes : ax_VI yX7_passes := ⟨kw_1021, kw_1022⟩
theorem vlX7_368 : ax_VL RX7 368 yX7_locks cX7_locks 4 (some (.boolean)) 1 := ⟨kw_1024, kw_16, kw_1023, by decide +kernel⟩
theorem viX7_locks : ax_VI yX7_locks := ⟨kw_1025, kw_1026⟩
theorem frX7_64_11 : ax_FR RX7 64 11 39 2 := ⟨RX7, TX7, 41, rfl, by decide, by decide, by decide, iwX7, kw_743⟩
theorem frX7_371_11 : ax_FR RX7 371 11 40 0 := ⟨RX7, TX7, 41, rfl, by decide, by decide, by decide, iwX7, kw_1027⟩
theorem flX7_371_11 : ax_FL RX7 371 11 40 0 (.int) false := ⟨RX7, TX7, 41, tyX7, rfl, by decide, by decide, by decide, by decide, iwX7, kw_1027, tyX7_ok, nmX7, rfl, (fun h => by cases h), rfl⟩
theorem vlX7_374 : ax_VL RX7 374 yX7_says cX7_says 2 (none) 1 := ⟨kw_1029, kw_16, kw_1028, by decide +kernel⟩
theorem viX7_says : ax_VI yX7_says := ⟨kw_1030, kw_1031⟩
theorem vlX7_377 : ax_VL RX7 377 yX7_saysNumber cX7_saysNumber 3 (none) 1 := ⟨kw_1033, kw_16, kw_1032, by decide +kernel⟩
theorem viX7_saysNumber : ax_VI yX7_saysNumber := ⟨kw_1034, kw_1035⟩
theorem vlX7_380 : ax_VL RX7 380 yX7_saysBlank cX7_saysBlank 1 (none) 0 := ⟨kw_1037, kw_16, kw_1036, by decide +kernel⟩
theorem viX7_saysBlank : ax_VI yX7_saysBlank := ⟨kw_1038, kw_1039⟩
theorem vlX7_386 : ax_VL RX7 386 yX7_saysQuoin cX7_saysQuoin 2 (none) 1 := ⟨kw_1041, kw_16, kw_1040, by decide +kernel⟩
theorem viX7_saysQuoin : ax_VI yX7_saysQuoin := ⟨kw_1042, kw_1043⟩
theorem vlX7_383 : ax_VL RX7 383 yX7_saysKind cX7_saysKind 2 (none) 1 := ⟨kw_1045, kw_16, kw_1044, by decide +kernel⟩
theorem viX7_saysKind : ax_VI yX7_saysKind := ⟨kw_1046, kw_1047⟩
theorem frX7_24_11 : ax_FR RX7 24 11 14 2 := ⟨RX7, TX7, 41, rfl, by decide, by decide, by decide, iwX7, kw_730⟩
theorem frX7_235_11 : ax_FR RX7 235 11 15 0 := ⟨RX7, TX7, 41, rfl, by decide, by decide, by decide, iwX7, kw_875⟩
theorem vlX7_389 : ax_VL RX7 389 yX7_keeps cX7_keeps 3 (none) 1 := ⟨kw_1049, kw_16, kw_1048, by decide +kernel⟩
theorem viX7_keeps : ax_VI yX7_keeps := ⟨kw_1050, kw_1051⟩
theorem vlX7_392 : ax_VL RX7 392 yX7_keepsAll cX7_keepsAll 2 (none) 0 := ⟨kw_1053, kw_16, kw_1052, by decide +kernel⟩
theorem viX7_keepsAll : ax_VI yX7_keepsAll := ⟨kw_1054, kw_1055⟩
theorem mlX7_395 : ax_ML RX7 395 Lib.Math.max.name Lib.Math.max.code := ⟨kw_1056, kw_55, kw_56, kw_57⟩
theorem vlX7_398 : ax_VL RX7 398 yX7_ones cX7_ones 3 (some (.int)) 1 := ⟨kw_1058, kw_16, kw_1057, by decide +kernel⟩
theorem vlX7_401 : ax_VL RX7 401 yX7_fetches cX7_fetches 3 (none) 1 := ⟨kw_1061, kw_16, kw_1060, by decide +kernel⟩
theorem viX7_fetches : ax_VI yX7_fetches := ⟨kw_1062, kw_1063⟩
theorem vlL_7 : ax_VL RL 7 yX6_load cX6_load 2 (some (.int)) 1 := ⟨kw_1065, kw_14, kw_1064, by decide +kernel⟩
theorem viX6_load : ax_VI yX6_load := ⟨kw_1066, kw_1067⟩
theorem vlL_17 : ax_VL RL 17 yX6_count cX6_count 2 (some (.int)) 1 := ⟨kw_1071, kw_14, kw_1070, by decide +kernel⟩
theorem viX6_count : ax_VI yX6_count := ⟨kw_1072, kw_1073⟩
theorem vlL_22 : ax_VL RL 22 yX6_setting cX6_setting 2 (some (.int)) 1 := ⟨kw_1076, kw_14, kw_1075, by decide +kernel⟩
theorem viX6_setting : ax_VI yX6_setting := ⟨kw_1077, kw_1078⟩
theorem vlL_25 : ax_VL RL 25 yX6_row cX6_row 4 (some (.int)) 2 := ⟨kw_1080, kw_14, kw_1079, by decide +kernel⟩
theorem viX6_row : ax_VI yX6_row := ⟨kw_1081, kw_1082⟩
theorem vlL_29 : ax_VL RL 29 yX6_block cX6_block 4 (some (.int)) 2 := ⟨kw_1084, kw_14, kw_1083, by decide +kernel⟩
theorem viX6_block : ax_VI yX6_block := ⟨kw_1085, kw_1086⟩
theorem vlL_32 : ax_VL RL 32 yX6_piece cX6_piece 4 (some (.int)) 2 := ⟨kw_1088, kw_14, kw_1087, by decide +kernel⟩
theorem viX6_piece : ax_VI yX6_piece := ⟨kw_1089, kw_1090⟩
theorem vlL_35 : ax_VL RL 35 yX6_kind cX6_kind 3 (some (.int)) 2 := ⟨kw_1092, kw_14, kw_1091, by decide +kernel⟩
theorem viX6_kind : ax_VI yX6_kind := ⟨kw_1093, kw_1094⟩
theorem vlL_38 : ax_VL RL 38 yX6_kindOf cX6_kindOf 3 (some (.int)) 2 := ⟨kw_1096, kw_14, kw_1095, by decide +kernel⟩
theorem viX6_kindOf : ax_VI yX6_kindOf := ⟨kw_1097, kw_1098⟩
theorem vlL_42 : ax_VL RL 42 yX6_isTight cX6_isTight 2 (some (.boolean)) 1 := ⟨kw_1100, kw_14, kw_1099, by decide +kernel⟩
theorem viX6_isTight : ax_VI yX6_isTight := ⟨kw_1101, kw_1102⟩
theorem vlL_46 : ax_VL RL 46 yX6_widestGap cX6_widestGap 3 (some (.int)) 0 := ⟨kw_1104, kw_14, kw_1103, by decide +kernel⟩
theorem viX6_widestGap : ax_VI yX6_widestGap := ⟨kw_1105, kw_1106⟩
theorem vlL_50 : ax_VL RL 50 yX6_loosest cX6_loosest 5 (some (.int)) 0 := ⟨kw_1108, kw_14, kw_1107, by decide +kernel⟩
theorem viX6_loosest : ax_VI yX6_loosest := ⟨kw_1109, kw_1110⟩
theorem vlL_53 : ax_VL RL 53 yX6_longestLeft cX6_longestLeft 3 (some (.int)) 0 := ⟨kw_1112, kw_14, kw_1111, by decide +kernel⟩
theorem viX6_longestLeft : ax_VI yX6_longestLeft := ⟨kw_1113, kw_1114⟩
theorem vlL_56 : ax_VL RL 56 yX6_lengthLeft cX6_lengthLeft 3 (some (.int)) 0 := ⟨kw_1116, kw_14, kw_1115, by decide +kernel⟩
theorem viX6_lengthLeft : ax_VI yX6_lengthLeft := ⟨kw_1117, kw_1118⟩
theorem vlL_59 : ax_VL RL 59 yX6_meanGap cX6_meanGap 3 (some (.double)) 0 := ⟨kw_1120, kw_14, kw_1119, by decide +kernel⟩
theorem viX6_meanGap : ax_VI yX6_meanGap := ⟨kw_1121, kw_1122⟩
theorem vlL_63 : ax_VL RL 63 yX6_woodShare cX6_woodShare 3 (some (.float)) 0 := ⟨kw_1124, kw_14, kw_1123, by decide +kernel⟩
theorem viX6_woodShare : ax_VI yX6_woodShare := ⟨kw_1125, kw_1126⟩
theorem vlL_67 : ax_VL RL 67 yX6_goodShare cX6_goodShare 1 (some (.float)) 0 := ⟨kw_1128, kw_14, kw_1127, by decide +kernel⟩
theorem viX6_goodShare : ax_VI yX6_goodShare := ⟨kw_1129, kw_1130⟩
theorem vlL_70 : ax_VL RL 70 yX6_choice cX6_choice 4 (some (.int)) 2 := ⟨kw_1132, kw_14, kw_1131, by decide +kernel⟩
theorem viX6_choice : ax_VI yX6_choice := ⟨kw_1133, kw_1134⟩
theorem vlL_73 : ax_VL RL 73 yX6_chosen cX6_chosen 4 (some (.int)) 2 := ⟨kw_1136, kw_14, kw_1135, by decide +kernel⟩
theorem viX6_chosen : ax_VI yX6_chosen := ⟨kw_1137, kw_1138⟩
theorem vlL_76 : ax_VL RL 76 yX6_ways cX6_ways 3 (some (.int)) 1 := ⟨kw_1140, kw_14, kw_1139, by decide +kernel⟩
theorem viX6_ways : ax_VI yX6_ways := ⟨kw_1141, kw_1142⟩
theorem vlL_79 : ax_VL RL 79 yX6_nearest cX6_nearest 6 (some (.int)) 1 := ⟨kw_1144, kw_14, kw_1143, by decide +kernel⟩
theorem viX6_nearest : ax_VI yX6_nearest := ⟨kw_1145, kw_1146⟩
theorem vlL_82 : ax_VL RL 82 yX6_fewestAt cX6_fewestAt 4 (some (.int)) 2 := ⟨kw_1148, kw_14, kw_1147, by decide +kernel⟩
theorem viX6_fewestAt : ax_VI yX6_fewestAt := ⟨kw_1149, kw_1150⟩
theorem vlL_85 : ax_VL RL 85 yX6_rowFor cX6_rowFor 6 (some (.int)) 1 := ⟨kw_1152, kw_14, kw_1151, by decide +kernel⟩
theorem viX6_rowFor : ax_VI yX6_rowFor := ⟨kw_1153, kw_1154⟩
theorem vlL_88 : ax_VL RL 88 yX6_missing cX6_missing 3 (some (.int)) 1 := ⟨kw_1156, kw_14, kw_1155, by decide +kernel⟩
theorem viX6_missing : ax_VI yX6_missing := ⟨kw_1157, kw_1158⟩
theorem vlL_91 : ax_VL RL 91 yX6_canPut cX6_canPut 4 (some (.boolean)) 2 := ⟨kw_1160, kw_14, kw_1159, by decide +kernel⟩
theorem viX6_canPut : ax_VI yX6_canPut := ⟨kw_1161, kw_1162⟩
theorem vlL_95 : ax_VL RL 95 yX6_freshChoice cX6_freshChoice 2 (some (.int)) 1 := ⟨kw_1164, kw_14, kw_1163, by decide +kernel⟩
theorem viX6_freshChoice : ax_VI yX6_freshChoice := ⟨kw_1165, kw_1166⟩
theorem vlL_98 : ax_VL RL 98 yX6_fillable cX6_fillable 4 (some (.int)) 1 := ⟨kw_1168, kw_14, kw_1167, by decide +kernel⟩
theorem viX6_fillable : ax_VI yX6_fillable := ⟨kw_1169, kw_1170⟩
theorem vlL_101 : ax_VL RL 101 yX6_fallsIn cX6_fallsIn 7 (some (.int)) 2 := ⟨kw_1172, kw_14, kw_1171, by decide +kernel⟩
theorem viX6_fallsIn : ax_VI yX6_fallsIn := ⟨kw_1173, kw_1174⟩
theorem vlL_105 : ax_VL RL 105 yX6_goodIn cX6_goodIn 2 (some (.int)) 1 := ⟨kw_1176, kw_14, kw_1175, by decide +kernel⟩
theorem viX6_goodIn : ax_VI yX6_goodIn := ⟨kw_1177, kw_1178⟩
theorem vlL_108 : ax_VL RL 108 yX6_lockable cX6_lockable 4 (some (.int)) 0 := ⟨kw_1180, kw_14, kw_1179, by decide +kernel⟩
theorem viX6_lockable : ax_VI yX6_lockable := ⟨kw_1181, kw_1182⟩
theorem vlL_111 : ax_VL RL 111 yX6_lockedAll cX6_lockedAll 2 (some (.int)) 0 := ⟨kw_1184, kw_14, kw_1183, by decide +kernel⟩
theorem viX6_lockedAll : ax_VI yX6_lockedAll := ⟨kw_1185, kw_1186⟩
theorem vlL_114 : ax_VL RL 114 yX6_writeRow cX6_writeRow 4 (some (.int)) 1 := ⟨kw_1188, kw_14, kw_1187, by decide +kernel⟩
theorem viX6_writeRow : ax_VI yX6_writeRow := ⟨kw_1189, kw_1190⟩
theorem vlL_117 : ax_VL RL 117 yX6_writeChoice cX6_writeChoice 5 (some (.int)) 1 := ⟨kw_1192, kw_14, kw_1191, by decide +kernel⟩
theorem viX6_writeChoice : ax_VI yX6_writeChoice := ⟨kw_1193, kw_1194⟩
theorem vlL_120 : ax_VL RL 120 yX6_writeStock cX6_writeStock 2 (some (.int)) 0 := ⟨kw_1196, kw_14, kw_1195, by decide +kernel⟩
theorem viX6_writeStock : ax_VI yX6_writeStock := ⟨kw_1197, kw_1198⟩
theorem vlL_123 : ax_VL RL 123 yX6_textByte cX6_textByte 2 (some (.int)) 1 := ⟨kw_1200, kw_14, kw_1199, by decide +kernel⟩
theorem viX6_textByte : ax_VI yX6_textByte := ⟨kw_1201, kw_1202⟩
theorem vlL_126 : ax_VL RL 126 yX6_place cX6_place 4 (some (.int)) 2 := ⟨kw_1204, kw_14, kw_1203, by decide +kernel⟩
theorem viX6_place : ax_VI yX6_place := ⟨kw_1205, kw_1206⟩
theorem vlL_129 : ax_VL RL 129 yX6_lift cX6_lift 4 (some (.int)) 2 := ⟨kw_1208, kw_14, kw_1207, by decide +kernel⟩
theorem viX6_lift : ax_VI yX6_lift := ⟨kw_1209, kw_1210⟩
theorem vlL_132 : ax_VL RL 132 yX6_put cX6_put 4 (some (.int)) 2 := ⟨kw_1212, kw_14, kw_1211, by decide +kernel⟩
theorem viX6_put : ax_VI yX6_put := ⟨kw_1213, kw_1214⟩
theorem vlL_135 : ax_VL RL 135 yX6_take cX6_take 4 (some (.int)) 2 := ⟨kw_1216, kw_14, kw_1215, by decide +kernel⟩
theorem viX6_take : ax_VI yX6_take := ⟨kw_1217, kw_1218⟩
theorem vlL_138 : ax_VL RL 138 yX6_quoin cX6_quoin 4 (some (.int)) 2 := ⟨kw_1220, kw_14, kw_1219, by decide +kernel⟩
theorem viX6_quoin : ax_VI yX6_quoin := ⟨kw_1221, kw_1222⟩
theorem vlL_141 : ax_VL RL 141 yX6_open cX6_open 4 (some (.int)) 2 := ⟨kw_1224, kw_14, kw_1223, by decide +kernel⟩
theorem viX6_open : ax_VI yX6_open := ⟨kw_1225, kw_1226⟩
theorem vlL_144 : ax_VL RL 144 yX6_lock cX6_lock 3 (some (.int)) 1 := ⟨kw_1228, kw_14, kw_1227, by decide +kernel⟩
theorem viX6_lock : ax_VI yX6_lock := ⟨kw_1229, kw_1230⟩
theorem vlL_147 : ax_VL RL 147 yX6_unlock cX6_unlock 4 (some (.int)) 1 := ⟨kw_1232, kw_14, kw_1231, by decide +kernel⟩
theorem viX6_unlock : ax_VI yX6_unlock := ⟨kw_1233, kw_1234⟩
theorem vlL_150 : ax_VL RL 150 yX6_relock cX6_relock 2 (some (.int)) 1 := ⟨kw_1236, kw_14, kw_1235, by decide +kernel⟩
theorem viX6_relock : ax_VI yX6_relock := ⟨kw_1237, kw_1238⟩
theorem vlL_153 : ax_VL RL 153 yX6_tighten cX6_tighten 3 (some (.int)) 1 := ⟨kw_1240, kw_14, kw_1239, by decide +kernel⟩
theorem viX6_tighten : ax_VI yX6_tighten := ⟨kw_1241, kw_1242⟩
theorem vlL_156 : ax_VL RL 156 yX6_print cX6_print 2 (some (.int)) 1 := ⟨kw_1244, kw_14, kw_1243, by decide +kernel⟩
theorem viX6_print : ax_VI yX6_print := ⟨kw_1245, kw_1246⟩
theorem vlL_159 : ax_VL RL 159 yX6_rest cX6_rest 4 (some (.int)) 1 := ⟨kw_1248, kw_14, kw_1247, by decide +kernel⟩
theorem viX6_rest : ax_VI yX6_rest := ⟨kw_1249, kw_1250⟩
theorem vlL_162 : ax_VL RL 162 yX6_buy cX6_buy 3 (some (.int)) 2 := ⟨kw_1252, kw_14, kw_1251, by decide +kernel⟩
theorem viX6_buy : ax_VI yX6_buy := ⟨kw_1253, kw_1254⟩
theorem vlL_165 : ax_VL RL 165 yX6_undo cX6_undo 1 (some (.int)) 0 := ⟨kw_1256, kw_14, kw_1255, by decide +kernel⟩
theorem viX6_undo : ax_VI yX6_undo := ⟨kw_1257, kw_1258⟩
theorem vlL_168 : ax_VL RL 168 yX6_save cX6_save 2 (some (.int)) 1 := ⟨kw_1260, kw_14, kw_1259, by decide +kernel⟩
theorem viX6_save : ax_VI yX6_save := ⟨kw_1261, kw_1262⟩
theorem vlL_171 : ax_VL RL 171 yX6_restore cX6_restore 2 (some (.int)) 1 := ⟨kw_1264, kw_14, kw_1263, by decide +kernel⟩
theorem viX6_restore : ax_VI yX6_restore := ⟨kw_1265, kw_1266⟩
