theorem kw_0 : Cond.initialized RJ4 ∈ ax_ALL := ax_in (List.mem_append_right _ (List.mem_of_getElem? (i := 8) (by decide +kernel))) (by decide +kernel)
theorem kw_1 : Cond.instantiable RJ4 4 ∈ ax_ALL := ax_in (List.mem_append_right _ (List.mem_of_getElem? (i := 230) (by decide +kernel))) (by decide +kernel)
theorem kw_2 : Cond.initialized RX0 ∈ ax_ALL := ax_in (List.mem_append_right _ (List.mem_of_getElem? (i := 4) (by decide +kernel))) (by decide +kernel)
theorem kw_3 : Cond.instantiable RX0 3 ∈ ax_ALL := ax_in (List.mem_append_right _ (List.mem_of_getElem? (i := 115) (by decide +kernel))) (by decide +kernel)
theorem kw_4 : Cond.initialized RX1 ∈ ax_ALL := ax_in (List.mem_append_right _ (List.mem_of_getElem? (i := 11) (by decide +kernel))) (by decide +kernel)
theorem kw_5 : Cond.instantiable RX1 11 ∈ ax_ALL := ax_in (List.mem_append_right _ (List.mem_of_getElem? (i := 263) (by decide +kernel))) (by decide +kernel)
theorem kw_6 : Cond.initialized RX2 ∈ ax_ALL := ax_in (List.mem_append_right _ (List.mem_of_getElem? (i := 2) (by decide +kernel))) (by decide +kernel)
theorem kw_7 : Cond.instantiable RX2 9 ∈ ax_ALL := ax_in (List.mem_append_right _ (List.mem_of_getElem? (i := 37) (by decide +kernel))) (by decide +kernel)
theorem kw_8 : Cond.initialized RX3 ∈ ax_ALL := ax_in (List.mem_append_right _ (List.mem_of_getElem? (i := 6) (by decide +kernel))) (by decide +kernel)
theorem kw_9 : Cond.instantiable RX3 10 ∈ ax_ALL := ax_in (List.mem_append_right _ (List.mem_of_getElem? (i := 129) (by decide +kernel))) (by decide +kernel)
theorem kw_10 : Cond.initialized RX4 ∈ ax_ALL := ax_in (List.mem_append_right _ (List.mem_of_getElem? (i := 3) (by decide +kernel))) (by decide +kernel)
theorem kw_11 : Cond.instantiable RX4 8 ∈ ax_ALL := ax_in (List.mem_append_right _ (List.mem_of_getElem? (i := 76) (by decide +kernel))) (by decide +kernel)
theorem kw_12 : Cond.initialized RX5 ∈ ax_ALL := ax_in (List.mem_append_right _ (List.mem_of_getElem? (i := 5) (by decide +kernel))) (by decide +kernel)
theorem kw_13 : Cond.instantiable RX5 8 ∈ ax_ALL := ax_in (List.mem_append_right _ (List.mem_of_getElem? (i := 122) (by decide +kernel))) (by decide +kernel)
theorem kw_14 : Cond.initialized RX6 ∈ ax_ALL := ax_in (List.mem_append_right _ (List.mem_of_getElem? (i := 1) (by decide +kernel))) (by decide +kernel)
theorem kw_15 : Cond.instantiable RX6 11 ∈ ax_ALL := ax_in (List.mem_append_right _ (List.mem_of_getElem? (i := 29) (by decide +kernel))) (by decide +kernel)
theorem kw_16 : Cond.initialized RX7 ∈ ax_ALL := ax_in (List.mem_append_right _ (List.mem_of_getElem? (i := 12) (by decide +kernel))) (by decide +kernel)
theorem kw_17 : Cond.instantiable RX7 41 ∈ ax_ALL := ax_in (List.mem_append_right _ (List.mem_of_getElem? (i := 1594) (by decide +kernel))) (by decide +kernel)
theorem kw_18 : Cond.methodLink RX1 3 Lib.objectInit ∈ ax_ALL := ax_in (List.mem_append_right _ (List.mem_of_getElem? (i := 267) (by decide +kernel))) (by decide +kernel)
theorem kw_19 : Cond.instanceMethod Lib.objectInit ∈ ax_ALL := ax_in (List.mem_append_right _ (List.mem_of_getElem? (i := 34) (by decide +kernel))) (by decide +kernel)
theorem kw_20 : Cond.code Lib.objectInit ⟨#[0xb1]⟩ 1 none ∈ ax_ALL := ax_in (List.mem_append_right _ (List.mem_of_getElem? (i := 35) (by decide +kernel))) (by decide +kernel)
theorem kw_21 : Cond.arrayClass .boolean ∈ ax_ALL := ax_in (List.mem_append_right _ (List.mem_of_getElem? (i := 74) (by decide +kernel))) (by decide +kernel)
theorem kw_22 : Cond.fieldLink RX1 9 "ChaseLocker$Plan" "metal" "[Z" ∈ ax_ALL := ax_in (List.mem_append_right _ (List.mem_of_getElem? (i := 296) (by decide +kernel))) (by decide +kernel)
theorem kw_23 : Cond.arrayClass .int ∈ ax_ALL := ax_in (List.mem_append_right _ (List.mem_of_getElem? (i := 73) (by decide +kernel))) (by decide +kernel)
theorem kw_24 : Cond.fieldLink RX1 15 "ChaseLocker$Plan" "lengths" "[I" ∈ ax_ALL := ax_in (List.mem_append_right _ (List.mem_of_getElem? (i := 300) (by decide +kernel))) (by decide +kernel)
theorem kw_25 : Cond.fieldLink RX1 19 "ChaseLocker$Plan" "order" "[I" ∈ ax_ALL := ax_in (List.mem_append_right _ (List.mem_of_getElem? (i := 304) (by decide +kernel))) (by decide +kernel)
theorem kw_26 : Cond.fieldLink RX1 22 "ChaseLocker$Plan" "kinds" "I" ∈ ax_ALL := ax_in (List.mem_append_right _ (List.mem_of_getElem? (i := 290) (by decide +kernel))) (by decide +kernel)
theorem kw_27 : Cond.code yX1_isAhead cX1_isAhead 3 (some (.boolean)) ∈ ax_ALL := ax_in (List.mem_append_right _ (List.mem_of_getElem? (i := 607) (by decide +kernel))) (by decide +kernel)
theorem kw_28 : Cond.methodLink RX1 26 yX1_isAhead ∈ ax_ALL := ax_in (List.mem_append_right _ (List.mem_of_getElem? (i := 604) (by decide +kernel))) (by decide +kernel)
theorem kw_29 : Cond.instanceMethod yX1_isAhead ∈ ax_ALL := ax_in (List.mem_append_right _ (List.mem_of_getElem? (i := 606) (by decide +kernel))) (by decide +kernel)
theorem kw_30 : Cond.selects (yX1_isAhead).cls yX1_isAhead yX1_isAhead ∈ ax_ALL := ax_in (List.mem_append_left _ (List.mem_of_getElem? (i := 15) (by decide +kernel))) (by decide +kernel)
theorem kw_31 : Cond.methodLink RX3 5 Lib.objectInit ∈ ax_ALL := ax_in (List.mem_append_right _ (List.mem_of_getElem? (i := 133) (by decide +kernel))) (by decide +kernel)
theorem kw_32 : Cond.fieldLink RX3 11 "ChaseLocker$Row" "blocks" "[I" ∈ ax_ALL := ax_in (List.mem_append_right _ (List.mem_of_getElem? (i := 134) (by decide +kernel))) (by decide +kernel)
theorem kw_33 : Cond.arrayClass .long ∈ ax_ALL := ax_in (List.mem_append_right _ (List.mem_of_getElem? (i := 178) (by decide +kernel))) (by decide +kernel)
theorem kw_34 : Cond.fieldLink RX3 15 "ChaseLocker$Row" "pieceWords" "[J" ∈ ax_ALL := ax_in (List.mem_append_right _ (List.mem_of_getElem? (i := 141) (by decide +kernel))) (by decide +kernel)
theorem kw_35 : Cond.fieldLink RX3 19 "ChaseLocker$Row" "ofKind" "[I" ∈ ax_ALL := ax_in (List.mem_append_right _ (List.mem_of_getElem? (i := 146) (by decide +kernel))) (by decide +kernel)
theorem kw_36 : Cond.fieldLink RX3 22 "ChaseLocker$Row" "opening" "I" ∈ ax_ALL := ax_in (List.mem_append_right _ (List.mem_of_getElem? (i := 148) (by decide +kernel))) (by decide +kernel)
theorem kw_37 : Cond.fieldLink RX3 44 "ChaseLocker$Row" "blockCount" "I" ∈ ax_ALL := ax_in (List.mem_append_right _ (List.mem_of_getElem? (i := 135) (by decide +kernel))) (by decide +kernel)
theorem kw_38 : Cond.fieldLink RX3 47 "ChaseLocker$Row" "blockSum" "I" ∈ ax_ALL := ax_in (List.mem_append_right _ (List.mem_of_getElem? (i := 139) (by decide +kernel))) (by decide +kernel)
theorem kw_39 : Cond.code yX3_dropBlocks cX3_dropBlocks 1 (none) ∈ ax_ALL := ax_in (List.mem_append_right _ (List.mem_of_getElem? (i := 505) (by decide +kernel))) (by decide +kernel)
theorem kw_40 : Cond.methodLink RX3 26 yX3_dropBlocks ∈ ax_ALL := ax_in (List.mem_append_right _ (List.mem_of_getElem? (i := 502) (by decide +kernel))) (by decide +kernel)
theorem kw_41 : Cond.instanceMethod yX3_dropBlocks ∈ ax_ALL := ax_in (List.mem_append_right _ (List.mem_of_getElem? (i := 503) (by decide +kernel))) (by decide +kernel)
theorem kw_42 : Cond.selects (yX3_dropBlocks).cls yX3_dropBlocks yX3_dropBlocks ∈ ax_ALL := ax_in (List.mem_append_right _ (List.mem_of_getElem? (i := 504) (by decide +kernel))) (by decide +kernel)
theorem kw_43 : Cond.fieldLink RX3 50 "ChaseLocker$Row" "pieceCount" "I" ∈ ax_ALL := ax_in (List.mem_append_right _ (List.mem_of_getElem? (i := 142) (by decide +kernel))) (by decide +kernel)
theorem kw_44 : Cond.fieldLink RX3 53 "ChaseLocker$Row" "pieceSum" "I" ∈ ax_ALL := ax_in (List.mem_append_right _ (List.mem_of_getElem? (i := 145) (by decide +kernel))) (by decide +kernel)
theorem kw_45 : Cond.code yX3_dropPieces cX3_dropPieces 2 (none) ∈ ax_ALL := ax_in (List.mem_append_right _ (List.mem_of_getElem? (i := 509) (by decide +kernel))) (by decide +kernel)
theorem kw_46 : Cond.methodLink RX3 29 yX3_dropPieces ∈ ax_ALL := ax_in (List.mem_append_right _ (List.mem_of_getElem? (i := 506) (by decide +kernel))) (by decide +kernel)
theorem kw_47 : Cond.instanceMethod yX3_dropPieces ∈ ax_ALL := ax_in (List.mem_append_right _ (List.mem_of_getElem? (i := 507) (by decide +kernel))) (by decide +kernel)
theorem kw_48 : Cond.selects (yX3_dropPieces).cls yX3_dropPieces yX3_dropPieces ∈ ax_ALL := ax_in (List.mem_append_right _ (List.mem_of_getElem? (i := 508) (by decide +kernel))) (by decide +kernel)
theorem kw_49 : Cond.fieldLink RX3 32 "ChaseLocker$Row" "takeUp" "I" ∈ ax_ALL := ax_in (List.mem_append_right _ (List.mem_of_getElem? (i := 151) (by decide +kernel))) (by decide +kernel)
theorem kw_50 : Cond.fieldLink RX3 35 "ChaseLocker$Row" "slack" "I" ∈ ax_ALL := ax_in (List.mem_append_right _ (List.mem_of_getElem? (i := 154) (by decide +kernel))) (by decide +kernel)
theorem kw_51 : Cond.methodLink RX3 38 arraycopyName ∈ ax_ALL := ax_in (List.mem_append_right _ (List.mem_of_getElem? (i := 658) (by decide +kernel))) (by decide +kernel)
theorem kw_52 : Cond.native arraycopyName ∈ ax_ALL := ax_in (List.mem_append_right _ (List.mem_of_getElem? (i := 660) (by decide +kernel))) (by decide +kernel)
theorem kw_53 : Cond.static arraycopyName ∈ ax_ALL := ax_in (List.mem_append_right _ (List.mem_of_getElem? (i := 659) (by decide +kernel))) (by decide +kernel)
theorem kw_54 : Cond.initialized "java/lang/System" ∈ ax_ALL := ax_in (List.mem_append_right _ (List.mem_of_getElem? (i := 21) (by decide +kernel))) (by decide +kernel)
theorem kw_55 : Cond.fieldLink RX3 56 "ChaseLocker$Plan" "size" "I" ∈ ax_ALL := ax_in (List.mem_append_right _ (List.mem_of_getElem? (i := 269) (by decide +kernel))) (by decide +kernel)
theorem kw_56 : Cond.code yX3_roomIn cX3_roomIn 2 (some (.int)) ∈ ax_ALL := ax_in (List.mem_append_right _ (List.mem_of_getElem? (i := 621) (by decide +kernel))) (by decide +kernel)
theorem kw_57 : Cond.methodLink RX3 61 yX3_roomIn ∈ ax_ALL := ax_in (List.mem_append_right _ (List.mem_of_getElem? (i := 618) (by decide +kernel))) (by decide +kernel)
theorem kw_58 : Cond.instanceMethod yX3_roomIn ∈ ax_ALL := ax_in (List.mem_append_right _ (List.mem_of_getElem? (i := 619) (by decide +kernel))) (by decide +kernel)
theorem kw_59 : Cond.selects (yX3_roomIn).cls yX3_roomIn yX3_roomIn ∈ ax_ALL := ax_in (List.mem_append_right _ (List.mem_of_getElem? (i := 620) (by decide +kernel))) (by decide +kernel)
theorem kw_60 : Cond.code yX3_hasQuoin cX3_hasQuoin 1 (some (.boolean)) ∈ ax_ALL := ax_in (List.mem_append_right _ (List.mem_of_getElem? (i := 625) (by decide +kernel))) (by decide +kernel)
theorem kw_61 : Cond.methodLink RX3 65 yX3_hasQuoin ∈ ax_ALL := ax_in (List.mem_append_right _ (List.mem_of_getElem? (i := 622) (by decide +kernel))) (by decide +kernel)
theorem kw_62 : Cond.instanceMethod yX3_hasQuoin ∈ ax_ALL := ax_in (List.mem_append_right _ (List.mem_of_getElem? (i := 623) (by decide +kernel))) (by decide +kernel)
theorem kw_63 : Cond.selects (yX3_hasQuoin).cls yX3_hasQuoin yX3_hasQuoin ∈ ax_ALL := ax_in (List.mem_append_right _ (List.mem_of_getElem? (i := 624) (by decide +kernel))) (by decide +kernel)
theorem kw_64 : Cond.fieldLink RX3 69 "ChaseLocker$Plan" "quoinLength" "I" ∈ ax_ALL := ax_in (List.mem_append_right _ (List.mem_of_getElem? (i := 274) (by decide +kernel))) (by decide +kernel)
theorem kw_65 : Cond.code yX3_gapIn cX3_gapIn 2 (some (.int)) ∈ ax_ALL := ax_in (List.mem_append_right _ (List.mem_of_getElem? (i := 617) (by decide +kernel))) (by decide +kernel)
theorem kw_66 : Cond.methodLink RX3 72 yX3_gapIn ∈ ax_ALL := ax_in (List.mem_append_right _ (List.mem_of_getElem? (i := 710) (by decide +kernel))) (by decide +kernel)
theorem kw_67 : Cond.instanceMethod yX3_gapIn ∈ ax_ALL := ax_in (List.mem_append_right _ (List.mem_of_getElem? (i := 615) (by decide +kernel))) (by decide +kernel)
theorem kw_68 : Cond.selects (yX3_gapIn).cls yX3_gapIn yX3_gapIn ∈ ax_ALL := ax_in (List.mem_append_right _ (List.mem_of_getElem? (i := 616) (by decide +kernel))) (by decide +kernel)
theorem kw_69 : Cond.fieldLink RX3 75 "ChaseLocker$Plan" "shake" "I" ∈ ax_ALL := ax_in (List.mem_append_right _ (List.mem_of_getElem? (i := 283) (by decide +kernel))) (by decide +kernel)
theorem kw_70 : Cond.fieldLink RX3 78 "ChaseLocker$Plan" "dry" "I" ∈ ax_ALL := ax_in (List.mem_append_right _ (List.mem_of_getElem? (i := 286) (by decide +kernel))) (by decide +kernel)
theorem kw_71 : Cond.fieldLink RX3 84 "ChaseLocker$Plan" "kinds" "I" ∈ ax_ALL := ax_in (List.mem_append_right _ (List.mem_of_getElem? (i := 294) (by decide +kernel))) (by decide +kernel)
theorem kw_72 : Cond.fieldLink RX3 87 "ChaseLocker$Plan" "metal" "[Z" ∈ ax_ALL := ax_in (List.mem_append_right _ (List.mem_of_getElem? (i := 297) (by decide +kernel))) (by decide +kernel)
theorem kw_73 : Cond.code yX3_woodIn cX3_woodIn 4 (some (.int)) ∈ ax_ALL := ax_in (List.mem_append_right _ (List.mem_of_getElem? (i := 740) (by decide +kernel))) (by decide +kernel)
theorem kw_74 : Cond.methodLink RX3 81 yX3_woodIn ∈ ax_ALL := ax_in (List.mem_append_right _ (List.mem_of_getElem? (i := 1048) (by decide +kernel))) (by decide +kernel)
theorem kw_75 : Cond.instanceMethod yX3_woodIn ∈ ax_ALL := ax_in (List.mem_append_right _ (List.mem_of_getElem? (i := 738) (by decide +kernel))) (by decide +kernel)
theorem kw_76 : Cond.selects (yX3_woodIn).cls yX3_woodIn yX3_woodIn ∈ ax_ALL := ax_in (List.mem_append_right _ (List.mem_of_getElem? (i := 739) (by decide +kernel))) (by decide +kernel)
theorem kw_77 : Cond.code yX3_blockAt cX3_blockAt 2 (some (.int)) ∈ ax_ALL := ax_in (List.mem_append_right _ (List.mem_of_getElem? (i := 757) (by decide +kernel))) (by decide +kernel)
theorem kw_78 : Cond.methodLink RX3 91 yX3_blockAt ∈ ax_ALL := ax_in (List.mem_append_right _ (List.mem_of_getElem? (i := 1459) (by decide +kernel))) (by decide +kernel)
theorem kw_79 : Cond.instanceMethod yX3_blockAt ∈ ax_ALL := ax_in (List.mem_append_right _ (List.mem_of_getElem? (i := 755) (by decide +kernel))) (by decide +kernel)
theorem kw_80 : Cond.selects (yX3_blockAt).cls yX3_blockAt yX3_blockAt ∈ ax_ALL := ax_in (List.mem_append_right _ (List.mem_of_getElem? (i := 756) (by decide +kernel))) (by decide +kernel)
theorem kw_81 : Cond.constantLong RX3 95 15 ∈ ax_ALL := ax_in (List.mem_append_right _ (List.mem_of_getElem? (i := 1115) (by decide +kernel))) (by decide +kernel)
theorem kw_82 : Cond.constantLong RX3 97 (-1) ∈ ax_ALL := ax_in (List.mem_append_right _ (List.mem_of_getElem? (i := 1116) (by decide +kernel))) (by decide +kernel)
theorem kw_83 : Cond.code yX3_setPiece cX3_setPiece 6 (none) ∈ ax_ALL := ax_in (List.mem_append_right _ (List.mem_of_getElem? (i := 1114) (by decide +kernel))) (by decide +kernel)
theorem kw_84 : Cond.methodLink RX3 99 yX3_setPiece ∈ ax_ALL := ax_in (List.mem_append_right _ (List.mem_of_getElem? (i := 1111) (by decide +kernel))) (by decide +kernel)
theorem kw_85 : Cond.instanceMethod yX3_setPiece ∈ ax_ALL := ax_in (List.mem_append_right _ (List.mem_of_getElem? (i := 1113) (by decide +kernel))) (by decide +kernel)
theorem kw_86 : Cond.selects (yX3_setPiece).cls yX3_setPiece yX3_setPiece ∈ ax_ALL := ax_in (List.mem_append_left _ (List.mem_of_getElem? (i := 34) (by decide +kernel))) (by decide +kernel)
theorem kw_87 : Cond.fieldLink RX3 103 "ChaseLocker$Plan" "lengths" "[I" ∈ ax_ALL := ax_in (List.mem_append_right _ (List.mem_of_getElem? (i := 303) (by decide +kernel))) (by decide +kernel)
theorem kw_88 : Cond.code yX3_pieceAt cX3_pieceAt 3 (some (.int)) ∈ ax_ALL := ax_in (List.mem_append_right _ (List.mem_of_getElem? (i := 768) (by decide +kernel))) (by decide +kernel)
theorem kw_89 : Cond.methodLink RX3 106 yX3_pieceAt ∈ ax_ALL := ax_in (List.mem_append_right _ (List.mem_of_getElem? (i := 1484) (by decide +kernel))) (by decide +kernel)
theorem kw_90 : Cond.instanceMethod yX3_pieceAt ∈ ax_ALL := ax_in (List.mem_append_right _ (List.mem_of_getElem? (i := 766) (by decide +kernel))) (by decide +kernel)
theorem kw_91 : Cond.selects (yX3_pieceAt).cls yX3_pieceAt yX3_pieceAt ∈ ax_ALL := ax_in (List.mem_append_right _ (List.mem_of_getElem? (i := 767) (by decide +kernel))) (by decide +kernel)
theorem kw_92 : Cond.methodLink RX0 3 Lib.objectInit ∈ ax_ALL := ax_in (List.mem_append_right _ (List.mem_of_getElem? (i := 119) (by decide +kernel))) (by decide +kernel)
theorem kw_93 : Cond.classLink RX0 9 RX5 ∈ ax_ALL := ax_in (List.mem_append_right _ (List.mem_of_getElem? (i := 120) (by decide +kernel))) (by decide +kernel)
theorem kw_94 : Cond.fieldLink RX0 11 "ChaseLocker$History" "ring" "[LChaseLocker$State;" ∈ ax_ALL := ax_in (List.mem_append_right _ (List.mem_of_getElem? (i := 216) (by decide +kernel))) (by decide +kernel)
theorem kw_95 : Cond.methodLink RX5 3 Lib.objectInit ∈ ax_ALL := ax_in (List.mem_append_right _ (List.mem_of_getElem? (i := 126) (by decide +kernel))) (by decide +kernel)
theorem kw_96 : Cond.classLink RX5 9 RX3 ∈ ax_ALL := ax_in (List.mem_append_right _ (List.mem_of_getElem? (i := 127) (by decide +kernel))) (by decide +kernel)
theorem kw_97 : Cond.fieldLink RX5 11 "ChaseLocker$State" "rows" "[LChaseLocker$Row;" ∈ ax_ALL := ax_in (List.mem_append_right _ (List.mem_of_getElem? (i := 179) (by decide +kernel))) (by decide +kernel)
theorem kw_98 : Cond.fieldLink RX5 17 "ChaseLocker$State" "left" "[I" ∈ ax_ALL := ax_in (List.mem_append_right _ (List.mem_of_getElem? (i := 182) (by decide +kernel))) (by decide +kernel)
theorem kw_99 : Cond.code yX3_init cX3_init 1 (none) ∈ ax_ALL := ax_in (List.mem_append_right _ (List.mem_of_getElem? (i := 132) (by decide +kernel))) (by decide +kernel)
theorem kw_100 : Cond.instanceMethod yX3_init ∈ ax_ALL := ax_in (List.mem_append_right _ (List.mem_of_getElem? (i := 131) (by decide +kernel))) (by decide +kernel)
theorem kw_101 : Cond.code yX5_init cX5_init 2 (none) ∈ ax_ALL := ax_in (List.mem_append_right _ (List.mem_of_getElem? (i := 125) (by decide +kernel))) (by decide +kernel)
theorem kw_102 : Cond.instanceMethod yX5_init ∈ ax_ALL := ax_in (List.mem_append_right _ (List.mem_of_getElem? (i := 124) (by decide +kernel))) (by decide +kernel)
theorem kw_103 : Cond.methodLink RX0 17 yX5_init ∈ ax_ALL := ax_in (List.mem_append_right _ (List.mem_of_getElem? (i := 123) (by decide +kernel))) (by decide +kernel)
theorem kw_104 : Cond.fieldLink RX0 18 "ChaseLocker$History" "many" "I" ∈ ax_ALL := ax_in (List.mem_append_right _ (List.mem_of_getElem? (i := 218) (by decide +kernel))) (by decide +kernel)
theorem kw_105 : Cond.fieldLink RX0 22 "ChaseLocker$History" "next" "I" ∈ ax_ALL := ax_in (List.mem_append_right _ (List.mem_of_getElem? (i := 217) (by decide +kernel))) (by decide +kernel)
theorem kw_106 : Cond.methodLink RX5 48 arraycopyName ∈ ax_ALL := ax_in (List.mem_append_right _ (List.mem_of_getElem? (i := 661) (by decide +kernel))) (by decide +kernel)
theorem kw_107 : Cond.fieldLink RX5 25 "ChaseLocker$State" "quoins" "I" ∈ ax_ALL := ax_in (List.mem_append_right _ (List.mem_of_getElem? (i := 186) (by decide +kernel))) (by decide +kernel)
theorem kw_108 : Cond.fieldLink RX5 29 "ChaseLocker$State" "impressions" "I" ∈ ax_ALL := ax_in (List.mem_append_right _ (List.mem_of_getElem? (i := 189) (by decide +kernel))) (by decide +kernel)
theorem kw_109 : Cond.fieldLink RX5 32 "ChaseLocker$State" "goodOnes" "I" ∈ ax_ALL := ax_in (List.mem_append_right _ (List.mem_of_getElem? (i := 191) (by decide +kernel))) (by decide +kernel)
theorem kw_110 : Cond.fieldLink RX5 35 "ChaseLocker$State" "days" "I" ∈ ax_ALL := ax_in (List.mem_append_right _ (List.mem_of_getElem? (i := 193) (by decide +kernel))) (by decide +kernel)
theorem kw_111 : Cond.fieldLink RX5 38 "ChaseLocker$State" "pied" "I" ∈ ax_ALL := ax_in (List.mem_append_right _ (List.mem_of_getElem? (i := 195) (by decide +kernel))) (by decide +kernel)
theorem kw_112 : Cond.fieldLink RX5 41 "ChaseLocker$State" "fallen" "I" ∈ ax_ALL := ax_in (List.mem_append_right _ (List.mem_of_getElem? (i := 197) (by decide +kernel))) (by decide +kernel)
theorem kw_113 : Cond.code yX3_copyFrom cX3_copyFrom 2 (none) ∈ ax_ALL := ax_in (List.mem_append_right _ (List.mem_of_getElem? (i := 657) (by decide +kernel))) (by decide +kernel)
theorem kw_114 : Cond.methodLink RX5 44 yX3_copyFrom ∈ ax_ALL := ax_in (List.mem_append_right _ (List.mem_of_getElem? (i := 654) (by decide +kernel))) (by decide +kernel)
theorem kw_115 : Cond.instanceMethod yX3_copyFrom ∈ ax_ALL := ax_in (List.mem_append_right _ (List.mem_of_getElem? (i := 655) (by decide +kernel))) (by decide +kernel)
theorem kw_116 : Cond.selects (yX3_copyFrom).cls yX3_copyFrom yX3_copyFrom ∈ ax_ALL := ax_in (List.mem_append_right _ (List.mem_of_getElem? (i := 656) (by decide +kernel))) (by decide +kernel)
theorem kw_117 : Cond.code yX5_copyFrom cX5_copyFrom 3 (none) ∈ ax_ALL := ax_in (List.mem_append_right _ (List.mem_of_getElem? (i := 653) (by decide +kernel))) (by decide +kernel)
theorem kw_118 : Cond.methodLink RX0 25 yX5_copyFrom ∈ ax_ALL := ax_in (List.mem_append_right _ (List.mem_of_getElem? (i := 1445) (by decide +kernel))) (by decide +kernel)
theorem kw_119 : Cond.instanceMethod yX5_copyFrom ∈ ax_ALL := ax_in (List.mem_append_right _ (List.mem_of_getElem? (i := 651) (by decide +kernel))) (by decide +kernel)
theorem kw_120 : Cond.selects (yX5_copyFrom).cls yX5_copyFrom yX5_copyFrom ∈ ax_ALL := ax_in (List.mem_append_right _ (List.mem_of_getElem? (i := 652) (by decide +kernel))) (by decide +kernel)
theorem kw_121 : Cond.methodLink RX0 29 Lib.Math.min.name ∈ ax_ALL := ax_in (List.mem_append_right _ (List.mem_of_getElem? (i := 1446) (by decide +kernel))) (by decide +kernel)
theorem kw_122 : Cond.static Lib.Math.min.name ∈ ax_ALL := ax_in (List.mem_append_right _ (List.mem_of_getElem? (i := 480) (by decide +kernel))) (by decide +kernel)
theorem kw_123 : Cond.initialized "java/lang/Math" ∈ ax_ALL := ax_in (List.mem_append_right _ (List.mem_of_getElem? (i := 17) (by decide +kernel))) (by decide +kernel)
theorem kw_124 : Cond.code Lib.Math.min.name Lib.Math.min.code 2 (some .int) ∈ ax_ALL := ax_in (List.mem_append_right _ (List.mem_of_getElem? (i := 481) (by decide +kernel))) (by decide +kernel)
theorem kw_125 : Cond.code yX3_clear cX3_clear 1 (none) ∈ ax_ALL := ax_in (List.mem_append_right _ (List.mem_of_getElem? (i := 501) (by decide +kernel))) (by decide +kernel)
theorem kw_126 : Cond.methodLink RX5 22 yX3_clear ∈ ax_ALL := ax_in (List.mem_append_right _ (List.mem_of_getElem? (i := 498) (by decide +kernel))) (by decide +kernel)
theorem kw_127 : Cond.instanceMethod yX3_clear ∈ ax_ALL := ax_in (List.mem_append_right _ (List.mem_of_getElem? (i := 499) (by decide +kernel))) (by decide +kernel)
theorem kw_128 : Cond.selects (yX3_clear).cls yX3_clear yX3_clear ∈ ax_ALL := ax_in (List.mem_append_right _ (List.mem_of_getElem? (i := 500) (by decide +kernel))) (by decide +kernel)
theorem kw_129 : Cond.fieldLink RX5 54 "ChaseLocker$Row" "blockCount" "I" ∈ ax_ALL := ax_in (List.mem_append_right _ (List.mem_of_getElem? (i := 136) (by decide +kernel))) (by decide +kernel)
theorem kw_130 : Cond.fieldLink RX5 57 "ChaseLocker$Row" "pieceCount" "I" ∈ ax_ALL := ax_in (List.mem_append_right _ (List.mem_of_getElem? (i := 143) (by decide +kernel))) (by decide +kernel)
theorem kw_131 : Cond.fieldLink RX5 60 "ChaseLocker$Row" "ofKind" "[I" ∈ ax_ALL := ax_in (List.mem_append_right _ (List.mem_of_getElem? (i := 147) (by decide +kernel))) (by decide +kernel)
theorem kw_132 : Cond.code yX3_isTightIn cX3_isTightIn 2 (some (.boolean)) ∈ ax_ALL := ax_in (List.mem_append_right _ (List.mem_of_getElem? (i := 709) (by decide +kernel))) (by decide +kernel)
theorem kw_133 : Cond.methodLink RX5 63 yX3_isTightIn ∈ ax_ALL := ax_in (List.mem_append_right _ (List.mem_of_getElem? (i := 706) (by decide +kernel))) (by decide +kernel)
theorem kw_134 : Cond.instanceMethod yX3_isTightIn ∈ ax_ALL := ax_in (List.mem_append_right _ (List.mem_of_getElem? (i := 707) (by decide +kernel))) (by decide +kernel)
theorem kw_135 : Cond.selects (yX3_isTightIn).cls yX3_isTightIn yX3_isTightIn ∈ ax_ALL := ax_in (List.mem_append_right _ (List.mem_of_getElem? (i := 708) (by decide +kernel))) (by decide +kernel)
theorem kw_136 : Cond.methodLink RX5 67 yX3_hasQuoin ∈ ax_ALL := ax_in (List.mem_append_right _ (List.mem_of_getElem? (i := 896) (by decide +kernel))) (by decide +kernel)
theorem kw_137 : Cond.fieldLink RX5 71 "ChaseLocker$Row" "opening" "I" ∈ ax_ALL := ax_in (List.mem_append_right _ (List.mem_of_getElem? (i := 149) (by decide +kernel))) (by decide +kernel)
theorem kw_138 : Cond.fieldLink RX5 74 "ChaseLocker$Row" "takeUp" "I" ∈ ax_ALL := ax_in (List.mem_append_right _ (List.mem_of_getElem? (i := 152) (by decide +kernel))) (by decide +kernel)
theorem kw_139 : Cond.code yX3_addPiece cX3_addPiece 3 (none) ∈ ax_ALL := ax_in (List.mem_append_right _ (List.mem_of_getElem? (i := 1110) (by decide +kernel))) (by decide +kernel)
theorem kw_140 : Cond.methodLink RX5 77 yX3_addPiece ∈ ax_ALL := ax_in (List.mem_append_right _ (List.mem_of_getElem? (i := 1107) (by decide +kernel))) (by decide +kernel)
theorem kw_141 : Cond.instanceMethod yX3_addPiece ∈ ax_ALL := ax_in (List.mem_append_right _ (List.mem_of_getElem? (i := 1108) (by decide +kernel))) (by decide +kernel)
theorem kw_142 : Cond.selects (yX3_addPiece).cls yX3_addPiece yX3_addPiece ∈ ax_ALL := ax_in (List.mem_append_right _ (List.mem_of_getElem? (i := 1109) (by decide +kernel))) (by decide +kernel)
theorem kw_143 : Cond.code yX3_removePiece cX3_removePiece 5 (some (.int)) ∈ ax_ALL := ax_in (List.mem_append_right _ (List.mem_of_getElem? (i := 1483) (by decide +kernel))) (by decide +kernel)
theorem kw_144 : Cond.methodLink RX5 81 yX3_removePiece ∈ ax_ALL := ax_in (List.mem_append_right _ (List.mem_of_getElem? (i := 1480) (by decide +kernel))) (by decide +kernel)
theorem kw_145 : Cond.instanceMethod yX3_removePiece ∈ ax_ALL := ax_in (List.mem_append_right _ (List.mem_of_getElem? (i := 1481) (by decide +kernel))) (by decide +kernel)
theorem kw_146 : Cond.selects (yX3_removePiece).cls yX3_removePiece yX3_removePiece ∈ ax_ALL := ax_in (List.mem_append_right _ (List.mem_of_getElem? (i := 1482) (by decide +kernel))) (by decide +kernel)
theorem kw_147 : Cond.fieldLink RX5 85 "ChaseLocker$Plan" "kinds" "I" ∈ ax_ALL := ax_in (List.mem_append_right _ (List.mem_of_getElem? (i := 295) (by decide +kernel))) (by decide +kernel)
theorem kw_148 : Cond.fieldLink RX5 102 "ChaseLocker$Solver" "opening" "I" ∈ ax_ALL := ax_in (List.mem_append_right _ (List.mem_of_getElem? (i := 95) (by decide +kernel))) (by decide +kernel)
theorem kw_149 : Cond.fieldLink RX5 107 "ChaseLocker$Row" "slack" "I" ∈ ax_ALL := ax_in (List.mem_append_right _ (List.mem_of_getElem? (i := 156) (by decide +kernel))) (by decide +kernel)
theorem kw_150 : Cond.code yX5_setQuoin cX5_setQuoin 3 (none) ∈ ax_ALL := ax_in (List.mem_append_right _ (List.mem_of_getElem? (i := 1120) (by decide +kernel))) (by decide +kernel)
theorem kw_151 : Cond.methodLink RX5 103 yX5_setQuoin ∈ ax_ALL := ax_in (List.mem_append_right _ (List.mem_of_getElem? (i := 1117) (by decide +kernel))) (by decide +kernel)
theorem kw_152 : Cond.instanceMethod yX5_setQuoin ∈ ax_ALL := ax_in (List.mem_append_right _ (List.mem_of_getElem? (i := 1118) (by decide +kernel))) (by decide +kernel)
theorem kw_153 : Cond.selects (yX5_setQuoin).cls yX5_setQuoin yX5_setQuoin ∈ ax_ALL := ax_in (List.mem_append_right _ (List.mem_of_getElem? (i := 1119) (by decide +kernel))) (by decide +kernel)
theorem kw_154 : Cond.fieldLink RX5 90 "ChaseLocker$Plan" "order" "[I" ∈ ax_ALL := ax_in (List.mem_append_right _ (List.mem_of_getElem? (i := 306) (by decide +kernel))) (by decide +kernel)
theorem kw_155 : Cond.fieldLink RX5 93 "ChaseLocker$Solver" "taken" "[I" ∈ ax_ALL := ax_in (List.mem_append_right _ (List.mem_of_getElem? (i := 88) (by decide +kernel))) (by decide +kernel)
theorem kw_156 : Cond.code yX5_movePieceIn cX5_movePieceIn 4 (none) ∈ ax_ALL := ax_in (List.mem_append_right _ (List.mem_of_getElem? (i := 1106) (by decide +kernel))) (by decide +kernel)
theorem kw_157 : Cond.methodLink RX5 98 yX5_movePieceIn ∈ ax_ALL := ax_in (List.mem_append_right _ (List.mem_of_getElem? (i := 1103) (by decide +kernel))) (by decide +kernel)
theorem kw_158 : Cond.instanceMethod yX5_movePieceIn ∈ ax_ALL := ax_in (List.mem_append_right _ (List.mem_of_getElem? (i := 1104) (by decide +kernel))) (by decide +kernel)
theorem kw_159 : Cond.selects (yX5_movePieceIn).cls yX5_movePieceIn yX5_movePieceIn ∈ ax_ALL := ax_in (List.mem_append_right _ (List.mem_of_getElem? (i := 1105) (by decide +kernel))) (by decide +kernel)
theorem kw_160 : Cond.methodLink RX5 110 yX3_dropPieces ∈ ax_ALL := ax_in (List.mem_append_right _ (List.mem_of_getElem? (i := 1024) (by decide +kernel))) (by decide +kernel)
theorem kw_161 : Cond.code yX5_removeQuoin cX5_removeQuoin 2 (none) ∈ ax_ALL := ax_in (List.mem_append_right _ (List.mem_of_getElem? (i := 1028) (by decide +kernel))) (by decide +kernel)
theorem kw_162 : Cond.methodLink RX5 113 yX5_removeQuoin ∈ ax_ALL := ax_in (List.mem_append_right _ (List.mem_of_getElem? (i := 1025) (by decide +kernel))) (by decide +kernel)
theorem kw_163 : Cond.instanceMethod yX5_removeQuoin ∈ ax_ALL := ax_in (List.mem_append_right _ (List.mem_of_getElem? (i := 1026) (by decide +kernel))) (by decide +kernel)
theorem kw_164 : Cond.selects (yX5_removeQuoin).cls yX5_removeQuoin yX5_removeQuoin ∈ ax_ALL := ax_in (List.mem_append_right _ (List.mem_of_getElem? (i := 1027) (by decide +kernel))) (by decide +kernel)
theorem kw_165 : Cond.code yX3_loosenessIn cX3_loosenessIn 2 (some (.int)) ∈ ax_ALL := ax_in (List.mem_append_right _ (List.mem_of_getElem? (i := 819) (by decide +kernel))) (by decide +kernel)
theorem kw_166 : Cond.methodLink RX5 133 yX3_loosenessIn ∈ ax_ALL := ax_in (List.mem_append_right _ (List.mem_of_getElem? (i := 1074) (by decide +kernel))) (by decide +kernel)
theorem kw_167 : Cond.instanceMethod yX3_loosenessIn ∈ ax_ALL := ax_in (List.mem_append_right _ (List.mem_of_getElem? (i := 817) (by decide +kernel))) (by decide +kernel)
theorem kw_168 : Cond.selects (yX3_loosenessIn).cls yX3_loosenessIn yX3_loosenessIn ∈ ax_ALL := ax_in (List.mem_append_right _ (List.mem_of_getElem? (i := 818) (by decide +kernel))) (by decide +kernel)
theorem kw_169 : Cond.fieldLink RX5 136 "ChaseLocker$Plan" "hold" "I" ∈ ax_ALL := ax_in (List.mem_append_right _ (List.mem_of_getElem? (i := 289) (by decide +kernel))) (by decide +kernel)
theorem kw_170 : Cond.methodLink RX5 139 yX3_dropBlocks ∈ ax_ALL := ax_in (List.mem_append_right _ (List.mem_of_getElem? (i := 1075) (by decide +kernel))) (by decide +kernel)
theorem kw_171 : Cond.code yX5_empty cX5_empty 4 (none) ∈ ax_ALL := ax_in (List.mem_append_right _ (List.mem_of_getElem? (i := 1023) (by decide +kernel))) (by decide +kernel)
theorem kw_172 : Cond.methodLink RX5 142 yX5_empty ∈ ax_ALL := ax_in (List.mem_append_right _ (List.mem_of_getElem? (i := 1076) (by decide +kernel))) (by decide +kernel)
theorem kw_173 : Cond.instanceMethod yX5_empty ∈ ax_ALL := ax_in (List.mem_append_right _ (List.mem_of_getElem? (i := 1021) (by decide +kernel))) (by decide +kernel)
theorem kw_174 : Cond.selects (yX5_empty).cls yX5_empty yX5_empty ∈ ax_ALL := ax_in (List.mem_append_right _ (List.mem_of_getElem? (i := 1022) (by decide +kernel))) (by decide +kernel)
theorem kw_175 : Cond.code yX5_dropLooseRows cX5_dropLooseRows 4 (some (.int)) ∈ ax_ALL := ax_in (List.mem_append_right _ (List.mem_of_getElem? (i := 1073) (by decide +kernel))) (by decide +kernel)
theorem kw_176 : Cond.methodLink RX5 124 yX5_dropLooseRows ∈ ax_ALL := ax_in (List.mem_append_right _ (List.mem_of_getElem? (i := 1070) (by decide +kernel))) (by decide +kernel)
theorem kw_177 : Cond.instanceMethod yX5_dropLooseRows ∈ ax_ALL := ax_in (List.mem_append_right _ (List.mem_of_getElem? (i := 1072) (by decide +kernel))) (by decide +kernel)
theorem kw_178 : Cond.selects (yX5_dropLooseRows).cls yX5_dropLooseRows yX5_dropLooseRows ∈ ax_ALL := ax_in (List.mem_append_left _ (List.mem_of_getElem? (i := 32) (by decide +kernel))) (by decide +kernel)
theorem kw_179 : Cond.code yX3_isFirmIn cX3_isFirmIn 2 (some (.boolean)) ∈ ax_ALL := ax_in (List.mem_append_right _ (List.mem_of_getElem? (i := 1084) (by decide +kernel))) (by decide +kernel)
theorem kw_180 : Cond.methodLink RX5 146 yX3_isFirmIn ∈ ax_ALL := ax_in (List.mem_append_right _ (List.mem_of_getElem? (i := 1081) (by decide +kernel))) (by decide +kernel)
theorem kw_181 : Cond.instanceMethod yX3_isFirmIn ∈ ax_ALL := ax_in (List.mem_append_right _ (List.mem_of_getElem? (i := 1082) (by decide +kernel))) (by decide +kernel)
theorem kw_182 : Cond.selects (yX3_isFirmIn).cls yX3_isFirmIn yX3_isFirmIn ∈ ax_ALL := ax_in (List.mem_append_right _ (List.mem_of_getElem? (i := 1083) (by decide +kernel))) (by decide +kernel)
theorem kw_183 : Cond.code yX5_isFirm cX5_isFirm 3 (some (.boolean)) ∈ ax_ALL := ax_in (List.mem_append_right _ (List.mem_of_getElem? (i := 1080) (by decide +kernel))) (by decide +kernel)
theorem kw_184 : Cond.methodLink RX5 127 yX5_isFirm ∈ ax_ALL := ax_in (List.mem_append_right _ (List.mem_of_getElem? (i := 1077) (by decide +kernel))) (by decide +kernel)
theorem kw_185 : Cond.instanceMethod yX5_isFirm ∈ ax_ALL := ax_in (List.mem_append_right _ (List.mem_of_getElem? (i := 1079) (by decide +kernel))) (by decide +kernel)
theorem kw_186 : Cond.selects (yX5_isFirm).cls yX5_isFirm yX5_isFirm ∈ ax_ALL := ax_in (List.mem_append_left _ (List.mem_of_getElem? (i := 33) (by decide +kernel))) (by decide +kernel)
theorem kw_187 : Cond.code yX3_growthInImpression cX3_growthInImpression 2 (some (.int)) ∈ ax_ALL := ax_in (List.mem_append_right _ (List.mem_of_getElem? (i := 1052) (by decide +kernel))) (by decide +kernel)
theorem kw_188 : Cond.methodLink RX5 120 yX3_growthInImpression ∈ ax_ALL := ax_in (List.mem_append_right _ (List.mem_of_getElem? (i := 1069) (by decide +kernel))) (by decide +kernel)
theorem kw_189 : Cond.instanceMethod yX3_growthInImpression ∈ ax_ALL := ax_in (List.mem_append_right _ (List.mem_of_getElem? (i := 1050) (by decide +kernel))) (by decide +kernel)
theorem kw_190 : Cond.selects (yX3_growthInImpression).cls yX3_growthInImpression yX3_growthInImpression ∈ ax_ALL := ax_in (List.mem_append_right _ (List.mem_of_getElem? (i := 1051) (by decide +kernel))) (by decide +kernel)
theorem kw_191 : Cond.code yX5_impress cX5_impress 3 (none) ∈ ax_ALL := ax_in (List.mem_append_right _ (List.mem_of_getElem? (i := 1068) (by decide +kernel))) (by decide +kernel)
theorem kw_192 : Cond.methodLink RX5 116 yX5_impress ∈ ax_ALL := ax_in (List.mem_append_right _ (List.mem_of_getElem? (i := 1065) (by decide +kernel))) (by decide +kernel)
theorem kw_193 : Cond.instanceMethod yX5_impress ∈ ax_ALL := ax_in (List.mem_append_right _ (List.mem_of_getElem? (i := 1067) (by decide +kernel))) (by decide +kernel)
theorem kw_194 : Cond.selects (yX5_impress).cls yX5_impress yX5_impress ∈ ax_ALL := ax_in (List.mem_append_left _ (List.mem_of_getElem? (i := 31) (by decide +kernel))) (by decide +kernel)
theorem kw_195 : Cond.code yX3_growthInDay cX3_growthInDay 2 (some (.int)) ∈ ax_ALL := ax_in (List.mem_append_right _ (List.mem_of_getElem? (i := 1047) (by decide +kernel))) (by decide +kernel)
theorem kw_196 : Cond.methodLink RX5 130 yX3_growthInDay ∈ ax_ALL := ax_in (List.mem_append_right _ (List.mem_of_getElem? (i := 1557) (by decide +kernel))) (by decide +kernel)
theorem kw_197 : Cond.instanceMethod yX3_growthInDay ∈ ax_ALL := ax_in (List.mem_append_right _ (List.mem_of_getElem? (i := 1045) (by decide +kernel))) (by decide +kernel)
theorem kw_198 : Cond.selects (yX3_growthInDay).cls yX3_growthInDay yX3_growthInDay ∈ ax_ALL := ax_in (List.mem_append_right _ (List.mem_of_getElem? (i := 1046) (by decide +kernel))) (by decide +kernel)
theorem iwJ4 : ∀ w ∈ u_ws RJ4 TJ4 4, w ∈ ax_ALL := ax_all_in (by decide +kernel)
theorem ax_DF1 : ax_DF 1 4 := ⟨RJ4, TJ4, tyJ4, rfl, by decide, iwJ4, tyJ4_ok, by decide, by decide, kw_1, kw_0⟩
theorem iwX0 : ∀ w ∈ u_ws RX0 TX0 3, w ∈ ax_ALL := ax_all_in (by decide +kernel)
theorem ax_DF4 : ax_DF 4 3 := ⟨RX0, TX0, tyX0, rfl, by decide, iwX0, tyX0_ok, by decide, by decide, kw_3, kw_2⟩
theorem iwX1 : ∀ w ∈ u_ws RX1 TX1 11, w ∈ ax_ALL := ax_all_in (by decide +kernel)
theorem ax_DF5 : ax_DF 5 11 := ⟨RX1, TX1, tyX1, rfl, by decide, iwX1, tyX1_ok, by decide, by decide, kw_5, kw_4⟩
theorem iwX2 : ∀ w ∈ u_ws RX2 TX2 9, w ∈ ax_ALL := ax_all_in (by decide +kernel)
theorem ax_DF6 : ax_DF 6 9 := ⟨RX2, TX2, tyX2, rfl, by decide, iwX2, tyX2_ok, by decide, by decide, kw_7, kw_6⟩
theorem iwX3 : ∀ w ∈ u_ws RX3 TX3 10, w ∈ ax_ALL := ax_all_in (by decide +kernel)
theorem ax_DF7 : ax_DF 7 10 := ⟨RX3, TX3, tyX3, rfl, by decide, iwX3, tyX3_ok, by decide, by decide, kw_9, kw_8⟩
theorem iwX4 : ∀ w ∈ u_ws RX4 TX4 8, w ∈ ax_ALL := ax_all_in (by decide +kernel)
theorem ax_DF8 : ax_DF 8 8 := ⟨RX4, TX4, tyX4, rfl, by decide, iwX4, tyX4_ok, by decide, by decide, kw_11, kw_10⟩
theorem iwX5 : ∀ w ∈ u_ws RX5 TX5 8, w ∈ ax_ALL := ax_all_in (by decide +kernel)
theorem ax_DF9 : ax_DF 9 8 := ⟨RX5, TX5, tyX5, rfl, by decide, iwX5, tyX5_ok, by decide, by decide, kw_13, kw_12⟩
theorem iwX6 : ∀ w ∈ u_ws RX6 TX6 11, w ∈ ax_ALL := ax_all_in (by decide +kernel)
theorem ax_DF10 : ax_DF 10 11 := ⟨RX6, TX6, tyX6, rfl, by decide, iwX6, tyX6_ok, by decide, by decide, kw_15, kw_14⟩
theorem iwX7 : ∀ w ∈ u_ws RX7 TX7 41, w ∈ ax_ALL := ax_all_in (by decide +kernel)
theorem ax_DF11 : ax_DF 11 41 := ⟨RX7, TX7, tyX7, rfl, by decide, iwX7, tyX7_ok, by decide, by decide, kw_17, kw_16⟩
theorem flX1_9_5 : ax_FL RX1 9 5 8 2 (.array .boolean) true := ⟨RX1, TX1, 11, tyX1, rfl, by decide, by decide, by decide, by decide, iwX1, kw_22, tyX1_ok, nmX1, rfl, (fun h => rfl), rfl⟩
theorem flX1_15_5 : ax_FL RX1 15 5 9 2 (.array .int) true := ⟨RX1, TX1, 11, tyX1, rfl, by decide, by decide, by decide, by decide, iwX1, kw_24, tyX1_ok, nmX1, rfl, (fun h => rfl), rfl⟩
theorem flX1_19_5 : ax_FL RX1 19 5 10 2 (.array .int) true := ⟨RX1, TX1, 11, tyX1, rfl, by decide, by decide, by decide, by decide, iwX1, kw_25, tyX1_ok, nmX1, rfl, (fun h => rfl), rfl⟩
theorem frX1_22_5 : ax_FR RX1 22 5 7 0 := ⟨RX1, TX1, 11, rfl, by decide, by decide, by decide, iwX1, kw_26⟩
theorem frX1_9_5 : ax_FR RX1 9 5 8 2 := ⟨RX1, TX1, 11, rfl, by decide, by decide, by decide, iwX1, kw_22⟩
theorem frX1_15_5 : ax_FR RX1 15 5 9 2 := ⟨RX1, TX1, 11, rfl, by decide, by decide, by decide, iwX1, kw_24⟩
theorem frX1_19_5 : ax_FR RX1 19 5 10 2 := ⟨RX1, TX1, 11, rfl, by decide, by decide, by decide, iwX1, kw_25⟩
theorem flX1_22_5 : ax_FL RX1 22 5 7 0 (.int) false := ⟨RX1, TX1, 11, tyX1, rfl, by decide, by decide, by decide, by decide, iwX1, kw_26, tyX1_ok, nmX1, rfl, (fun h => by cases h), rfl⟩
theorem vlX1_26 : ax_VL RX1 26 yX1_isAhead cX1_isAhead 3 (some (.boolean)) 2 := ⟨kw_28, kw_4, kw_27, by decide +kernel⟩
theorem viX1_isAhead : ax_VI yX1_isAhead := ⟨kw_29, kw_30⟩
theorem flX3_11_7 : ax_FL RX3 11 7 0 2 (.array .int) true := ⟨RX3, TX3, 10, tyX3, rfl, by decide, by decide, by decide, by decide, iwX3, kw_32, tyX3_ok, nmX3, rfl, (fun h => rfl), rfl⟩
theorem flX3_15_7 : ax_FL RX3 15 7 3 2 (.array .long) true := ⟨RX3, TX3, 10, tyX3, rfl, by decide, by decide, by decide, by decide, iwX3, kw_34, tyX3_ok, nmX3, rfl, (fun h => rfl), rfl⟩
theorem flX3_19_7 : ax_FL RX3 19 7 6 2 (.array .int) true := ⟨RX3, TX3, 10, tyX3, rfl, by decide, by decide, by decide, by decide, iwX3, kw_35, tyX3_ok, nmX3, rfl, (fun h => rfl), rfl⟩
theorem flX3_22_7 : ax_FL RX3 22 7 7 0 (.int) false := ⟨RX3, TX3, 10, tyX3, rfl, by decide, by decide, by decide, by decide, iwX3, kw_36, tyX3_ok, nmX3, rfl, (fun h => by cases h), rfl⟩
theorem flX3_44_7 : ax_FL RX3 44 7 1 0 (.int) false := ⟨RX3, TX3, 10, tyX3, rfl, by decide, by decide, by decide, by decide, iwX3, kw_37, tyX3_ok, nmX3, rfl, (fun h => by cases h), rfl⟩
theorem flX3_47_7 : ax_FL RX3 47 7 2 0 (.int) false := ⟨RX3, TX3, 10, tyX3, rfl, by decide, by decide, by decide, by decide, iwX3, kw_38, tyX3_ok, nmX3, rfl, (fun h => by cases h), rfl⟩
theorem vlX3_26 : ax_VL RX3 26 yX3_dropBlocks cX3_dropBlocks 1 (none) 0 := ⟨kw_40, kw_8, kw_39, by decide +kernel⟩
theorem viX3_dropBlocks : ax_VI yX3_dropBlocks := ⟨kw_41, kw_42⟩
theorem flX3_50_7 : ax_FL RX3 50 7 4 0 (.int) false := ⟨RX3, TX3, 10, tyX3, rfl, by decide, by decide, by decide, by decide, iwX3, kw_43, tyX3_ok, nmX3, rfl, (fun h => by cases h), rfl⟩
theorem flX3_53_7 : ax_FL RX3 53 7 5 0 (.int) false := ⟨RX3, TX3, 10, tyX3, rfl, by decide, by decide, by decide, by decide, iwX3, kw_44, tyX3_ok, nmX3, rfl, (fun h => by cases h), rfl⟩
theorem frX3_19_7 : ax_FR RX3 19 7 6 2 := ⟨RX3, TX3, 10, rfl, by decide, by decide, by decide, iwX3, kw_35⟩
theorem vlX3_29 : ax_VL RX3 29 yX3_dropPieces cX3_dropPieces 2 (none) 0 := ⟨kw_46, kw_8, kw_45, by decide +kernel⟩
theorem viX3_dropPieces : ax_VI yX3_dropPieces := ⟨kw_47, kw_48⟩
theorem flX3_32_7 : ax_FL RX3 32 7 8 0 (.int) false := ⟨RX3, TX3, 10, tyX3, rfl, by decide, by decide, by decide, by decide, iwX3, kw_49, tyX3_ok, nmX3, rfl, (fun h => by cases h), rfl⟩
theorem flX3_35_7 : ax_FL RX3 35 7 9 0 (.int) false := ⟨RX3, TX3, 10, tyX3, rfl, by decide, by decide, by decide, by decide, iwX3, kw_50, tyX3_ok, nmX3, rfl, (fun h => by cases h), rfl⟩
theorem frX3_11_7 : ax_FR RX3 11 7 0 2 := ⟨RX3, TX3, 10, rfl, by decide, by decide, by decide, iwX3, kw_32⟩
theorem clX3_38 : ax_CL RX3 38 := ⟨kw_51, kw_52, kw_53, kw_54⟩
theorem frX3_44_7 : ax_FR RX3 44 7 1 0 := ⟨RX3, TX3, 10, rfl, by decide, by decide, by decide, iwX3, kw_37⟩
theorem frX3_47_7 : ax_FR RX3 47 7 2 0 := ⟨RX3, TX3, 10, rfl, by decide, by decide, by decide, iwX3, kw_38⟩
theorem frX3_15_7 : ax_FR RX3 15 7 3 2 := ⟨RX3, TX3, 10, rfl, by decide, by decide, by decide, iwX3, kw_34⟩
theorem frX3_50_7 : ax_FR RX3 50 7 4 0 := ⟨RX3, TX3, 10, rfl, by decide, by decide, by decide, iwX3, kw_43⟩
theorem frX3_53_7 : ax_FR RX3 53 7 5 0 := ⟨RX3, TX3, 10, rfl, by decide, by decide, by decide, iwX3, kw_44⟩
theorem frX3_22_7 : ax_FR RX3 22 7 7 0 := ⟨RX3, TX3, 10, rfl, by decide, by decide, by decide, iwX3, kw_36⟩
theorem frX3_32_7 : ax_FR RX3 32 7 8 0 := ⟨RX3, TX3, 10, rfl, by decide, by decide, by decide, iwX3, kw_49⟩
theorem frX3_35_7 : ax_FR RX3 35 7 9 0 := ⟨RX3, TX3, 10, rfl, by decide, by decide, by decide, iwX3, kw_50⟩
theorem frX3_56_5 : ax_FR RX3 56 5 0 0 := ⟨RX1, TX1, 11, rfl, by decide, by decide, by decide, iwX1, kw_55⟩
theorem vlX3_61 : ax_VL RX3 61 yX3_roomIn cX3_roomIn 2 (some (.int)) 1 := ⟨kw_57, kw_8, kw_56, by decide +kernel⟩
theorem viX3_roomIn : ax_VI yX3_roomIn := ⟨kw_58, kw_59⟩
theorem vlX3_65 : ax_VL RX3 65 yX3_hasQuoin cX3_hasQuoin 1 (some (.boolean)) 0 := ⟨kw_61, kw_8, kw_60, by decide +kernel⟩
theorem viX3_hasQuoin : ax_VI yX3_hasQuoin := ⟨kw_62, kw_63⟩
theorem frX3_69_5 : ax_FR RX3 69 5 2 0 := ⟨RX1, TX1, 11, rfl, by decide, by decide, by decide, iwX1, kw_64⟩
theorem vlX3_72 : ax_VL RX3 72 yX3_gapIn cX3_gapIn 2 (some (.int)) 1 := ⟨kw_66, kw_8, kw_65, by decide +kernel⟩
theorem viX3_gapIn : ax_VI yX3_gapIn := ⟨kw_67, kw_68⟩
theorem frX3_75_5 : ax_FR RX3 75 5 4 0 := ⟨RX1, TX1, 11, rfl, by decide, by decide, by decide, iwX1, kw_69⟩
theorem frX3_78_5 : ax_FR RX3 78 5 5 0 := ⟨RX1, TX1, 11, rfl, by decide, by decide, by decide, iwX1, kw_70⟩
theorem frX3_84_5 : ax_FR RX3 84 5 7 0 := ⟨RX1, TX1, 11, rfl, by decide, by decide, by decide, iwX1, kw_71⟩
theorem frX3_87_5 : ax_FR RX3 87 5 8 2 := ⟨RX1, TX1, 11, rfl, by decide, by decide, by decide, iwX1, kw_72⟩
theorem vlX3_81 : ax_VL RX3 81 yX3_woodIn cX3_woodIn 4 (some (.int)) 1 := ⟨kw_74, kw_8, kw_73, by decide +kernel⟩
theorem viX3_woodIn : ax_VI yX3_woodIn := ⟨kw_75, kw_76⟩
theorem vlX3_91 : ax_VL RX3 91 yX3_blockAt cX3_blockAt 2 (some (.int)) 1 := ⟨kw_78, kw_8, kw_77, by decide +kernel⟩
theorem viX3_blockAt : ax_VI yX3_blockAt := ⟨kw_79, kw_80⟩
theorem vlX3_99 : ax_VL RX3 99 yX3_setPiece cX3_setPiece 6 (none) 2 := ⟨kw_84, kw_8, kw_83, by decide +kernel⟩
theorem viX3_setPiece : ax_VI yX3_setPiece := ⟨kw_85, kw_86⟩
theorem frX3_103_5 : ax_FR RX3 103 5 9 2 := ⟨RX1, TX1, 11, rfl, by decide, by decide, by decide, iwX1, kw_87⟩
theorem vlX3_106 : ax_VL RX3 106 yX3_pieceAt cX3_pieceAt 3 (some (.int)) 1 := ⟨kw_89, kw_8, kw_88, by decide +kernel⟩
theorem viX3_pieceAt : ax_VI yX3_pieceAt := ⟨kw_90, kw_91⟩
theorem flX0_11_4 : ax_FL RX0 11 4 0 2 (.array (.object "ChaseLocker$State")) true := ⟨RX0, TX0, 3, tyX0, rfl, by decide, by decide, by decide, by decide, iwX0, kw_94, tyX0_ok, nmX0, rfl, (fun h => rfl), rfl⟩
theorem frX0_11_4 : ax_FR RX0 11 4 0 2 := ⟨RX0, TX0, 3, rfl, by decide, by decide, by decide, iwX0, kw_94⟩
theorem flX5_11_9 : ax_FL RX5 11 9 0 2 (.array (.object "ChaseLocker$Row")) true := ⟨RX5, TX5, 8, tyX5, rfl, by decide, by decide, by decide, by decide, iwX5, kw_97, tyX5_ok, nmX5, rfl, (fun h => rfl), rfl⟩
theorem flX5_17_9 : ax_FL RX5 17 9 1 2 (.array .int) true := ⟨RX5, TX5, 8, tyX5, rfl, by decide, by decide, by decide, by decide, iwX5, kw_98, tyX5_ok, nmX5, rfl, (fun h => rfl), rfl⟩
theorem frX5_11_9 : ax_FR RX5 11 9 0 2 := ⟨RX5, TX5, 8, rfl, by decide, by decide, by decide, iwX5, kw_97⟩
theorem nlX5_21 : ax_NL RX5 21 yX3_init cX3_init 1 0 := ⟨by unfold ax_nests; simp, kw_8, kw_99, by decide +kernel⟩
theorem vlX0_17 : ax_VL RX0 17 yX5_init cX5_init 2 (none) 0 := ⟨kw_103, kw_12, kw_101, by decide +kernel⟩
theorem flX0_18_4 : ax_FL RX0 18 4 2 0 (.int) false := ⟨RX0, TX0, 3, tyX0, rfl, by decide, by decide, by decide, by decide, iwX0, kw_104, tyX0_ok, nmX0, rfl, (fun h => by cases h), rfl⟩
theorem frX0_22_4 : ax_FR RX0 22 4 1 0 := ⟨RX0, TX0, 3, rfl, by decide, by decide, by decide, iwX0, kw_105⟩
theorem frX5_17_9 : ax_FR RX5 17 9 1 2 := ⟨RX5, TX5, 8, rfl, by decide, by decide, by decide, iwX5, kw_98⟩
theorem clX5_48 : ax_CL RX5 48 := ⟨kw_106, kw_52, kw_53, kw_54⟩
theorem frX5_25_9 : ax_FR RX5 25 9 2 0 := ⟨RX5, TX5, 8, rfl, by decide, by decide, by decide, iwX5, kw_107⟩
theorem flX5_25_9 : ax_FL RX5 25 9 2 0 (.int) false := ⟨RX5, TX5, 8, tyX5, rfl, by decide, by decide, by decide, by decide, iwX5, kw_107, tyX5_ok, nmX5, rfl, (fun h => by cases h), rfl⟩
theorem frX5_29_9 : ax_FR RX5 29 9 3 0 := ⟨RX5, TX5, 8, rfl, by decide, by decide, by decide, iwX5, kw_108⟩
theorem flX5_29_9 : ax_FL RX5 29 9 3 0 (.int) false := ⟨RX5, TX5, 8, tyX5, rfl, by decide, by decide, by decide, by decide, iwX5, kw_108, tyX5_ok, nmX5, rfl, (fun h => by cases h), rfl⟩
theorem frX5_32_9 : ax_FR RX5 32 9 4 0 := ⟨RX5, TX5, 8, rfl, by decide, by decide, by decide, iwX5, kw_109⟩
theorem flX5_32_9 : ax_FL RX5 32 9 4 0 (.int) false := ⟨RX5, TX5, 8, tyX5, rfl, by decide, by decide, by decide, by decide, iwX5, kw_109, tyX5_ok, nmX5, rfl, (fun h => by cases h), rfl⟩
theorem frX5_35_9 : ax_FR RX5 35 9 5 0 := ⟨RX5, TX5, 8, rfl, by decide, by decide, by decide, iwX5, kw_110⟩
theorem flX5_35_9 : ax_FL RX5 35 9 5 0 (.int) false := ⟨RX5, TX5, 8, tyX5, rfl, by decide, by decide, by decide, by decide, iwX5, kw_110, tyX5_ok, nmX5, rfl, (fun h => by cases h), rfl⟩
theorem frX5_38_9 : ax_FR RX5 38 9 6 0 := ⟨RX5, TX5, 8, rfl, by decide, by decide, by decide, iwX5, kw_111⟩
theorem flX5_38_9 : ax_FL RX5 38 9 6 0 (.int) false := ⟨RX5, TX5, 8, tyX5, rfl, by decide, by decide, by decide, by decide, iwX5, kw_111, tyX5_ok, nmX5, rfl, (fun h => by cases h), rfl⟩
theorem frX5_41_9 : ax_FR RX5 41 9 7 0 := ⟨RX5, TX5, 8, rfl, by decide, by decide, by decide, iwX5, kw_112⟩
theorem flX5_41_9 : ax_FL RX5 41 9 7 0 (.int) false := ⟨RX5, TX5, 8, tyX5, rfl, by decide, by decide, by decide, by decide, iwX5, kw_112, tyX5_ok, nmX5, rfl, (fun h => by cases h), rfl⟩
theorem vlX5_44 : ax_VL RX5 44 yX3_copyFrom cX3_copyFrom 2 (none) 1 := ⟨kw_114, kw_8, kw_113, by decide +kernel⟩
theorem viX3_copyFrom : ax_VI yX3_copyFrom := ⟨kw_115, kw_116⟩
theorem vlX0_25 : ax_VL RX0 25 yX5_copyFrom cX5_copyFrom 3 (none) 1 := ⟨kw_118, kw_12, kw_117, by decide +kernel⟩
theorem viX5_copyFrom : ax_VI yX5_copyFrom := ⟨kw_119, kw_120⟩
theorem flX0_22_4 : ax_FL RX0 22 4 1 0 (.int) false := ⟨RX0, TX0, 3, tyX0, rfl, by decide, by decide, by decide, by decide, iwX0, kw_105, tyX0_ok, nmX0, rfl, (fun h => by cases h), rfl⟩
theorem frX0_18_4 : ax_FR RX0 18 4 2 0 := ⟨RX0, TX0, 3, rfl, by decide, by decide, by decide, iwX0, kw_104⟩
theorem mlX0_29 : ax_ML RX0 29 Lib.Math.min.name Lib.Math.min.code := ⟨kw_121, kw_122, kw_123, kw_124⟩
theorem vlX5_22 : ax_VL RX5 22 yX3_clear cX3_clear 1 (none) 0 := ⟨kw_126, kw_8, kw_125, by decide +kernel⟩
theorem viX3_clear : ax_VI yX3_clear := ⟨kw_127, kw_128⟩
theorem frX5_54_7 : ax_FR RX5 54 7 1 0 := ⟨RX3, TX3, 10, rfl, by decide, by decide, by decide, iwX3, kw_129⟩
theorem frX5_57_7 : ax_FR RX5 57 7 4 0 := ⟨RX3, TX3, 10, rfl, by decide, by decide, by decide, iwX3, kw_130⟩
theorem frX5_60_7 : ax_FR RX5 60 7 6 2 := ⟨RX3, TX3, 10, rfl, by decide, by decide, by decide, iwX3, kw_131⟩
theorem vlX5_63 : ax_VL RX5 63 yX3_isTightIn cX3_isTightIn 2 (some (.boolean)) 1 := ⟨kw_133, kw_8, kw_132, by decide +kernel⟩
theorem viX3_isTightIn : ax_VI yX3_isTightIn := ⟨kw_134, kw_135⟩
theorem vlX5_67 : ax_VL RX5 67 yX3_hasQuoin cX3_hasQuoin 1 (some (.boolean)) 0 := ⟨kw_136, kw_8, kw_60, by decide +kernel⟩
theorem flX5_71_7 : ax_FL RX5 71 7 7 0 (.int) false := ⟨RX3, TX3, 10, tyX3, rfl, by decide, by decide, by decide, by decide, iwX3, kw_137, tyX3_ok, nmX3, rfl, (fun h => by cases h), rfl⟩
theorem flX5_74_7 : ax_FL RX5 74 7 8 0 (.int) false := ⟨RX3, TX3, 10, tyX3, rfl, by decide, by decide, by decide, by decide, iwX3, kw_138, tyX3_ok, nmX3, rfl, (fun h => by cases h), rfl⟩
theorem vlX5_77 : ax_VL RX5 77 yX3_addPiece cX3_addPiece 3 (none) 2 := ⟨kw_140, kw_8, kw_139, by decide +kernel⟩
theorem viX3_addPiece : ax_VI yX3_addPiece := ⟨kw_141, kw_142⟩
theorem vlX5_81 : ax_VL RX5 81 yX3_removePiece cX3_removePiece 5 (some (.int)) 2 := ⟨kw_144, kw_8, kw_143, by decide +kernel⟩
theorem viX3_removePiece : ax_VI yX3_removePiece := ⟨kw_145, kw_146⟩
theorem frX5_85_5 : ax_FR RX5 85 5 7 0 := ⟨RX1, TX1, 11, rfl, by decide, by decide, by decide, iwX1, kw_147⟩
theorem frX5_102_8 : ax_FR RX5 102 8 7 0 := ⟨RX4, TX4, 8, rfl, by decide, by decide, by decide, iwX4, kw_148⟩
theorem flX5_107_7 : ax_FL RX5 107 7 9 0 (.int) false := ⟨RX3, TX3, 10, tyX3, rfl, by decide, by decide, by decide, by decide, iwX3, kw_149, tyX3_ok, nmX3, rfl, (fun h => by cases h), rfl⟩
theorem vlX5_103 : ax_VL RX5 103 yX5_setQuoin cX5_setQuoin 3 (none) 2 := ⟨kw_151, kw_12, kw_150, by decide +kernel⟩
theorem viX5_setQuoin : ax_VI yX5_setQuoin := ⟨kw_152, kw_153⟩
theorem frX5_90_5 : ax_FR RX5 90 5 10 2 := ⟨RX1, TX1, 11, rfl, by decide, by decide, by decide, iwX1, kw_154⟩
theorem frX5_93_8 : ax_FR RX5 93 8 4 2 := ⟨RX4, TX4, 8, rfl, by decide, by decide, by decide, iwX4, kw_155⟩
theorem vlX5_98 : ax_VL RX5 98 yX5_movePieceIn cX5_movePieceIn 4 (none) 3 := ⟨kw_157, kw_12, kw_156, by decide +kernel⟩
theorem viX5_movePieceIn : ax_VI yX5_movePieceIn := ⟨kw_158, kw_159⟩
theorem vlX5_110 : ax_VL RX5 110 yX3_dropPieces cX3_dropPieces 2 (none) 0 := ⟨kw_160, kw_8, kw_45, by decide +kernel⟩
theorem vlX5_113 : ax_VL RX5 113 yX5_removeQuoin cX5_removeQuoin 2 (none) 1 := ⟨kw_162, kw_12, kw_161, by decide +kernel⟩
theorem viX5_removeQuoin : ax_VI yX5_removeQuoin := ⟨kw_163, kw_164⟩
theorem vlX5_133 : ax_VL RX5 133 yX3_loosenessIn cX3_loosenessIn 2 (some (.int)) 1 := ⟨kw_166, kw_8, kw_165, by decide +kernel⟩
theorem viX3_loosenessIn : ax_VI yX3_loosenessIn := ⟨kw_167, kw_168⟩
theorem frX5_136_5 : ax_FR RX5 136 5 6 0 := ⟨RX1, TX1, 11, rfl, by decide, by decide, by decide, iwX1, kw_169⟩
theorem vlX5_139 : ax_VL RX5 139 yX3_dropBlocks cX3_dropBlocks 1 (none) 0 := ⟨kw_170, kw_8, kw_39, by decide +kernel⟩
theorem vlX5_142 : ax_VL RX5 142 yX5_empty cX5_empty 4 (none) 1 := ⟨kw_172, kw_12, kw_171, by decide +kernel⟩
theorem viX5_empty : ax_VI yX5_empty := ⟨kw_173, kw_174⟩
theorem vlX5_124 : ax_VL RX5 124 yX5_dropLooseRows cX5_dropLooseRows 4 (some (.int)) 1 := ⟨kw_176, kw_12, kw_175, by decide +kernel⟩
theorem viX5_dropLooseRows : ax_VI yX5_dropLooseRows := ⟨kw_177, kw_178⟩
theorem vlX5_146 : ax_VL RX5 146 yX3_isFirmIn cX3_isFirmIn 2 (some (.boolean)) 1 := ⟨kw_180, kw_8, kw_179, by decide +kernel⟩
theorem viX3_isFirmIn : ax_VI yX3_isFirmIn := ⟨kw_181, kw_182⟩
theorem vlX5_127 : ax_VL RX5 127 yX5_isFirm cX5_isFirm 3 (some (.boolean)) 1 := ⟨kw_184, kw_12, kw_183, by decide +kernel⟩
theorem viX5_isFirm : ax_VI yX5_isFirm := ⟨kw_185, kw_186⟩
theorem frX5_107_7 : ax_FR RX5 107 7 9 0 := ⟨RX3, TX3, 10, rfl, by decide, by decide, by decide, iwX3, kw_149⟩
theorem vlX5_120 : ax_VL RX5 120 yX3_growthInImpression cX3_growthInImpression 2 (some (.int)) 1 := ⟨kw_188, kw_8, kw_187, by decide +kernel⟩
theorem viX3_growthInImpression : ax_VI yX3_growthInImpression := ⟨kw_189, kw_190⟩
theorem vlX5_116 : ax_VL RX5 116 yX5_impress cX5_impress 3 (none) 1 := ⟨kw_192, kw_12, kw_191, by decide +kernel⟩
theorem viX5_impress : ax_VI yX5_impress := ⟨kw_193, kw_194⟩
theorem vlX5_130 : ax_VL RX5 130 yX3_growthInDay cX3_growthInDay 2 (some (.int)) 1 := ⟨kw_196, kw_8, kw_195, by decide +kernel⟩
theorem viX3_growthInDay : ax_VI yX3_growthInDay := ⟨kw_197, kw_198⟩
