theorem dX3_blockAt_22 : decode cX3_blockAt 22 = .ok (.iload_n 1, 1) := by decide +kernel
theorem dX3_blockAt_23 : decode cX3_blockAt 23 = .ok (.iaload, 1) := by decide +kernel
theorem dX3_blockAt_24 : decode cX3_blockAt 24 = .ok (.goto 4, 3) := by decide +kernel
theorem dX3_blockAt_27 : decode cX3_blockAt 27 = .ok (.iconst (-1), 1) := by decide +kernel
theorem dX3_blockAt_28 : decode cX3_blockAt 28 = .ok (.ireturn, 1) := by decide +kernel
theorem dX3_addBlock_0 : decode cX3_addBlock 0 = .ok (.aload_n 0, 1) := by decide +kernel
theorem dX3_addBlock_1 : decode cX3_addBlock 1 = .ok (.getfield 44, 3) := by decide +kernel
theorem dX3_addBlock_4 : decode cX3_addBlock 4 = .ok (.bipush 6, 2) := by decide +kernel
theorem dX3_addBlock_6 : decode cX3_addBlock 6 = .ok (.if_icmp .ge 33, 3) := by decide +kernel
theorem dX3_addBlock_9 : decode cX3_addBlock 9 = .ok (.aload_n 0, 1) := by decide +kernel
theorem dX3_addBlock_10 : decode cX3_addBlock 10 = .ok (.getfield 11, 3) := by decide +kernel
theorem dX3_addBlock_13 : decode cX3_addBlock 13 = .ok (.aload_n 0, 1) := by decide +kernel
theorem dX3_addBlock_14 : decode cX3_addBlock 14 = .ok (.getfield 44, 3) := by decide +kernel
theorem dX3_addBlock_17 : decode cX3_addBlock 17 = .ok (.iload_n 1, 1) := by decide +kernel
theorem dX3_addBlock_18 : decode cX3_addBlock 18 = .ok (.iastore, 1) := by decide +kernel
theorem dX3_addBlock_19 : decode cX3_addBlock 19 = .ok (.aload_n 0, 1) := by decide +kernel
theorem dX3_addBlock_20 : decode cX3_addBlock 20 = .ok (.dup, 1) := by decide +kernel
theorem dX3_addBlock_21 : decode cX3_addBlock 21 = .ok (.getfield 44, 3) := by decide +kernel
theorem dX3_addBlock_24 : decode cX3_addBlock 24 = .ok (.iconst 1, 1) := by decide +kernel
theorem dX3_addBlock_25 : decode cX3_addBlock 25 = .ok (.iadd, 1) := by decide +kernel
theorem dX3_addBlock_26 : decode cX3_addBlock 26 = .ok (.putfield 44, 3) := by decide +kernel
theorem dX3_addBlock_29 : decode cX3_addBlock 29 = .ok (.aload_n 0, 1) := by decide +kernel
theorem dX3_addBlock_30 : decode cX3_addBlock 30 = .ok (.dup, 1) := by decide +kernel
theorem dX3_addBlock_31 : decode cX3_addBlock 31 = .ok (.getfield 47, 3) := by decide +kernel
theorem dX3_addBlock_34 : decode cX3_addBlock 34 = .ok (.iload_n 1, 1) := by decide +kernel
theorem dX3_addBlock_35 : decode cX3_addBlock 35 = .ok (.iadd, 1) := by decide +kernel
theorem dX3_addBlock_36 : decode cX3_addBlock 36 = .ok (.putfield 47, 3) := by decide +kernel
theorem dX3_addBlock_39 : decode cX3_addBlock 39 = .ok (.return_, 1) := by decide +kernel
set_option maxRecDepth 20000 in
theorem ggX3_removeBlock_X3_blockAt : GoodIn wsX3_removeBlock wsX3_blockAt := goodIn_ca (goodIn_r _ [8, 1, 2, 9, 10, 11, 12, 13, 14, 15, 16, 17, 18] (by decide +kernel) (by decide +kernel)) (goodIn_sub (fun _ h => List.mem_cons_of_mem _ (List.mem_append_right _ h)) (by decide +kernel))
set_option maxRecDepth 20000 in
theorem gX3_removeBlock_X3_blockAt : GoodIn wsX3_removeBlock (wsV RX3 91 RX3 yX3_blockAt wsX3_blockAt) := goodIn_app (goodIn_of _ (by decide +kernel)) ggX3_removeBlock_X3_blockAt
theorem dX3_removeBlock_0 : decode cX3_removeBlock 0 = .ok (.aload_n 0, 1) := by decide +kernel
theorem dX3_removeBlock_1 : decode cX3_removeBlock 1 = .ok (.iload_n 1, 1) := by decide +kernel
theorem dX3_removeBlock_2 : decode cX3_removeBlock 2 = .ok (.invokevirtual 91, 3) := by decide +kernel
theorem dX3_removeBlock_5 : decode cX3_removeBlock 5 = .ok (.istore_n 2, 1) := by decide +kernel
theorem dX3_removeBlock_6 : decode cX3_removeBlock 6 = .ok (.iload_n 2, 1) := by decide +kernel
theorem dX3_removeBlock_7 : decode cX3_removeBlock 7 = .ok (.iconst (-1), 1) := by decide +kernel
theorem dX3_removeBlock_8 : decode cX3_removeBlock 8 = .ok (.if_icmp .ne 5, 3) := by decide +kernel
theorem dX3_removeBlock_11 : decode cX3_removeBlock 11 = .ok (.iconst (-1), 1) := by decide +kernel
theorem dX3_removeBlock_12 : decode cX3_removeBlock 12 = .ok (.ireturn, 1) := by decide +kernel
theorem dX3_removeBlock_13 : decode cX3_removeBlock 13 = .ok (.iload_n 1, 1) := by decide +kernel
theorem dX3_removeBlock_14 : decode cX3_removeBlock 14 = .ok (.iconst 1, 1) := by decide +kernel
theorem dX3_removeBlock_15 : decode cX3_removeBlock 15 = .ok (.iadd, 1) := by decide +kernel
theorem dX3_removeBlock_16 : decode cX3_removeBlock 16 = .ok (.istore_n 3, 1) := by decide +kernel
theorem dX3_removeBlock_17 : decode cX3_removeBlock 17 = .ok (.iload_n 3, 1) := by decide +kernel
theorem dX3_removeBlock_18 : decode cX3_removeBlock 18 = .ok (.aload_n 0, 1) := by decide +kernel
theorem dX3_removeBlock_19 : decode cX3_removeBlock 19 = .ok (.getfield 44, 3) := by decide +kernel
theorem dX3_removeBlock_22 : decode cX3_removeBlock 22 = .ok (.if_icmp .ge 23, 3) := by decide +kernel
theorem dX3_removeBlock_25 : decode cX3_removeBlock 25 = .ok (.aload_n 0, 1) := by decide +kernel
theorem dX3_removeBlock_26 : decode cX3_removeBlock 26 = .ok (.getfield 11, 3) := by decide +kernel
theorem dX3_removeBlock_29 : decode cX3_removeBlock 29 = .ok (.iload_n 3, 1) := by decide +kernel
theorem dX3_removeBlock_30 : decode cX3_removeBlock 30 = .ok (.iconst 1, 1) := by decide +kernel
theorem dX3_removeBlock_31 : decode cX3_removeBlock 31 = .ok (.isub, 1) := by decide +kernel
theorem dX3_removeBlock_32 : decode cX3_removeBlock 32 = .ok (.aload_n 0, 1) := by decide +kernel
theorem dX3_removeBlock_33 : decode cX3_removeBlock 33 = .ok (.getfield 11, 3) := by decide +kernel
theorem dX3_removeBlock_36 : decode cX3_removeBlock 36 = .ok (.iload_n 3, 1) := by decide +kernel
theorem dX3_removeBlock_37 : decode cX3_removeBlock 37 = .ok (.iaload, 1) := by decide +kernel
theorem dX3_removeBlock_38 : decode cX3_removeBlock 38 = .ok (.iastore, 1) := by decide +kernel
theorem dX3_removeBlock_39 : decode cX3_removeBlock 39 = .ok (.iinc 3 1, 3) := by decide +kernel
theorem dX3_removeBlock_42 : decode cX3_removeBlock 42 = .ok (.goto (-25), 3) := by decide +kernel
theorem dX3_removeBlock_45 : decode cX3_removeBlock 45 = .ok (.aload_n 0, 1) := by decide +kernel
theorem dX3_removeBlock_46 : decode cX3_removeBlock 46 = .ok (.dup, 1) := by decide +kernel
theorem dX3_removeBlock_47 : decode cX3_removeBlock 47 = .ok (.getfield 44, 3) := by decide +kernel
theorem dX3_removeBlock_50 : decode cX3_removeBlock 50 = .ok (.iconst 1, 1) := by decide +kernel
theorem dX3_removeBlock_51 : decode cX3_removeBlock 51 = .ok (.isub, 1) := by decide +kernel
theorem dX3_removeBlock_52 : decode cX3_removeBlock 52 = .ok (.putfield 44, 3) := by decide +kernel
theorem dX3_removeBlock_55 : decode cX3_removeBlock 55 = .ok (.aload_n 0, 1) := by decide +kernel
theorem dX3_removeBlock_56 : decode cX3_removeBlock 56 = .ok (.dup, 1) := by decide +kernel
theorem dX3_removeBlock_57 : decode cX3_removeBlock 57 = .ok (.getfield 47, 3) := by decide +kernel
theorem dX3_removeBlock_60 : decode cX3_removeBlock 60 = .ok (.iload_n 2, 1) := by decide +kernel
theorem dX3_removeBlock_61 : decode cX3_removeBlock 61 = .ok (.isub, 1) := by decide +kernel
theorem dX3_removeBlock_62 : decode cX3_removeBlock 62 = .ok (.putfield 47, 3) := by decide +kernel
theorem dX3_removeBlock_65 : decode cX3_removeBlock 65 = .ok (.iload_n 2, 1) := by decide +kernel
theorem dX3_removeBlock_66 : decode cX3_removeBlock 66 = .ok (.ireturn, 1) := by decide +kernel
theorem dX3_dropBlocks_0 : decode cX3_dropBlocks 0 = .ok (.aload_n 0, 1) := by decide +kernel
theorem dX3_dropBlocks_1 : decode cX3_dropBlocks 1 = .ok (.iconst 0, 1) := by decide +kernel
theorem dX3_dropBlocks_2 : decode cX3_dropBlocks 2 = .ok (.putfield 44, 3) := by decide +kernel
theorem dX3_dropBlocks_5 : decode cX3_dropBlocks 5 = .ok (.aload_n 0, 1) := by decide +kernel
theorem dX3_dropBlocks_6 : decode cX3_dropBlocks 6 = .ok (.iconst 0, 1) := by decide +kernel
theorem dX3_dropBlocks_7 : decode cX3_dropBlocks 7 = .ok (.putfield 47, 3) := by decide +kernel
theorem dX3_dropBlocks_10 : decode cX3_dropBlocks 10 = .ok (.return_, 1) := by decide +kernel
theorem dX3_pieceAt_0 : decode cX3_pieceAt 0 = .ok (.iload_n 1, 1) := by decide +kernel
theorem dX3_pieceAt_1 : decode cX3_pieceAt 1 = .ok (.ifCond .lt 18, 3) := by decide +kernel
theorem dX3_pieceAt_4 : decode cX3_pieceAt 4 = .ok (.iload_n 1, 1) := by decide +kernel
theorem dX3_pieceAt_5 : decode cX3_pieceAt 5 = .ok (.aload_n 0, 1) := by decide +kernel
theorem dX3_pieceAt_6 : decode cX3_pieceAt 6 = .ok (.getfield 50, 3) := by decide +kernel
theorem dX3_pieceAt_9 : decode cX3_pieceAt 9 = .ok (.if_icmp .ge 10, 3) := by decide +kernel
theorem dX3_pieceAt_12 : decode cX3_pieceAt 12 = .ok (.iload_n 1, 1) := by decide +kernel
theorem dX3_pieceAt_13 : decode cX3_pieceAt 13 = .ok (.sipush 512, 3) := by decide +kernel
theorem dX3_pieceAt_16 : decode cX3_pieceAt 16 = .ok (.if_icmp .lt 5, 3) := by decide +kernel
theorem dX3_pieceAt_19 : decode cX3_pieceAt 19 = .ok (.iconst (-1), 1) := by decide +kernel
theorem dX3_pieceAt_20 : decode cX3_pieceAt 20 = .ok (.ireturn, 1) := by decide +kernel
theorem dX3_pieceAt_21 : decode cX3_pieceAt 21 = .ok (.iload_n 1, 1) := by decide +kernel
theorem dX3_pieceAt_22 : decode cX3_pieceAt 22 = .ok (.bipush 16, 2) := by decide +kernel
theorem dX3_pieceAt_24 : decode cX3_pieceAt 24 = .ok (.irem, 1) := by decide +kernel
theorem dX3_pieceAt_25 : decode cX3_pieceAt 25 = .ok (.iconst 4, 1) := by decide +kernel
theorem dX3_pieceAt_26 : decode cX3_pieceAt 26 = .ok (.imul, 1) := by decide +kernel
theorem dX3_pieceAt_27 : decode cX3_pieceAt 27 = .ok (.istore_n 2, 1) := by decide +kernel
theorem dX3_pieceAt_28 : decode cX3_pieceAt 28 = .ok (.aload_n 0, 1) := by decide +kernel
theorem dX3_pieceAt_29 : decode cX3_pieceAt 29 = .ok (.getfield 15, 3) := by decide +kernel
theorem dX3_pieceAt_32 : decode cX3_pieceAt 32 = .ok (.iload_n 1, 1) := by decide +kernel
theorem dX3_pieceAt_33 : decode cX3_pieceAt 33 = .ok (.bipush 16, 2) := by decide +kernel
theorem dX3_pieceAt_35 : decode cX3_pieceAt 35 = .ok (.idiv, 1) := by decide +kernel
theorem dX3_pieceAt_36 : decode cX3_pieceAt 36 = .ok (.laload, 1) := by decide +kernel
theorem dX3_pieceAt_37 : decode cX3_pieceAt 37 = .ok (.iload_n 2, 1) := by decide +kernel
theorem dX3_pieceAt_38 : decode cX3_pieceAt 38 = .ok (.lushr, 1) := by decide +kernel
theorem dX3_pieceAt_39 : decode cX3_pieceAt 39 = .ok (.l2i, 1) := by decide +kernel
theorem dX3_pieceAt_40 : decode cX3_pieceAt 40 = .ok (.bipush 15, 2) := by decide +kernel
theorem dX3_pieceAt_42 : decode cX3_pieceAt 42 = .ok (.iand, 1) := by decide +kernel
theorem dX3_pieceAt_43 : decode cX3_pieceAt 43 = .ok (.ireturn, 1) := by decide +kernel
theorem dX3_setPiece_0 : decode cX3_setPiece 0 = .ok (.iload_n 1, 1) := by decide +kernel
theorem dX3_setPiece_1 : decode cX3_setPiece 1 = .ok (.ifCond .lt 54, 3) := by decide +kernel
theorem dX3_setPiece_4 : decode cX3_setPiece 4 = .ok (.iload_n 1, 1) := by decide +kernel
theorem dX3_setPiece_5 : decode cX3_setPiece 5 = .ok (.sipush 512, 3) := by decide +kernel
theorem dX3_setPiece_8 : decode cX3_setPiece 8 = .ok (.if_icmp .ge 47, 3) := by decide +kernel
theorem dX3_setPiece_11 : decode cX3_setPiece 11 = .ok (.iload_n 1, 1) := by decide +kernel
theorem dX3_setPiece_12 : decode cX3_setPiece 12 = .ok (.bipush 16, 2) := by decide +kernel
theorem dX3_setPiece_14 : decode cX3_setPiece 14 = .ok (.irem, 1) := by decide +kernel
theorem dX3_setPiece_15 : decode cX3_setPiece 15 = .ok (.iconst 4, 1) := by decide +kernel
theorem dX3_setPiece_16 : decode cX3_setPiece 16 = .ok (.imul, 1) := by decide +kernel
theorem dX3_setPiece_17 : decode cX3_setPiece 17 = .ok (.istore_n 3, 1) := by decide +kernel
theorem dX3_setPiece_18 : decode cX3_setPiece 18 = .ok (.aload_n 0, 1) := by decide +kernel
theorem dX3_setPiece_19 : decode cX3_setPiece 19 = .ok (.getfield 15, 3) := by decide +kernel
theorem dX3_setPiece_22 : decode cX3_setPiece 22 = .ok (.iload_n 1, 1) := by decide +kernel
theorem dX3_setPiece_23 : decode cX3_setPiece 23 = .ok (.bipush 16, 2) := by decide +kernel
theorem dX3_setPiece_25 : decode cX3_setPiece 25 = .ok (.idiv, 1) := by decide +kernel
theorem dX3_setPiece_26 : decode cX3_setPiece 26 = .ok (.laload, 1) := by decide +kernel
theorem dX3_setPiece_27 : decode cX3_setPiece 27 = .ok (.ldc2_w 95, 3) := by decide +kernel
theorem dX3_setPiece_30 : decode cX3_setPiece 30 = .ok (.iload_n 3, 1) := by decide +kernel
theorem dX3_setPiece_31 : decode cX3_setPiece 31 = .ok (.lshl, 1) := by decide +kernel
theorem dX3_setPiece_32 : decode cX3_setPiece 32 = .ok (.ldc2_w 97, 3) := by decide +kernel
theorem dX3_setPiece_35 : decode cX3_setPiece 35 = .ok (.lxor, 1) := by decide +kernel
theorem dX3_setPiece_36 : decode cX3_setPiece 36 = .ok (.land, 1) := by decide +kernel
theorem dX3_setPiece_37 : decode cX3_setPiece 37 = .ok (.lstore 4, 2) := by decide +kernel
theorem dX3_setPiece_39 : decode cX3_setPiece 39 = .ok (.aload_n 0, 1) := by decide +kernel
theorem dX3_setPiece_40 : decode cX3_setPiece 40 = .ok (.getfield 15, 3) := by decide +kernel
theorem dX3_setPiece_43 : decode cX3_setPiece 43 = .ok (.iload_n 1, 1) := by decide +kernel
theorem dX3_setPiece_44 : decode cX3_setPiece 44 = .ok (.bipush 16, 2) := by decide +kernel
theorem dX3_setPiece_46 : decode cX3_setPiece 46 = .ok (.idiv, 1) := by decide +kernel
theorem dX3_setPiece_47 : decode cX3_setPiece 47 = .ok (.lload 4, 2) := by decide +kernel
theorem dX3_setPiece_49 : decode cX3_setPiece 49 = .ok (.iload_n 2, 1) := by decide +kernel
theorem dX3_setPiece_50 : decode cX3_setPiece 50 = .ok (.i2l, 1) := by decide +kernel
theorem dX3_setPiece_51 : decode cX3_setPiece 51 = .ok (.iload_n 3, 1) := by decide +kernel
theorem dX3_setPiece_52 : decode cX3_setPiece 52 = .ok (.lshl, 1) := by decide +kernel
theorem dX3_setPiece_53 : decode cX3_setPiece 53 = .ok (.lor, 1) := by decide +kernel
theorem dX3_setPiece_54 : decode cX3_setPiece 54 = .ok (.lastore, 1) := by decide +kernel
theorem dX3_setPiece_55 : decode cX3_setPiece 55 = .ok (.return_, 1) := by decide +kernel
set_option maxRecDepth 20000 in
theorem ggX3_addPiece_X3_setPiece : GoodIn wsX3_addPiece wsX3_setPiece := goodIn_ca (goodIn_r _ [9, 10, 11, 12, 13, 14, 15, 16, 17, 18, 19, 20, 21, 22] (by decide +kernel) (by decide +kernel)) (goodIn_sub (fun _ h => List.mem_cons_of_mem _ (List.mem_append_right _ h)) (by decide +kernel))
set_option maxRecDepth 20000 in
theorem gX3_addPiece_X3_setPiece : GoodIn wsX3_addPiece (wsV RX3 99 RX3 yX3_setPiece wsX3_setPiece) := goodIn_app (goodIn_of _ (by decide +kernel)) ggX3_addPiece_X3_setPiece
theorem dX3_addPiece_0 : decode cX3_addPiece 0 = .ok (.iload_n 2, 1) := by decide +kernel
theorem dX3_addPiece_1 : decode cX3_addPiece 1 = .ok (.ifCond .lt 63, 3) := by decide +kernel
theorem dX3_addPiece_4 : decode cX3_addPiece 4 = .ok (.iload_n 2, 1) := by decide +kernel
theorem dX3_addPiece_5 : decode cX3_addPiece 5 = .ok (.bipush 10, 2) := by decide +kernel
theorem dX3_addPiece_7 : decode cX3_addPiece 7 = .ok (.if_icmp .ge 57, 3) := by decide +kernel
theorem dX3_addPiece_10 : decode cX3_addPiece 10 = .ok (.aload_n 0, 1) := by decide +kernel
theorem dX3_addPiece_11 : decode cX3_addPiece 11 = .ok (.getfield 50, 3) := by decide +kernel
theorem dX3_addPiece_14 : decode cX3_addPiece 14 = .ok (.sipush 512, 3) := by decide +kernel
theorem dX3_addPiece_17 : decode cX3_addPiece 17 = .ok (.if_icmp .ge 47, 3) := by decide +kernel
theorem dX3_addPiece_20 : decode cX3_addPiece 20 = .ok (.aload_n 0, 1) := by decide +kernel
theorem dX3_addPiece_21 : decode cX3_addPiece 21 = .ok (.aload_n 0, 1) := by decide +kernel
theorem dX3_addPiece_22 : decode cX3_addPiece 22 = .ok (.getfield 50, 3) := by decide +kernel
theorem dX3_addPiece_25 : decode cX3_addPiece 25 = .ok (.iload_n 2, 1) := by decide +kernel
theorem dX3_addPiece_26 : decode cX3_addPiece 26 = .ok (.invokevirtual 99, 3) := by decide +kernel
theorem dX3_addPiece_29 : decode cX3_addPiece 29 = .ok (.aload_n 0, 1) := by decide +kernel
theorem dX3_addPiece_30 : decode cX3_addPiece 30 = .ok (.dup, 1) := by decide +kernel
theorem dX3_addPiece_31 : decode cX3_addPiece 31 = .ok (.getfield 50, 3) := by decide +kernel
theorem dX3_addPiece_34 : decode cX3_addPiece 34 = .ok (.iconst 1, 1) := by decide +kernel
theorem dX3_addPiece_35 : decode cX3_addPiece 35 = .ok (.iadd, 1) := by decide +kernel
theorem dX3_addPiece_36 : decode cX3_addPiece 36 = .ok (.putfield 50, 3) := by decide +kernel
theorem dX3_addPiece_39 : decode cX3_addPiece 39 = .ok (.aload_n 0, 1) := by decide +kernel
theorem dX3_addPiece_40 : decode cX3_addPiece 40 = .ok (.dup, 1) := by decide +kernel
theorem dX3_addPiece_41 : decode cX3_addPiece 41 = .ok (.getfield 53, 3) := by decide +kernel
theorem dX3_addPiece_44 : decode cX3_addPiece 44 = .ok (.aload_n 1, 1) := by decide +kernel
theorem dX3_addPiece_45 : decode cX3_addPiece 45 = .ok (.getfield 103, 3) := by decide +kernel
theorem dX3_addPiece_48 : decode cX3_addPiece 48 = .ok (.iload_n 2, 1) := by decide +kernel
theorem dX3_addPiece_49 : decode cX3_addPiece 49 = .ok (.iaload, 1) := by decide +kernel
theorem dX3_addPiece_50 : decode cX3_addPiece 50 = .ok (.iadd, 1) := by decide +kernel
theorem dX3_addPiece_51 : decode cX3_addPiece 51 = .ok (.putfield 53, 3) := by decide +kernel
theorem dX3_addPiece_54 : decode cX3_addPiece 54 = .ok (.aload_n 0, 1) := by decide +kernel
theorem dX3_addPiece_55 : decode cX3_addPiece 55 = .ok (.getfield 19, 3) := by decide +kernel
theorem dX3_addPiece_58 : decode cX3_addPiece 58 = .ok (.iload_n 2, 1) := by decide +kernel
theorem dX3_addPiece_59 : decode cX3_addPiece 59 = .ok (.dup2, 1) := by decide +kernel
theorem dX3_addPiece_60 : decode cX3_addPiece 60 = .ok (.iaload, 1) := by decide +kernel
theorem dX3_addPiece_61 : decode cX3_addPiece 61 = .ok (.iconst 1, 1) := by decide +kernel
theorem dX3_addPiece_62 : decode cX3_addPiece 62 = .ok (.iadd, 1) := by decide +kernel
theorem dX3_addPiece_63 : decode cX3_addPiece 63 = .ok (.iastore, 1) := by decide +kernel
theorem dX3_addPiece_64 : decode cX3_addPiece 64 = .ok (.return_, 1) := by decide +kernel
set_option maxRecDepth 20000 in
theorem ggX3_removePiece_X3_pieceAt : GoodIn wsX3_removePiece wsX3_pieceAt := goodIn_ca (goodIn_r _ [9, 1, 10, 17, 18, 19, 20, 21, 22, 23, 24, 25, 26] (by decide +kernel) (by decide +kernel)) (goodIn_sub (fun _ h => List.mem_cons_of_mem _ (List.mem_append_right _ h)) (by decide +kernel))
set_option maxRecDepth 20000 in
theorem gX3_removePiece_X3_pieceAt : GoodIn wsX3_removePiece (wsV RX3 106 RX3 yX3_pieceAt wsX3_pieceAt) := goodIn_app (goodIn_of _ (by decide +kernel)) ggX3_removePiece_X3_pieceAt
set_option maxRecDepth 20000 in
theorem ggX3_removePiece_X3_setPiece : GoodIn wsX3_removePiece wsX3_setPiece := goodIn_ca (goodIn_r _ [14, 10, 15, 16, 17, 18, 19, 20, 21, 22, 23, 24, 25, 26] (by decide +kernel) (by decide +kernel)) (goodIn_sub (fun _ h => List.mem_cons_of_mem _ (List.mem_append_right _ h)) (by decide +kernel))
set_option maxRecDepth 20000 in
theorem gX3_removePiece_X3_setPiece : GoodIn wsX3_removePiece (wsV RX3 99 RX3 yX3_setPiece wsX3_setPiece) := goodIn_app (goodIn_of _ (by decide +kernel)) ggX3_removePiece_X3_setPiece
theorem dX3_removePiece_0 : decode cX3_removePiece 0 = .ok (.aload_n 0, 1) := by decide +kernel
theorem dX3_removePiece_1 : decode cX3_removePiece 1 = .ok (.iload_n 2, 1) := by decide +kernel
theorem dX3_removePiece_2 : decode cX3_removePiece 2 = .ok (.invokevirtual 106, 3) := by decide +kernel
theorem dX3_removePiece_5 : decode cX3_removePiece 5 = .ok (.istore_n 3, 1) := by decide +kernel
theorem dX3_removePiece_6 : decode cX3_removePiece 6 = .ok (.iload_n 3, 1) := by decide +kernel
theorem dX3_removePiece_7 : decode cX3_removePiece 7 = .ok (.ifCond .lt 9, 3) := by decide +kernel
theorem dX3_removePiece_10 : decode cX3_removePiece 10 = .ok (.iload_n 3, 1) := by decide +kernel
theorem dX3_removePiece_11 : decode cX3_removePiece 11 = .ok (.bipush 10, 2) := by decide +kernel
theorem dX3_removePiece_13 : decode cX3_removePiece 13 = .ok (.if_icmp .lt 5, 3) := by decide +kernel
theorem dX3_removePiece_16 : decode cX3_removePiece 16 = .ok (.iconst (-1), 1) := by decide +kernel
theorem dX3_removePiece_17 : decode cX3_removePiece 17 = .ok (.ireturn, 1) := by decide +kernel
theorem dX3_removePiece_18 : decode cX3_removePiece 18 = .ok (.iload_n 2, 1) := by decide +kernel
theorem dX3_removePiece_19 : decode cX3_removePiece 19 = .ok (.iconst 1, 1) := by decide +kernel
theorem dX3_removePiece_20 : decode cX3_removePiece 20 = .ok (.iadd, 1) := by decide +kernel
theorem dX3_removePiece_21 : decode cX3_removePiece 21 = .ok (.istore 4, 2) := by decide +kernel
theorem dX3_removePiece_23 : decode cX3_removePiece 23 = .ok (.iload 4, 2) := by decide +kernel
theorem dX3_removePiece_25 : decode cX3_removePiece 25 = .ok (.aload_n 0, 1) := by decide +kernel
theorem dX3_removePiece_26 : decode cX3_removePiece 26 = .ok (.getfield 50, 3) := by decide +kernel
theorem dX3_removePiece_29 : decode cX3_removePiece 29 = .ok (.if_icmp .ge 23, 3) := by decide +kernel
theorem dX3_removePiece_32 : decode cX3_removePiece 32 = .ok (.aload_n 0, 1) := by decide +kernel
theorem dX3_removePiece_33 : decode cX3_removePiece 33 = .ok (.iload 4, 2) := by decide +kernel
theorem dX3_removePiece_35 : decode cX3_removePiece 35 = .ok (.iconst 1, 1) := by decide +kernel
theorem dX3_removePiece_36 : decode cX3_removePiece 36 = .ok (.isub, 1) := by decide +kernel
theorem dX3_removePiece_37 : decode cX3_removePiece 37 = .ok (.aload_n 0, 1) := by decide +kernel
theorem dX3_removePiece_38 : decode cX3_removePiece 38 = .ok (.iload 4, 2) := by decide +kernel
theorem dX3_removePiece_40 : decode cX3_removePiece 40 = .ok (.invokevirtual 106, 3) := by decide +kernel
theorem dX3_removePiece_43 : decode cX3_removePiece 43 = .ok (.invokevirtual 99, 3) := by decide +kernel
theorem dX3_removePiece_46 : decode cX3_removePiece 46 = .ok (.iinc 4 1, 3) := by decide +kernel
theorem dX3_removePiece_49 : decode cX3_removePiece 49 = .ok (.goto (-26), 3) := by decide +kernel
theorem dX3_removePiece_52 : decode cX3_removePiece 52 = .ok (.aload_n 0, 1) := by decide +kernel
theorem dX3_removePiece_53 : decode cX3_removePiece 53 = .ok (.dup, 1) := by decide +kernel
theorem dX3_removePiece_54 : decode cX3_removePiece 54 = .ok (.getfield 50, 3) := by decide +kernel
theorem dX3_removePiece_57 : decode cX3_removePiece 57 = .ok (.iconst 1, 1) := by decide +kernel
theorem dX3_removePiece_58 : decode cX3_removePiece 58 = .ok (.isub, 1) := by decide +kernel
theorem dX3_removePiece_59 : decode cX3_removePiece 59 = .ok (.putfield 50, 3) := by decide +kernel
theorem dX3_removePiece_62 : decode cX3_removePiece 62 = .ok (.aload_n 0, 1) := by decide +kernel
theorem dX3_removePiece_63 : decode cX3_removePiece 63 = .ok (.dup, 1) := by decide +kernel
theorem dX3_removePiece_64 : decode cX3_removePiece 64 = .ok (.getfield 53, 3) := by decide +kernel
theorem dX3_removePiece_67 : decode cX3_removePiece 67 = .ok (.aload_n 1, 1) := by decide +kernel
theorem dX3_removePiece_68 : decode cX3_removePiece 68 = .ok (.getfield 103, 3) := by decide +kernel
theorem dX3_removePiece_71 : decode cX3_removePiece 71 = .ok (.iload_n 3, 1) := by decide +kernel
theorem dX3_removePiece_72 : decode cX3_removePiece 72 = .ok (.iaload, 1) := by decide +kernel
theorem dX3_removePiece_73 : decode cX3_removePiece 73 = .ok (.isub, 1) := by decide +kernel
theorem dX3_removePiece_74 : decode cX3_removePiece 74 = .ok (.putfield 53, 3) := by decide +kernel
theorem dX3_removePiece_77 : decode cX3_removePiece 77 = .ok (.aload_n 0, 1) := by decide +kernel
theorem dX3_removePiece_78 : decode cX3_removePiece 78 = .ok (.getfield 19, 3) := by decide +kernel
theorem dX3_removePiece_81 : decode cX3_removePiece 81 = .ok (.iload_n 3, 1) := by decide +kernel
theorem dX3_removePiece_82 : decode cX3_removePiece 82 = .ok (.dup2, 1) := by decide +kernel
theorem dX3_removePiece_83 : decode cX3_removePiece 83 = .ok (.iaload, 1) := by decide +kernel
theorem dX3_removePiece_84 : decode cX3_removePiece 84 = .ok (.iconst 1, 1) := by decide +kernel
theorem dX3_removePiece_85 : decode cX3_removePiece 85 = .ok (.isub, 1) := by decide +kernel
theorem dX3_removePiece_86 : decode cX3_removePiece 86 = .ok (.iastore, 1) := by decide +kernel
theorem dX3_removePiece_87 : decode cX3_removePiece 87 = .ok (.iload_n 3, 1) := by decide +kernel
theorem dX3_removePiece_88 : decode cX3_removePiece 88 = .ok (.ireturn, 1) := by decide +kernel
theorem dX3_dropPieces_0 : decode cX3_dropPieces 0 = .ok (.aload_n 0, 1) := by decide +kernel
theorem dX3_dropPieces_1 : decode cX3_dropPieces 1 = .ok (.iconst 0, 1) := by decide +kernel
theorem dX3_dropPieces_2 : decode cX3_dropPieces 2 = .ok (.putfield 50, 3) := by decide +kernel
theorem dX3_dropPieces_5 : decode cX3_dropPieces 5 = .ok (.aload_n 0, 1) := by decide +kernel
theorem dX3_dropPieces_6 : decode cX3_dropPieces 6 = .ok (.iconst 0, 1) := by decide +kernel
theorem dX3_dropPieces_7 : decode cX3_dropPieces 7 = .ok (.putfield 53, 3) := by decide +kernel
theorem dX3_dropPieces_10 : decode cX3_dropPieces 10 = .ok (.iconst 0, 1) := by decide +kernel
theorem dX3_dropPieces_11 : decode cX3_dropPieces 11 = .ok (.istore_n 1, 1) := by decide +kernel
theorem dX3_dropPieces_12 : decode cX3_dropPieces 12 = .ok (.iload_n 1, 1) := by decide +kernel
theorem dX3_dropPieces_13 : decode cX3_dropPieces 13 = .ok (.bipush 10, 2) := by decide +kernel
theorem dX3_dropPieces_15 : decode cX3_dropPieces 15 = .ok (.if_icmp .ge 16, 3) := by decide +kernel
theorem dX3_dropPieces_18 : decode cX3_dropPieces 18 = .ok (.aload_n 0, 1) := by decide +kernel
theorem dX3_dropPieces_19 : decode cX3_dropPieces 19 = .ok (.getfield 19, 3) := by decide +kernel
theorem dX3_dropPieces_22 : decode cX3_dropPieces 22 = .ok (.iload_n 1, 1) := by decide +kernel
theorem dX3_dropPieces_23 : decode cX3_dropPieces 23 = .ok (.iconst 0, 1) := by decide +kernel
theorem dX3_dropPieces_24 : decode cX3_dropPieces 24 = .ok (.iastore, 1) := by decide +kernel
theorem dX3_dropPieces_25 : decode cX3_dropPieces 25 = .ok (.iinc 1 1, 3) := by decide +kernel
theorem dX3_dropPieces_28 : decode cX3_dropPieces 28 = .ok (.goto (-16), 3) := by decide +kernel
theorem dX3_dropPieces_31 : decode cX3_dropPieces 31 = .ok (.return_, 1) := by decide +kernel
theorem dX4_init_0 : decode cX4_init 0 = .ok (.aload_n 0, 1) := by decide +kernel
theorem dX4_init_1 : decode cX4_init 1 = .ok (.invokespecial 3, 3) := by decide +kernel
theorem dX4_init_4 : decode cX4_init 4 = .ok (.aload_n 0, 1) := by decide +kernel
theorem dX4_init_5 : decode cX4_init 5 = .ok (.bipush 11, 2) := by decide +kernel
theorem dX4_init_7 : decode cX4_init 7 = .ok (.sipush 501, 3) := by decide +kernel
theorem dX4_init_10 : decode cX4_init 10 = .ok (.multianewarray 9 2, 4) := by decide +kernel
theorem dX4_init_14 : decode cX4_init 14 = .ok (.putfield 11, 3) := by decide +kernel
theorem dX4_init_17 : decode cX4_init 17 = .ok (.aload_n 0, 1) := by decide +kernel
theorem dX4_init_18 : decode cX4_init 18 = .ok (.sipush 501, 3) := by decide +kernel
theorem dX4_init_21 : decode cX4_init 21 = .ok (.newarray .int, 2) := by decide +kernel
theorem dX4_init_23 : decode cX4_init 23 = .ok (.putfield 16, 3) := by decide +kernel
theorem dX4_init_26 : decode cX4_init 26 = .ok (.aload_n 0, 1) := by decide +kernel
theorem dX4_init_27 : decode cX4_init 27 = .ok (.sipush 501, 3) := by decide +kernel
theorem dX4_init_30 : decode cX4_init 30 = .ok (.newarray .int, 2) := by decide +kernel
theorem dX4_init_32 : decode cX4_init 32 = .ok (.putfield 20, 3) := by decide +kernel
theorem dX4_init_35 : decode cX4_init 35 = .ok (.aload_n 0, 1) := by decide +kernel
theorem dX4_init_36 : decode cX4_init 36 = .ok (.bipush 10, 2) := by decide +kernel
theorem dX4_init_38 : decode cX4_init 38 = .ok (.newarray .int, 2) := by decide +kernel
theorem dX4_init_40 : decode cX4_init 40 = .ok (.putfield 23, 3) := by decide +kernel
theorem dX4_init_43 : decode cX4_init 43 = .ok (.aload_n 0, 1) := by decide +kernel
theorem dX4_init_44 : decode cX4_init 44 = .ok (.bipush 10, 2) := by decide +kernel
theorem dX4_init_46 : decode cX4_init 46 = .ok (.newarray .int, 2) := by decide +kernel
theorem dX4_init_48 : decode cX4_init 48 = .ok (.putfield 26, 3) := by decide +kernel
theorem dX4_init_51 : decode cX4_init 51 = .ok (.return_, 1) := by decide +kernel
theorem dX4_stockFrom_0 : decode cX4_stockFrom 0 = .ok (.aload_n 1, 1) := by decide +kernel
theorem dX4_stockFrom_1 : decode cX4_stockFrom 1 = .ok (.getfield 29, 3) := by decide +kernel
theorem dX4_stockFrom_4 : decode cX4_stockFrom 4 = .ok (.iconst 0, 1) := by decide +kernel
theorem dX4_stockFrom_5 : decode cX4_stockFrom 5 = .ok (.aload_n 0, 1) := by decide +kernel
theorem dX4_stockFrom_6 : decode cX4_stockFrom 6 = .ok (.getfield 23, 3) := by decide +kernel
theorem dX4_stockFrom_9 : decode cX4_stockFrom 9 = .ok (.iconst 0, 1) := by decide +kernel
theorem dX4_stockFrom_10 : decode cX4_stockFrom 10 = .ok (.bipush 10, 2) := by decide +kernel
theorem dX4_stockFrom_12 : decode cX4_stockFrom 12 = .ok (.invokestatic 34, 3) := by decide +kernel
theorem dX4_stockFrom_15 : decode cX4_stockFrom 15 = .ok (.return_, 1) := by decide +kernel
set_option maxRecDepth 20000 in
theorem ggX4_study_X4_studyFrom : GoodIn wsX4_study wsX4_studyFrom := goodIn_ca (goodIn_r _ [8, 9, 1, 10, 11, 12, 13, 14, 15, 16, 17, 18, 7, 19, 20, 21, 22, 23, 24, 25, 26, 35, 36, 37, 38, 39, 40, 41, 42, 43, 44, 45, 27, 28, 29, 30, 31, 32, 33, 34] (by decide +kernel) (by decide +kernel)) (goodIn_sub (fun _ h => List.mem_cons_of_mem _ (List.mem_append_right _ h)) (by decide +kernel))
set_option maxRecDepth 20000 in
theorem gX4_study_X4_studyFrom : GoodIn wsX4_study (wsV RX4 47 RX4 yX4_studyFrom wsX4_studyFrom) := goodIn_app (goodIn_of _ (by decide +kernel)) ggX4_study_X4_studyFrom
theorem dX4_study_0 : decode cX4_study 0 = .ok (.aload_n 0, 1) := by decide +kernel
theorem dX4_study_1 : decode cX4_study 1 = .ok (.getfield 11, 3) := by decide +kernel
theorem dX4_study_4 : decode cX4_study 4 = .ok (.aload_n 1, 1) := by decide +kernel
theorem dX4_study_5 : decode cX4_study 5 = .ok (.getfield 40, 3) := by decide +kernel
theorem dX4_study_8 : decode cX4_study 8 = .ok (.aaload, 1) := by decide +kernel
theorem dX4_study_9 : decode cX4_study 9 = .ok (.astore_n 2, 1) := by decide +kernel
theorem dX4_study_10 : decode cX4_study 10 = .ok (.aload_n 2, 1) := by decide +kernel
theorem dX4_study_11 : decode cX4_study 11 = .ok (.iconst 0, 1) := by decide +kernel
theorem dX4_study_12 : decode cX4_study 12 = .ok (.iconst 0, 1) := by decide +kernel
theorem dX4_study_13 : decode cX4_study 13 = .ok (.iastore, 1) := by decide +kernel
theorem dX4_study_14 : decode cX4_study 14 = .ok (.iconst 1, 1) := by decide +kernel
theorem dX4_study_15 : decode cX4_study 15 = .ok (.istore_n 3, 1) := by decide +kernel
theorem dX4_study_16 : decode cX4_study 16 = .ok (.iload_n 3, 1) := by decide +kernel
theorem dX4_study_17 : decode cX4_study 17 = .ok (.sipush 500, 3) := by decide +kernel
theorem dX4_study_20 : decode cX4_study 20 = .ok (.if_icmp .gt 14, 3) := by decide +kernel
theorem dX4_study_23 : decode cX4_study 23 = .ok (.aload_n 2, 1) := by decide +kernel
theorem dX4_study_24 : decode cX4_study 24 = .ok (.iload_n 3, 1) := by decide +kernel
theorem dX4_study_25 : decode cX4_study 25 = .ok (.ldc 46, 2) := by decide +kernel
theorem dX4_study_27 : decode cX4_study 27 = .ok (.iastore, 1) := by decide +kernel
theorem dX4_study_28 : decode cX4_study 28 = .ok (.iinc 3 1, 3) := by decide +kernel
theorem dX4_study_31 : decode cX4_study 31 = .ok (.goto (-15), 3) := by decide +kernel
theorem dX4_study_34 : decode cX4_study 34 = .ok (.aload_n 0, 1) := by decide +kernel
theorem dX4_study_35 : decode cX4_study 35 = .ok (.aload_n 1, 1) := by decide +kernel
theorem dX4_study_36 : decode cX4_study 36 = .ok (.aload_n 1, 1) := by decide +kernel
theorem dX4_study_37 : decode cX4_study 37 = .ok (.getfield 40, 3) := by decide +kernel
theorem dX4_study_40 : decode cX4_study 40 = .ok (.iconst 1, 1) := by decide +kernel
theorem dX4_study_41 : decode cX4_study 41 = .ok (.isub, 1) := by decide +kernel
theorem dX4_study_42 : decode cX4_study 42 = .ok (.invokevirtual 47, 3) := by decide +kernel
theorem dX4_study_45 : decode cX4_study 45 = .ok (.return_, 1) := by decide +kernel
set_option maxRecDepth 20000 in
theorem ggX4_studyFrom_X4_addKind : GoodIn wsX4_studyFrom wsX4_addKind := goodIn_ca (goodIn_r _ [13, 14, 15, 16, 17, 18, 19, 12, 20] (by decide +kernel) (by decide +kernel)) (goodIn_sub (fun _ h => List.mem_cons_of_mem _ (List.mem_append_right _ h)) (by decide +kernel))
set_option maxRecDepth 20000 in
theorem gX4_studyFrom_X4_addKind : GoodIn wsX4_studyFrom (va_wsS RX4 60 yX4_addKind wsX4_addKind) := goodIn_app (goodIn_of _ (by decide +kernel)) ggX4_studyFrom_X4_addKind
theorem dX4_studyFrom_0 : decode cX4_studyFrom 0 = .ok (.iload_n 2, 1) := by decide +kernel
theorem dX4_studyFrom_1 : decode cX4_studyFrom 1 = .ok (.istore_n 3, 1) := by decide +kernel
theorem dX4_studyFrom_2 : decode cX4_studyFrom 2 = .ok (.iload_n 3, 1) := by decide +kernel
theorem dX4_studyFrom_3 : decode cX4_studyFrom 3 = .ok (.ifCond .lt 66, 3) := by decide +kernel
theorem dX4_studyFrom_6 : decode cX4_studyFrom 6 = .ok (.aload_n 1, 1) := by decide +kernel
theorem dX4_studyFrom_7 : decode cX4_studyFrom 7 = .ok (.getfield 51, 3) := by decide +kernel
theorem dX4_studyFrom_10 : decode cX4_studyFrom 10 = .ok (.iload_n 3, 1) := by decide +kernel
theorem dX4_studyFrom_11 : decode cX4_studyFrom 11 = .ok (.iaload, 1) := by decide +kernel
theorem dX4_studyFrom_12 : decode cX4_studyFrom 12 = .ok (.istore 4, 2) := by decide +kernel
theorem dX4_studyFrom_14 : decode cX4_studyFrom 14 = .ok (.aload_n 0, 1) := by decide +kernel
theorem dX4_studyFrom_15 : decode cX4_studyFrom 15 = .ok (.getfield 11, 3) := by decide +kernel
theorem dX4_studyFrom_18 : decode cX4_studyFrom 18 = .ok (.iload_n 3, 1) := by decide +kernel
theorem dX4_studyFrom_19 : decode cX4_studyFrom 19 = .ok (.iconst 1, 1) := by decide +kernel
theorem dX4_studyFrom_20 : decode cX4_studyFrom 20 = .ok (.iadd, 1) := by decide +kernel
theorem dX4_studyFrom_21 : decode cX4_studyFrom 21 = .ok (.aaload, 1) := by decide +kernel
theorem dX4_studyFrom_22 : decode cX4_studyFrom 22 = .ok (.iconst 0, 1) := by decide +kernel
theorem dX4_studyFrom_23 : decode cX4_studyFrom 23 = .ok (.aload_n 0, 1) := by decide +kernel
theorem dX4_studyFrom_24 : decode cX4_studyFrom 24 = .ok (.getfield 11, 3) := by decide +kernel
theorem dX4_studyFrom_27 : decode cX4_studyFrom 27 = .ok (.iload_n 3, 1) := by decide +kernel
theorem dX4_studyFrom_28 : decode cX4_studyFrom 28 = .ok (.aaload, 1) := by decide +kernel
theorem dX4_studyFrom_29 : decode cX4_studyFrom 29 = .ok (.iconst 0, 1) := by decide +kernel
theorem dX4_studyFrom_30 : decode cX4_studyFrom 30 = .ok (.sipush 501, 3) := by decide +kernel
theorem dX4_studyFrom_33 : decode cX4_studyFrom 33 = .ok (.invokestatic 34, 3) := by decide +kernel
theorem dX4_studyFrom_36 : decode cX4_studyFrom 36 = .ok (.aload_n 0, 1) := by decide +kernel
theorem dX4_studyFrom_37 : decode cX4_studyFrom 37 = .ok (.getfield 11, 3) := by decide +kernel
theorem dX4_studyFrom_40 : decode cX4_studyFrom 40 = .ok (.iload_n 3, 1) := by decide +kernel
theorem dX4_studyFrom_41 : decode cX4_studyFrom 41 = .ok (.aaload, 1) := by decide +kernel
theorem dX4_studyFrom_42 : decode cX4_studyFrom 42 = .ok (.aload_n 1, 1) := by decide +kernel
theorem dX4_studyFrom_43 : decode cX4_studyFrom 43 = .ok (.getfield 54, 3) := by decide +kernel
theorem dX4_studyFrom_46 : decode cX4_studyFrom 46 = .ok (.aload_n 1, 1) := by decide +kernel
theorem dX4_studyFrom_47 : decode cX4_studyFrom 47 = .ok (.getfield 57, 3) := by decide +kernel
theorem dX4_studyFrom_50 : decode cX4_studyFrom 50 = .ok (.iload 4, 2) := by decide +kernel
theorem dX4_studyFrom_52 : decode cX4_studyFrom 52 = .ok (.iaload, 1) := by decide +kernel
theorem dX4_studyFrom_53 : decode cX4_studyFrom 53 = .ok (.aload_n 0, 1) := by decide +kernel
theorem dX4_studyFrom_54 : decode cX4_studyFrom 54 = .ok (.getfield 23, 3) := by decide +kernel
theorem dX4_studyFrom_57 : decode cX4_studyFrom 57 = .ok (.iload 4, 2) := by decide +kernel
theorem dX4_studyFrom_59 : decode cX4_studyFrom 59 = .ok (.iaload, 1) := by decide +kernel
theorem dX4_studyFrom_60 : decode cX4_studyFrom 60 = .ok (.invokestatic 60, 3) := by decide +kernel
theorem dX4_studyFrom_63 : decode cX4_studyFrom 63 = .ok (.iinc 3 (-1), 3) := by decide +kernel
theorem dX4_studyFrom_66 : decode cX4_studyFrom 66 = .ok (.goto (-64), 3) := by decide +kernel
theorem dX4_studyFrom_69 : decode cX4_studyFrom 69 = .ok (.return_, 1) := by decide +kernel
set_option maxRecDepth 20000 in
theorem ggX4_addKind_X4_addBundle : GoodIn wsX4_addKind wsX4_addBundle := goodIn_ca (goodIn_r _ [8, 1, 2, 3, 4] (by decide +kernel) (by decide +kernel)) (goodIn_sub (fun _ h => List.mem_cons_of_mem _ (List.mem_append_right _ h)) (by decide +kernel))
set_option maxRecDepth 20000 in
theorem gX4_addKind_X4_addBundle : GoodIn wsX4_addKind (va_wsS RX4 70 yX4_addBundle wsX4_addBundle) := goodIn_app (goodIn_of _ (by decide +kernel)) ggX4_addKind_X4_addBundle
theorem dX4_addKind_0 : decode cX4_addKind 0 = .ok (.iload_n 2, 1) := by decide +kernel
theorem dX4_addKind_1 : decode cX4_addKind 1 = .ok (.iconst 1, 1) := by decide +kernel
theorem dX4_addKind_2 : decode cX4_addKind 2 = .ok (.if_icmp .ge 4, 3) := by decide +kernel
theorem dX4_addKind_5 : decode cX4_addKind 5 = .ok (.return_, 1) := by decide +kernel
theorem dX4_addKind_6 : decode cX4_addKind 6 = .ok (.iload_n 3, 1) := by decide +kernel
theorem dX4_addKind_7 : decode cX4_addKind 7 = .ok (.iload_n 1, 1) := by decide +kernel
theorem dX4_addKind_8 : decode cX4_addKind 8 = .ok (.iload_n 2, 1) := by decide +kernel
theorem dX4_addKind_9 : decode cX4_addKind 9 = .ok (.idiv, 1) := by decide +kernel
theorem dX4_addKind_10 : decode cX4_addKind 10 = .ok (.invokestatic 64, 3) := by decide +kernel
theorem dX4_addKind_13 : decode cX4_addKind 13 = .ok (.istore 4, 2) := by decide +kernel
theorem dX4_addKind_15 : decode cX4_addKind 15 = .ok (.iconst 1, 1) := by decide +kernel
theorem dX4_addKind_16 : decode cX4_addKind 16 = .ok (.istore 5, 2) := by decide +kernel
theorem dX4_addKind_18 : decode cX4_addKind 18 = .ok (.iload 4, 2) := by decide +kernel
theorem dX4_addKind_20 : decode cX4_addKind 20 = .ok (.ifCond .le 47, 3) := by decide +kernel
theorem dX4_addKind_23 : decode cX4_addKind 23 = .ok (.iload 5, 2) := by decide +kernel
theorem dX4_addKind_25 : decode cX4_addKind 25 = .ok (.sipush 500, 3) := by decide +kernel
theorem dX4_addKind_28 : decode cX4_addKind 28 = .ok (.if_icmp .gt 39, 3) := by decide +kernel
theorem dX4_addKind_31 : decode cX4_addKind 31 = .ok (.iload 5, 2) := by decide +kernel
theorem dX4_addKind_33 : decode cX4_addKind 33 = .ok (.iload 4, 2) := by decide +kernel
theorem dX4_addKind_35 : decode cX4_addKind 35 = .ok (.invokestatic 64, 3) := by decide +kernel
theorem dX4_addKind_38 : decode cX4_addKind 38 = .ok (.istore 6, 2) := by decide +kernel
theorem dX4_addKind_40 : decode cX4_addKind 40 = .ok (.aload_n 0, 1) := by decide +kernel
theorem dX4_addKind_41 : decode cX4_addKind 41 = .ok (.iload_n 1, 1) := by decide +kernel
theorem dX4_addKind_42 : decode cX4_addKind 42 = .ok (.iload_n 2, 1) := by decide +kernel
theorem dX4_addKind_43 : decode cX4_addKind 43 = .ok (.iload 6, 2) := by decide +kernel
theorem dX4_addKind_45 : decode cX4_addKind 45 = .ok (.imul, 1) := by decide +kernel
theorem dX4_addKind_46 : decode cX4_addKind 46 = .ok (.iload 6, 2) := by decide +kernel
theorem dX4_addKind_48 : decode cX4_addKind 48 = .ok (.invokestatic 70, 3) := by decide +kernel
theorem dX4_addKind_51 : decode cX4_addKind 51 = .ok (.iload 4, 2) := by decide +kernel
theorem dX4_addKind_53 : decode cX4_addKind 53 = .ok (.iload 6, 2) := by decide +kernel
theorem dX4_addKind_55 : decode cX4_addKind 55 = .ok (.isub, 1) := by decide +kernel
theorem dX4_addKind_56 : decode cX4_addKind 56 = .ok (.istore 4, 2) := by decide +kernel
theorem dX4_addKind_58 : decode cX4_addKind 58 = .ok (.iload 5, 2) := by decide +kernel
theorem dX4_addKind_60 : decode cX4_addKind 60 = .ok (.iconst 2, 1) := by decide +kernel
theorem dX4_addKind_61 : decode cX4_addKind 61 = .ok (.imul, 1) := by decide +kernel
theorem dX4_addKind_62 : decode cX4_addKind 62 = .ok (.istore 5, 2) := by decide +kernel
theorem dX4_addKind_64 : decode cX4_addKind 64 = .ok (.goto (-46), 3) := by decide +kernel
theorem dX4_addKind_67 : decode cX4_addKind 67 = .ok (.return_, 1) := by decide +kernel
theorem dX4_addBundle_0 : decode cX4_addBundle 0 = .ok (.iload_n 1, 1) := by decide +kernel
theorem dX4_addBundle_1 : decode cX4_addBundle 1 = .ok (.aload_n 0, 1) := by decide +kernel
theorem dX4_addBundle_2 : decode cX4_addBundle 2 = .ok (.arraylength, 1) := by decide +kernel
theorem dX4_addBundle_3 : decode cX4_addBundle 3 = .ok (.iconst 1, 1) := by decide +kernel
theorem dX4_addBundle_4 : decode cX4_addBundle 4 = .ok (.isub, 1) := by decide +kernel
theorem dX4_addBundle_5 : decode cX4_addBundle 5 = .ok (.invokestatic 64, 3) := by decide +kernel
theorem dX4_addBundle_8 : decode cX4_addBundle 8 = .ok (.istore 4, 2) := by decide +kernel
theorem dX4_addBundle_10 : decode cX4_addBundle 10 = .ok (.iload 4, 2) := by decide +kernel
theorem dX4_addBundle_12 : decode cX4_addBundle 12 = .ok (.iload_n 2, 1) := by decide +kernel
theorem dX4_addBundle_13 : decode cX4_addBundle 13 = .ok (.if_icmp .lt 34, 3) := by decide +kernel
theorem dX4_addBundle_16 : decode cX4_addBundle 16 = .ok (.aload_n 0, 1) := by decide +kernel
theorem dX4_addBundle_17 : decode cX4_addBundle 17 = .ok (.iload 4, 2) := by decide +kernel
theorem dX4_addBundle_19 : decode cX4_addBundle 19 = .ok (.iload_n 2, 1) := by decide +kernel
theorem dX4_addBundle_20 : decode cX4_addBundle 20 = .ok (.isub, 1) := by decide +kernel
theorem dX4_addBundle_21 : decode cX4_addBundle 21 = .ok (.iaload, 1) := by decide +kernel
theorem dX4_addBundle_22 : decode cX4_addBundle 22 = .ok (.iload_n 3, 1) := by decide +kernel
theorem dX4_addBundle_23 : decode cX4_addBundle 23 = .ok (.iadd, 1) := by decide +kernel
theorem dX4_addBundle_24 : decode cX4_addBundle 24 = .ok (.istore 5, 2) := by decide +kernel
theorem dX4_addBundle_26 : decode cX4_addBundle 26 = .ok (.iload 5, 2) := by decide +kernel
theorem dX4_addBundle_28 : decode cX4_addBundle 28 = .ok (.aload_n 0, 1) := by decide +kernel
theorem dX4_addBundle_29 : decode cX4_addBundle 29 = .ok (.iload 4, 2) := by decide +kernel
theorem dX4_addBundle_31 : decode cX4_addBundle 31 = .ok (.iaload, 1) := by decide +kernel
theorem dX4_addBundle_32 : decode cX4_addBundle 32 = .ok (.if_icmp .ge 9, 3) := by decide +kernel
theorem dX4_addBundle_35 : decode cX4_addBundle 35 = .ok (.aload_n 0, 1) := by decide +kernel
theorem dX4_addBundle_36 : decode cX4_addBundle 36 = .ok (.iload 4, 2) := by decide +kernel
theorem dX4_addBundle_38 : decode cX4_addBundle 38 = .ok (.iload 5, 2) := by decide +kernel
theorem dX4_addBundle_40 : decode cX4_addBundle 40 = .ok (.iastore, 1) := by decide +kernel
theorem dX4_addBundle_41 : decode cX4_addBundle 41 = .ok (.iinc 4 (-1), 3) := by decide +kernel
theorem dX4_addBundle_44 : decode cX4_addBundle 44 = .ok (.goto (-34), 3) := by decide +kernel
theorem dX4_addBundle_47 : decode cX4_addBundle 47 = .ok (.return_, 1) := by decide +kernel
theorem dX4_canMake_0 : decode cX4_canMake 0 = .ok (.iload_n 1, 1) := by decide +kernel
theorem dX4_canMake_1 : decode cX4_canMake 1 = .ok (.ifCond .lt 27, 3) := by decide +kernel
theorem dX4_canMake_4 : decode cX4_canMake 4 = .ok (.iload_n 1, 1) := by decide +kernel
theorem dX4_canMake_5 : decode cX4_canMake 5 = .ok (.sipush 500, 3) := by decide +kernel
theorem dX4_canMake_8 : decode cX4_canMake 8 = .ok (.if_icmp .gt 20, 3) := by decide +kernel
theorem dX4_canMake_11 : decode cX4_canMake 11 = .ok (.aload_n 0, 1) := by decide +kernel
theorem dX4_canMake_12 : decode cX4_canMake 12 = .ok (.getfield 11, 3) := by decide +kernel
theorem dX4_canMake_15 : decode cX4_canMake 15 = .ok (.iconst 0, 1) := by decide +kernel
theorem dX4_canMake_16 : decode cX4_canMake 16 = .ok (.aaload, 1) := by decide +kernel
theorem dX4_canMake_17 : decode cX4_canMake 17 = .ok (.iload_n 1, 1) := by decide +kernel
theorem dX4_canMake_18 : decode cX4_canMake 18 = .ok (.iaload, 1) := by decide +kernel
theorem dX4_canMake_19 : decode cX4_canMake 19 = .ok (.ldc 46, 2) := by decide +kernel
theorem dX4_canMake_21 : decode cX4_canMake 21 = .ok (.if_icmp .ge 7, 3) := by decide +kernel
theorem dX4_canMake_24 : decode cX4_canMake 24 = .ok (.iconst 1, 1) := by decide +kernel
theorem dX4_canMake_25 : decode cX4_canMake 25 = .ok (.goto 4, 3) := by decide +kernel
theorem dX4_canMake_28 : decode cX4_canMake 28 = .ok (.iconst 0, 1) := by decide +kernel
theorem dX4_canMake_29 : decode cX4_canMake 29 = .ok (.ireturn, 1) := by decide +kernel
set_option maxRecDepth 20000 in
theorem ggX4_choose_X4_chooseIfFewer : GoodIn wsX4_choose wsX4_chooseIfFewer := goodIn_ca (goodIn_r _ [9, 10, 2, 11, 12, 13, 14, 15, 8, 16, 1, 34, 35, 36, 37, 38, 39, 40, 41] (by decide +kernel) (by decide +kernel)) (goodIn_sub (fun _ h => List.mem_cons_of_mem _ (List.mem_append_right _ h)) (by decide +kernel))
set_option maxRecDepth 20000 in
theorem gX4_choose_X4_chooseIfFewer : GoodIn wsX4_choose (wsV RX4 82 RX4 yX4_chooseIfFewer wsX4_chooseIfFewer) := goodIn_app (goodIn_of _ (by decide +kernel)) ggX4_choose_X4_chooseIfFewer
set_option maxRecDepth 20000 in
theorem ggX4_choose_X4_takeLongestFirst : GoodIn wsX4_choose wsX4_takeLongestFirst := goodIn_ca (goodIn_r _ [20, 11, 21, 22, 23, 24, 25, 26, 27, 28, 8, 29, 30, 31, 32, 33, 10, 34, 35, 36, 37, 38, 39, 40, 41, 42, 43, 44, 45, 46, 47, 48, 49, 50, 51, 52] (by decide +kernel) (by decide +kernel)) (goodIn_sub (fun _ h => List.mem_cons_of_mem _ (List.mem_append_right _ h)) (by decide +kernel))
set_option maxRecDepth 20000 in
theorem gX4_choose_X4_takeLongestFirst : GoodIn wsX4_choose (wsV RX4 86 RX4 yX4_takeLongestFirst wsX4_takeLongestFirst) := goodIn_app (goodIn_of _ (by decide +kernel)) ggX4_choose_X4_takeLongestFirst
theorem dX4_choose_0 : decode cX4_choose 0 = .ok (.aload_n 0, 1) := by decide +kernel
theorem dX4_choose_1 : decode cX4_choose 1 = .ok (.ldc 46, 2) := by decide +kernel
theorem dX4_choose_3 : decode cX4_choose 3 = .ok (.putfield 73, 3) := by decide +kernel
theorem dX4_choose_6 : decode cX4_choose 6 = .ok (.iload_n 3, 1) := by decide +kernel
theorem dX4_choose_7 : decode cX4_choose 7 = .ok (.ifCond .eq 39, 3) := by decide +kernel
theorem dX4_choose_10 : decode cX4_choose 10 = .ok (.iconst 0, 1) := by decide +kernel
theorem dX4_choose_11 : decode cX4_choose 11 = .ok (.istore 4, 2) := by decide +kernel
theorem dX4_choose_13 : decode cX4_choose 13 = .ok (.iload 4, 2) := by decide +kernel
theorem dX4_choose_15 : decode cX4_choose 15 = .ok (.aload_n 1, 1) := by decide +kernel
theorem dX4_choose_16 : decode cX4_choose 16 = .ok (.getfield 76, 3) := by decide +kernel
theorem dX4_choose_19 : decode cX4_choose 19 = .ok (.if_icmp .gt 24, 3) := by decide +kernel
theorem dX4_choose_22 : decode cX4_choose 22 = .ok (.aload_n 0, 1) := by decide +kernel
theorem dX4_choose_23 : decode cX4_choose 23 = .ok (.iload_n 2, 1) := by decide +kernel
theorem dX4_choose_24 : decode cX4_choose 24 = .ok (.aload_n 1, 1) := by decide +kernel
theorem dX4_choose_25 : decode cX4_choose 25 = .ok (.getfield 79, 3) := by decide +kernel
theorem dX4_choose_28 : decode cX4_choose 28 = .ok (.isub, 1) := by decide +kernel
theorem dX4_choose_29 : decode cX4_choose 29 = .ok (.iload 4, 2) := by decide +kernel
theorem dX4_choose_31 : decode cX4_choose 31 = .ok (.isub, 1) := by decide +kernel
theorem dX4_choose_32 : decode cX4_choose 32 = .ok (.iload 4, 2) := by decide +kernel
theorem dX4_choose_34 : decode cX4_choose 34 = .ok (.invokevirtual 82, 3) := by decide +kernel
theorem dX4_choose_37 : decode cX4_choose 37 = .ok (.iinc 4 1, 3) := by decide +kernel
theorem dX4_choose_40 : decode cX4_choose 40 = .ok (.goto (-27), 3) := by decide +kernel
theorem dX4_choose_43 : decode cX4_choose 43 = .ok (.goto 9, 3) := by decide +kernel
theorem dX4_choose_46 : decode cX4_choose 46 = .ok (.aload_n 0, 1) := by decide +kernel
theorem dX4_choose_47 : decode cX4_choose 47 = .ok (.iload_n 2, 1) := by decide +kernel
theorem dX4_choose_48 : decode cX4_choose 48 = .ok (.iconst (-1), 1) := by decide +kernel
theorem dX4_choose_49 : decode cX4_choose 49 = .ok (.invokevirtual 82, 3) := by decide +kernel
theorem dX4_choose_52 : decode cX4_choose 52 = .ok (.aload_n 0, 1) := by decide +kernel
theorem dX4_choose_53 : decode cX4_choose 53 = .ok (.getfield 73, 3) := by decide +kernel
theorem dX4_choose_56 : decode cX4_choose 56 = .ok (.ldc 46, 2) := by decide +kernel
theorem dX4_choose_58 : decode cX4_choose 58 = .ok (.if_icmp .ne 5, 3) := by decide +kernel
theorem dX4_choose_61 : decode cX4_choose 61 = .ok (.iconst 0, 1) := by decide +kernel
theorem dX4_choose_62 : decode cX4_choose 62 = .ok (.ireturn, 1) := by decide +kernel
theorem dX4_choose_63 : decode cX4_choose 63 = .ok (.aload_n 0, 1) := by decide +kernel
theorem dX4_choose_64 : decode cX4_choose 64 = .ok (.aload_n 1, 1) := by decide +kernel
theorem dX4_choose_65 : decode cX4_choose 65 = .ok (.invokevirtual 86, 3) := by decide +kernel
theorem dX4_choose_68 : decode cX4_choose 68 = .ok (.iconst 1, 1) := by decide +kernel
theorem dX4_choose_69 : decode cX4_choose 69 = .ok (.ireturn, 1) := by decide +kernel
set_option maxRecDepth 20000 in
theorem ggX4_chooseIfFewer_X4_canMake : GoodIn wsX4_chooseIfFewer wsX4_canMake := goodIn_ca (goodIn_r _ [9, 1, 10, 11, 12, 13, 14, 15, 16, 17, 18] (by decide +kernel) (by decide +kernel)) (goodIn_sub (fun _ h => List.mem_cons_of_mem _ (List.mem_append_right _ h)) (by decide +kernel))
set_option maxRecDepth 20000 in
theorem gX4_chooseIfFewer_X4_canMake : GoodIn wsX4_chooseIfFewer (wsV RX4 90 RX4 yX4_canMake wsX4_canMake) := goodIn_app (goodIn_of _ (by decide +kernel)) ggX4_chooseIfFewer_X4_canMake
theorem dX4_chooseIfFewer_0 : decode cX4_chooseIfFewer 0 = .ok (.aload_n 0, 1) := by decide +kernel
theorem dX4_chooseIfFewer_1 : decode cX4_chooseIfFewer 1 = .ok (.iload_n 1, 1) := by decide +kernel
theorem dX4_chooseIfFewer_2 : decode cX4_chooseIfFewer 2 = .ok (.invokevirtual 90, 3) := by decide +kernel
theorem dX4_chooseIfFewer_5 : decode cX4_chooseIfFewer 5 = .ok (.ifCond .eq 40, 3) := by decide +kernel
theorem dX4_chooseIfFewer_8 : decode cX4_chooseIfFewer 8 = .ok (.aload_n 0, 1) := by decide +kernel
theorem dX4_chooseIfFewer_9 : decode cX4_chooseIfFewer 9 = .ok (.getfield 11, 3) := by decide +kernel
theorem dX4_chooseIfFewer_12 : decode cX4_chooseIfFewer 12 = .ok (.iconst 0, 1) := by decide +kernel
theorem dX4_chooseIfFewer_13 : decode cX4_chooseIfFewer 13 = .ok (.aaload, 1) := by decide +kernel
theorem dX4_chooseIfFewer_14 : decode cX4_chooseIfFewer 14 = .ok (.iload_n 1, 1) := by decide +kernel
theorem dX4_chooseIfFewer_15 : decode cX4_chooseIfFewer 15 = .ok (.iaload, 1) := by decide +kernel
theorem dX4_chooseIfFewer_16 : decode cX4_chooseIfFewer 16 = .ok (.aload_n 0, 1) := by decide +kernel
theorem dX4_chooseIfFewer_17 : decode cX4_chooseIfFewer 17 = .ok (.getfield 73, 3) := by decide +kernel
theorem dX4_chooseIfFewer_20 : decode cX4_chooseIfFewer 20 = .ok (.if_icmp .ge 25, 3) := by decide +kernel
theorem dX4_chooseIfFewer_23 : decode cX4_chooseIfFewer 23 = .ok (.aload_n 0, 1) := by decide +kernel
theorem dX4_chooseIfFewer_24 : decode cX4_chooseIfFewer 24 = .ok (.aload_n 0, 1) := by decide +kernel
theorem dX4_chooseIfFewer_25 : decode cX4_chooseIfFewer 25 = .ok (.getfield 11, 3) := by decide +kernel
theorem dX4_chooseIfFewer_28 : decode cX4_chooseIfFewer 28 = .ok (.iconst 0, 1) := by decide +kernel
theorem dX4_chooseIfFewer_29 : decode cX4_chooseIfFewer 29 = .ok (.aaload, 1) := by decide +kernel
theorem dX4_chooseIfFewer_30 : decode cX4_chooseIfFewer 30 = .ok (.iload_n 1, 1) := by decide +kernel
theorem dX4_chooseIfFewer_31 : decode cX4_chooseIfFewer 31 = .ok (.iaload, 1) := by decide +kernel
theorem dX4_chooseIfFewer_32 : decode cX4_chooseIfFewer 32 = .ok (.putfield 73, 3) := by decide +kernel
theorem dX4_chooseIfFewer_35 : decode cX4_chooseIfFewer 35 = .ok (.aload_n 0, 1) := by decide +kernel
theorem dX4_chooseIfFewer_36 : decode cX4_chooseIfFewer 36 = .ok (.iload_n 1, 1) := by decide +kernel
theorem dX4_chooseIfFewer_37 : decode cX4_chooseIfFewer 37 = .ok (.putfield 94, 3) := by decide +kernel
theorem dX4_chooseIfFewer_40 : decode cX4_chooseIfFewer 40 = .ok (.aload_n 0, 1) := by decide +kernel
theorem dX4_chooseIfFewer_41 : decode cX4_chooseIfFewer 41 = .ok (.iload_n 2, 1) := by decide +kernel
theorem dX4_chooseIfFewer_42 : decode cX4_chooseIfFewer 42 = .ok (.putfield 97, 3) := by decide +kernel
theorem dX4_chooseIfFewer_45 : decode cX4_chooseIfFewer 45 = .ok (.return_, 1) := by decide +kernel
set_option maxRecDepth 20000 in
theorem ggX4_takeLongestFirst_X4_mostAt : GoodIn wsX4_takeLongestFirst wsX4_mostAt := goodIn_ca (goodIn_r _ [11, 12, 13, 14, 15, 16, 17, 18, 19, 20, 21, 22, 23, 24] (by decide +kernel) (by decide +kernel)) (goodIn_sub (fun _ h => List.mem_cons_of_mem _ (List.mem_append_right _ h)) (by decide +kernel))
set_option maxRecDepth 20000 in
theorem gX4_takeLongestFirst_X4_mostAt : GoodIn wsX4_takeLongestFirst (wsV RX4 100 RX4 yX4_mostAt wsX4_mostAt) := goodIn_app (goodIn_of _ (by decide +kernel)) ggX4_takeLongestFirst_X4_mostAt
theorem dX4_takeLongestFirst_0 : decode cX4_takeLongestFirst 0 = .ok (.aload_n 0, 1) := by decide +kernel
theorem dX4_takeLongestFirst_1 : decode cX4_takeLongestFirst 1 = .ok (.getfield 94, 3) := by decide +kernel
theorem dX4_takeLongestFirst_4 : decode cX4_takeLongestFirst 4 = .ok (.istore_n 2, 1) := by decide +kernel
theorem dX4_takeLongestFirst_5 : decode cX4_takeLongestFirst 5 = .ok (.iconst 0, 1) := by decide +kernel
theorem dX4_takeLongestFirst_6 : decode cX4_takeLongestFirst 6 = .ok (.istore_n 3, 1) := by decide +kernel
theorem dX4_takeLongestFirst_7 : decode cX4_takeLongestFirst 7 = .ok (.iload_n 3, 1) := by decide +kernel
theorem dX4_takeLongestFirst_8 : decode cX4_takeLongestFirst 8 = .ok (.aload_n 1, 1) := by decide +kernel
theorem dX4_takeLongestFirst_9 : decode cX4_takeLongestFirst 9 = .ok (.getfield 40, 3) := by decide +kernel
theorem dX4_takeLongestFirst_12 : decode cX4_takeLongestFirst 12 = .ok (.if_icmp .ge 62, 3) := by decide +kernel
theorem dX4_takeLongestFirst_15 : decode cX4_takeLongestFirst 15 = .ok (.aload_n 1, 1) := by decide +kernel
theorem dX4_takeLongestFirst_16 : decode cX4_takeLongestFirst 16 = .ok (.getfield 51, 3) := by decide +kernel
theorem dX4_takeLongestFirst_19 : decode cX4_takeLongestFirst 19 = .ok (.iload_n 3, 1) := by decide +kernel
theorem dX4_takeLongestFirst_20 : decode cX4_takeLongestFirst 20 = .ok (.iaload, 1) := by decide +kernel
theorem dX4_takeLongestFirst_21 : decode cX4_takeLongestFirst 21 = .ok (.istore 4, 2) := by decide +kernel
theorem dX4_takeLongestFirst_23 : decode cX4_takeLongestFirst 23 = .ok (.aload_n 0, 1) := by decide +kernel
theorem dX4_takeLongestFirst_24 : decode cX4_takeLongestFirst 24 = .ok (.getfield 26, 3) := by decide +kernel
theorem dX4_takeLongestFirst_27 : decode cX4_takeLongestFirst 27 = .ok (.iload 4, 2) := by decide +kernel
theorem dX4_takeLongestFirst_29 : decode cX4_takeLongestFirst 29 = .ok (.aload_n 0, 1) := by decide +kernel
theorem dX4_takeLongestFirst_30 : decode cX4_takeLongestFirst 30 = .ok (.iload_n 3, 1) := by decide +kernel
theorem dX4_takeLongestFirst_31 : decode cX4_takeLongestFirst 31 = .ok (.iload_n 2, 1) := by decide +kernel
theorem dX4_takeLongestFirst_32 : decode cX4_takeLongestFirst 32 = .ok (.aload_n 1, 1) := by decide +kernel
theorem dX4_takeLongestFirst_33 : decode cX4_takeLongestFirst 33 = .ok (.getfield 57, 3) := by decide +kernel
theorem dX4_takeLongestFirst_36 : decode cX4_takeLongestFirst 36 = .ok (.iload 4, 2) := by decide +kernel
theorem dX4_takeLongestFirst_38 : decode cX4_takeLongestFirst 38 = .ok (.iaload, 1) := by decide +kernel
theorem dX4_takeLongestFirst_39 : decode cX4_takeLongestFirst 39 = .ok (.aload_n 0, 1) := by decide +kernel
theorem dX4_takeLongestFirst_40 : decode cX4_takeLongestFirst 40 = .ok (.getfield 23, 3) := by decide +kernel
theorem dX4_takeLongestFirst_43 : decode cX4_takeLongestFirst 43 = .ok (.iload 4, 2) := by decide +kernel
theorem dX4_takeLongestFirst_45 : decode cX4_takeLongestFirst 45 = .ok (.iaload, 1) := by decide +kernel
theorem dX4_takeLongestFirst_46 : decode cX4_takeLongestFirst 46 = .ok (.invokevirtual 100, 3) := by decide +kernel
theorem dX4_takeLongestFirst_49 : decode cX4_takeLongestFirst 49 = .ok (.iastore, 1) := by decide +kernel
theorem dX4_takeLongestFirst_50 : decode cX4_takeLongestFirst 50 = .ok (.iload_n 2, 1) := by decide +kernel
theorem dX4_takeLongestFirst_51 : decode cX4_takeLongestFirst 51 = .ok (.aload_n 0, 1) := by decide +kernel
theorem dX4_takeLongestFirst_52 : decode cX4_takeLongestFirst 52 = .ok (.getfield 26, 3) := by decide +kernel
theorem dX4_takeLongestFirst_55 : decode cX4_takeLongestFirst 55 = .ok (.iload 4, 2) := by decide +kernel
theorem dX4_takeLongestFirst_57 : decode cX4_takeLongestFirst 57 = .ok (.iaload, 1) := by decide +kernel
theorem dX4_takeLongestFirst_58 : decode cX4_takeLongestFirst 58 = .ok (.aload_n 1, 1) := by decide +kernel
theorem dX4_takeLongestFirst_59 : decode cX4_takeLongestFirst 59 = .ok (.getfield 57, 3) := by decide +kernel
theorem dX4_takeLongestFirst_62 : decode cX4_takeLongestFirst 62 = .ok (.iload 4, 2) := by decide +kernel
theorem dX4_takeLongestFirst_64 : decode cX4_takeLongestFirst 64 = .ok (.iaload, 1) := by decide +kernel
theorem dX4_takeLongestFirst_65 : decode cX4_takeLongestFirst 65 = .ok (.imul, 1) := by decide +kernel
theorem dX4_takeLongestFirst_66 : decode cX4_takeLongestFirst 66 = .ok (.isub, 1) := by decide +kernel
theorem dX4_takeLongestFirst_67 : decode cX4_takeLongestFirst 67 = .ok (.istore_n 2, 1) := by decide +kernel
theorem dX4_takeLongestFirst_68 : decode cX4_takeLongestFirst 68 = .ok (.iinc 3 1, 3) := by decide +kernel
theorem dX4_takeLongestFirst_71 : decode cX4_takeLongestFirst 71 = .ok (.goto (-64), 3) := by decide +kernel
theorem dX4_takeLongestFirst_74 : decode cX4_takeLongestFirst 74 = .ok (.return_, 1) := by decide +kernel
theorem dX4_mostAt_0 : decode cX4_mostAt 0 = .ok (.iload_n 3, 1) := by decide +kernel
theorem dX4_mostAt_1 : decode cX4_mostAt 1 = .ok (.iconst 1, 1) := by decide +kernel
theorem dX4_mostAt_2 : decode cX4_mostAt 2 = .ok (.if_icmp .lt 14, 3) := by decide +kernel
theorem dX4_mostAt_5 : decode cX4_mostAt 5 = .ok (.iload_n 2, 1) := by decide +kernel
theorem dX4_mostAt_6 : decode cX4_mostAt 6 = .ok (.ifCond .lt 10, 3) := by decide +kernel
theorem dX4_mostAt_9 : decode cX4_mostAt 9 = .ok (.iload_n 2, 1) := by decide +kernel
theorem dX4_mostAt_10 : decode cX4_mostAt 10 = .ok (.sipush 500, 3) := by decide +kernel
theorem dX4_mostAt_13 : decode cX4_mostAt 13 = .ok (.if_icmp .le 5, 3) := by decide +kernel
theorem dX4_mostAt_16 : decode cX4_mostAt 16 = .ok (.iconst 0, 1) := by decide +kernel
theorem dX4_mostAt_17 : decode cX4_mostAt 17 = .ok (.ireturn, 1) := by decide +kernel
theorem dX4_mostAt_18 : decode cX4_mostAt 18 = .ok (.iload 4, 2) := by decide +kernel
theorem dX4_mostAt_20 : decode cX4_mostAt 20 = .ok (.iload_n 2, 1) := by decide +kernel
theorem dX4_mostAt_21 : decode cX4_mostAt 21 = .ok (.iload_n 3, 1) := by decide +kernel
theorem dX4_mostAt_22 : decode cX4_mostAt 22 = .ok (.idiv, 1) := by decide +kernel
theorem dX4_mostAt_23 : decode cX4_mostAt 23 = .ok (.invokestatic 64, 3) := by decide +kernel
theorem dX4_mostAt_26 : decode cX4_mostAt 26 = .ok (.istore 5, 2) := by decide +kernel
theorem dX4_mostAt_28 : decode cX4_mostAt 28 = .ok (.iload 5, 2) := by decide +kernel
theorem dX4_mostAt_30 : decode cX4_mostAt 30 = .ok (.ifCond .le 41, 3) := by decide +kernel
theorem dX4_mostAt_33 : decode cX4_mostAt 33 = .ok (.aload_n 0, 1) := by decide +kernel
theorem dX4_mostAt_34 : decode cX4_mostAt 34 = .ok (.getfield 11, 3) := by decide +kernel
theorem dX4_mostAt_37 : decode cX4_mostAt 37 = .ok (.iload_n 1, 1) := by decide +kernel
theorem dX4_mostAt_38 : decode cX4_mostAt 38 = .ok (.iconst 1, 1) := by decide +kernel
theorem dX4_mostAt_39 : decode cX4_mostAt 39 = .ok (.iadd, 1) := by decide +kernel
theorem dX4_mostAt_40 : decode cX4_mostAt 40 = .ok (.aaload, 1) := by decide +kernel
theorem dX4_mostAt_41 : decode cX4_mostAt 41 = .ok (.iload_n 2, 1) := by decide +kernel
theorem dX4_mostAt_42 : decode cX4_mostAt 42 = .ok (.iload 5, 2) := by decide +kernel
theorem dX4_mostAt_44 : decode cX4_mostAt 44 = .ok (.iload_n 3, 1) := by decide +kernel
theorem dX4_mostAt_45 : decode cX4_mostAt 45 = .ok (.imul, 1) := by decide +kernel
theorem dX4_mostAt_46 : decode cX4_mostAt 46 = .ok (.isub, 1) := by decide +kernel
theorem dX4_mostAt_47 : decode cX4_mostAt 47 = .ok (.iaload, 1) := by decide +kernel
theorem dX4_mostAt_48 : decode cX4_mostAt 48 = .ok (.iload 5, 2) := by decide +kernel
theorem dX4_mostAt_50 : decode cX4_mostAt 50 = .ok (.iadd, 1) := by decide +kernel
theorem dX4_mostAt_51 : decode cX4_mostAt 51 = .ok (.aload_n 0, 1) := by decide +kernel
theorem dX4_mostAt_52 : decode cX4_mostAt 52 = .ok (.getfield 11, 3) := by decide +kernel
theorem dX4_mostAt_55 : decode cX4_mostAt 55 = .ok (.iload_n 1, 1) := by decide +kernel
theorem dX4_mostAt_56 : decode cX4_mostAt 56 = .ok (.aaload, 1) := by decide +kernel
theorem dX4_mostAt_57 : decode cX4_mostAt 57 = .ok (.iload_n 2, 1) := by decide +kernel
theorem dX4_mostAt_58 : decode cX4_mostAt 58 = .ok (.iaload, 1) := by decide +kernel
theorem dX4_mostAt_59 : decode cX4_mostAt 59 = .ok (.if_icmp .ne 6, 3) := by decide +kernel
theorem dX4_mostAt_62 : decode cX4_mostAt 62 = .ok (.iload 5, 2) := by decide +kernel
theorem dX4_mostAt_64 : decode cX4_mostAt 64 = .ok (.ireturn, 1) := by decide +kernel
theorem dX4_mostAt_65 : decode cX4_mostAt 65 = .ok (.iinc 5 (-1), 3) := by decide +kernel
theorem dX4_mostAt_68 : decode cX4_mostAt 68 = .ok (.goto (-40), 3) := by decide +kernel
theorem dX4_mostAt_71 : decode cX4_mostAt 71 = .ok (.iconst 0, 1) := by decide +kernel
theorem dX4_mostAt_72 : decode cX4_mostAt 72 = .ok (.ireturn, 1) := by decide +kernel
theorem dX4_woodTaken_0 : decode cX4_woodTaken 0 = .ok (.iconst 0, 1) := by decide +kernel
theorem dX4_woodTaken_1 : decode cX4_woodTaken 1 = .ok (.istore_n 2, 1) := by decide +kernel
theorem dX4_woodTaken_2 : decode cX4_woodTaken 2 = .ok (.iconst 0, 1) := by decide +kernel
theorem dX4_woodTaken_3 : decode cX4_woodTaken 3 = .ok (.istore_n 3, 1) := by decide +kernel
theorem dX4_woodTaken_4 : decode cX4_woodTaken 4 = .ok (.iload_n 3, 1) := by decide +kernel
theorem dX4_woodTaken_5 : decode cX4_woodTaken 5 = .ok (.aload_n 1, 1) := by decide +kernel
theorem dX4_woodTaken_6 : decode cX4_woodTaken 6 = .ok (.getfield 40, 3) := by decide +kernel
theorem dX4_woodTaken_9 : decode cX4_woodTaken 9 = .ok (.if_icmp .ge 27, 3) := by decide +kernel
theorem dX4_woodTaken_12 : decode cX4_woodTaken 12 = .ok (.aload_n 1, 1) := by decide +kernel
theorem dX4_woodTaken_13 : decode cX4_woodTaken 13 = .ok (.getfield 104, 3) := by decide +kernel
theorem dX4_woodTaken_16 : decode cX4_woodTaken 16 = .ok (.iload_n 3, 1) := by decide +kernel
theorem dX4_woodTaken_17 : decode cX4_woodTaken 17 = .ok (.baload, 1) := by decide +kernel
theorem dX4_woodTaken_18 : decode cX4_woodTaken 18 = .ok (.ifCond .ne 12, 3) := by decide +kernel
theorem dX4_woodTaken_21 : decode cX4_woodTaken 21 = .ok (.iload_n 2, 1) := by decide +kernel
theorem dX4_woodTaken_22 : decode cX4_woodTaken 22 = .ok (.aload_n 0, 1) := by decide +kernel
theorem dX4_woodTaken_23 : decode cX4_woodTaken 23 = .ok (.getfield 26, 3) := by decide +kernel
theorem dX4_woodTaken_26 : decode cX4_woodTaken 26 = .ok (.iload_n 3, 1) := by decide +kernel
theorem dX4_woodTaken_27 : decode cX4_woodTaken 27 = .ok (.iaload, 1) := by decide +kernel
theorem dX4_woodTaken_28 : decode cX4_woodTaken 28 = .ok (.iadd, 1) := by decide +kernel
theorem dX4_woodTaken_29 : decode cX4_woodTaken 29 = .ok (.istore_n 2, 1) := by decide +kernel
theorem dX4_woodTaken_30 : decode cX4_woodTaken 30 = .ok (.iinc 3 1, 3) := by decide +kernel
theorem dX4_woodTaken_33 : decode cX4_woodTaken 33 = .ok (.goto (-29), 3) := by decide +kernel
theorem dX4_woodTaken_36 : decode cX4_woodTaken 36 = .ok (.iload_n 2, 1) := by decide +kernel
theorem dX4_woodTaken_37 : decode cX4_woodTaken 37 = .ok (.ireturn, 1) := by decide +kernel
set_option maxRecDepth 20000 in
theorem ggX4_findMissing_X4_studyFrom : GoodIn wsX4_findMissing wsX4_studyFrom := goodIn_ca (goodIn_r _ [8, 2, 9, 10, 11, 12, 13, 14, 15, 3, 16, 17, 7, 18, 19, 20, 21, 22, 23, 24, 25, 53, 54, 55, 56, 57, 58, 59, 60, 61, 62, 63, 64, 65, 66, 67, 68, 69, 70, 71] (by decide +kernel) (by decide +kernel)) (goodIn_sub (fun _ h => List.mem_cons_of_mem _ (List.mem_append_right _ h)) (by decide +kernel))
set_option maxRecDepth 20000 in
theorem gX4_findMissing_X4_studyFrom : GoodIn wsX4_findMissing (wsV RX4 47 RX4 yX4_studyFrom wsX4_studyFrom) := goodIn_app (goodIn_of _ (by decide +kernel)) ggX4_findMissing_X4_studyFrom
set_option maxRecDepth 20000 in
theorem ggX4_findMissing_X4_choose : GoodIn wsX4_findMissing wsX4_choose := goodIn_ca (goodIn_r _ [29, 30, 31, 32, 33, 34, 35, 36, 7, 37, 9, 38, 39, 40, 41, 42, 43, 44, 45, 46, 47, 1, 2, 48, 15, 3, 49, 50, 51, 52, 19, 20, 21, 22, 64, 65, 66, 67, 68, 69, 70, 71, 53, 54, 55, 56, 57, 58, 59, 60, 61, 62, 63] (by decide +kernel) (by decide +kernel)) (goodIn_sub (fun _ h => List.mem_cons_of_mem _ (List.mem_append_right _ h)) (by decide +kernel))
set_option maxRecDepth 20000 in
theorem gX4_findMissing_X4_choose : GoodIn wsX4_findMissing (wsV RX4 108 RX4 yX4_choose wsX4_choose) := goodIn_app (goodIn_of _ (by decide +kernel)) ggX4_findMissing_X4_choose
theorem dX4_findMissing_0 : decode cX4_findMissing 0 = .ok (.iconst 0, 1) := by decide +kernel
theorem dX4_findMissing_1 : decode cX4_findMissing 1 = .ok (.istore 4, 2) := by decide +kernel
theorem dX4_findMissing_3 : decode cX4_findMissing 3 = .ok (.iload 4, 2) := by decide +kernel
theorem dX4_findMissing_5 : decode cX4_findMissing 5 = .ok (.aload_n 1, 1) := by decide +kernel
theorem dX4_findMissing_6 : decode cX4_findMissing 6 = .ok (.getfield 40, 3) := by decide +kernel
theorem dX4_findMissing_9 : decode cX4_findMissing 9 = .ok (.if_icmp .ge 64, 3) := by decide +kernel
theorem dX4_findMissing_12 : decode cX4_findMissing 12 = .ok (.aload_n 1, 1) := by decide +kernel
theorem dX4_findMissing_13 : decode cX4_findMissing 13 = .ok (.getfield 51, 3) := by decide +kernel
theorem dX4_findMissing_16 : decode cX4_findMissing 16 = .ok (.iload 4, 2) := by decide +kernel
theorem dX4_findMissing_18 : decode cX4_findMissing 18 = .ok (.iaload, 1) := by decide +kernel
theorem dX4_findMissing_19 : decode cX4_findMissing 19 = .ok (.istore 5, 2) := by decide +kernel
theorem dX4_findMissing_21 : decode cX4_findMissing 21 = .ok (.aload_n 0, 1) := by decide +kernel
theorem dX4_findMissing_22 : decode cX4_findMissing 22 = .ok (.getfield 23, 3) := by decide +kernel
theorem dX4_findMissing_25 : decode cX4_findMissing 25 = .ok (.iload 5, 2) := by decide +kernel
theorem dX4_findMissing_27 : decode cX4_findMissing 27 = .ok (.dup2, 1) := by decide +kernel
theorem dX4_findMissing_28 : decode cX4_findMissing 28 = .ok (.iaload, 1) := by decide +kernel
theorem dX4_findMissing_29 : decode cX4_findMissing 29 = .ok (.iconst 1, 1) := by decide +kernel
theorem dX4_findMissing_30 : decode cX4_findMissing 30 = .ok (.iadd, 1) := by decide +kernel
theorem dX4_findMissing_31 : decode cX4_findMissing 31 = .ok (.iastore, 1) := by decide +kernel
theorem dX4_findMissing_32 : decode cX4_findMissing 32 = .ok (.aload_n 0, 1) := by decide +kernel
theorem dX4_findMissing_33 : decode cX4_findMissing 33 = .ok (.aload_n 1, 1) := by decide +kernel
theorem dX4_findMissing_34 : decode cX4_findMissing 34 = .ok (.iload 4, 2) := by decide +kernel
theorem dX4_findMissing_36 : decode cX4_findMissing 36 = .ok (.invokevirtual 47, 3) := by decide +kernel
theorem dX4_findMissing_39 : decode cX4_findMissing 39 = .ok (.aload_n 0, 1) := by decide +kernel
theorem dX4_findMissing_40 : decode cX4_findMissing 40 = .ok (.aload_n 1, 1) := by decide +kernel
theorem dX4_findMissing_41 : decode cX4_findMissing 41 = .ok (.iload_n 2, 1) := by decide +kernel
theorem dX4_findMissing_42 : decode cX4_findMissing 42 = .ok (.iload_n 3, 1) := by decide +kernel
theorem dX4_findMissing_43 : decode cX4_findMissing 43 = .ok (.invokevirtual 108, 3) := by decide +kernel
theorem dX4_findMissing_46 : decode cX4_findMissing 46 = .ok (.istore 6, 2) := by decide +kernel
theorem dX4_findMissing_48 : decode cX4_findMissing 48 = .ok (.aload_n 0, 1) := by decide +kernel
theorem dX4_findMissing_49 : decode cX4_findMissing 49 = .ok (.getfield 23, 3) := by decide +kernel
theorem dX4_findMissing_52 : decode cX4_findMissing 52 = .ok (.iload 5, 2) := by decide +kernel
theorem dX4_findMissing_54 : decode cX4_findMissing 54 = .ok (.dup2, 1) := by decide +kernel
theorem dX4_findMissing_55 : decode cX4_findMissing 55 = .ok (.iaload, 1) := by decide +kernel
theorem dX4_findMissing_56 : decode cX4_findMissing 56 = .ok (.iconst 1, 1) := by decide +kernel
theorem dX4_findMissing_57 : decode cX4_findMissing 57 = .ok (.isub, 1) := by decide +kernel
theorem dX4_findMissing_58 : decode cX4_findMissing 58 = .ok (.iastore, 1) := by decide +kernel
theorem dX4_findMissing_59 : decode cX4_findMissing 59 = .ok (.iload 6, 2) := by decide +kernel
theorem dX4_findMissing_61 : decode cX4_findMissing 61 = .ok (.ifCond .eq 6, 3) := by decide +kernel
theorem dX4_findMissing_64 : decode cX4_findMissing 64 = .ok (.iload 5, 2) := by decide +kernel
theorem dX4_findMissing_66 : decode cX4_findMissing 66 = .ok (.ireturn, 1) := by decide +kernel
theorem dX4_findMissing_67 : decode cX4_findMissing 67 = .ok (.iinc 4 1, 3) := by decide +kernel
theorem dX4_findMissing_70 : decode cX4_findMissing 70 = .ok (.goto (-67), 3) := by decide +kernel
theorem dX4_findMissing_73 : decode cX4_findMissing 73 = .ok (.iconst (-1), 1) := by decide +kernel
theorem dX4_findMissing_74 : decode cX4_findMissing 74 = .ok (.ireturn, 1) := by decide +kernel
set_option maxRecDepth 20000 in
theorem ggX4_countWays_X4_studyWays : GoodIn wsX4_countWays wsX4_studyWays := goodIn_ca (goodIn_r _ [8, 9, 10, 11, 12, 13, 14, 15, 16, 17, 18, 19, 20, 7, 21, 3, 37, 38, 39, 40, 41, 42, 43, 44, 26, 27, 28, 29, 30, 31, 32, 33, 34, 35, 36] (by decide +kernel) (by decide +kernel)) (goodIn_sub (fun _ h => List.mem_cons_of_mem _ (List.mem_append_right _ h)) (by decide +kernel))
set_option maxRecDepth 20000 in
theorem gX4_countWays_X4_studyWays : GoodIn wsX4_countWays (wsV RX4 112 RX4 yX4_studyWays wsX4_studyWays) := goodIn_app (goodIn_of _ (by decide +kernel)) ggX4_countWays_X4_studyWays
set_option maxRecDepth 20000 in
theorem ggX4_countWays_X4_waysOf : GoodIn wsX4_countWays wsX4_waysOf := goodIn_ca (goodIn_r _ [25, 9, 37, 38, 39, 40, 41, 42, 43, 44] (by decide +kernel) (by decide +kernel)) (goodIn_sub (fun _ h => List.mem_cons_of_mem _ (List.mem_append_right _ h)) (by decide +kernel))
set_option maxRecDepth 20000 in
theorem gX4_countWays_X4_waysOf : GoodIn wsX4_countWays (wsV RX4 115 RX4 yX4_waysOf wsX4_waysOf) := goodIn_app (goodIn_of _ (by decide +kernel)) ggX4_countWays_X4_waysOf
theorem dX4_countWays_0 : decode cX4_countWays 0 = .ok (.aload_n 0, 1) := by decide +kernel
theorem dX4_countWays_1 : decode cX4_countWays 1 = .ok (.aload_n 1, 1) := by decide +kernel
theorem dX4_countWays_2 : decode cX4_countWays 2 = .ok (.invokevirtual 112, 3) := by decide +kernel
theorem dX4_countWays_5 : decode cX4_countWays 5 = .ok (.iload_n 3, 1) := by decide +kernel
theorem dX4_countWays_6 : decode cX4_countWays 6 = .ok (.ifCond .ne 9, 3) := by decide +kernel
theorem dX4_countWays_9 : decode cX4_countWays 9 = .ok (.aload_n 0, 1) := by decide +kernel
theorem dX4_countWays_10 : decode cX4_countWays 10 = .ok (.iload_n 2, 1) := by decide +kernel
theorem dX4_countWays_11 : decode cX4_countWays 11 = .ok (.invokevirtual 115, 3) := by decide +kernel
theorem dX4_countWays_14 : decode cX4_countWays 14 = .ok (.ireturn, 1) := by decide +kernel
theorem dX4_countWays_15 : decode cX4_countWays 15 = .ok (.iconst 0, 1) := by decide +kernel
theorem dX4_countWays_16 : decode cX4_countWays 16 = .ok (.istore 4, 2) := by decide +kernel
theorem dX4_countWays_18 : decode cX4_countWays 18 = .ok (.iconst 0, 1) := by decide +kernel
theorem dX4_countWays_19 : decode cX4_countWays 19 = .ok (.istore 5, 2) := by decide +kernel
theorem dX4_countWays_21 : decode cX4_countWays 21 = .ok (.iload 5, 2) := by decide +kernel
theorem dX4_countWays_23 : decode cX4_countWays 23 = .ok (.aload_n 1, 1) := by decide +kernel
theorem dX4_countWays_24 : decode cX4_countWays 24 = .ok (.getfield 76, 3) := by decide +kernel
theorem dX4_countWays_27 : decode cX4_countWays 27 = .ok (.if_icmp .gt 30, 3) := by decide +kernel
theorem dX4_countWays_30 : decode cX4_countWays 30 = .ok (.iload 4, 2) := by decide +kernel
theorem dX4_countWays_32 : decode cX4_countWays 32 = .ok (.aload_n 0, 1) := by decide +kernel
theorem dX4_countWays_33 : decode cX4_countWays 33 = .ok (.iload_n 2, 1) := by decide +kernel
theorem dX4_countWays_34 : decode cX4_countWays 34 = .ok (.aload_n 1, 1) := by decide +kernel
theorem dX4_countWays_35 : decode cX4_countWays 35 = .ok (.getfield 79, 3) := by decide +kernel
theorem dX4_countWays_38 : decode cX4_countWays 38 = .ok (.isub, 1) := by decide +kernel
theorem dX4_countWays_39 : decode cX4_countWays 39 = .ok (.iload 5, 2) := by decide +kernel
theorem dX4_countWays_41 : decode cX4_countWays 41 = .ok (.isub, 1) := by decide +kernel
theorem dX4_countWays_42 : decode cX4_countWays 42 = .ok (.invokevirtual 115, 3) := by decide +kernel
theorem dX4_countWays_45 : decode cX4_countWays 45 = .ok (.iadd, 1) := by decide +kernel
theorem dX4_countWays_46 : decode cX4_countWays 46 = .ok (.ldc 119, 2) := by decide +kernel
theorem dX4_countWays_48 : decode cX4_countWays 48 = .ok (.irem, 1) := by decide +kernel
theorem dX4_countWays_49 : decode cX4_countWays 49 = .ok (.istore 4, 2) := by decide +kernel
theorem dX4_countWays_51 : decode cX4_countWays 51 = .ok (.iinc 5 1, 3) := by decide +kernel
theorem dX4_countWays_54 : decode cX4_countWays 54 = .ok (.goto (-33), 3) := by decide +kernel
theorem dX4_countWays_57 : decode cX4_countWays 57 = .ok (.iload 4, 2) := by decide +kernel
theorem dX4_countWays_59 : decode cX4_countWays 59 = .ok (.ireturn, 1) := by decide +kernel
theorem dX4_waysOf_0 : decode cX4_waysOf 0 = .ok (.iload_n 1, 1) := by decide +kernel
theorem dX4_waysOf_1 : decode cX4_waysOf 1 = .ok (.ifCond .lt 19, 3) := by decide +kernel
theorem dX4_waysOf_4 : decode cX4_waysOf 4 = .ok (.iload_n 1, 1) := by decide +kernel
theorem dX4_waysOf_5 : decode cX4_waysOf 5 = .ok (.sipush 500, 3) := by decide +kernel
theorem dX4_waysOf_8 : decode cX4_waysOf 8 = .ok (.if_icmp .gt 12, 3) := by decide +kernel
theorem dX4_waysOf_11 : decode cX4_waysOf 11 = .ok (.aload_n 0, 1) := by decide +kernel
theorem dX4_waysOf_12 : decode cX4_waysOf 12 = .ok (.getfield 16, 3) := by decide +kernel
theorem dX4_waysOf_15 : decode cX4_waysOf 15 = .ok (.iload_n 1, 1) := by decide +kernel
theorem dX4_waysOf_16 : decode cX4_waysOf 16 = .ok (.iaload, 1) := by decide +kernel
theorem dX4_waysOf_17 : decode cX4_waysOf 17 = .ok (.goto 4, 3) := by decide +kernel
theorem dX4_waysOf_20 : decode cX4_waysOf 20 = .ok (.iconst 0, 1) := by decide +kernel
theorem dX4_waysOf_21 : decode cX4_waysOf 21 = .ok (.ireturn, 1) := by decide +kernel
set_option maxRecDepth 20000 in
theorem ggX4_studyWays_X4_addWays : GoodIn wsX4_studyWays wsX4_addWays := goodIn_ca (goodIn_r _ [14, 1, 3, 15, 16, 17, 18, 19, 20, 21, 22, 23] (by decide +kernel) (by decide +kernel)) (goodIn_sub (fun _ h => List.mem_cons_of_mem _ (List.mem_append_right _ h)) (by decide +kernel))
set_option maxRecDepth 20000 in
theorem gX4_studyWays_X4_addWays : GoodIn wsX4_studyWays (wsV RX4 120 RX4 yX4_addWays wsX4_addWays) := goodIn_app (goodIn_of _ (by decide +kernel)) ggX4_studyWays_X4_addWays
theorem dX4_studyWays_0 : decode cX4_studyWays 0 = .ok (.iconst 0, 1) := by decide +kernel
theorem dX4_studyWays_1 : decode cX4_studyWays 1 = .ok (.istore_n 2, 1) := by decide +kernel
theorem dX4_studyWays_2 : decode cX4_studyWays 2 = .ok (.iload_n 2, 1) := by decide +kernel
theorem dX4_studyWays_3 : decode cX4_studyWays 3 = .ok (.sipush 500, 3) := by decide +kernel
theorem dX4_studyWays_6 : decode cX4_studyWays 6 = .ok (.if_icmp .gt 24, 3) := by decide +kernel
theorem dX4_studyWays_9 : decode cX4_studyWays 9 = .ok (.aload_n 0, 1) := by decide +kernel
theorem dX4_studyWays_10 : decode cX4_studyWays 10 = .ok (.getfield 16, 3) := by decide +kernel
theorem dX4_studyWays_13 : decode cX4_studyWays 13 = .ok (.iload_n 2, 1) := by decide +kernel
theorem dX4_studyWays_14 : decode cX4_studyWays 14 = .ok (.iload_n 2, 1) := by decide +kernel
theorem dX4_studyWays_15 : decode cX4_studyWays 15 = .ok (.ifCond .ne 7, 3) := by decide +kernel
theorem dX4_studyWays_18 : decode cX4_studyWays 18 = .ok (.iconst 1, 1) := by decide +kernel
theorem dX4_studyWays_19 : decode cX4_studyWays 19 = .ok (.goto 4, 3) := by decide +kernel
theorem dX4_studyWays_22 : decode cX4_studyWays 22 = .ok (.iconst 0, 1) := by decide +kernel
theorem dX4_studyWays_23 : decode cX4_studyWays 23 = .ok (.iastore, 1) := by decide +kernel
theorem dX4_studyWays_24 : decode cX4_studyWays 24 = .ok (.iinc 2 1, 3) := by decide +kernel
theorem dX4_studyWays_27 : decode cX4_studyWays 27 = .ok (.goto (-25), 3) := by decide +kernel
theorem dX4_studyWays_30 : decode cX4_studyWays 30 = .ok (.iconst 0, 1) := by decide +kernel
theorem dX4_studyWays_31 : decode cX4_studyWays 31 = .ok (.istore_n 2, 1) := by decide +kernel
theorem dX4_studyWays_32 : decode cX4_studyWays 32 = .ok (.iload_n 2, 1) := by decide +kernel
theorem dX4_studyWays_33 : decode cX4_studyWays 33 = .ok (.aload_n 1, 1) := by decide +kernel
theorem dX4_studyWays_34 : decode cX4_studyWays 34 = .ok (.getfield 40, 3) := by decide +kernel
theorem dX4_studyWays_37 : decode cX4_studyWays 37 = .ok (.if_icmp .ge 41, 3) := by decide +kernel
theorem dX4_studyWays_40 : decode cX4_studyWays 40 = .ok (.aload_n 0, 1) := by decide +kernel
theorem dX4_studyWays_41 : decode cX4_studyWays 41 = .ok (.getfield 16, 3) := by decide +kernel
theorem dX4_studyWays_44 : decode cX4_studyWays 44 = .ok (.iconst 0, 1) := by decide +kernel
theorem dX4_studyWays_45 : decode cX4_studyWays 45 = .ok (.aload_n 0, 1) := by decide +kernel
theorem dX4_studyWays_46 : decode cX4_studyWays 46 = .ok (.getfield 20, 3) := by decide +kernel
theorem dX4_studyWays_49 : decode cX4_studyWays 49 = .ok (.iconst 0, 1) := by decide +kernel
theorem dX4_studyWays_50 : decode cX4_studyWays 50 = .ok (.sipush 501, 3) := by decide +kernel
theorem dX4_studyWays_53 : decode cX4_studyWays 53 = .ok (.invokestatic 34, 3) := by decide +kernel
theorem dX4_studyWays_56 : decode cX4_studyWays 56 = .ok (.aload_n 0, 1) := by decide +kernel
theorem dX4_studyWays_57 : decode cX4_studyWays 57 = .ok (.aload_n 1, 1) := by decide +kernel
theorem dX4_studyWays_58 : decode cX4_studyWays 58 = .ok (.getfield 57, 3) := by decide +kernel
theorem dX4_studyWays_61 : decode cX4_studyWays 61 = .ok (.iload_n 2, 1) := by decide +kernel
theorem dX4_studyWays_62 : decode cX4_studyWays 62 = .ok (.iaload, 1) := by decide +kernel
theorem dX4_studyWays_63 : decode cX4_studyWays 63 = .ok (.aload_n 0, 1) := by decide +kernel
theorem dX4_studyWays_64 : decode cX4_studyWays 64 = .ok (.getfield 23, 3) := by decide +kernel
theorem dX4_studyWays_67 : decode cX4_studyWays 67 = .ok (.iload_n 2, 1) := by decide +kernel
theorem dX4_studyWays_68 : decode cX4_studyWays 68 = .ok (.iaload, 1) := by decide +kernel
theorem dX4_studyWays_69 : decode cX4_studyWays 69 = .ok (.invokevirtual 120, 3) := by decide +kernel
theorem dX4_studyWays_72 : decode cX4_studyWays 72 = .ok (.iinc 2 1, 3) := by decide +kernel
theorem dX4_studyWays_75 : decode cX4_studyWays 75 = .ok (.goto (-43), 3) := by decide +kernel
theorem dX4_studyWays_78 : decode cX4_studyWays 78 = .ok (.return_, 1) := by decide +kernel
theorem dX4_addWays_0 : decode cX4_addWays 0 = .ok (.iload_n 1, 1) := by decide +kernel
theorem dX4_addWays_1 : decode cX4_addWays 1 = .ok (.iload_n 2, 1) := by decide +kernel
theorem dX4_addWays_2 : decode cX4_addWays 2 = .ok (.iconst 1, 1) := by decide +kernel
theorem dX4_addWays_3 : decode cX4_addWays 3 = .ok (.iadd, 1) := by decide +kernel
theorem dX4_addWays_4 : decode cX4_addWays 4 = .ok (.imul, 1) := by decide +kernel
theorem dX4_addWays_5 : decode cX4_addWays 5 = .ok (.istore_n 3, 1) := by decide +kernel
theorem dX4_addWays_6 : decode cX4_addWays 6 = .ok (.iload_n 1, 1) := by decide +kernel
theorem dX4_addWays_7 : decode cX4_addWays 7 = .ok (.iconst 1, 1) := by decide +kernel
theorem dX4_addWays_8 : decode cX4_addWays 8 = .ok (.if_icmp .lt 8, 3) := by decide +kernel
theorem dX4_addWays_11 : decode cX4_addWays 11 = .ok (.iload_n 3, 1) := by decide +kernel
theorem dX4_addWays_12 : decode cX4_addWays 12 = .ok (.iconst 1, 1) := by decide +kernel
theorem dX4_addWays_13 : decode cX4_addWays 13 = .ok (.if_icmp .ge 4, 3) := by decide +kernel
theorem dX4_addWays_16 : decode cX4_addWays 16 = .ok (.return_, 1) := by decide +kernel
theorem dX4_addWays_17 : decode cX4_addWays 17 = .ok (.iload_n 1, 1) := by decide +kernel
theorem dX4_addWays_18 : decode cX4_addWays 18 = .ok (.istore 4, 2) := by decide +kernel
theorem dX4_addWays_20 : decode cX4_addWays 20 = .ok (.iload 4, 2) := by decide +kernel
theorem dX4_addWays_22 : decode cX4_addWays 22 = .ok (.sipush 500, 3) := by decide +kernel
theorem dX4_addWays_25 : decode cX4_addWays 25 = .ok (.if_icmp .gt 63, 3) := by decide +kernel
theorem dX4_addWays_28 : decode cX4_addWays 28 = .ok (.aload_n 0, 1) := by decide +kernel
theorem dX4_addWays_29 : decode cX4_addWays 29 = .ok (.getfield 16, 3) := by decide +kernel
theorem dX4_addWays_32 : decode cX4_addWays 32 = .ok (.iload 4, 2) := by decide +kernel
theorem dX4_addWays_34 : decode cX4_addWays 34 = .ok (.iload_n 1, 1) := by decide +kernel
theorem dX4_addWays_35 : decode cX4_addWays 35 = .ok (.isub, 1) := by decide +kernel
theorem dX4_addWays_36 : decode cX4_addWays 36 = .ok (.iaload, 1) := by decide +kernel
theorem dX4_addWays_37 : decode cX4_addWays 37 = .ok (.aload_n 0, 1) := by decide +kernel
theorem dX4_addWays_38 : decode cX4_addWays 38 = .ok (.getfield 20, 3) := by decide +kernel
theorem dX4_addWays_41 : decode cX4_addWays 41 = .ok (.iload 4, 2) := by decide +kernel
theorem dX4_addWays_43 : decode cX4_addWays 43 = .ok (.iaload, 1) := by decide +kernel
theorem dX4_addWays_44 : decode cX4_addWays 44 = .ok (.iadd, 1) := by decide +kernel
theorem dX4_addWays_45 : decode cX4_addWays 45 = .ok (.istore 5, 2) := by decide +kernel
theorem dX4_addWays_47 : decode cX4_addWays 47 = .ok (.iload 4, 2) := by decide +kernel
theorem dX4_addWays_49 : decode cX4_addWays 49 = .ok (.iload_n 3, 1) := by decide +kernel
theorem dX4_addWays_50 : decode cX4_addWays 50 = .ok (.if_icmp .lt 20, 3) := by decide +kernel
theorem dX4_addWays_53 : decode cX4_addWays 53 = .ok (.iload 5, 2) := by decide +kernel
theorem dX4_addWays_55 : decode cX4_addWays 55 = .ok (.ldc 119, 2) := by decide +kernel
theorem dX4_addWays_57 : decode cX4_addWays 57 = .ok (.aload_n 0, 1) := by decide +kernel
theorem dX4_addWays_58 : decode cX4_addWays 58 = .ok (.getfield 20, 3) := by decide +kernel
theorem dX4_addWays_61 : decode cX4_addWays 61 = .ok (.iload 4, 2) := by decide +kernel
theorem dX4_addWays_63 : decode cX4_addWays 63 = .ok (.iload_n 3, 1) := by decide +kernel
theorem dX4_addWays_64 : decode cX4_addWays 64 = .ok (.isub, 1) := by decide +kernel
theorem dX4_addWays_65 : decode cX4_addWays 65 = .ok (.iaload, 1) := by decide +kernel
theorem dX4_addWays_66 : decode cX4_addWays 66 = .ok (.isub, 1) := by decide +kernel
theorem dX4_addWays_67 : decode cX4_addWays 67 = .ok (.iadd, 1) := by decide +kernel
theorem dX4_addWays_68 : decode cX4_addWays 68 = .ok (.istore 5, 2) := by decide +kernel
theorem dX4_addWays_70 : decode cX4_addWays 70 = .ok (.aload_n 0, 1) := by decide +kernel
theorem dX4_addWays_71 : decode cX4_addWays 71 = .ok (.getfield 16, 3) := by decide +kernel
theorem dX4_addWays_74 : decode cX4_addWays 74 = .ok (.iload 4, 2) := by decide +kernel
theorem dX4_addWays_76 : decode cX4_addWays 76 = .ok (.iload 5, 2) := by decide +kernel
theorem dX4_addWays_78 : decode cX4_addWays 78 = .ok (.ldc 119, 2) := by decide +kernel
theorem dX4_addWays_80 : decode cX4_addWays 80 = .ok (.irem, 1) := by decide +kernel
theorem dX4_addWays_81 : decode cX4_addWays 81 = .ok (.iastore, 1) := by decide +kernel
theorem dX4_addWays_82 : decode cX4_addWays 82 = .ok (.iinc 4 1, 3) := by decide +kernel
theorem dX4_addWays_85 : decode cX4_addWays 85 = .ok (.goto (-65), 3) := by decide +kernel
theorem dX4_addWays_88 : decode cX4_addWays 88 = .ok (.return_, 1) := by decide +kernel
set_option maxRecDepth 20000 in
theorem ggX5_init_X3_init : GoodIn wsX5_init wsX3_init := goodIn_r _ [11, 12, 2, 3, 6, 13, 14, 15, 16, 17, 26, 27, 28, 29, 30, 31, 32, 33, 34, 35] (by decide +kernel) (by decide +kernel)
set_option maxRecDepth 20000 in
theorem gX5_init_X3_init_n21 : GoodIn wsX5_init (wsX3_init) := ggX5_init_X3_init
theorem dX5_init_0 : decode cX5_init 0 = .ok (.aload_n 0, 1) := by decide +kernel
theorem dX5_init_1 : decode cX5_init 1 = .ok (.invokespecial 3, 3) := by decide +kernel
theorem dX5_init_4 : decode cX5_init 4 = .ok (.aload_n 0, 1) := by decide +kernel
theorem dX5_init_5 : decode cX5_init 5 = .ok (.bipush 8, 2) := by decide +kernel
theorem dX5_init_7 : decode cX5_init 7 = .ok (.anewarray 9, 3) := by decide +kernel
theorem dX5_init_10 : decode cX5_init 10 = .ok (.putfield 11, 3) := by decide +kernel
theorem dX5_init_13 : decode cX5_init 13 = .ok (.aload_n 0, 1) := by decide +kernel
theorem dX5_init_14 : decode cX5_init 14 = .ok (.bipush 10, 2) := by decide +kernel
theorem dX5_init_16 : decode cX5_init 16 = .ok (.newarray .int, 2) := by decide +kernel
theorem dX5_init_18 : decode cX5_init 18 = .ok (.putfield 17, 3) := by decide +kernel
theorem dX5_init_21 : decode cX5_init 21 = .ok (.iconst 0, 1) := by decide +kernel
theorem dX5_init_22 : decode cX5_init 22 = .ok (.istore_n 1, 1) := by decide +kernel
theorem dX5_init_23 : decode cX5_init 23 = .ok (.iload_n 1, 1) := by decide +kernel
theorem dX5_init_24 : decode cX5_init 24 = .ok (.bipush 8, 2) := by decide +kernel
theorem dX5_init_26 : decode cX5_init 26 = .ok (.if_icmp .ge 22, 3) := by decide +kernel
theorem dX5_init_29 : decode cX5_init 29 = .ok (.aload_n 0, 1) := by decide +kernel
theorem dX5_init_30 : decode cX5_init 30 = .ok (.getfield 11, 3) := by decide +kernel
theorem dX5_init_33 : decode cX5_init 33 = .ok (.iload_n 1, 1) := by decide +kernel
theorem dX5_init_34 : decode cX5_init 34 = .ok (.new 9, 3) := by decide +kernel
theorem dX5_init_37 : decode cX5_init 37 = .ok (.dup, 1) := by decide +kernel
theorem dX5_init_38 : decode cX5_init 38 = .ok (.invokespecial 21, 3) := by decide +kernel
theorem dX5_init_41 : decode cX5_init 41 = .ok (.aastore, 1) := by decide +kernel
theorem dX5_init_42 : decode cX5_init 42 = .ok (.iinc 1 1, 3) := by decide +kernel
theorem dX5_init_45 : decode cX5_init 45 = .ok (.goto (-22), 3) := by decide +kernel
theorem dX5_init_48 : decode cX5_init 48 = .ok (.return_, 1) := by decide +kernel
set_option maxRecDepth 20000 in
theorem ggX5_clear_X3_clear : GoodIn wsX5_clear wsX3_clear := goodIn_ca (goodIn_r _ [13, 14, 15, 16, 17, 18, 19, 12, 20, 21, 22, 23, 24, 25, 26, 27, 28, 29, 38, 39, 40, 41, 42, 43, 44, 45, 46, 47] (by decide +kernel) (by decide +kernel)) (goodIn_sub (fun _ h => List.mem_cons_of_mem _ (List.mem_append_right _ h)) (by decide +kernel))
set_option maxRecDepth 20000 in
theorem gX5_clear_X3_clear : GoodIn wsX5_clear (wsV RX5 22 RX3 yX3_clear wsX3_clear) := goodIn_app (goodIn_of _ (by decide +kernel)) ggX5_clear_X3_clear
theorem dX5_clear_0 : decode cX5_clear 0 = .ok (.iconst 0, 1) := by decide +kernel
theorem dX5_clear_1 : decode cX5_clear 1 = .ok (.istore_n 1, 1) := by decide +kernel
theorem dX5_clear_2 : decode cX5_clear 2 = .ok (.iload_n 1, 1) := by decide +kernel
theorem dX5_clear_3 : decode cX5_clear 3 = .ok (.bipush 8, 2) := by decide +kernel
theorem dX5_clear_5 : decode cX5_clear 5 = .ok (.if_icmp .ge 18, 3) := by decide +kernel
theorem dX5_clear_8 : decode cX5_clear 8 = .ok (.aload_n 0, 1) := by decide +kernel
theorem dX5_clear_9 : decode cX5_clear 9 = .ok (.getfield 11, 3) := by decide +kernel
theorem dX5_clear_12 : decode cX5_clear 12 = .ok (.iload_n 1, 1) := by decide +kernel
theorem dX5_clear_13 : decode cX5_clear 13 = .ok (.aaload, 1) := by decide +kernel
theorem dX5_clear_14 : decode cX5_clear 14 = .ok (.invokevirtual 22, 3) := by decide +kernel
theorem dX5_clear_17 : decode cX5_clear 17 = .ok (.iinc 1 1, 3) := by decide +kernel
theorem dX5_clear_20 : decode cX5_clear 20 = .ok (.goto (-18), 3) := by decide +kernel
theorem dX5_clear_23 : decode cX5_clear 23 = .ok (.iconst 0, 1) := by decide +kernel
theorem dX5_clear_24 : decode cX5_clear 24 = .ok (.istore_n 1, 1) := by decide +kernel
theorem dX5_clear_25 : decode cX5_clear 25 = .ok (.iload_n 1, 1) := by decide +kernel
theorem dX5_clear_26 : decode cX5_clear 26 = .ok (.bipush 10, 2) := by decide +kernel
theorem dX5_clear_28 : decode cX5_clear 28 = .ok (.if_icmp .ge 16, 3) := by decide +kernel
theorem dX5_clear_31 : decode cX5_clear 31 = .ok (.aload_n 0, 1) := by decide +kernel
theorem dX5_clear_32 : decode cX5_clear 32 = .ok (.getfield 17, 3) := by decide +kernel
theorem dX5_clear_35 : decode cX5_clear 35 = .ok (.iload_n 1, 1) := by decide +kernel
theorem dX5_clear_36 : decode cX5_clear 36 = .ok (.iconst 0, 1) := by decide +kernel
theorem dX5_clear_37 : decode cX5_clear 37 = .ok (.iastore, 1) := by decide +kernel
theorem dX5_clear_38 : decode cX5_clear 38 = .ok (.iinc 1 1, 3) := by decide +kernel
theorem dX5_clear_41 : decode cX5_clear 41 = .ok (.goto (-16), 3) := by decide +kernel
theorem dX5_clear_44 : decode cX5_clear 44 = .ok (.aload_n 0, 1) := by decide +kernel
theorem dX5_clear_45 : decode cX5_clear 45 = .ok (.iconst 0, 1) := by decide +kernel
theorem dX5_clear_46 : decode cX5_clear 46 = .ok (.putfield 25, 3) := by decide +kernel
theorem dX5_clear_49 : decode cX5_clear 49 = .ok (.aload_n 0, 1) := by decide +kernel
theorem dX5_clear_50 : decode cX5_clear 50 = .ok (.iconst 0, 1) := by decide +kernel
theorem dX5_clear_51 : decode cX5_clear 51 = .ok (.putfield 29, 3) := by decide +kernel
theorem dX5_clear_54 : decode cX5_clear 54 = .ok (.aload_n 0, 1) := by decide +kernel
theorem dX5_clear_55 : decode cX5_clear 55 = .ok (.iconst 0, 1) := by decide +kernel
theorem dX5_clear_56 : decode cX5_clear 56 = .ok (.putfield 32, 3) := by decide +kernel
theorem dX5_clear_59 : decode cX5_clear 59 = .ok (.aload_n 0, 1) := by decide +kernel
theorem dX5_clear_60 : decode cX5_clear 60 = .ok (.iconst 0, 1) := by decide +kernel
theorem dX5_clear_61 : decode cX5_clear 61 = .ok (.putfield 35, 3) := by decide +kernel
theorem dX5_clear_64 : decode cX5_clear 64 = .ok (.aload_n 0, 1) := by decide +kernel
theorem dX5_clear_65 : decode cX5_clear 65 = .ok (.iconst 0, 1) := by decide +kernel
theorem dX5_clear_66 : decode cX5_clear 66 = .ok (.putfield 38, 3) := by decide +kernel
theorem dX5_clear_69 : decode cX5_clear 69 = .ok (.aload_n 0, 1) := by decide +kernel
theorem dX5_clear_70 : decode cX5_clear 70 = .ok (.iconst 0, 1) := by decide +kernel
theorem dX5_clear_71 : decode cX5_clear 71 = .ok (.putfield 41, 3) := by decide +kernel
theorem dX5_clear_74 : decode cX5_clear 74 = .ok (.return_, 1) := by decide +kernel
set_option maxRecDepth 20000 in
theorem ggX5_copyFrom_X3_copyFrom : GoodIn wsX5_copyFrom wsX3_copyFrom := goodIn_r _ [17, 18, 19, 4, 5, 6, 20, 21, 22, 23, 24, 25, 26, 27, 28, 37, 38, 39, 40, 41, 42, 43, 44, 45, 46] (by decide +kernel) (by decide +kernel)
set_option maxRecDepth 20000 in
theorem gX5_copyFrom_X3_copyFrom : GoodIn wsX5_copyFrom (wsV RX5 44 RX3 yX3_copyFrom wsX3_copyFrom) := goodIn_app (goodIn_of _ (by decide +kernel)) ggX5_copyFrom_X3_copyFrom
theorem dX5_copyFrom_0 : decode cX5_copyFrom 0 = .ok (.iconst 0, 1) := by decide +kernel
theorem dX5_copyFrom_1 : decode cX5_copyFrom 1 = .ok (.istore_n 2, 1) := by decide +kernel
theorem dX5_copyFrom_2 : decode cX5_copyFrom 2 = .ok (.iload_n 2, 1) := by decide +kernel
theorem dX5_copyFrom_3 : decode cX5_copyFrom 3 = .ok (.bipush 8, 2) := by decide +kernel
theorem dX5_copyFrom_5 : decode cX5_copyFrom 5 = .ok (.if_icmp .ge 24, 3) := by decide +kernel
theorem dX5_copyFrom_8 : decode cX5_copyFrom 8 = .ok (.aload_n 0, 1) := by decide +kernel
theorem dX5_copyFrom_9 : decode cX5_copyFrom 9 = .ok (.getfield 11, 3) := by decide +kernel
theorem dX5_copyFrom_12 : decode cX5_copyFrom 12 = .ok (.iload_n 2, 1) := by decide +kernel
theorem dX5_copyFrom_13 : decode cX5_copyFrom 13 = .ok (.aaload, 1) := by decide +kernel
theorem dX5_copyFrom_14 : decode cX5_copyFrom 14 = .ok (.aload_n 1, 1) := by decide +kernel
theorem dX5_copyFrom_15 : decode cX5_copyFrom 15 = .ok (.getfield 11, 3) := by decide +kernel
theorem dX5_copyFrom_18 : decode cX5_copyFrom 18 = .ok (.iload_n 2, 1) := by decide +kernel
theorem dX5_copyFrom_19 : decode cX5_copyFrom 19 = .ok (.aaload, 1) := by decide +kernel
theorem dX5_copyFrom_20 : decode cX5_copyFrom 20 = .ok (.invokevirtual 44, 3) := by decide +kernel
theorem dX5_copyFrom_23 : decode cX5_copyFrom 23 = .ok (.iinc 2 1, 3) := by decide +kernel
theorem dX5_copyFrom_26 : decode cX5_copyFrom 26 = .ok (.goto (-24), 3) := by decide +kernel
theorem dX5_copyFrom_29 : decode cX5_copyFrom 29 = .ok (.aload_n 1, 1) := by decide +kernel
theorem dX5_copyFrom_30 : decode cX5_copyFrom 30 = .ok (.getfield 17, 3) := by decide +kernel
theorem dX5_copyFrom_33 : decode cX5_copyFrom 33 = .ok (.iconst 0, 1) := by decide +kernel
theorem dX5_copyFrom_34 : decode cX5_copyFrom 34 = .ok (.aload_n 0, 1) := by decide +kernel
theorem dX5_copyFrom_35 : decode cX5_copyFrom 35 = .ok (.getfield 17, 3) := by decide +kernel
theorem dX5_copyFrom_38 : decode cX5_copyFrom 38 = .ok (.iconst 0, 1) := by decide +kernel
theorem dX5_copyFrom_39 : decode cX5_copyFrom 39 = .ok (.bipush 10, 2) := by decide +kernel
theorem dX5_copyFrom_41 : decode cX5_copyFrom 41 = .ok (.invokestatic 48, 3) := by decide +kernel
theorem dX5_copyFrom_44 : decode cX5_copyFrom 44 = .ok (.aload_n 0, 1) := by decide +kernel
theorem dX5_copyFrom_45 : decode cX5_copyFrom 45 = .ok (.aload_n 1, 1) := by decide +kernel
theorem dX5_copyFrom_46 : decode cX5_copyFrom 46 = .ok (.getfield 25, 3) := by decide +kernel
theorem dX5_copyFrom_49 : decode cX5_copyFrom 49 = .ok (.putfield 25, 3) := by decide +kernel
theorem dX5_copyFrom_52 : decode cX5_copyFrom 52 = .ok (.aload_n 0, 1) := by decide +kernel
theorem dX5_copyFrom_53 : decode cX5_copyFrom 53 = .ok (.aload_n 1, 1) := by decide +kernel
theorem dX5_copyFrom_54 : decode cX5_copyFrom 54 = .ok (.getfield 29, 3) := by decide +kernel
theorem dX5_copyFrom_57 : decode cX5_copyFrom 57 = .ok (.putfield 29, 3) := by decide +kernel
theorem dX5_copyFrom_60 : decode cX5_copyFrom 60 = .ok (.aload_n 0, 1) := by decide +kernel
theorem dX5_copyFrom_61 : decode cX5_copyFrom 61 = .ok (.aload_n 1, 1) := by decide +kernel
theorem dX5_copyFrom_62 : decode cX5_copyFrom 62 = .ok (.getfield 32, 3) := by decide +kernel
theorem dX5_copyFrom_65 : decode cX5_copyFrom 65 = .ok (.putfield 32, 3) := by decide +kernel
theorem dX5_copyFrom_68 : decode cX5_copyFrom 68 = .ok (.aload_n 0, 1) := by decide +kernel
theorem dX5_copyFrom_69 : decode cX5_copyFrom 69 = .ok (.aload_n 1, 1) := by decide +kernel
theorem dX5_copyFrom_70 : decode cX5_copyFrom 70 = .ok (.getfield 35, 3) := by decide +kernel
theorem dX5_copyFrom_73 : decode cX5_copyFrom 73 = .ok (.putfield 35, 3) := by decide +kernel
theorem dX5_copyFrom_76 : decode cX5_copyFrom 76 = .ok (.aload_n 0, 1) := by decide +kernel
theorem dX5_copyFrom_77 : decode cX5_copyFrom 77 = .ok (.aload_n 1, 1) := by decide +kernel
theorem dX5_copyFrom_78 : decode cX5_copyFrom 78 = .ok (.getfield 38, 3) := by decide +kernel
theorem dX5_copyFrom_81 : decode cX5_copyFrom 81 = .ok (.putfield 38, 3) := by decide +kernel
theorem dX5_copyFrom_84 : decode cX5_copyFrom 84 = .ok (.aload_n 0, 1) := by decide +kernel
theorem dX5_copyFrom_85 : decode cX5_copyFrom 85 = .ok (.aload_n 1, 1) := by decide +kernel
theorem dX5_copyFrom_86 : decode cX5_copyFrom 86 = .ok (.getfield 41, 3) := by decide +kernel
theorem dX5_copyFrom_89 : decode cX5_copyFrom 89 = .ok (.putfield 41, 3) := by decide +kernel
theorem dX5_copyFrom_92 : decode cX5_copyFrom 92 = .ok (.return_, 1) := by decide +kernel
theorem dX5_blocksInRows_0 : decode cX5_blocksInRows 0 = .ok (.iconst 0, 1) := by decide +kernel
theorem dX5_blocksInRows_1 : decode cX5_blocksInRows 1 = .ok (.istore_n 1, 1) := by decide +kernel
theorem dX5_blocksInRows_2 : decode cX5_blocksInRows 2 = .ok (.iconst 0, 1) := by decide +kernel
theorem dX5_blocksInRows_3 : decode cX5_blocksInRows 3 = .ok (.istore_n 2, 1) := by decide +kernel
theorem dX5_blocksInRows_4 : decode cX5_blocksInRows 4 = .ok (.iload_n 2, 1) := by decide +kernel
theorem dX5_blocksInRows_5 : decode cX5_blocksInRows 5 = .ok (.bipush 8, 2) := by decide +kernel
theorem dX5_blocksInRows_7 : decode cX5_blocksInRows 7 = .ok (.if_icmp .ge 21, 3) := by decide +kernel
theorem dX5_blocksInRows_10 : decode cX5_blocksInRows 10 = .ok (.iload_n 1, 1) := by decide +kernel
theorem dX5_blocksInRows_11 : decode cX5_blocksInRows 11 = .ok (.aload_n 0, 1) := by decide +kernel
theorem dX5_blocksInRows_12 : decode cX5_blocksInRows 12 = .ok (.getfield 11, 3) := by decide +kernel
theorem dX5_blocksInRows_15 : decode cX5_blocksInRows 15 = .ok (.iload_n 2, 1) := by decide +kernel
theorem dX5_blocksInRows_16 : decode cX5_blocksInRows 16 = .ok (.aaload, 1) := by decide +kernel
theorem dX5_blocksInRows_17 : decode cX5_blocksInRows 17 = .ok (.getfield 54, 3) := by decide +kernel
theorem dX5_blocksInRows_20 : decode cX5_blocksInRows 20 = .ok (.iadd, 1) := by decide +kernel
theorem dX5_blocksInRows_21 : decode cX5_blocksInRows 21 = .ok (.istore_n 1, 1) := by decide +kernel
theorem dX5_blocksInRows_22 : decode cX5_blocksInRows 22 = .ok (.iinc 2 1, 3) := by decide +kernel
theorem dX5_blocksInRows_25 : decode cX5_blocksInRows 25 = .ok (.goto (-21), 3) := by decide +kernel
theorem dX5_blocksInRows_28 : decode cX5_blocksInRows 28 = .ok (.iload_n 1, 1) := by decide +kernel
theorem dX5_blocksInRows_29 : decode cX5_blocksInRows 29 = .ok (.ireturn, 1) := by decide +kernel
theorem dX5_piecesInRows_0 : decode cX5_piecesInRows 0 = .ok (.iconst 0, 1) := by decide +kernel
theorem dX5_piecesInRows_1 : decode cX5_piecesInRows 1 = .ok (.istore_n 1, 1) := by decide +kernel
theorem dX5_piecesInRows_2 : decode cX5_piecesInRows 2 = .ok (.iconst 0, 1) := by decide +kernel
theorem dX5_piecesInRows_3 : decode cX5_piecesInRows 3 = .ok (.istore_n 2, 1) := by decide +kernel
theorem dX5_piecesInRows_4 : decode cX5_piecesInRows 4 = .ok (.iload_n 2, 1) := by decide +kernel
theorem dX5_piecesInRows_5 : decode cX5_piecesInRows 5 = .ok (.bipush 8, 2) := by decide +kernel
theorem dX5_piecesInRows_7 : decode cX5_piecesInRows 7 = .ok (.if_icmp .ge 21, 3) := by decide +kernel
theorem dX5_piecesInRows_10 : decode cX5_piecesInRows 10 = .ok (.iload_n 1, 1) := by decide +kernel
theorem dX5_piecesInRows_11 : decode cX5_piecesInRows 11 = .ok (.aload_n 0, 1) := by decide +kernel
theorem dX5_piecesInRows_12 : decode cX5_piecesInRows 12 = .ok (.getfield 11, 3) := by decide +kernel
theorem dX5_piecesInRows_15 : decode cX5_piecesInRows 15 = .ok (.iload_n 2, 1) := by decide +kernel
theorem dX5_piecesInRows_16 : decode cX5_piecesInRows 16 = .ok (.aaload, 1) := by decide +kernel
theorem dX5_piecesInRows_17 : decode cX5_piecesInRows 17 = .ok (.getfield 57, 3) := by decide +kernel
theorem dX5_piecesInRows_20 : decode cX5_piecesInRows 20 = .ok (.iadd, 1) := by decide +kernel
theorem dX5_piecesInRows_21 : decode cX5_piecesInRows 21 = .ok (.istore_n 1, 1) := by decide +kernel
theorem dX5_piecesInRows_22 : decode cX5_piecesInRows 22 = .ok (.iinc 2 1, 3) := by decide +kernel
theorem dX5_piecesInRows_25 : decode cX5_piecesInRows 25 = .ok (.goto (-21), 3) := by decide +kernel
theorem dX5_piecesInRows_28 : decode cX5_piecesInRows 28 = .ok (.iload_n 1, 1) := by decide +kernel
theorem dX5_piecesInRows_29 : decode cX5_piecesInRows 29 = .ok (.ireturn, 1) := by decide +kernel
theorem dX5_inRows_0 : decode cX5_inRows 0 = .ok (.iconst 0, 1) := by decide +kernel
theorem dX5_inRows_1 : decode cX5_inRows 1 = .ok (.istore_n 2, 1) := by decide +kernel
theorem dX5_inRows_2 : decode cX5_inRows 2 = .ok (.iconst 0, 1) := by decide +kernel
theorem dX5_inRows_3 : decode cX5_inRows 3 = .ok (.istore_n 3, 1) := by decide +kernel
theorem dX5_inRows_4 : decode cX5_inRows 4 = .ok (.iload_n 3, 1) := by decide +kernel
theorem dX5_inRows_5 : decode cX5_inRows 5 = .ok (.bipush 8, 2) := by decide +kernel
theorem dX5_inRows_7 : decode cX5_inRows 7 = .ok (.if_icmp .ge 33, 3) := by decide +kernel
theorem dX5_inRows_10 : decode cX5_inRows 10 = .ok (.iload_n 1, 1) := by decide +kernel
theorem dX5_inRows_11 : decode cX5_inRows 11 = .ok (.ifCond .lt 29, 3) := by decide +kernel
theorem dX5_inRows_14 : decode cX5_inRows 14 = .ok (.iload_n 1, 1) := by decide +kernel
theorem dX5_inRows_15 : decode cX5_inRows 15 = .ok (.bipush 10, 2) := by decide +kernel
theorem dX5_inRows_17 : decode cX5_inRows 17 = .ok (.if_icmp .ge 23, 3) := by decide +kernel
theorem dX5_inRows_20 : decode cX5_inRows 20 = .ok (.iload_n 2, 1) := by decide +kernel
theorem dX5_inRows_21 : decode cX5_inRows 21 = .ok (.aload_n 0, 1) := by decide +kernel
theorem dX5_inRows_22 : decode cX5_inRows 22 = .ok (.getfield 11, 3) := by decide +kernel
theorem dX5_inRows_25 : decode cX5_inRows 25 = .ok (.iload_n 3, 1) := by decide +kernel
theorem dX5_inRows_26 : decode cX5_inRows 26 = .ok (.aaload, 1) := by decide +kernel
theorem dX5_inRows_27 : decode cX5_inRows 27 = .ok (.getfield 60, 3) := by decide +kernel
theorem dX5_inRows_30 : decode cX5_inRows 30 = .ok (.iload_n 1, 1) := by decide +kernel
theorem dX5_inRows_31 : decode cX5_inRows 31 = .ok (.iaload, 1) := by decide +kernel
theorem dX5_inRows_32 : decode cX5_inRows 32 = .ok (.iadd, 1) := by decide +kernel
theorem dX5_inRows_33 : decode cX5_inRows 33 = .ok (.istore_n 2, 1) := by decide +kernel
theorem dX5_inRows_34 : decode cX5_inRows 34 = .ok (.iinc 3 1, 3) := by decide +kernel
theorem dX5_inRows_37 : decode cX5_inRows 37 = .ok (.goto (-33), 3) := by decide +kernel
theorem dX5_inRows_40 : decode cX5_inRows 40 = .ok (.iload_n 2, 1) := by decide +kernel
theorem dX5_inRows_41 : decode cX5_inRows 41 = .ok (.ireturn, 1) := by decide +kernel
theorem dX5_piecesLeft_0 : decode cX5_piecesLeft 0 = .ok (.iconst 0, 1) := by decide +kernel
theorem dX5_piecesLeft_1 : decode cX5_piecesLeft 1 = .ok (.istore_n 1, 1) := by decide +kernel
theorem dX5_piecesLeft_2 : decode cX5_piecesLeft 2 = .ok (.iconst 0, 1) := by decide +kernel
theorem dX5_piecesLeft_3 : decode cX5_piecesLeft 3 = .ok (.istore_n 2, 1) := by decide +kernel
theorem dX5_piecesLeft_4 : decode cX5_piecesLeft 4 = .ok (.iload_n 2, 1) := by decide +kernel
theorem dX5_piecesLeft_5 : decode cX5_piecesLeft 5 = .ok (.bipush 10, 2) := by decide +kernel
theorem dX5_piecesLeft_7 : decode cX5_piecesLeft 7 = .ok (.if_icmp .ge 18, 3) := by decide +kernel
theorem dX5_piecesLeft_10 : decode cX5_piecesLeft 10 = .ok (.iload_n 1, 1) := by decide +kernel
theorem dX5_piecesLeft_11 : decode cX5_piecesLeft 11 = .ok (.aload_n 0, 1) := by decide +kernel
theorem dX5_piecesLeft_12 : decode cX5_piecesLeft 12 = .ok (.getfield 17, 3) := by decide +kernel
theorem dX5_piecesLeft_15 : decode cX5_piecesLeft 15 = .ok (.iload_n 2, 1) := by decide +kernel
theorem dX5_piecesLeft_16 : decode cX5_piecesLeft 16 = .ok (.iaload, 1) := by decide +kernel
theorem dX5_piecesLeft_17 : decode cX5_piecesLeft 17 = .ok (.iadd, 1) := by decide +kernel
theorem dX5_piecesLeft_18 : decode cX5_piecesLeft 18 = .ok (.istore_n 1, 1) := by decide +kernel
theorem dX5_piecesLeft_19 : decode cX5_piecesLeft 19 = .ok (.iinc 2 1, 3) := by decide +kernel
theorem dX5_piecesLeft_22 : decode cX5_piecesLeft 22 = .ok (.goto (-18), 3) := by decide +kernel
theorem dX5_piecesLeft_25 : decode cX5_piecesLeft 25 = .ok (.iload_n 1, 1) := by decide +kernel
theorem dX5_piecesLeft_26 : decode cX5_piecesLeft 26 = .ok (.ireturn, 1) := by decide +kernel
set_option maxRecDepth 20000 in
theorem ggX5_tightRows_X3_isTightIn : GoodIn wsX5_tightRows wsX3_isTightIn := goodIn_r _ [6, 7, 8, 9, 10, 5, 11, 12, 13, 14, 15, 16, 17, 18, 19, 20, 21, 22, 23, 24, 25, 34, 35, 36, 37, 38, 39, 40, 41, 42, 43, 44, 45, 46, 47, 48, 49, 50, 51, 52, 53, 54] (by decide +kernel) (by decide +kernel)
set_option maxRecDepth 20000 in
theorem gX5_tightRows_X3_isTightIn : GoodIn wsX5_tightRows (wsV RX5 63 RX3 yX3_isTightIn wsX3_isTightIn) := goodIn_app (goodIn_of _ (by decide +kernel)) ggX5_tightRows_X3_isTightIn
theorem dX5_tightRows_0 : decode cX5_tightRows 0 = .ok (.iconst 0, 1) := by decide +kernel
theorem dX5_tightRows_1 : decode cX5_tightRows 1 = .ok (.istore_n 2, 1) := by decide +kernel
theorem dX5_tightRows_2 : decode cX5_tightRows 2 = .ok (.iconst 0, 1) := by decide +kernel
theorem dX5_tightRows_3 : decode cX5_tightRows 3 = .ok (.istore_n 3, 1) := by decide +kernel
theorem dX5_tightRows_4 : decode cX5_tightRows 4 = .ok (.iload_n 3, 1) := by decide +kernel
theorem dX5_tightRows_5 : decode cX5_tightRows 5 = .ok (.bipush 8, 2) := by decide +kernel
theorem dX5_tightRows_7 : decode cX5_tightRows 7 = .ok (.if_icmp .ge 25, 3) := by decide +kernel
theorem dX5_tightRows_10 : decode cX5_tightRows 10 = .ok (.aload_n 0, 1) := by decide +kernel
theorem dX5_tightRows_11 : decode cX5_tightRows 11 = .ok (.getfield 11, 3) := by decide +kernel
theorem dX5_tightRows_14 : decode cX5_tightRows 14 = .ok (.iload_n 3, 1) := by decide +kernel
theorem dX5_tightRows_15 : decode cX5_tightRows 15 = .ok (.aaload, 1) := by decide +kernel
theorem dX5_tightRows_16 : decode cX5_tightRows 16 = .ok (.aload_n 1, 1) := by decide +kernel
theorem dX5_tightRows_17 : decode cX5_tightRows 17 = .ok (.invokevirtual 63, 3) := by decide +kernel
theorem dX5_tightRows_20 : decode cX5_tightRows 20 = .ok (.ifCond .eq 6, 3) := by decide +kernel
theorem dX5_tightRows_23 : decode cX5_tightRows 23 = .ok (.iinc 2 1, 3) := by decide +kernel
theorem dX5_tightRows_26 : decode cX5_tightRows 26 = .ok (.iinc 3 1, 3) := by decide +kernel
theorem dX5_tightRows_29 : decode cX5_tightRows 29 = .ok (.goto (-25), 3) := by decide +kernel
theorem dX5_tightRows_32 : decode cX5_tightRows 32 = .ok (.iload_n 2, 1) := by decide +kernel
theorem dX5_tightRows_33 : decode cX5_tightRows 33 = .ok (.ireturn, 1) := by decide +kernel
set_option maxRecDepth 20000 in
theorem ggX5_canHaveQuoin_X3_hasQuoin : GoodIn wsX5_canHaveQuoin wsX3_hasQuoin := goodIn_r _ [6, 7, 16, 17, 18, 19, 20, 21, 22, 23, 24, 25] (by decide +kernel) (by decide +kernel)
set_option maxRecDepth 20000 in
theorem gX5_canHaveQuoin_X3_hasQuoin : GoodIn wsX5_canHaveQuoin (wsV RX5 67 RX3 yX3_hasQuoin wsX3_hasQuoin) := goodIn_app (goodIn_of _ (by decide +kernel)) ggX5_canHaveQuoin_X3_hasQuoin
theorem dX5_canHaveQuoin_0 : decode cX5_canHaveQuoin 0 = .ok (.aload_n 1, 1) := by decide +kernel
theorem dX5_canHaveQuoin_1 : decode cX5_canHaveQuoin 1 = .ok (.invokevirtual 67, 3) := by decide +kernel
theorem dX5_canHaveQuoin_4 : decode cX5_canHaveQuoin 4 = .ok (.ifCond .ne 10, 3) := by decide +kernel
theorem dX5_canHaveQuoin_7 : decode cX5_canHaveQuoin 7 = .ok (.aload_n 0, 1) := by decide +kernel
theorem dX5_canHaveQuoin_8 : decode cX5_canHaveQuoin 8 = .ok (.getfield 25, 3) := by decide +kernel
theorem dX5_canHaveQuoin_11 : decode cX5_canHaveQuoin 11 = .ok (.ifCond .le 7, 3) := by decide +kernel
theorem dX5_canHaveQuoin_14 : decode cX5_canHaveQuoin 14 = .ok (.iconst 1, 1) := by decide +kernel
theorem dX5_canHaveQuoin_15 : decode cX5_canHaveQuoin 15 = .ok (.goto 4, 3) := by decide +kernel
theorem dX5_canHaveQuoin_18 : decode cX5_canHaveQuoin 18 = .ok (.iconst 0, 1) := by decide +kernel
theorem dX5_canHaveQuoin_19 : decode cX5_canHaveQuoin 19 = .ok (.ireturn, 1) := by decide +kernel
set_option maxRecDepth 20000 in
theorem ggX5_setQuoin_X3_hasQuoin : GoodIn wsX5_setQuoin wsX3_hasQuoin := goodIn_r _ [8, 9, 18, 19, 20, 21, 22, 23, 24, 25, 26, 27] (by decide +kernel) (by decide +kernel)
set_option maxRecDepth 20000 in
theorem gX5_setQuoin_X3_hasQuoin : GoodIn wsX5_setQuoin (wsV RX5 67 RX3 yX3_hasQuoin wsX3_hasQuoin) := goodIn_app (goodIn_of _ (by decide +kernel)) ggX5_setQuoin_X3_hasQuoin
theorem dX5_setQuoin_0 : decode cX5_setQuoin 0 = .ok (.aload_n 1, 1) := by decide +kernel
theorem dX5_setQuoin_1 : decode cX5_setQuoin 1 = .ok (.invokevirtual 67, 3) := by decide +kernel
theorem dX5_setQuoin_4 : decode cX5_setQuoin 4 = .ok (.ifCond .ne 13, 3) := by decide +kernel
theorem dX5_setQuoin_7 : decode cX5_setQuoin 7 = .ok (.aload_n 0, 1) := by decide +kernel
theorem dX5_setQuoin_8 : decode cX5_setQuoin 8 = .ok (.dup, 1) := by decide +kernel
theorem dX5_setQuoin_9 : decode cX5_setQuoin 9 = .ok (.getfield 25, 3) := by decide +kernel
theorem dX5_setQuoin_12 : decode cX5_setQuoin 12 = .ok (.iconst 1, 1) := by decide +kernel
theorem dX5_setQuoin_13 : decode cX5_setQuoin 13 = .ok (.isub, 1) := by decide +kernel
theorem dX5_setQuoin_14 : decode cX5_setQuoin 14 = .ok (.putfield 25, 3) := by decide +kernel
theorem dX5_setQuoin_17 : decode cX5_setQuoin 17 = .ok (.aload_n 1, 1) := by decide +kernel
theorem dX5_setQuoin_18 : decode cX5_setQuoin 18 = .ok (.iload_n 2, 1) := by decide +kernel
theorem dX5_setQuoin_19 : decode cX5_setQuoin 19 = .ok (.putfield 71, 3) := by decide +kernel
theorem dX5_setQuoin_22 : decode cX5_setQuoin 22 = .ok (.aload_n 1, 1) := by decide +kernel
theorem dX5_setQuoin_23 : decode cX5_setQuoin 23 = .ok (.iconst 0, 1) := by decide +kernel
theorem dX5_setQuoin_24 : decode cX5_setQuoin 24 = .ok (.putfield 74, 3) := by decide +kernel
theorem dX5_setQuoin_27 : decode cX5_setQuoin 27 = .ok (.return_, 1) := by decide +kernel
set_option maxRecDepth 20000 in
theorem ggX5_removeQuoin_X3_hasQuoin : GoodIn wsX5_removeQuoin wsX3_hasQuoin := goodIn_r _ [8, 9, 18, 19, 20, 21, 22, 23, 24, 25, 26, 27] (by decide +kernel) (by decide +kernel)
set_option maxRecDepth 20000 in
theorem gX5_removeQuoin_X3_hasQuoin : GoodIn wsX5_removeQuoin (wsV RX5 67 RX3 yX3_hasQuoin wsX3_hasQuoin) := goodIn_app (goodIn_of _ (by decide +kernel)) ggX5_removeQuoin_X3_hasQuoin
theorem dX5_removeQuoin_0 : decode cX5_removeQuoin 0 = .ok (.aload_n 1, 1) := by decide +kernel
theorem dX5_removeQuoin_1 : decode cX5_removeQuoin 1 = .ok (.invokevirtual 67, 3) := by decide +kernel
theorem dX5_removeQuoin_4 : decode cX5_removeQuoin 4 = .ok (.ifCond .eq 13, 3) := by decide +kernel
theorem dX5_removeQuoin_7 : decode cX5_removeQuoin 7 = .ok (.aload_n 0, 1) := by decide +kernel
theorem dX5_removeQuoin_8 : decode cX5_removeQuoin 8 = .ok (.dup, 1) := by decide +kernel
theorem dX5_removeQuoin_9 : decode cX5_removeQuoin 9 = .ok (.getfield 25, 3) := by decide +kernel
theorem dX5_removeQuoin_12 : decode cX5_removeQuoin 12 = .ok (.iconst 1, 1) := by decide +kernel
theorem dX5_removeQuoin_13 : decode cX5_removeQuoin 13 = .ok (.iadd, 1) := by decide +kernel
theorem dX5_removeQuoin_14 : decode cX5_removeQuoin 14 = .ok (.putfield 25, 3) := by decide +kernel
theorem dX5_removeQuoin_17 : decode cX5_removeQuoin 17 = .ok (.aload_n 1, 1) := by decide +kernel
theorem dX5_removeQuoin_18 : decode cX5_removeQuoin 18 = .ok (.iconst (-1), 1) := by decide +kernel
theorem dX5_removeQuoin_19 : decode cX5_removeQuoin 19 = .ok (.putfield 71, 3) := by decide +kernel
theorem dX5_removeQuoin_22 : decode cX5_removeQuoin 22 = .ok (.aload_n 1, 1) := by decide +kernel
theorem dX5_removeQuoin_23 : decode cX5_removeQuoin 23 = .ok (.iconst 0, 1) := by decide +kernel
theorem dX5_removeQuoin_24 : decode cX5_removeQuoin 24 = .ok (.putfield 74, 3) := by decide +kernel
theorem dX5_removeQuoin_27 : decode cX5_removeQuoin 27 = .ok (.return_, 1) := by decide +kernel
set_option maxRecDepth 20000 in
theorem ggX5_movePieceIn_X3_addPiece : GoodIn wsX5_movePieceIn wsX3_addPiece := goodIn_ca (goodIn_r _ [6, 7, 8, 9, 10, 11, 12, 13, 5, 14, 15, 16, 17, 26, 27, 28, 29, 30, 31, 32, 33, 34, 35, 36, 37, 38, 39, 40, 41, 42, 43, 44, 45, 46] (by decide +kernel) (by decide +kernel)) (goodIn_sub (fun _ h => List.mem_cons_of_mem _ (List.mem_append_right _ h)) (by decide +kernel))
set_option maxRecDepth 20000 in
theorem gX5_movePieceIn_X3_addPiece : GoodIn wsX5_movePieceIn (wsV RX5 77 RX3 yX3_addPiece wsX3_addPiece) := goodIn_app (goodIn_of _ (by decide +kernel)) ggX5_movePieceIn_X3_addPiece
theorem dX5_movePieceIn_0 : decode cX5_movePieceIn 0 = .ok (.iload_n 3, 1) := by decide +kernel
theorem dX5_movePieceIn_1 : decode cX5_movePieceIn 1 = .ok (.ifCond .lt 25, 3) := by decide +kernel
theorem dX5_movePieceIn_4 : decode cX5_movePieceIn 4 = .ok (.iload_n 3, 1) := by decide +kernel
theorem dX5_movePieceIn_5 : decode cX5_movePieceIn 5 = .ok (.bipush 10, 2) := by decide +kernel
theorem dX5_movePieceIn_7 : decode cX5_movePieceIn 7 = .ok (.if_icmp .ge 19, 3) := by decide +kernel
theorem dX5_movePieceIn_10 : decode cX5_movePieceIn 10 = .ok (.aload_n 0, 1) := by decide +kernel
theorem dX5_movePieceIn_11 : decode cX5_movePieceIn 11 = .ok (.getfield 17, 3) := by decide +kernel
theorem dX5_movePieceIn_14 : decode cX5_movePieceIn 14 = .ok (.iload_n 3, 1) := by decide +kernel
theorem dX5_movePieceIn_15 : decode cX5_movePieceIn 15 = .ok (.dup2, 1) := by decide +kernel
theorem dX5_movePieceIn_16 : decode cX5_movePieceIn 16 = .ok (.iaload, 1) := by decide +kernel
theorem dX5_movePieceIn_17 : decode cX5_movePieceIn 17 = .ok (.iconst 1, 1) := by decide +kernel
theorem dX5_movePieceIn_18 : decode cX5_movePieceIn 18 = .ok (.isub, 1) := by decide +kernel
theorem dX5_movePieceIn_19 : decode cX5_movePieceIn 19 = .ok (.iastore, 1) := by decide +kernel
theorem dX5_movePieceIn_20 : decode cX5_movePieceIn 20 = .ok (.aload_n 2, 1) := by decide +kernel
theorem dX5_movePieceIn_21 : decode cX5_movePieceIn 21 = .ok (.aload_n 1, 1) := by decide +kernel
theorem dX5_movePieceIn_22 : decode cX5_movePieceIn 22 = .ok (.iload_n 3, 1) := by decide +kernel
theorem dX5_movePieceIn_23 : decode cX5_movePieceIn 23 = .ok (.invokevirtual 77, 3) := by decide +kernel
theorem dX5_movePieceIn_26 : decode cX5_movePieceIn 26 = .ok (.return_, 1) := by decide +kernel
set_option maxRecDepth 20000 in
theorem ggX5_movePieceOut_X3_removePiece : GoodIn wsX5_movePieceOut wsX3_removePiece := goodIn_ca (goodIn_r _ [6, 7, 8, 9, 10, 11, 12, 13, 5, 14, 15, 16, 17, 18, 19, 20, 21, 30, 31, 32, 33, 34, 35, 36, 37, 38, 39, 40, 41, 42, 43, 44, 45, 46, 47, 48, 49, 50] (by decide +kernel) (by decide +kernel)) (goodIn_sub (fun _ h => List.mem_cons_of_mem _ (List.mem_append_right _ h)) (by decide +kernel))
set_option maxRecDepth 20000 in
theorem gX5_movePieceOut_X3_removePiece : GoodIn wsX5_movePieceOut (wsV RX5 81 RX3 yX3_removePiece wsX3_removePiece) := goodIn_app (goodIn_of _ (by decide +kernel)) ggX5_movePieceOut_X3_removePiece
theorem dX5_movePieceOut_0 : decode cX5_movePieceOut 0 = .ok (.aload_n 2, 1) := by decide +kernel
theorem dX5_movePieceOut_1 : decode cX5_movePieceOut 1 = .ok (.aload_n 1, 1) := by decide +kernel
theorem dX5_movePieceOut_2 : decode cX5_movePieceOut 2 = .ok (.iload_n 3, 1) := by decide +kernel
theorem dX5_movePieceOut_3 : decode cX5_movePieceOut 3 = .ok (.invokevirtual 81, 3) := by decide +kernel
theorem dX5_movePieceOut_6 : decode cX5_movePieceOut 6 = .ok (.istore 4, 2) := by decide +kernel
theorem dX5_movePieceOut_8 : decode cX5_movePieceOut 8 = .ok (.iload 4, 2) := by decide +kernel
theorem dX5_movePieceOut_10 : decode cX5_movePieceOut 10 = .ok (.ifCond .lt 21, 3) := by decide +kernel
theorem dX5_movePieceOut_13 : decode cX5_movePieceOut 13 = .ok (.iload 4, 2) := by decide +kernel
theorem dX5_movePieceOut_15 : decode cX5_movePieceOut 15 = .ok (.bipush 10, 2) := by decide +kernel
theorem dX5_movePieceOut_17 : decode cX5_movePieceOut 17 = .ok (.if_icmp .ge 14, 3) := by decide +kernel
theorem dX5_movePieceOut_20 : decode cX5_movePieceOut 20 = .ok (.aload_n 0, 1) := by decide +kernel
theorem dX5_movePieceOut_21 : decode cX5_movePieceOut 21 = .ok (.getfield 17, 3) := by decide +kernel
theorem dX5_movePieceOut_24 : decode cX5_movePieceOut 24 = .ok (.iload 4, 2) := by decide +kernel
theorem dX5_movePieceOut_26 : decode cX5_movePieceOut 26 = .ok (.dup2, 1) := by decide +kernel
theorem dX5_movePieceOut_27 : decode cX5_movePieceOut 27 = .ok (.iaload, 1) := by decide +kernel
theorem dX5_movePieceOut_28 : decode cX5_movePieceOut 28 = .ok (.iconst 1, 1) := by decide +kernel
theorem dX5_movePieceOut_29 : decode cX5_movePieceOut 29 = .ok (.iadd, 1) := by decide +kernel
theorem dX5_movePieceOut_30 : decode cX5_movePieceOut 30 = .ok (.iastore, 1) := by decide +kernel
theorem dX5_movePieceOut_31 : decode cX5_movePieceOut 31 = .ok (.iload 4, 2) := by decide +kernel
theorem dX5_movePieceOut_33 : decode cX5_movePieceOut 33 = .ok (.ireturn, 1) := by decide +kernel
set_option maxRecDepth 20000 in
theorem ggX5_fill_X5_movePieceIn : GoodIn wsX5_fill wsX5_movePieceIn := goodIn_ca (goodIn_r _ [11, 12, 13, 14, 15, 16, 17, 18, 19, 20, 21, 22, 23, 24, 25, 26, 27, 28, 41, 42, 43, 44, 45, 46, 47, 48, 68, 69, 70, 71, 72, 73, 74, 75, 76, 77, 49, 50, 51, 52, 53, 54, 55, 56, 57, 58, 59] (by decide +kernel) (by decide +kernel)) (goodIn_sub (fun _ h => List.mem_cons_of_mem _ (List.mem_append_right _ h)) (by decide +kernel))
set_option maxRecDepth 20000 in
theorem gX5_fill_X5_movePieceIn : GoodIn wsX5_fill (wsV RX5 98 RX5 yX5_movePieceIn wsX5_movePieceIn) := goodIn_app (goodIn_of _ (by decide +kernel)) ggX5_fill_X5_movePieceIn
set_option maxRecDepth 20000 in
theorem ggX5_fill_X5_setQuoin : GoodIn wsX5_fill wsX5_setQuoin := goodIn_r _ [32, 33, 34, 35, 36, 37, 38, 16, 39, 40, 41, 42, 43, 44, 45, 46, 47, 48, 68, 69, 70, 71, 72, 73, 74, 75, 76, 77] (by decide +kernel) (by decide +kernel)
set_option maxRecDepth 20000 in
theorem gX5_fill_X5_setQuoin : GoodIn wsX5_fill (wsV RX5 103 RX5 yX5_setQuoin wsX5_setQuoin) := goodIn_app (goodIn_of _ (by decide +kernel)) ggX5_fill_X5_setQuoin
theorem dX5_fill_0 : decode cX5_fill 0 = .ok (.iload_n 2, 1) := by decide +kernel
theorem dX5_fill_1 : decode cX5_fill 1 = .ok (.ifCond .lt 9, 3) := by decide +kernel
theorem dX5_fill_4 : decode cX5_fill 4 = .ok (.iload_n 2, 1) := by decide +kernel
theorem dX5_fill_5 : decode cX5_fill 5 = .ok (.bipush 8, 2) := by decide +kernel
theorem dX5_fill_7 : decode cX5_fill 7 = .ok (.if_icmp .lt 4, 3) := by decide +kernel
theorem dX5_fill_10 : decode cX5_fill 10 = .ok (.return_, 1) := by decide +kernel
theorem dX5_fill_11 : decode cX5_fill 11 = .ok (.aload_n 0, 1) := by decide +kernel
theorem dX5_fill_12 : decode cX5_fill 12 = .ok (.getfield 11, 3) := by decide +kernel
theorem dX5_fill_15 : decode cX5_fill 15 = .ok (.iload_n 2, 1) := by decide +kernel
theorem dX5_fill_16 : decode cX5_fill 16 = .ok (.aaload, 1) := by decide +kernel
theorem dX5_fill_17 : decode cX5_fill 17 = .ok (.astore 4, 2) := by decide +kernel
theorem dX5_fill_19 : decode cX5_fill 19 = .ok (.iconst 0, 1) := by decide +kernel
theorem dX5_fill_20 : decode cX5_fill 20 = .ok (.istore 5, 2) := by decide +kernel
theorem dX5_fill_22 : decode cX5_fill 22 = .ok (.iload 5, 2) := by decide +kernel
theorem dX5_fill_24 : decode cX5_fill 24 = .ok (.aload_n 1, 1) := by decide +kernel
theorem dX5_fill_25 : decode cX5_fill 25 = .ok (.getfield 85, 3) := by decide +kernel
theorem dX5_fill_28 : decode cX5_fill 28 = .ok (.if_icmp .ge 48, 3) := by decide +kernel
theorem dX5_fill_31 : decode cX5_fill 31 = .ok (.aload_n 1, 1) := by decide +kernel
theorem dX5_fill_32 : decode cX5_fill 32 = .ok (.getfield 90, 3) := by decide +kernel
theorem dX5_fill_35 : decode cX5_fill 35 = .ok (.iload 5, 2) := by decide +kernel
theorem dX5_fill_37 : decode cX5_fill 37 = .ok (.iaload, 1) := by decide +kernel
theorem dX5_fill_38 : decode cX5_fill 38 = .ok (.istore 6, 2) := by decide +kernel
theorem dX5_fill_40 : decode cX5_fill 40 = .ok (.iconst 0, 1) := by decide +kernel
theorem dX5_fill_41 : decode cX5_fill 41 = .ok (.istore 7, 2) := by decide +kernel
theorem dX5_fill_43 : decode cX5_fill 43 = .ok (.iload 7, 2) := by decide +kernel
theorem dX5_fill_45 : decode cX5_fill 45 = .ok (.aload_n 3, 1) := by decide +kernel
theorem dX5_fill_46 : decode cX5_fill 46 = .ok (.getfield 93, 3) := by decide +kernel
theorem dX5_fill_49 : decode cX5_fill 49 = .ok (.iload 6, 2) := by decide +kernel
theorem dX5_fill_51 : decode cX5_fill 51 = .ok (.iaload, 1) := by decide +kernel
theorem dX5_fill_52 : decode cX5_fill 52 = .ok (.if_icmp .ge 18, 3) := by decide +kernel
theorem dX5_fill_55 : decode cX5_fill 55 = .ok (.aload_n 0, 1) := by decide +kernel
theorem dX5_fill_56 : decode cX5_fill 56 = .ok (.aload_n 1, 1) := by decide +kernel
theorem dX5_fill_57 : decode cX5_fill 57 = .ok (.aload 4, 2) := by decide +kernel
theorem dX5_fill_59 : decode cX5_fill 59 = .ok (.iload 6, 2) := by decide +kernel
theorem dX5_fill_61 : decode cX5_fill 61 = .ok (.invokevirtual 98, 3) := by decide +kernel
theorem dX5_fill_64 : decode cX5_fill 64 = .ok (.iinc 7 1, 3) := by decide +kernel
theorem dX5_fill_67 : decode cX5_fill 67 = .ok (.goto (-24), 3) := by decide +kernel
theorem dX5_fill_70 : decode cX5_fill 70 = .ok (.iinc 5 1, 3) := by decide +kernel
theorem dX5_fill_73 : decode cX5_fill 73 = .ok (.goto (-51), 3) := by decide +kernel
theorem dX5_fill_76 : decode cX5_fill 76 = .ok (.aload_n 3, 1) := by decide +kernel
theorem dX5_fill_77 : decode cX5_fill 77 = .ok (.getfield 102, 3) := by decide +kernel
theorem dX5_fill_80 : decode cX5_fill 80 = .ok (.iconst (-1), 1) := by decide +kernel
theorem dX5_fill_81 : decode cX5_fill 81 = .ok (.if_icmp .eq 13, 3) := by decide +kernel
theorem dX5_fill_84 : decode cX5_fill 84 = .ok (.aload_n 0, 1) := by decide +kernel
theorem dX5_fill_85 : decode cX5_fill 85 = .ok (.aload 4, 2) := by decide +kernel
theorem dX5_fill_87 : decode cX5_fill 87 = .ok (.aload_n 3, 1) := by decide +kernel
theorem dX5_fill_88 : decode cX5_fill 88 = .ok (.getfield 102, 3) := by decide +kernel
theorem dX5_fill_91 : decode cX5_fill 91 = .ok (.invokevirtual 103, 3) := by decide +kernel
theorem dX5_fill_94 : decode cX5_fill 94 = .ok (.aload 4, 2) := by decide +kernel
theorem dX5_fill_96 : decode cX5_fill 96 = .ok (.iconst 0, 1) := by decide +kernel
theorem dX5_fill_97 : decode cX5_fill 97 = .ok (.putfield 107, 3) := by decide +kernel
theorem dX5_fill_100 : decode cX5_fill 100 = .ok (.return_, 1) := by decide +kernel
set_option maxRecDepth 20000 in
theorem ggX5_empty_X3_dropPieces : GoodIn wsX5_empty wsX3_dropPieces := goodIn_ca (goodIn_r _ [9, 10, 11, 12, 34, 35, 36, 37, 38, 39, 40, 41, 42, 43] (by decide +kernel) (by decide +kernel)) (goodIn_sub (fun _ h => List.mem_cons_of_mem _ (List.mem_append_right _ h)) (by decide +kernel))
set_option maxRecDepth 20000 in
theorem gX5_empty_X3_dropPieces : GoodIn wsX5_empty (wsV RX5 110 RX3 yX3_dropPieces wsX3_dropPieces) := goodIn_app (goodIn_of _ (by decide +kernel)) ggX5_empty_X3_dropPieces
set_option maxRecDepth 20000 in
theorem ggX5_empty_X5_removeQuoin : GoodIn wsX5_empty wsX5_removeQuoin := goodIn_r _ [17, 18, 19, 20, 21, 22, 23, 8, 24, 25, 26, 27, 28, 29, 30, 31, 32, 33, 34, 35, 36, 37, 38, 39, 40, 41, 42, 43] (by decide +kernel) (by decide +kernel)
set_option maxRecDepth 20000 in
theorem gX5_empty_X5_removeQuoin : GoodIn wsX5_empty (wsV RX5 113 RX5 yX5_removeQuoin wsX5_removeQuoin) := goodIn_app (goodIn_of _ (by decide +kernel)) ggX5_empty_X5_removeQuoin
theorem dX5_empty_0 : decode cX5_empty 0 = .ok (.iload_n 1, 1) := by decide +kernel
theorem dX5_empty_1 : decode cX5_empty 1 = .ok (.ifCond .lt 9, 3) := by decide +kernel
theorem dX5_empty_4 : decode cX5_empty 4 = .ok (.iload_n 1, 1) := by decide +kernel
theorem dX5_empty_5 : decode cX5_empty 5 = .ok (.bipush 8, 2) := by decide +kernel
theorem dX5_empty_7 : decode cX5_empty 7 = .ok (.if_icmp .lt 4, 3) := by decide +kernel
theorem dX5_empty_10 : decode cX5_empty 10 = .ok (.return_, 1) := by decide +kernel
theorem dX5_empty_11 : decode cX5_empty 11 = .ok (.aload_n 0, 1) := by decide +kernel
theorem dX5_empty_12 : decode cX5_empty 12 = .ok (.getfield 11, 3) := by decide +kernel
theorem dX5_empty_15 : decode cX5_empty 15 = .ok (.iload_n 1, 1) := by decide +kernel
theorem dX5_empty_16 : decode cX5_empty 16 = .ok (.aaload, 1) := by decide +kernel
theorem dX5_empty_17 : decode cX5_empty 17 = .ok (.astore_n 2, 1) := by decide +kernel
theorem dX5_empty_18 : decode cX5_empty 18 = .ok (.iconst 0, 1) := by decide +kernel
theorem dX5_empty_19 : decode cX5_empty 19 = .ok (.istore_n 3, 1) := by decide +kernel
theorem dX5_empty_20 : decode cX5_empty 20 = .ok (.iload_n 3, 1) := by decide +kernel
theorem dX5_empty_21 : decode cX5_empty 21 = .ok (.bipush 10, 2) := by decide +kernel
theorem dX5_empty_23 : decode cX5_empty 23 = .ok (.if_icmp .ge 24, 3) := by decide +kernel
theorem dX5_empty_26 : decode cX5_empty 26 = .ok (.aload_n 0, 1) := by decide +kernel
theorem dX5_empty_27 : decode cX5_empty 27 = .ok (.getfield 17, 3) := by decide +kernel
theorem dX5_empty_30 : decode cX5_empty 30 = .ok (.iload_n 3, 1) := by decide +kernel
theorem dX5_empty_31 : decode cX5_empty 31 = .ok (.dup2, 1) := by decide +kernel
theorem dX5_empty_32 : decode cX5_empty 32 = .ok (.iaload, 1) := by decide +kernel
theorem dX5_empty_33 : decode cX5_empty 33 = .ok (.aload_n 2, 1) := by decide +kernel
theorem dX5_empty_34 : decode cX5_empty 34 = .ok (.getfield 60, 3) := by decide +kernel
theorem dX5_empty_37 : decode cX5_empty 37 = .ok (.iload_n 3, 1) := by decide +kernel
theorem dX5_empty_38 : decode cX5_empty 38 = .ok (.iaload, 1) := by decide +kernel
theorem dX5_empty_39 : decode cX5_empty 39 = .ok (.iadd, 1) := by decide +kernel
theorem dX5_empty_40 : decode cX5_empty 40 = .ok (.iastore, 1) := by decide +kernel
theorem dX5_empty_41 : decode cX5_empty 41 = .ok (.iinc 3 1, 3) := by decide +kernel
theorem dX5_empty_44 : decode cX5_empty 44 = .ok (.goto (-24), 3) := by decide +kernel
theorem dX5_empty_47 : decode cX5_empty 47 = .ok (.aload_n 2, 1) := by decide +kernel
theorem dX5_empty_48 : decode cX5_empty 48 = .ok (.invokevirtual 110, 3) := by decide +kernel
theorem dX5_empty_51 : decode cX5_empty 51 = .ok (.aload_n 0, 1) := by decide +kernel
theorem dX5_empty_52 : decode cX5_empty 52 = .ok (.aload_n 2, 1) := by decide +kernel
theorem dX5_empty_53 : decode cX5_empty 53 = .ok (.invokevirtual 113, 3) := by decide +kernel
theorem dX5_empty_56 : decode cX5_empty 56 = .ok (.aload_n 2, 1) := by decide +kernel
theorem dX5_empty_57 : decode cX5_empty 57 = .ok (.iconst 0, 1) := by decide +kernel
theorem dX5_empty_58 : decode cX5_empty 58 = .ok (.putfield 107, 3) := by decide +kernel
theorem dX5_empty_61 : decode cX5_empty 61 = .ok (.return_, 1) := by decide +kernel
set_option maxRecDepth 20000 in
theorem ggX5_impressOften_X5_impress : GoodIn wsX5_impressOften wsX5_impress := goodIn_ca (goodIn_r _ [6, 7, 8, 9, 1, 10, 11, 12, 13, 14, 15, 16, 17, 18, 19, 5, 20, 21, 22, 23, 24, 25, 26, 27, 28, 29, 30, 31, 32, 33, 34, 35, 36, 37, 38, 39, 40, 41, 42, 43, 44, 45, 46, 47, 48, 49, 50, 51, 52, 53, 54, 55, 56, 57, 58, 59, 60, 61, 62, 63, 64, 65, 66, 67, 68, 69, 70, 71, 72, 73, 74, 75, 76, 77, 78, 79, 80, 81, 82, 83, 84, 85, 86, 87, 88, 89, 90, 91, 92, 93, 94, 95, 96, 97, 98, 99, 100, 101, 102, 103, 104, 105, 106, 107, 108] (by decide +kernel) (by decide +kernel)) (goodIn_sub (fun _ h => List.mem_cons_of_mem _ (List.mem_append_right _ h)) (by decide +kernel))
set_option maxRecDepth 20000 in
theorem gX5_impressOften_X5_impress : GoodIn wsX5_impressOften (wsV RX5 116 RX5 yX5_impress wsX5_impress) := goodIn_app (goodIn_of _ (by decide +kernel)) ggX5_impressOften_X5_impress
theorem dX5_impressOften_0 : decode cX5_impressOften 0 = .ok (.aload_n 0, 1) := by decide +kernel
theorem dX5_impressOften_1 : decode cX5_impressOften 1 = .ok (.getfield 32, 3) := by decide +kernel
theorem dX5_impressOften_4 : decode cX5_impressOften 4 = .ok (.istore_n 3, 1) := by decide +kernel
theorem dX5_impressOften_5 : decode cX5_impressOften 5 = .ok (.iconst 0, 1) := by decide +kernel
theorem dX5_impressOften_6 : decode cX5_impressOften 6 = .ok (.istore 4, 2) := by decide +kernel
theorem dX5_impressOften_8 : decode cX5_impressOften 8 = .ok (.iload 4, 2) := by decide +kernel
theorem dX5_impressOften_10 : decode cX5_impressOften 10 = .ok (.iload_n 2, 1) := by decide +kernel
theorem dX5_impressOften_11 : decode cX5_impressOften 11 = .ok (.if_icmp .ge 14, 3) := by decide +kernel
theorem dX5_impressOften_14 : decode cX5_impressOften 14 = .ok (.aload_n 0, 1) := by decide +kernel
theorem dX5_impressOften_15 : decode cX5_impressOften 15 = .ok (.aload_n 1, 1) := by decide +kernel
theorem dX5_impressOften_16 : decode cX5_impressOften 16 = .ok (.invokevirtual 116, 3) := by decide +kernel
theorem dX5_impressOften_19 : decode cX5_impressOften 19 = .ok (.iinc 4 1, 3) := by decide +kernel
theorem dX5_impressOften_22 : decode cX5_impressOften 22 = .ok (.goto (-14), 3) := by decide +kernel
theorem dX5_impressOften_25 : decode cX5_impressOften 25 = .ok (.aload_n 0, 1) := by decide +kernel
theorem dX5_impressOften_26 : decode cX5_impressOften 26 = .ok (.getfield 32, 3) := by decide +kernel
theorem dX5_impressOften_29 : decode cX5_impressOften 29 = .ok (.iload_n 3, 1) := by decide +kernel
theorem dX5_impressOften_30 : decode cX5_impressOften 30 = .ok (.isub, 1) := by decide +kernel
theorem dX5_impressOften_31 : decode cX5_impressOften 31 = .ok (.ireturn, 1) := by decide +kernel
set_option maxRecDepth 20000 in
theorem ggX5_impress_X3_growthInImpression : GoodIn wsX5_impress wsX3_growthInImpression := goodIn_r _ [9, 10, 11, 94, 95, 96, 97, 98, 99, 100, 101, 102, 103, 104, 84, 85, 86, 87, 88, 89, 90, 91, 92, 93] (by decide +kernel) (by decide +kernel)
set_option maxRecDepth 20000 in
theorem gX5_impress_X3_growthInImpression : GoodIn wsX5_impress (wsV RX5 120 RX3 yX3_growthInImpression wsX3_growthInImpression) := goodIn_app (goodIn_of _ (by decide +kernel)) ggX5_impress_X3_growthInImpression
set_option maxRecDepth 20000 in
theorem ggX5_impress_X5_dropLooseRows : GoodIn wsX5_impress wsX5_dropLooseRows := goodIn_ca (goodIn_r _ [16, 1, 17, 18, 19, 20, 21, 22, 23, 8, 24, 25, 26, 27, 28, 29, 30, 31, 32, 33, 34, 35, 36, 37, 38, 39, 40, 41, 42, 43, 44, 45, 46, 47, 11, 48, 49, 50, 15, 51, 52, 53, 2, 54, 55, 56, 57, 58, 59, 60, 61, 62, 63, 64, 65, 66, 67, 76, 77, 78, 79, 80, 81, 82, 83, 84, 85, 86, 87, 88, 89, 90, 91, 92, 93, 94, 95, 96, 97, 98, 99, 100, 101, 102, 103, 104] (by decide +kernel) (by decide +kernel)) (goodIn_sub (fun _ h => List.mem_cons_of_mem _ (List.mem_append_right _ h)) (by decide +kernel))
set_option maxRecDepth 20000 in
theorem gX5_impress_X5_dropLooseRows : GoodIn wsX5_impress (wsV RX5 124 RX5 yX5_dropLooseRows wsX5_dropLooseRows) := goodIn_app (goodIn_of _ (by decide +kernel)) ggX5_impress_X5_dropLooseRows
set_option maxRecDepth 20000 in
theorem ggX5_impress_X5_isFirm : GoodIn wsX5_impress wsX5_isFirm := goodIn_r _ [71, 1, 17, 72, 73, 74, 8, 75, 25, 26, 27, 28, 29, 30, 31, 32, 33, 34, 35, 36, 37, 38, 39, 40, 41, 42, 43, 76, 77, 78, 79, 80, 81, 82, 83, 84, 85, 86, 87, 88, 89, 90, 91, 92, 93, 94, 95, 96, 97, 98, 99, 100, 101, 102, 103, 104] (by decide +kernel) (by decide +kernel)
set_option maxRecDepth 20000 in
theorem gX5_impress_X5_isFirm : GoodIn wsX5_impress (wsV RX5 127 RX5 yX5_isFirm wsX5_isFirm) := goodIn_app (goodIn_of _ (by decide +kernel)) ggX5_impress_X5_isFirm
theorem dX5_impress_0 : decode cX5_impress 0 = .ok (.iconst 0, 1) := by decide +kernel
theorem dX5_impress_1 : decode cX5_impress 1 = .ok (.istore_n 2, 1) := by decide +kernel
theorem dX5_impress_2 : decode cX5_impress 2 = .ok (.iload_n 2, 1) := by decide +kernel
theorem dX5_impress_3 : decode cX5_impress 3 = .ok (.bipush 8, 2) := by decide +kernel
theorem dX5_impress_5 : decode cX5_impress 5 = .ok (.if_icmp .ge 33, 3) := by decide +kernel
theorem dX5_impress_8 : decode cX5_impress 8 = .ok (.aload_n 0, 1) := by decide +kernel
theorem dX5_impress_9 : decode cX5_impress 9 = .ok (.getfield 11, 3) := by decide +kernel
theorem dX5_impress_12 : decode cX5_impress 12 = .ok (.iload_n 2, 1) := by decide +kernel
theorem dX5_impress_13 : decode cX5_impress 13 = .ok (.aaload, 1) := by decide +kernel
theorem dX5_impress_14 : decode cX5_impress 14 = .ok (.dup, 1) := by decide +kernel
theorem dX5_impress_15 : decode cX5_impress 15 = .ok (.getfield 107, 3) := by decide +kernel
theorem dX5_impress_18 : decode cX5_impress 18 = .ok (.aload_n 0, 1) := by decide +kernel
theorem dX5_impress_19 : decode cX5_impress 19 = .ok (.getfield 11, 3) := by decide +kernel
theorem dX5_impress_22 : decode cX5_impress 22 = .ok (.iload_n 2, 1) := by decide +kernel
theorem dX5_impress_23 : decode cX5_impress 23 = .ok (.aaload, 1) := by decide +kernel
theorem dX5_impress_24 : decode cX5_impress 24 = .ok (.aload_n 1, 1) := by decide +kernel
theorem dX5_impress_25 : decode cX5_impress 25 = .ok (.invokevirtual 120, 3) := by decide +kernel
theorem dX5_impress_28 : decode cX5_impress 28 = .ok (.iadd, 1) := by decide +kernel
theorem dX5_impress_29 : decode cX5_impress 29 = .ok (.putfield 107, 3) := by decide +kernel
theorem dX5_impress_32 : decode cX5_impress 32 = .ok (.iinc 2 1, 3) := by decide +kernel
theorem dX5_impress_35 : decode cX5_impress 35 = .ok (.goto (-33), 3) := by decide +kernel
theorem dX5_impress_38 : decode cX5_impress 38 = .ok (.aload_n 0, 1) := by decide +kernel
theorem dX5_impress_39 : decode cX5_impress 39 = .ok (.aload_n 1, 1) := by decide +kernel
theorem dX5_impress_40 : decode cX5_impress 40 = .ok (.invokevirtual 124, 3) := by decide +kernel
theorem dX5_impress_43 : decode cX5_impress 43 = .ok (.istore_n 2, 1) := by decide +kernel
theorem dX5_impress_44 : decode cX5_impress 44 = .ok (.aload_n 0, 1) := by decide +kernel
theorem dX5_impress_45 : decode cX5_impress 45 = .ok (.dup, 1) := by decide +kernel
theorem dX5_impress_46 : decode cX5_impress 46 = .ok (.getfield 29, 3) := by decide +kernel
theorem dX5_impress_49 : decode cX5_impress 49 = .ok (.iconst 1, 1) := by decide +kernel
theorem dX5_impress_50 : decode cX5_impress 50 = .ok (.iadd, 1) := by decide +kernel
theorem dX5_impress_51 : decode cX5_impress 51 = .ok (.putfield 29, 3) := by decide +kernel
theorem dX5_impress_54 : decode cX5_impress 54 = .ok (.iload_n 2, 1) := by decide +kernel
theorem dX5_impress_55 : decode cX5_impress 55 = .ok (.ifCond .ne 21, 3) := by decide +kernel
theorem dX5_impress_58 : decode cX5_impress 58 = .ok (.aload_n 0, 1) := by decide +kernel
theorem dX5_impress_59 : decode cX5_impress 59 = .ok (.aload_n 1, 1) := by decide +kernel
theorem dX5_impress_60 : decode cX5_impress 60 = .ok (.invokevirtual 127, 3) := by decide +kernel
theorem dX5_impress_63 : decode cX5_impress 63 = .ok (.ifCond .eq 13, 3) := by decide +kernel
theorem dX5_impress_66 : decode cX5_impress 66 = .ok (.aload_n 0, 1) := by decide +kernel
theorem dX5_impress_67 : decode cX5_impress 67 = .ok (.dup, 1) := by decide +kernel
theorem dX5_impress_68 : decode cX5_impress 68 = .ok (.getfield 32, 3) := by decide +kernel
theorem dX5_impress_71 : decode cX5_impress 71 = .ok (.iconst 1, 1) := by decide +kernel
theorem dX5_impress_72 : decode cX5_impress 72 = .ok (.iadd, 1) := by decide +kernel
theorem dX5_impress_73 : decode cX5_impress 73 = .ok (.putfield 32, 3) := by decide +kernel
theorem dX5_impress_76 : decode cX5_impress 76 = .ok (.return_, 1) := by decide +kernel
set_option maxRecDepth 20000 in
theorem ggX5_passDay_X3_growthInDay : GoodIn wsX5_passDay wsX3_growthInDay := goodIn_ca (goodIn_r _ [8, 9, 10, 11, 12, 7, 13, 14, 15, 16, 91, 92, 93, 94, 95, 96, 97, 98, 99, 100, 101, 81, 82, 83, 84, 85, 86, 87, 88, 89, 90] (by decide +kernel) (by decide +kernel)) (goodIn_sub (fun _ h => List.mem_cons_of_mem _ (List.mem_append_right _ h)) (by decide +kernel))
set_option maxRecDepth 20000 in
theorem gX5_passDay_X3_growthInDay : GoodIn wsX5_passDay (wsV RX5 130 RX3 yX3_growthInDay wsX3_growthInDay) := goodIn_app (goodIn_of _ (by decide +kernel)) ggX5_passDay_X3_growthInDay
set_option maxRecDepth 20000 in
theorem ggX5_passDay_X5_dropLooseRows : GoodIn wsX5_passDay wsX5_dropLooseRows := goodIn_ca (goodIn_r _ [21, 1, 22, 23, 24, 25, 26, 27, 28, 7, 29, 30, 31, 32, 33, 34, 35, 36, 37, 38, 39, 40, 41, 42, 43, 44, 45, 46, 47, 48, 49, 50, 51, 52, 53, 54, 55, 56, 20, 57, 58, 59, 2, 60, 61, 62, 63, 64, 16, 65, 66, 67, 68, 69, 70, 71, 72, 73, 74, 75, 76, 77, 78, 79, 80, 81, 82, 83, 84, 85, 86, 87, 88, 89, 90, 91, 92, 93, 94, 95, 96, 97, 98, 99, 100, 101] (by decide +kernel) (by decide +kernel)) (goodIn_sub (fun _ h => List.mem_cons_of_mem _ (List.mem_append_right _ h)) (by decide +kernel))
set_option maxRecDepth 20000 in
theorem gX5_passDay_X5_dropLooseRows : GoodIn wsX5_passDay (wsV RX5 124 RX5 yX5_dropLooseRows wsX5_dropLooseRows) := goodIn_app (goodIn_of _ (by decide +kernel)) ggX5_passDay_X5_dropLooseRows
theorem dX5_passDay_0 : decode cX5_passDay 0 = .ok (.iconst 0, 1) := by decide +kernel
theorem dX5_passDay_1 : decode cX5_passDay 1 = .ok (.istore_n 2, 1) := by decide +kernel
theorem dX5_passDay_2 : decode cX5_passDay 2 = .ok (.iload_n 2, 1) := by decide +kernel
theorem dX5_passDay_3 : decode cX5_passDay 3 = .ok (.bipush 8, 2) := by decide +kernel
theorem dX5_passDay_5 : decode cX5_passDay 5 = .ok (.if_icmp .ge 33, 3) := by decide +kernel
theorem dX5_passDay_8 : decode cX5_passDay 8 = .ok (.aload_n 0, 1) := by decide +kernel
theorem dX5_passDay_9 : decode cX5_passDay 9 = .ok (.getfield 11, 3) := by decide +kernel
theorem dX5_passDay_12 : decode cX5_passDay 12 = .ok (.iload_n 2, 1) := by decide +kernel
theorem dX5_passDay_13 : decode cX5_passDay 13 = .ok (.aaload, 1) := by decide +kernel
theorem dX5_passDay_14 : decode cX5_passDay 14 = .ok (.dup, 1) := by decide +kernel
theorem dX5_passDay_15 : decode cX5_passDay 15 = .ok (.getfield 107, 3) := by decide +kernel
theorem dX5_passDay_18 : decode cX5_passDay 18 = .ok (.aload_n 0, 1) := by decide +kernel
theorem dX5_passDay_19 : decode cX5_passDay 19 = .ok (.getfield 11, 3) := by decide +kernel
theorem dX5_passDay_22 : decode cX5_passDay 22 = .ok (.iload_n 2, 1) := by decide +kernel
theorem dX5_passDay_23 : decode cX5_passDay 23 = .ok (.aaload, 1) := by decide +kernel
theorem dX5_passDay_24 : decode cX5_passDay 24 = .ok (.aload_n 1, 1) := by decide +kernel
theorem dX5_passDay_25 : decode cX5_passDay 25 = .ok (.invokevirtual 130, 3) := by decide +kernel
theorem dX5_passDay_28 : decode cX5_passDay 28 = .ok (.iadd, 1) := by decide +kernel
theorem dX5_passDay_29 : decode cX5_passDay 29 = .ok (.putfield 107, 3) := by decide +kernel
theorem dX5_passDay_32 : decode cX5_passDay 32 = .ok (.iinc 2 1, 3) := by decide +kernel
theorem dX5_passDay_35 : decode cX5_passDay 35 = .ok (.goto (-33), 3) := by decide +kernel
theorem dX5_passDay_38 : decode cX5_passDay 38 = .ok (.aload_n 0, 1) := by decide +kernel
theorem dX5_passDay_39 : decode cX5_passDay 39 = .ok (.dup, 1) := by decide +kernel
theorem dX5_passDay_40 : decode cX5_passDay 40 = .ok (.getfield 35, 3) := by decide +kernel
theorem dX5_passDay_43 : decode cX5_passDay 43 = .ok (.iconst 1, 1) := by decide +kernel
theorem dX5_passDay_44 : decode cX5_passDay 44 = .ok (.iadd, 1) := by decide +kernel
theorem dX5_passDay_45 : decode cX5_passDay 45 = .ok (.putfield 35, 3) := by decide +kernel
theorem dX5_passDay_48 : decode cX5_passDay 48 = .ok (.aload_n 0, 1) := by decide +kernel
theorem dX5_passDay_49 : decode cX5_passDay 49 = .ok (.aload_n 1, 1) := by decide +kernel
theorem dX5_passDay_50 : decode cX5_passDay 50 = .ok (.invokevirtual 124, 3) := by decide +kernel
theorem dX5_passDay_53 : decode cX5_passDay 53 = .ok (.ireturn, 1) := by decide +kernel
set_option maxRecDepth 20000 in
theorem ggX5_dropLooseRows_X3_loosenessIn : GoodIn wsX5_dropLooseRows wsX3_loosenessIn := goodIn_r _ [10, 11, 12, 13, 14, 9, 15, 16, 17, 18, 19, 20, 21, 22, 23, 24, 25, 26, 27, 28, 29, 65, 66, 67, 68, 69, 70, 71, 72, 73, 74, 75, 76, 77, 78, 79, 80, 81, 82, 83, 84, 85] (by decide +kernel) (by decide +kernel)
set_option maxRecDepth 20000 in
theorem gX5_dropLooseRows_X3_loosenessIn : GoodIn wsX5_dropLooseRows (wsV RX5 133 RX3 yX3_loosenessIn wsX3_loosenessIn) := goodIn_app (goodIn_of _ (by decide +kernel)) ggX5_dropLooseRows_X3_loosenessIn
set_option maxRecDepth 20000 in
theorem ggX5_dropLooseRows_X3_dropBlocks : GoodIn wsX5_dropLooseRows wsX3_dropBlocks := goodIn_r _ [33, 34, 24, 65, 66, 67, 68, 69, 70, 71, 72, 73, 74] (by decide +kernel) (by decide +kernel)
set_option maxRecDepth 20000 in
theorem gX5_dropLooseRows_X3_dropBlocks : GoodIn wsX5_dropLooseRows (wsV RX5 139 RX3 yX3_dropBlocks wsX3_dropBlocks) := goodIn_app (goodIn_of _ (by decide +kernel)) ggX5_dropLooseRows_X3_dropBlocks
set_option maxRecDepth 20000 in
theorem ggX5_dropLooseRows_X5_empty : GoodIn wsX5_dropLooseRows wsX5_empty := goodIn_ca (goodIn_r _ [39, 1, 40, 41, 42, 43, 44, 45, 9, 46, 47, 25, 48, 49, 50, 51, 38, 52, 53, 54, 55, 56, 27, 28, 29, 17, 57, 58, 59, 60, 61, 62, 63, 64, 65, 66, 67, 68, 69, 70, 71, 72, 73, 74] (by decide +kernel) (by decide +kernel)) (goodIn_sub (fun _ h => List.mem_cons_of_mem _ (List.mem_append_right _ h)) (by decide +kernel))
set_option maxRecDepth 20000 in
theorem gX5_dropLooseRows_X5_empty : GoodIn wsX5_dropLooseRows (wsV RX5 142 RX5 yX5_empty wsX5_empty) := goodIn_app (goodIn_of _ (by decide +kernel)) ggX5_dropLooseRows_X5_empty
theorem dX5_dropLooseRows_0 : decode cX5_dropLooseRows 0 = .ok (.iconst 0, 1) := by decide +kernel
theorem dX5_dropLooseRows_1 : decode cX5_dropLooseRows 1 = .ok (.istore_n 2, 1) := by decide +kernel
theorem dX5_dropLooseRows_2 : decode cX5_dropLooseRows 2 = .ok (.iconst 0, 1) := by decide +kernel
theorem dX5_dropLooseRows_3 : decode cX5_dropLooseRows 3 = .ok (.istore_n 3, 1) := by decide +kernel
theorem dX5_dropLooseRows_4 : decode cX5_dropLooseRows 4 = .ok (.iload_n 3, 1) := by decide +kernel
theorem dX5_dropLooseRows_5 : decode cX5_dropLooseRows 5 = .ok (.bipush 8, 2) := by decide +kernel
theorem dX5_dropLooseRows_7 : decode cX5_dropLooseRows 7 = .ok (.if_icmp .ge 73, 3) := by decide +kernel
theorem dX5_dropLooseRows_10 : decode cX5_dropLooseRows 10 = .ok (.aload_n 0, 1) := by decide +kernel
theorem dX5_dropLooseRows_11 : decode cX5_dropLooseRows 11 = .ok (.getfield 11, 3) := by decide +kernel
theorem dX5_dropLooseRows_14 : decode cX5_dropLooseRows 14 = .ok (.iload_n 3, 1) := by decide +kernel
theorem dX5_dropLooseRows_15 : decode cX5_dropLooseRows 15 = .ok (.aaload, 1) := by decide +kernel
theorem dX5_dropLooseRows_16 : decode cX5_dropLooseRows 16 = .ok (.getfield 54, 3) := by decide +kernel
theorem dX5_dropLooseRows_19 : decode cX5_dropLooseRows 19 = .ok (.ifCond .le 55, 3) := by decide +kernel
theorem dX5_dropLooseRows_22 : decode cX5_dropLooseRows 22 = .ok (.aload_n 0, 1) := by decide +kernel
theorem dX5_dropLooseRows_23 : decode cX5_dropLooseRows 23 = .ok (.getfield 11, 3) := by decide +kernel
theorem dX5_dropLooseRows_26 : decode cX5_dropLooseRows 26 = .ok (.iload_n 3, 1) := by decide +kernel
theorem dX5_dropLooseRows_27 : decode cX5_dropLooseRows 27 = .ok (.aaload, 1) := by decide +kernel
theorem dX5_dropLooseRows_28 : decode cX5_dropLooseRows 28 = .ok (.aload_n 1, 1) := by decide +kernel
theorem dX5_dropLooseRows_29 : decode cX5_dropLooseRows 29 = .ok (.invokevirtual 133, 3) := by decide +kernel
theorem dX5_dropLooseRows_32 : decode cX5_dropLooseRows 32 = .ok (.aload_n 1, 1) := by decide +kernel
theorem dX5_dropLooseRows_33 : decode cX5_dropLooseRows 33 = .ok (.getfield 136, 3) := by decide +kernel
theorem dX5_dropLooseRows_36 : decode cX5_dropLooseRows 36 = .ok (.if_icmp .le 38, 3) := by decide +kernel
theorem dX5_dropLooseRows_39 : decode cX5_dropLooseRows 39 = .ok (.aload_n 0, 1) := by decide +kernel
theorem dX5_dropLooseRows_40 : decode cX5_dropLooseRows 40 = .ok (.dup, 1) := by decide +kernel
theorem dX5_dropLooseRows_41 : decode cX5_dropLooseRows 41 = .ok (.getfield 38, 3) := by decide +kernel
theorem dX5_dropLooseRows_44 : decode cX5_dropLooseRows 44 = .ok (.aload_n 0, 1) := by decide +kernel
theorem dX5_dropLooseRows_45 : decode cX5_dropLooseRows 45 = .ok (.getfield 11, 3) := by decide +kernel
theorem dX5_dropLooseRows_48 : decode cX5_dropLooseRows 48 = .ok (.iload_n 3, 1) := by decide +kernel
theorem dX5_dropLooseRows_49 : decode cX5_dropLooseRows 49 = .ok (.aaload, 1) := by decide +kernel
theorem dX5_dropLooseRows_50 : decode cX5_dropLooseRows 50 = .ok (.getfield 54, 3) := by decide +kernel
theorem dX5_dropLooseRows_53 : decode cX5_dropLooseRows 53 = .ok (.iadd, 1) := by decide +kernel
theorem dX5_dropLooseRows_54 : decode cX5_dropLooseRows 54 = .ok (.putfield 38, 3) := by decide +kernel
theorem dX5_dropLooseRows_57 : decode cX5_dropLooseRows 57 = .ok (.aload_n 0, 1) := by decide +kernel
theorem dX5_dropLooseRows_58 : decode cX5_dropLooseRows 58 = .ok (.getfield 11, 3) := by decide +kernel
theorem dX5_dropLooseRows_61 : decode cX5_dropLooseRows 61 = .ok (.iload_n 3, 1) := by decide +kernel
theorem dX5_dropLooseRows_62 : decode cX5_dropLooseRows 62 = .ok (.aaload, 1) := by decide +kernel
theorem dX5_dropLooseRows_63 : decode cX5_dropLooseRows 63 = .ok (.invokevirtual 139, 3) := by decide +kernel
theorem dX5_dropLooseRows_66 : decode cX5_dropLooseRows 66 = .ok (.aload_n 0, 1) := by decide +kernel
theorem dX5_dropLooseRows_67 : decode cX5_dropLooseRows 67 = .ok (.iload_n 3, 1) := by decide +kernel
theorem dX5_dropLooseRows_68 : decode cX5_dropLooseRows 68 = .ok (.invokevirtual 142, 3) := by decide +kernel
theorem dX5_dropLooseRows_71 : decode cX5_dropLooseRows 71 = .ok (.iinc 2 1, 3) := by decide +kernel
theorem dX5_dropLooseRows_74 : decode cX5_dropLooseRows 74 = .ok (.iinc 3 1, 3) := by decide +kernel
theorem dX5_dropLooseRows_77 : decode cX5_dropLooseRows 77 = .ok (.goto (-73), 3) := by decide +kernel
theorem dX5_dropLooseRows_80 : decode cX5_dropLooseRows 80 = .ok (.aload_n 0, 1) := by decide +kernel
theorem dX5_dropLooseRows_81 : decode cX5_dropLooseRows 81 = .ok (.dup, 1) := by decide +kernel
theorem dX5_dropLooseRows_82 : decode cX5_dropLooseRows 82 = .ok (.getfield 41, 3) := by decide +kernel
theorem dX5_dropLooseRows_85 : decode cX5_dropLooseRows 85 = .ok (.iload_n 2, 1) := by decide +kernel
theorem dX5_dropLooseRows_86 : decode cX5_dropLooseRows 86 = .ok (.iadd, 1) := by decide +kernel
theorem dX5_dropLooseRows_87 : decode cX5_dropLooseRows 87 = .ok (.putfield 41, 3) := by decide +kernel
theorem dX5_dropLooseRows_90 : decode cX5_dropLooseRows 90 = .ok (.iload_n 2, 1) := by decide +kernel
theorem dX5_dropLooseRows_91 : decode cX5_dropLooseRows 91 = .ok (.ireturn, 1) := by decide +kernel
set_option maxRecDepth 20000 in
theorem ggX5_isFirm_X3_isFirmIn : GoodIn wsX5_isFirm wsX3_isFirmIn := goodIn_r _ [7, 8, 9, 10, 11, 6, 12, 13, 14, 15, 16, 17, 18, 19, 20, 21, 22, 23, 24, 25, 26, 35, 36, 37, 38, 39, 40, 41, 42, 43, 44, 45, 46, 47, 48, 49, 50, 51, 52, 53, 54, 55] (by decide +kernel) (by decide +kernel)
set_option maxRecDepth 20000 in
theorem gX5_isFirm_X3_isFirmIn : GoodIn wsX5_isFirm (wsV RX5 146 RX3 yX3_isFirmIn wsX3_isFirmIn) := goodIn_app (goodIn_of _ (by decide +kernel)) ggX5_isFirm_X3_isFirmIn
theorem dX5_isFirm_0 : decode cX5_isFirm 0 = .ok (.iconst 0, 1) := by decide +kernel
theorem dX5_isFirm_1 : decode cX5_isFirm 1 = .ok (.istore_n 2, 1) := by decide +kernel
theorem dX5_isFirm_2 : decode cX5_isFirm 2 = .ok (.iload_n 2, 1) := by decide +kernel
theorem dX5_isFirm_3 : decode cX5_isFirm 3 = .ok (.bipush 8, 2) := by decide +kernel
theorem dX5_isFirm_5 : decode cX5_isFirm 5 = .ok (.if_icmp .ge 36, 3) := by decide +kernel
theorem dX5_isFirm_8 : decode cX5_isFirm 8 = .ok (.aload_n 0, 1) := by decide +kernel
theorem dX5_isFirm_9 : decode cX5_isFirm 9 = .ok (.getfield 11, 3) := by decide +kernel
theorem dX5_isFirm_12 : decode cX5_isFirm 12 = .ok (.iload_n 2, 1) := by decide +kernel
theorem dX5_isFirm_13 : decode cX5_isFirm 13 = .ok (.aaload, 1) := by decide +kernel
theorem dX5_isFirm_14 : decode cX5_isFirm 14 = .ok (.getfield 54, 3) := by decide +kernel
theorem dX5_isFirm_17 : decode cX5_isFirm 17 = .ok (.ifCond .le 18, 3) := by decide +kernel
theorem dX5_isFirm_20 : decode cX5_isFirm 20 = .ok (.aload_n 0, 1) := by decide +kernel
theorem dX5_isFirm_21 : decode cX5_isFirm 21 = .ok (.getfield 11, 3) := by decide +kernel
theorem dX5_isFirm_24 : decode cX5_isFirm 24 = .ok (.iload_n 2, 1) := by decide +kernel
theorem dX5_isFirm_25 : decode cX5_isFirm 25 = .ok (.aaload, 1) := by decide +kernel
theorem dX5_isFirm_26 : decode cX5_isFirm 26 = .ok (.aload_n 1, 1) := by decide +kernel
theorem dX5_isFirm_27 : decode cX5_isFirm 27 = .ok (.invokevirtual 146, 3) := by decide +kernel
theorem dX5_isFirm_30 : decode cX5_isFirm 30 = .ok (.ifCond .ne 5, 3) := by decide +kernel
theorem dX5_isFirm_33 : decode cX5_isFirm 33 = .ok (.iconst 0, 1) := by decide +kernel
theorem dX5_isFirm_34 : decode cX5_isFirm 34 = .ok (.ireturn, 1) := by decide +kernel
theorem dX5_isFirm_35 : decode cX5_isFirm 35 = .ok (.iinc 2 1, 3) := by decide +kernel
theorem dX5_isFirm_38 : decode cX5_isFirm 38 = .ok (.goto (-36), 3) := by decide +kernel
theorem dX5_isFirm_41 : decode cX5_isFirm 41 = .ok (.iconst 1, 1) := by decide +kernel
theorem dX5_isFirm_42 : decode cX5_isFirm 42 = .ok (.ireturn, 1) := by decide +kernel
set_option maxRecDepth 20000 in
theorem ggX6_init_X2_init : GoodIn wsX6_init wsX2_init := goodIn_r _ [34, 35, 2, 3, 36, 37, 22, 38, 39, 99, 100, 101, 102, 103, 104, 105, 106, 107] (by decide +kernel) (by decide +kernel)
set_option maxRecDepth 20000 in
theorem gX6_init_X2_init_n9 : GoodIn wsX6_init (wsX2_init) := ggX6_init_X2_init
set_option maxRecDepth 20000 in
theorem ggX6_init_X4_init : GoodIn wsX6_init wsX4_init := goodIn_r _ [41, 42, 2, 3, 43, 36, 44, 45, 46, 47, 48, 119, 120, 121, 122, 123, 124, 125, 126] (by decide +kernel) (by decide +kernel)
set_option maxRecDepth 20000 in
theorem gX6_init_X4_init_n18 : GoodIn wsX6_init (wsX4_init) := ggX6_init_X4_init
set_option maxRecDepth 20000 in
theorem ggX6_init_X0_init : GoodIn wsX6_init wsX0_init := goodIn_r _ [51, 52, 2, 3, 53, 54, 17, 18, 55, 56, 57, 58, 59, 60, 36, 61, 62, 63, 64, 65, 66, 67, 68, 69, 70, 71, 127, 128, 129, 130, 131, 132, 133, 134, 135, 136, 137, 153, 154, 155, 156, 157, 158, 159, 160, 161, 162] (by decide +kernel) (by decide +kernel)
set_option maxRecDepth 20000 in
theorem gX6_init_X0_init : GoodIn wsX6_init (wsX0_init) := ggX6_init_X0_init
set_option maxRecDepth 20000 in
theorem ggX6_init_X5_init : GoodIn wsX6_init wsX5_init := goodIn_r _ [57, 58, 2, 3, 59, 60, 36, 61, 62, 63, 64, 65, 66, 67, 68, 69, 70, 71, 130, 131, 132, 133, 134, 135, 136, 137, 153, 154, 155, 156, 157, 158, 159, 160, 161, 162] (by decide +kernel) (by decide +kernel)
set_option maxRecDepth 20000 in
theorem gX6_init_X5_init : GoodIn wsX6_init (wsX5_init) := ggX6_init_X5_init
set_option maxRecDepth 20000 in
theorem ggX6_init_J4_init_da8c8 : GoodIn wsX6_init wsJ4_init_da8c8 := goodIn_r _ [75, 76, 77, 78, 79, 80, 2, 3, 81, 82, 83, 84, 85, 86, 87, 88, 89, 90, 91, 92, 138, 139, 140, 141] (by decide +kernel) (by decide +kernel)
set_option maxRecDepth 20000 in
theorem gX6_init_J4_init_da8c8 : GoodIn wsX6_init (wsJ4_init_da8c8) := ggX6_init_J4_init_da8c8
set_option maxRecDepth 20000 in
theorem ggX6_init_X1_init : GoodIn wsX6_init wsX1_init := goodIn_r _ [94, 95, 2, 3, 22, 96, 36, 97, 98, 142, 143, 144, 145, 146, 147, 148, 149, 150, 151, 152] (by decide +kernel) (by decide +kernel)
set_option maxRecDepth 20000 in
theorem gX6_init_X1_init_n57 : GoodIn wsX6_init (wsX1_init) := ggX6_init_X1_init
theorem dX6_init_0 : decode cX6_init 0 = .ok (.aload_n 0, 1) := by decide +kernel
theorem dX6_init_1 : decode cX6_init 1 = .ok (.invokespecial 1, 3) := by decide +kernel
theorem dX6_init_4 : decode cX6_init 4 = .ok (.aload_n 0, 1) := by decide +kernel
theorem dX6_init_5 : decode cX6_init 5 = .ok (.new 7, 3) := by decide +kernel
theorem dX6_init_8 : decode cX6_init 8 = .ok (.dup, 1) := by decide +kernel
theorem dX6_init_9 : decode cX6_init 9 = .ok (.invokespecial 9, 3) := by decide +kernel
theorem dX6_init_12 : decode cX6_init 12 = .ok (.putfield 10, 3) := by decide +kernel
theorem dX6_init_15 : decode cX6_init 15 = .ok (.aload_n 0, 1) := by decide +kernel
theorem dX6_init_16 : decode cX6_init 16 = .ok (.new 16, 3) := by decide +kernel
theorem dX6_init_19 : decode cX6_init 19 = .ok (.dup, 1) := by decide +kernel
theorem dX6_init_20 : decode cX6_init 20 = .ok (.invokespecial 18, 3) := by decide +kernel
theorem dX6_init_23 : decode cX6_init 23 = .ok (.putfield 19, 3) := by decide +kernel
theorem dX6_init_26 : decode cX6_init 26 = .ok (.aload_n 0, 1) := by decide +kernel
theorem dX6_init_27 : decode cX6_init 27 = .ok (.new 23, 3) := by decide +kernel
theorem dX6_init_30 : decode cX6_init 30 = .ok (.dup, 1) := by decide +kernel
theorem dX6_init_31 : decode cX6_init 31 = .ok (.invokespecial 25, 3) := by decide +kernel
theorem dX6_init_34 : decode cX6_init 34 = .ok (.putfield 26, 3) := by decide +kernel
theorem dX6_init_37 : decode cX6_init 37 = .ok (.aload_n 0, 1) := by decide +kernel
theorem dX6_init_38 : decode cX6_init 38 = .ok (.new 30, 3) := by decide +kernel
theorem dX6_init_41 : decode cX6_init 41 = .ok (.dup, 1) := by decide +kernel
theorem dX6_init_42 : decode cX6_init 42 = .ok (.invokespecial 32, 3) := by decide +kernel
theorem dX6_init_45 : decode cX6_init 45 = .ok (.putfield 33, 3) := by decide +kernel
theorem dX6_init_48 : decode cX6_init 48 = .ok (.aload_n 0, 1) := by decide +kernel
theorem dX6_init_49 : decode cX6_init 49 = .ok (.new 30, 3) := by decide +kernel
theorem dX6_init_52 : decode cX6_init 52 = .ok (.dup, 1) := by decide +kernel
theorem dX6_init_53 : decode cX6_init 53 = .ok (.invokespecial 32, 3) := by decide +kernel
theorem dX6_init_56 : decode cX6_init 56 = .ok (.putfield 37, 3) := by decide +kernel
theorem dX6_init_59 : decode cX6_init 59 = .ok (.aload_n 0, 1) := by decide +kernel
theorem dX6_init_60 : decode cX6_init 60 = .ok (.iconst 2, 1) := by decide +kernel
theorem dX6_init_61 : decode cX6_init 61 = .ok (.anewarray 30, 3) := by decide +kernel
theorem dX6_init_64 : decode cX6_init 64 = .ok (.putfield 40, 3) := by decide +kernel
theorem dX6_init_67 : decode cX6_init 67 = .ok (.aload_n 0, 1) := by decide +kernel
theorem dX6_init_68 : decode cX6_init 68 = .ok (.iconst 2, 1) := by decide +kernel
theorem dX6_init_69 : decode cX6_init 69 = .ok (.newarray .boolean, 2) := by decide +kernel
theorem dX6_init_71 : decode cX6_init 71 = .ok (.putfield 44, 3) := by decide +kernel
theorem dX6_init_74 : decode cX6_init 74 = .ok (.aload_n 0, 1) := by decide +kernel
theorem dX6_init_75 : decode cX6_init 75 = .ok (.new 48, 3) := by decide +kernel
theorem dX6_init_78 : decode cX6_init 78 = .ok (.dup, 1) := by decide +kernel
theorem dX6_init_79 : decode cX6_init 79 = .ok (.invokespecial 50, 3) := by decide +kernel
theorem dX6_init_82 : decode cX6_init 82 = .ok (.putfield 51, 3) := by decide +kernel
theorem dX6_init_85 : decode cX6_init 85 = .ok (.aload_n 0, 1) := by decide +kernel
theorem dX6_init_86 : decode cX6_init 86 = .ok (.new 55, 3) := by decide +kernel
theorem dX6_init_89 : decode cX6_init 89 = .ok (.dup, 1) := by decide +kernel
theorem dX6_init_90 : decode cX6_init 90 = .ok (.invokespecial 57, 3) := by decide +kernel
theorem dX6_init_93 : decode cX6_init 93 = .ok (.putfield 58, 3) := by decide +kernel
theorem dX6_init_96 : decode cX6_init 96 = .ok (.aload_n 0, 1) := by decide +kernel
theorem dX6_init_97 : decode cX6_init 97 = .ok (.new 55, 3) := by decide +kernel
theorem dX6_init_100 : decode cX6_init 100 = .ok (.dup, 1) := by decide +kernel
theorem dX6_init_101 : decode cX6_init 101 = .ok (.invokespecial 57, 3) := by decide +kernel
theorem dX6_init_104 : decode cX6_init 104 = .ok (.putfield 62, 3) := by decide +kernel
theorem dX6_init_107 : decode cX6_init 107 = .ok (.iconst 0, 1) := by decide +kernel
theorem dX6_init_108 : decode cX6_init 108 = .ok (.istore_n 1, 1) := by decide +kernel
theorem dX6_init_109 : decode cX6_init 109 = .ok (.iload_n 1, 1) := by decide +kernel
theorem dX6_init_110 : decode cX6_init 110 = .ok (.iconst 2, 1) := by decide +kernel
theorem dX6_init_111 : decode cX6_init 111 = .ok (.if_icmp .ge 22, 3) := by decide +kernel
theorem dX6_init_114 : decode cX6_init 114 = .ok (.aload_n 0, 1) := by decide +kernel
theorem dX6_init_115 : decode cX6_init 115 = .ok (.getfield 40, 3) := by decide +kernel
theorem dX6_init_118 : decode cX6_init 118 = .ok (.iload_n 1, 1) := by decide +kernel
theorem dX6_init_119 : decode cX6_init 119 = .ok (.new 30, 3) := by decide +kernel
theorem dX6_init_122 : decode cX6_init 122 = .ok (.dup, 1) := by decide +kernel
theorem dX6_init_123 : decode cX6_init 123 = .ok (.invokespecial 32, 3) := by decide +kernel
theorem dX6_init_126 : decode cX6_init 126 = .ok (.aastore, 1) := by decide +kernel
theorem dX6_init_127 : decode cX6_init 127 = .ok (.iinc 1 1, 3) := by decide +kernel
theorem dX6_init_130 : decode cX6_init 130 = .ok (.goto (-21), 3) := by decide +kernel
theorem dX6_init_133 : decode cX6_init 133 = .ok (.return_, 1) := by decide +kernel
set_option maxRecDepth 20000 in
theorem ggX6_append_X2_addBytes : GoodIn wsX6_append wsX2_addBytes := goodIn_ca (goodIn_r _ [7, 8, 9, 10, 11, 6, 12, 13, 25, 26, 27, 28, 29, 30, 31, 32, 33] (by decide +kernel) (by decide +kernel)) (goodIn_sub (fun _ h => List.mem_cons_of_mem _ (List.mem_append_right _ h)) (by decide +kernel))
set_option maxRecDepth 20000 in
theorem gX6_append_X2_addBytes : GoodIn wsX6_append (wsV RX6 65 RX2 yX2_addBytes wsX2_addBytes) := goodIn_app (goodIn_of _ (by decide +kernel)) ggX6_append_X2_addBytes
theorem dX6_append_0 : decode cX6_append 0 = .ok (.aload_n 0, 1) := by decide +kernel
theorem dX6_append_1 : decode cX6_append 1 = .ok (.getfield 10, 3) := by decide +kernel
theorem dX6_append_4 : decode cX6_append 4 = .ok (.iload_n 1, 1) := by decide +kernel
theorem dX6_append_5 : decode cX6_append 5 = .ok (.iload_n 2, 1) := by decide +kernel
theorem dX6_append_6 : decode cX6_append 6 = .ok (.iload_n 3, 1) := by decide +kernel
theorem dX6_append_7 : decode cX6_append 7 = .ok (.iload 4, 2) := by decide +kernel
theorem dX6_append_9 : decode cX6_append 9 = .ok (.iload 5, 2) := by decide +kernel
theorem dX6_append_11 : decode cX6_append 11 = .ok (.invokevirtual 65, 3) := by decide +kernel
theorem dX6_append_14 : decode cX6_append 14 = .ok (.ifCond .eq 13, 3) := by decide +kernel
theorem dX6_append_17 : decode cX6_append 17 = .ok (.aload_n 0, 1) := by decide +kernel
theorem dX6_append_18 : decode cX6_append 18 = .ok (.getfield 10, 3) := by decide +kernel
theorem dX6_append_21 : decode cX6_append 21 = .ok (.getfield 69, 3) := by decide +kernel
theorem dX6_append_24 : decode cX6_append 24 = .ok (.goto 4, 3) := by decide +kernel
theorem dX6_append_27 : decode cX6_append 27 = .ok (.iconst (-1), 1) := by decide +kernel
theorem dX6_append_28 : decode cX6_append 28 = .ok (.ireturn, 1) := by decide +kernel
set_option maxRecDepth 20000 in
theorem ggX6_load_X2_readText : GoodIn wsX6_load wsX2_readText := goodIn_ca (goodIn_r _ [15, 16, 17, 18, 19, 20, 21, 22, 14, 23, 24, 25, 26, 27, 28, 29, 30, 31, 32, 33, 34, 35, 36, 37, 38, 39, 40, 41, 42, 43, 44, 45, 46, 47, 48, 49, 50, 51, 52, 53, 54, 55, 56, 57, 58, 59, 60, 61, 62, 63, 64, 65, 66, 67, 68, 69, 70, 71, 72, 73, 74, 75, 76, 77, 78, 79, 80, 81, 82, 83, 84, 85, 86, 87, 88, 89, 90, 91, 92, 93, 94, 95, 96, 97, 98, 99, 100, 101, 102, 103, 104, 105, 106, 107, 108, 109, 110, 111, 112, 113, 114, 115, 116, 117, 118, 119, 120, 121, 122, 123, 124, 125, 126, 127, 128, 129, 130, 131, 132, 133, 134, 135, 136, 137, 138, 139, 140, 141, 142, 143, 144, 145, 146, 147, 148, 149, 150, 151, 152, 153, 154, 155, 156, 157, 158, 159, 160, 161, 162, 163, 164, 165, 166, 167, 168, 169, 170, 171, 172, 173, 174, 175, 176, 177, 178, 179, 180, 181, 182, 183, 184, 185, 186, 187, 188, 189, 190, 191, 192, 193, 194, 195, 196, 197, 198, 199, 200, 201, 202, 203, 204, 205, 206, 207, 208, 209, 210, 211, 212, 213, 214, 215, 265, 266, 267, 268, 269, 270, 271, 272, 273, 274, 275, 256, 257, 258, 259, 260, 261, 262, 263, 264, 276, 277, 278, 279, 280, 281, 282, 283, 284, 285, 286, 287, 288, 289, 290, 291, 292, 293, 294, 295, 296, 297] (by decide +kernel) (by decide +kernel)) (goodIn_sub (fun _ h => List.mem_cons_of_mem _ (List.mem_append_right _ h)) (by decide +kernel))
set_option maxRecDepth 20000 in
theorem gX6_load_X2_readText : GoodIn wsX6_load (wsV RX6 80 RX2 yX2_readText wsX2_readText) := goodIn_app (goodIn_of _ (by decide +kernel)) ggX6_load_X2_readText
set_option maxRecDepth 20000 in
theorem ggX6_load_X6_takeOverText : GoodIn wsX6_load wsX6_takeOverText := goodIn_ca (goodIn_r _ [220, 9, 7, 221, 8, 222, 223, 224, 225, 226, 227, 49, 228, 51, 52, 229, 230, 231, 232, 53, 54, 55, 56, 57, 58, 233, 234, 235, 62, 236, 215, 237, 71, 72, 238, 77, 78, 79, 64, 65, 66, 239, 240, 241, 242, 243, 244, 245, 246, 247, 248, 249, 250, 251, 252, 253, 254, 255, 276, 277, 278, 279, 280, 281, 282, 283, 284, 285, 286, 287, 288, 289, 290, 291, 292, 293, 298, 299, 300] (by decide +kernel) (by decide +kernel)) (goodIn_sub (fun _ h => List.mem_cons_of_mem _ (List.mem_append_right _ h)) (by decide +kernel))
set_option maxRecDepth 20000 in
theorem gX6_load_X6_takeOverText : GoodIn wsX6_load (wsV RX6 89 RX6 yX6_takeOverText wsX6_takeOverText) := goodIn_app (goodIn_of _ (by decide +kernel)) ggX6_load_X6_takeOverText
theorem dX6_load_0 : decode cX6_load 0 = .ok (.iload_n 1, 1) := by decide +kernel
theorem dX6_load_1 : decode cX6_load 1 = .ok (.ifCond .lt 14, 3) := by decide +kernel
theorem dX6_load_4 : decode cX6_load 4 = .ok (.iload_n 1, 1) := by decide +kernel
theorem dX6_load_5 : decode cX6_load 5 = .ok (.aload_n 0, 1) := by decide +kernel
theorem dX6_load_6 : decode cX6_load 6 = .ok (.getfield 10, 3) := by decide +kernel
theorem dX6_load_9 : decode cX6_load 9 = .ok (.getfield 69, 3) := by decide +kernel
theorem dX6_load_12 : decode cX6_load 12 = .ok (.if_icmp .le 13, 3) := by decide +kernel
theorem dX6_load_15 : decode cX6_load 15 = .ok (.new 73, 3) := by decide +kernel
theorem dX6_load_18 : decode cX6_load 18 = .ok (.dup, 1) := by decide +kernel
theorem dX6_load_19 : decode cX6_load 19 = .ok (.ldc 75, 2) := by decide +kernel
theorem dX6_load_21 : decode cX6_load 21 = .ok (.invokespecial 77, 3) := by decide +kernel
theorem dX6_load_24 : decode cX6_load 24 = .ok (.athrow, 1) := by decide +kernel
theorem dX6_load_25 : decode cX6_load 25 = .ok (.aload_n 0, 1) := by decide +kernel
theorem dX6_load_26 : decode cX6_load 26 = .ok (.getfield 10, 3) := by decide +kernel
theorem dX6_load_29 : decode cX6_load 29 = .ok (.iload_n 1, 1) := by decide +kernel
theorem dX6_load_30 : decode cX6_load 30 = .ok (.aload_n 0, 1) := by decide +kernel
theorem dX6_load_31 : decode cX6_load 31 = .ok (.getfield 62, 3) := by decide +kernel
theorem dX6_load_34 : decode cX6_load 34 = .ok (.aload_n 0, 1) := by decide +kernel
theorem dX6_load_35 : decode cX6_load 35 = .ok (.getfield 37, 3) := by decide +kernel
theorem dX6_load_38 : decode cX6_load 38 = .ok (.invokevirtual 80, 3) := by decide +kernel
theorem dX6_load_41 : decode cX6_load 41 = .ok (.ifCond .ne 13, 3) := by decide +kernel
theorem dX6_load_44 : decode cX6_load 44 = .ok (.new 84, 3) := by decide +kernel
theorem dX6_load_47 : decode cX6_load 47 = .ok (.dup, 1) := by decide +kernel
theorem dX6_load_48 : decode cX6_load 48 = .ok (.ldc 86, 2) := by decide +kernel
theorem dX6_load_50 : decode cX6_load 50 = .ok (.invokespecial 88, 3) := by decide +kernel
theorem dX6_load_53 : decode cX6_load 53 = .ok (.athrow, 1) := by decide +kernel
theorem dX6_load_54 : decode cX6_load 54 = .ok (.aload_n 0, 1) := by decide +kernel
theorem dX6_load_55 : decode cX6_load 55 = .ok (.invokevirtual 89, 3) := by decide +kernel
theorem dX6_load_58 : decode cX6_load 58 = .ok (.aload_n 0, 1) := by decide +kernel
theorem dX6_load_59 : decode cX6_load 59 = .ok (.getfield 58, 3) := by decide +kernel
theorem dX6_load_62 : decode cX6_load 62 = .ok (.getfield 92, 3) := by decide +kernel
theorem dX6_load_65 : decode cX6_load 65 = .ok (.ireturn, 1) := by decide +kernel
set_option maxRecDepth 20000 in
theorem ggX6_takeOverText_X5_copyFrom : GoodIn wsX6_takeOverText wsX5_copyFrom := goodIn_r _ [12, 13, 14, 15, 16, 17, 18, 19, 20, 21, 22, 23, 24, 25, 26, 27, 28, 29, 30, 31, 32, 33, 34, 35, 36, 37, 38, 39, 40, 58, 59, 60, 61, 62, 63, 64, 65, 66, 67, 68, 69, 70, 71, 72, 73, 74, 75] (by decide +kernel) (by decide +kernel)
set_option maxRecDepth 20000 in
theorem gX6_takeOverText_X5_copyFrom : GoodIn wsX6_takeOverText (wsV RX6 95 RX5 yX5_copyFrom wsX5_copyFrom) := goodIn_app (goodIn_of _ (by decide +kernel)) ggX6_takeOverText_X5_copyFrom
set_option maxRecDepth 20000 in
theorem ggX6_takeOverText_X0_clear : GoodIn wsX6_takeOverText wsX0_clear := goodIn_r _ [45, 46, 76, 77, 78] (by decide +kernel) (by decide +kernel)
set_option maxRecDepth 20000 in
theorem gX6_takeOverText_X0_clear : GoodIn wsX6_takeOverText (wsV RX6 99 RX0 yX0_clear wsX0_clear) := goodIn_app (goodIn_of _ (by decide +kernel)) ggX6_takeOverText_X0_clear
theorem dX6_takeOverText_0 : decode cX6_takeOverText 0 = .ok (.aload_n 0, 1) := by decide +kernel
theorem dX6_takeOverText_1 : decode cX6_takeOverText 1 = .ok (.getfield 58, 3) := by decide +kernel
theorem dX6_takeOverText_4 : decode cX6_takeOverText 4 = .ok (.astore_n 1, 1) := by decide +kernel
theorem dX6_takeOverText_5 : decode cX6_takeOverText 5 = .ok (.aload_n 0, 1) := by decide +kernel
theorem dX6_takeOverText_6 : decode cX6_takeOverText 6 = .ok (.aload_n 0, 1) := by decide +kernel
theorem dX6_takeOverText_7 : decode cX6_takeOverText 7 = .ok (.getfield 62, 3) := by decide +kernel
theorem dX6_takeOverText_10 : decode cX6_takeOverText 10 = .ok (.putfield 58, 3) := by decide +kernel
theorem dX6_takeOverText_13 : decode cX6_takeOverText 13 = .ok (.aload_n 0, 1) := by decide +kernel
theorem dX6_takeOverText_14 : decode cX6_takeOverText 14 = .ok (.aload_n 1, 1) := by decide +kernel
theorem dX6_takeOverText_15 : decode cX6_takeOverText 15 = .ok (.putfield 62, 3) := by decide +kernel
theorem dX6_takeOverText_18 : decode cX6_takeOverText 18 = .ok (.aload_n 0, 1) := by decide +kernel
theorem dX6_takeOverText_19 : decode cX6_takeOverText 19 = .ok (.getfield 33, 3) := by decide +kernel
theorem dX6_takeOverText_22 : decode cX6_takeOverText 22 = .ok (.aload_n 0, 1) := by decide +kernel
theorem dX6_takeOverText_23 : decode cX6_takeOverText 23 = .ok (.getfield 37, 3) := by decide +kernel
theorem dX6_takeOverText_26 : decode cX6_takeOverText 26 = .ok (.invokevirtual 95, 3) := by decide +kernel
theorem dX6_takeOverText_29 : decode cX6_takeOverText 29 = .ok (.aload_n 0, 1) := by decide +kernel
theorem dX6_takeOverText_30 : decode cX6_takeOverText 30 = .ok (.getfield 26, 3) := by decide +kernel
theorem dX6_takeOverText_33 : decode cX6_takeOverText 33 = .ok (.invokevirtual 99, 3) := by decide +kernel
theorem dX6_takeOverText_36 : decode cX6_takeOverText 36 = .ok (.iconst 0, 1) := by decide +kernel
theorem dX6_takeOverText_37 : decode cX6_takeOverText 37 = .ok (.istore_n 2, 1) := by decide +kernel
theorem dX6_takeOverText_38 : decode cX6_takeOverText 38 = .ok (.iload_n 2, 1) := by decide +kernel
theorem dX6_takeOverText_39 : decode cX6_takeOverText 39 = .ok (.iconst 2, 1) := by decide +kernel
theorem dX6_takeOverText_40 : decode cX6_takeOverText 40 = .ok (.if_icmp .ge 16, 3) := by decide +kernel
theorem dX6_takeOverText_43 : decode cX6_takeOverText 43 = .ok (.aload_n 0, 1) := by decide +kernel
theorem dX6_takeOverText_44 : decode cX6_takeOverText 44 = .ok (.getfield 44, 3) := by decide +kernel
theorem dX6_takeOverText_47 : decode cX6_takeOverText 47 = .ok (.iload_n 2, 1) := by decide +kernel
theorem dX6_takeOverText_48 : decode cX6_takeOverText 48 = .ok (.iconst 0, 1) := by decide +kernel
theorem dX6_takeOverText_49 : decode cX6_takeOverText 49 = .ok (.bastore, 1) := by decide +kernel
theorem dX6_takeOverText_50 : decode cX6_takeOverText 50 = .ok (.iinc 2 1, 3) := by decide +kernel
theorem dX6_takeOverText_53 : decode cX6_takeOverText 53 = .ok (.goto (-15), 3) := by decide +kernel
theorem dX6_takeOverText_56 : decode cX6_takeOverText 56 = .ok (.aload_n 0, 1) := by decide +kernel
theorem dX6_takeOverText_57 : decode cX6_takeOverText 57 = .ok (.iconst 1, 1) := by decide +kernel
theorem dX6_takeOverText_58 : decode cX6_takeOverText 58 = .ok (.putfield 102, 3) := by decide +kernel
theorem dX6_takeOverText_61 : decode cX6_takeOverText 61 = .ok (.return_, 1) := by decide +kernel
theorem dX6_parseError_0 : decode cX6_parseError 0 = .ok (.aload_n 0, 1) := by decide +kernel
theorem dX6_parseError_1 : decode cX6_parseError 1 = .ok (.getfield 10, 3) := by decide +kernel
theorem dX6_parseError_4 : decode cX6_parseError 4 = .ok (.getfield 106, 3) := by decide +kernel
theorem dX6_parseError_7 : decode cX6_parseError 7 = .ok (.ireturn, 1) := by decide +kernel
theorem dX6_errorPosition_0 : decode cX6_errorPosition 0 = .ok (.aload_n 0, 1) := by decide +kernel
theorem dX6_errorPosition_1 : decode cX6_errorPosition 1 = .ok (.getfield 10, 3) := by decide +kernel
theorem dX6_errorPosition_4 : decode cX6_errorPosition 4 = .ok (.getfield 109, 3) := by decide +kernel
theorem dX6_errorPosition_7 : decode cX6_errorPosition 7 = .ok (.ireturn, 1) := by decide +kernel
theorem dX6_buffered_0 : decode cX6_buffered 0 = .ok (.aload_n 0, 1) := by decide +kernel
theorem dX6_buffered_1 : decode cX6_buffered 1 = .ok (.getfield 10, 3) := by decide +kernel
theorem dX6_buffered_4 : decode cX6_buffered 4 = .ok (.getfield 69, 3) := by decide +kernel
theorem dX6_buffered_7 : decode cX6_buffered 7 = .ok (.ireturn, 1) := by decide +kernel
set_option maxRecDepth 20000 in
theorem ggX6_count_X6_needChase : GoodIn wsX6_count wsX6_needChase := goodIn_ca (goodIn_r _ [17, 18, 19, 20, 66, 67, 68, 69, 70, 71, 72, 73, 74, 75, 76] (by decide +kernel) (by decide +kernel)) (goodIn_sub (fun _ h => List.mem_cons_of_mem _ (List.mem_append_left _ (List.mem_append_right _ h))) (by decide +kernel))
set_option maxRecDepth 20000 in
theorem gX6_count_X6_needChase : GoodIn wsX6_count (wsV RX6 112 RX6 yX6_needChase wsX6_needChase) := goodIn_app (goodIn_of _ (by decide +kernel)) ggX6_count_X6_needChase
set_option maxRecDepth 20000 in
theorem ggX6_count_X5_blocksInRows : GoodIn wsX6_count wsX5_blocksInRows := goodIn_r _ [25, 26, 27, 88, 89, 90, 91, 92, 93, 94, 95, 96, 97, 98, 99, 100, 101, 102, 103, 104, 105] (by decide +kernel) (by decide +kernel)
set_option maxRecDepth 20000 in
theorem gX6_count_X5_blocksInRows : GoodIn wsX6_count (wsV RX6 121 RX5 yX5_blocksInRows wsX5_blocksInRows) := goodIn_app (goodIn_of _ (by decide +kernel)) ggX6_count_X5_blocksInRows
set_option maxRecDepth 20000 in
theorem ggX6_count_X5_piecesInRows : GoodIn wsX6_count wsX5_piecesInRows := goodIn_r _ [31, 26, 32, 88, 89, 90, 91, 92, 93, 94, 95, 96, 97, 98, 99, 100, 101, 102, 103, 104, 105] (by decide +kernel) (by decide +kernel)
set_option maxRecDepth 20000 in
theorem gX6_count_X5_piecesInRows : GoodIn wsX6_count (wsV RX6 125 RX5 yX5_piecesInRows wsX5_piecesInRows) := goodIn_app (goodIn_of _ (by decide +kernel)) ggX6_count_X5_piecesInRows
set_option maxRecDepth 20000 in
theorem ggX6_count_X5_tightRows : GoodIn wsX6_count wsX5_tightRows := goodIn_r _ [36, 26, 37, 38, 39, 40, 41, 42, 43, 44, 45, 46, 47, 48, 49, 50, 51, 52, 53, 54, 55, 56, 57, 58, 59, 60, 88, 89, 90, 91, 92, 93, 94, 95, 96, 97, 98, 99, 100, 101, 102, 103, 104, 105, 77, 78, 79, 80, 81, 82, 83, 84, 85, 86, 87] (by decide +kernel) (by decide +kernel)
set_option maxRecDepth 20000 in
theorem gX6_count_X5_tightRows : GoodIn wsX6_count (wsV RX6 128 RX5 yX5_tightRows wsX5_tightRows) := goodIn_app (goodIn_of _ (by decide +kernel)) ggX6_count_X5_tightRows
set_option maxRecDepth 20000 in
theorem ggX6_count_X5_piecesLeft : GoodIn wsX6_count wsX5_piecesLeft := goodIn_ca (goodIn_r _ [64, 65, 88, 89, 90, 91, 92, 93, 94, 95] (by decide +kernel) (by decide +kernel)) (goodIn_sub (fun _ h => List.mem_cons_of_mem _ (List.mem_append_right _ h)) (by decide +kernel))
set_option maxRecDepth 20000 in
theorem gX6_count_X5_piecesLeft : GoodIn wsX6_count (wsV RX6 147 RX5 yX5_piecesLeft wsX5_piecesLeft) := goodIn_app (goodIn_of _ (by decide +kernel)) ggX6_count_X5_piecesLeft
theorem dX6_count_0 : decode cX6_count 0 = .ok (.aload_n 0, 1) := by decide +kernel
theorem dX6_count_1 : decode cX6_count 1 = .ok (.invokevirtual 112, 3) := by decide +kernel
theorem dX6_count_4 : decode cX6_count 4 = .ok (.iload_n 1, 1) := by decide +kernel
theorem dX6_count_5 : decode cX6_count 5 = .ok (.tableswitch 163 0 11 #[63, 71, 79, 87, 95, 103, 115, 123, 131, 139, 147, 155], 63) := by decide +kernel
theorem dX6_count_68 : decode cX6_count 68 = .ok (.aload_n 0, 1) := by decide +kernel
theorem dX6_count_69 : decode cX6_count 69 = .ok (.getfield 58, 3) := by decide +kernel
theorem dX6_count_72 : decode cX6_count 72 = .ok (.getfield 115, 3) := by decide +kernel
theorem dX6_count_75 : decode cX6_count 75 = .ok (.ireturn, 1) := by decide +kernel
theorem dX6_count_76 : decode cX6_count 76 = .ok (.aload_n 0, 1) := by decide +kernel
theorem dX6_count_77 : decode cX6_count 77 = .ok (.getfield 58, 3) := by decide +kernel
theorem dX6_count_80 : decode cX6_count 80 = .ok (.getfield 92, 3) := by decide +kernel
theorem dX6_count_83 : decode cX6_count 83 = .ok (.ireturn, 1) := by decide +kernel
theorem dX6_count_84 : decode cX6_count 84 = .ok (.aload_n 0, 1) := by decide +kernel
theorem dX6_count_85 : decode cX6_count 85 = .ok (.getfield 33, 3) := by decide +kernel
theorem dX6_count_88 : decode cX6_count 88 = .ok (.getfield 118, 3) := by decide +kernel
theorem dX6_count_91 : decode cX6_count 91 = .ok (.ireturn, 1) := by decide +kernel
theorem dX6_count_92 : decode cX6_count 92 = .ok (.aload_n 0, 1) := by decide +kernel
theorem dX6_count_93 : decode cX6_count 93 = .ok (.getfield 33, 3) := by decide +kernel
theorem dX6_count_96 : decode cX6_count 96 = .ok (.invokevirtual 121, 3) := by decide +kernel
theorem dX6_count_99 : decode cX6_count 99 = .ok (.ireturn, 1) := by decide +kernel
theorem dX6_count_100 : decode cX6_count 100 = .ok (.aload_n 0, 1) := by decide +kernel
theorem dX6_count_101 : decode cX6_count 101 = .ok (.getfield 33, 3) := by decide +kernel
theorem dX6_count_104 : decode cX6_count 104 = .ok (.invokevirtual 125, 3) := by decide +kernel
theorem dX6_count_107 : decode cX6_count 107 = .ok (.ireturn, 1) := by decide +kernel
theorem dX6_count_108 : decode cX6_count 108 = .ok (.aload_n 0, 1) := by decide +kernel
theorem dX6_count_109 : decode cX6_count 109 = .ok (.getfield 33, 3) := by decide +kernel
theorem dX6_count_112 : decode cX6_count 112 = .ok (.aload_n 0, 1) := by decide +kernel
theorem dX6_count_113 : decode cX6_count 113 = .ok (.getfield 58, 3) := by decide +kernel
theorem dX6_count_116 : decode cX6_count 116 = .ok (.invokevirtual 128, 3) := by decide +kernel
theorem dX6_count_119 : decode cX6_count 119 = .ok (.ireturn, 1) := by decide +kernel
theorem dX6_count_120 : decode cX6_count 120 = .ok (.aload_n 0, 1) := by decide +kernel
theorem dX6_count_121 : decode cX6_count 121 = .ok (.getfield 33, 3) := by decide +kernel
theorem dX6_count_124 : decode cX6_count 124 = .ok (.getfield 132, 3) := by decide +kernel
theorem dX6_count_127 : decode cX6_count 127 = .ok (.ireturn, 1) := by decide +kernel
theorem dX6_count_128 : decode cX6_count 128 = .ok (.aload_n 0, 1) := by decide +kernel
theorem dX6_count_129 : decode cX6_count 129 = .ok (.getfield 33, 3) := by decide +kernel
theorem dX6_count_132 : decode cX6_count 132 = .ok (.getfield 135, 3) := by decide +kernel
theorem dX6_count_135 : decode cX6_count 135 = .ok (.ireturn, 1) := by decide +kernel
theorem dX6_count_136 : decode cX6_count 136 = .ok (.aload_n 0, 1) := by decide +kernel
theorem dX6_count_137 : decode cX6_count 137 = .ok (.getfield 33, 3) := by decide +kernel
theorem dX6_count_140 : decode cX6_count 140 = .ok (.getfield 138, 3) := by decide +kernel
theorem dX6_count_143 : decode cX6_count 143 = .ok (.ireturn, 1) := by decide +kernel
theorem dX6_count_144 : decode cX6_count 144 = .ok (.aload_n 0, 1) := by decide +kernel
theorem dX6_count_145 : decode cX6_count 145 = .ok (.getfield 33, 3) := by decide +kernel
theorem dX6_count_148 : decode cX6_count 148 = .ok (.getfield 141, 3) := by decide +kernel
theorem dX6_count_151 : decode cX6_count 151 = .ok (.ireturn, 1) := by decide +kernel
theorem dX6_count_152 : decode cX6_count 152 = .ok (.aload_n 0, 1) := by decide +kernel
theorem dX6_count_153 : decode cX6_count 153 = .ok (.getfield 33, 3) := by decide +kernel
theorem dX6_count_156 : decode cX6_count 156 = .ok (.getfield 144, 3) := by decide +kernel
theorem dX6_count_159 : decode cX6_count 159 = .ok (.ireturn, 1) := by decide +kernel
theorem dX6_count_160 : decode cX6_count 160 = .ok (.aload_n 0, 1) := by decide +kernel
theorem dX6_count_161 : decode cX6_count 161 = .ok (.getfield 33, 3) := by decide +kernel
theorem dX6_count_164 : decode cX6_count 164 = .ok (.invokevirtual 147, 3) := by decide +kernel
theorem dX6_count_167 : decode cX6_count 167 = .ok (.ireturn, 1) := by decide +kernel
theorem dX6_count_168 : decode cX6_count 168 = .ok (.new 84, 3) := by decide +kernel
theorem dX6_count_171 : decode cX6_count 171 = .ok (.dup, 1) := by decide +kernel
theorem dX6_count_172 : decode cX6_count 172 = .ok (.ldc 150, 2) := by decide +kernel
theorem dX6_count_174 : decode cX6_count 174 = .ok (.invokespecial 88, 3) := by decide +kernel
theorem dX6_count_177 : decode cX6_count 177 = .ok (.athrow, 1) := by decide +kernel
set_option maxRecDepth 20000 in
theorem ggX6_setting_X6_needChase : GoodIn wsX6_setting wsX6_needChase := goodIn_ca (goodIn_r _ [14, 15, 16, 17, 18, 19, 20, 21, 22, 23, 24, 25, 26, 27, 28] (by decide +kernel) (by decide +kernel)) (goodIn_sub (fun _ h => List.mem_cons_of_mem _ (List.mem_append_right _ h)) (by decide +kernel))
set_option maxRecDepth 20000 in
theorem gX6_setting_X6_needChase : GoodIn wsX6_setting (wsV RX6 112 RX6 yX6_needChase wsX6_needChase) := goodIn_app (goodIn_of _ (by decide +kernel)) ggX6_setting_X6_needChase
theorem dX6_setting_0 : decode cX6_setting 0 = .ok (.aload_n 0, 1) := by decide +kernel
theorem dX6_setting_1 : decode cX6_setting 1 = .ok (.invokevirtual 112, 3) := by decide +kernel
theorem dX6_setting_4 : decode cX6_setting 4 = .ok (.iload_n 1, 1) := by decide +kernel
theorem dX6_setting_5 : decode cX6_setting 5 = .ok (.tableswitch 87 0 5 #[39, 47, 55, 63, 71, 79], 39) := by decide +kernel
theorem dX6_setting_44 : decode cX6_setting 44 = .ok (.aload_n 0, 1) := by decide +kernel
theorem dX6_setting_45 : decode cX6_setting 45 = .ok (.getfield 58, 3) := by decide +kernel
theorem dX6_setting_48 : decode cX6_setting 48 = .ok (.getfield 152, 3) := by decide +kernel
theorem dX6_setting_51 : decode cX6_setting 51 = .ok (.ireturn, 1) := by decide +kernel
theorem dX6_setting_52 : decode cX6_setting 52 = .ok (.aload_n 0, 1) := by decide +kernel
theorem dX6_setting_53 : decode cX6_setting 53 = .ok (.getfield 58, 3) := by decide +kernel
theorem dX6_setting_56 : decode cX6_setting 56 = .ok (.getfield 155, 3) := by decide +kernel
theorem dX6_setting_59 : decode cX6_setting 59 = .ok (.ireturn, 1) := by decide +kernel
theorem dX6_setting_60 : decode cX6_setting 60 = .ok (.aload_n 0, 1) := by decide +kernel
theorem dX6_setting_61 : decode cX6_setting 61 = .ok (.getfield 58, 3) := by decide +kernel
theorem dX6_setting_64 : decode cX6_setting 64 = .ok (.getfield 158, 3) := by decide +kernel
theorem dX6_setting_67 : decode cX6_setting 67 = .ok (.ireturn, 1) := by decide +kernel
theorem dX6_setting_68 : decode cX6_setting 68 = .ok (.aload_n 0, 1) := by decide +kernel
theorem dX6_setting_69 : decode cX6_setting 69 = .ok (.getfield 58, 3) := by decide +kernel
theorem dX6_setting_72 : decode cX6_setting 72 = .ok (.getfield 161, 3) := by decide +kernel
theorem dX6_setting_75 : decode cX6_setting 75 = .ok (.ireturn, 1) := by decide +kernel
theorem dX6_setting_76 : decode cX6_setting 76 = .ok (.aload_n 0, 1) := by decide +kernel
theorem dX6_setting_77 : decode cX6_setting 77 = .ok (.getfield 58, 3) := by decide +kernel
theorem dX6_setting_80 : decode cX6_setting 80 = .ok (.getfield 164, 3) := by decide +kernel
theorem dX6_setting_83 : decode cX6_setting 83 = .ok (.ireturn, 1) := by decide +kernel
theorem dX6_setting_84 : decode cX6_setting 84 = .ok (.aload_n 0, 1) := by decide +kernel
theorem dX6_setting_85 : decode cX6_setting 85 = .ok (.getfield 58, 3) := by decide +kernel
theorem dX6_setting_88 : decode cX6_setting 88 = .ok (.getfield 167, 3) := by decide +kernel
theorem dX6_setting_91 : decode cX6_setting 91 = .ok (.ireturn, 1) := by decide +kernel
theorem dX6_setting_92 : decode cX6_setting 92 = .ok (.new 84, 3) := by decide +kernel
theorem dX6_setting_95 : decode cX6_setting 95 = .ok (.dup, 1) := by decide +kernel
theorem dX6_setting_96 : decode cX6_setting 96 = .ok (.ldc 170, 2) := by decide +kernel
theorem dX6_setting_98 : decode cX6_setting 98 = .ok (.invokespecial 88, 3) := by decide +kernel
theorem dX6_setting_101 : decode cX6_setting 101 = .ok (.athrow, 1) := by decide +kernel
set_option maxRecDepth 20000 in
theorem ggX6_row_X6_needRow : GoodIn wsX6_row wsX6_needRow := goodIn_ca (goodIn_ca (goodIn_r _ [15, 16, 17, 5, 18, 19, 20, 21, 22, 23, 14, 24, 25, 26, 27, 65, 66, 67, 68, 69, 70, 71, 72, 73, 74, 75, 76, 77, 78, 79, 80, 81, 82, 83, 84, 85, 86, 87, 88, 89, 90, 91, 92, 93, 94] (by decide +kernel) (by decide +kernel)) (goodIn_sub (fun _ h => List.mem_cons_of_mem _ (List.mem_append_left _ (List.mem_append_left _ (List.mem_append_right _ h)))) (by decide +kernel))) (goodIn_sub (fun _ h => List.mem_cons_of_mem _ (List.mem_append_left _ (List.mem_append_right _ h))) (by decide +kernel))
set_option maxRecDepth 20000 in
theorem gX6_row_X6_needRow : GoodIn wsX6_row (wsV RX6 172 RX6 yX6_needRow wsX6_needRow) := goodIn_app (goodIn_of _ (by decide +kernel)) ggX6_row_X6_needRow
set_option maxRecDepth 20000 in
theorem ggX6_row_X3_gapIn : GoodIn wsX6_row wsX3_gapIn := goodIn_r _ [32, 33, 34, 35, 36, 37, 38, 31, 39, 40, 41, 42, 43, 44, 45, 46, 76, 77, 78, 79, 80, 81, 82, 83, 84, 85, 86, 55, 56, 57, 58, 59, 60, 61, 62, 63, 64] (by decide +kernel) (by decide +kernel)
set_option maxRecDepth 20000 in
theorem gX6_row_X3_gapIn : GoodIn wsX6_row (wsV RX6 184 RX3 yX3_gapIn wsX3_gapIn) := goodIn_app (goodIn_of _ (by decide +kernel)) ggX6_row_X3_gapIn
set_option maxRecDepth 20000 in
theorem ggX6_row_X3_woodIn : GoodIn wsX6_row wsX3_woodIn := goodIn_ca (goodIn_r _ [50, 51, 52, 53, 76, 77, 78, 79, 80, 81, 82, 83, 84, 85, 86, 55, 56, 57, 58, 59, 60, 61, 62, 63, 64] (by decide +kernel) (by decide +kernel)) (goodIn_sub (fun _ h => List.mem_cons_of_mem _ (List.mem_append_right _ h)) (by decide +kernel))
set_option maxRecDepth 20000 in
theorem gX6_row_X3_woodIn : GoodIn wsX6_row (wsV RX6 193 RX3 yX3_woodIn wsX3_woodIn) := goodIn_app (goodIn_of _ (by decide +kernel)) ggX6_row_X3_woodIn
set_option maxRecDepth 20000 in
theorem ggX6_row_X3_hasQuoin : GoodIn wsX6_row wsX3_hasQuoin := goodIn_r _ [46, 34, 55, 56, 57, 58, 59, 60, 61, 62, 63, 64] (by decide +kernel) (by decide +kernel)
set_option maxRecDepth 20000 in
theorem gX6_row_X3_hasQuoin : GoodIn wsX6_row (wsV RX6 199 RX3 yX3_hasQuoin wsX3_hasQuoin) := goodIn_app (goodIn_of _ (by decide +kernel)) ggX6_row_X3_hasQuoin
theorem dX6_row_0 : decode cX6_row 0 = .ok (.aload_n 0, 1) := by decide +kernel
theorem dX6_row_1 : decode cX6_row 1 = .ok (.iload_n 1, 1) := by decide +kernel
theorem dX6_row_2 : decode cX6_row 2 = .ok (.invokevirtual 172, 3) := by decide +kernel
theorem dX6_row_5 : decode cX6_row 5 = .ok (.astore_n 3, 1) := by decide +kernel
theorem dX6_row_6 : decode cX6_row 6 = .ok (.iload_n 2, 1) := by decide +kernel
theorem dX6_row_7 : decode cX6_row 7 = .ok (.tableswitch 125 0 8 #[49, 54, 59, 76, 85, 90, 95, 104, 109], 49) := by decide +kernel
theorem dX6_row_56 : decode cX6_row 56 = .ok (.aload_n 3, 1) := by decide +kernel
theorem dX6_row_57 : decode cX6_row 57 = .ok (.getfield 176, 3) := by decide +kernel
theorem dX6_row_60 : decode cX6_row 60 = .ok (.ireturn, 1) := by decide +kernel
theorem dX6_row_61 : decode cX6_row 61 = .ok (.aload_n 3, 1) := by decide +kernel
theorem dX6_row_62 : decode cX6_row 62 = .ok (.getfield 181, 3) := by decide +kernel
theorem dX6_row_65 : decode cX6_row 65 = .ok (.ireturn, 1) := by decide +kernel
theorem dX6_row_66 : decode cX6_row 66 = .ok (.aload_n 0, 1) := by decide +kernel
theorem dX6_row_67 : decode cX6_row 67 = .ok (.getfield 58, 3) := by decide +kernel
theorem dX6_row_70 : decode cX6_row 70 = .ok (.getfield 152, 3) := by decide +kernel
theorem dX6_row_73 : decode cX6_row 73 = .ok (.aload_n 3, 1) := by decide +kernel
theorem dX6_row_74 : decode cX6_row 74 = .ok (.aload_n 0, 1) := by decide +kernel
theorem dX6_row_75 : decode cX6_row 75 = .ok (.getfield 58, 3) := by decide +kernel
theorem dX6_row_78 : decode cX6_row 78 = .ok (.invokevirtual 184, 3) := by decide +kernel
theorem dX6_row_81 : decode cX6_row 81 = .ok (.isub, 1) := by decide +kernel
theorem dX6_row_82 : decode cX6_row 82 = .ok (.ireturn, 1) := by decide +kernel
theorem dX6_row_83 : decode cX6_row 83 = .ok (.aload_n 3, 1) := by decide +kernel
theorem dX6_row_84 : decode cX6_row 84 = .ok (.aload_n 0, 1) := by decide +kernel
theorem dX6_row_85 : decode cX6_row 85 = .ok (.getfield 58, 3) := by decide +kernel
theorem dX6_row_88 : decode cX6_row 88 = .ok (.invokevirtual 184, 3) := by decide +kernel
theorem dX6_row_91 : decode cX6_row 91 = .ok (.ireturn, 1) := by decide +kernel
theorem dX6_row_92 : decode cX6_row 92 = .ok (.aload_n 3, 1) := by decide +kernel
theorem dX6_row_93 : decode cX6_row 93 = .ok (.getfield 187, 3) := by decide +kernel
theorem dX6_row_96 : decode cX6_row 96 = .ok (.ireturn, 1) := by decide +kernel
theorem dX6_row_97 : decode cX6_row 97 = .ok (.aload_n 3, 1) := by decide +kernel
theorem dX6_row_98 : decode cX6_row 98 = .ok (.getfield 190, 3) := by decide +kernel
theorem dX6_row_101 : decode cX6_row 101 = .ok (.ireturn, 1) := by decide +kernel
theorem dX6_row_102 : decode cX6_row 102 = .ok (.aload_n 3, 1) := by decide +kernel
theorem dX6_row_103 : decode cX6_row 103 = .ok (.aload_n 0, 1) := by decide +kernel
theorem dX6_row_104 : decode cX6_row 104 = .ok (.getfield 58, 3) := by decide +kernel
theorem dX6_row_107 : decode cX6_row 107 = .ok (.invokevirtual 193, 3) := by decide +kernel
theorem dX6_row_110 : decode cX6_row 110 = .ok (.ireturn, 1) := by decide +kernel
theorem dX6_row_111 : decode cX6_row 111 = .ok (.aload_n 3, 1) := by decide +kernel
theorem dX6_row_112 : decode cX6_row 112 = .ok (.getfield 196, 3) := by decide +kernel
theorem dX6_row_115 : decode cX6_row 115 = .ok (.ireturn, 1) := by decide +kernel
theorem dX6_row_116 : decode cX6_row 116 = .ok (.aload_n 3, 1) := by decide +kernel
theorem dX6_row_117 : decode cX6_row 117 = .ok (.invokevirtual 199, 3) := by decide +kernel
theorem dX6_row_120 : decode cX6_row 120 = .ok (.ifCond .eq 10, 3) := by decide +kernel
theorem dX6_row_123 : decode cX6_row 123 = .ok (.aload_n 3, 1) := by decide +kernel
theorem dX6_row_124 : decode cX6_row 124 = .ok (.getfield 203, 3) := by decide +kernel
theorem dX6_row_127 : decode cX6_row 127 = .ok (.goto 4, 3) := by decide +kernel
theorem dX6_row_130 : decode cX6_row 130 = .ok (.iconst (-1), 1) := by decide +kernel
theorem dX6_row_131 : decode cX6_row 131 = .ok (.ireturn, 1) := by decide +kernel
theorem dX6_row_132 : decode cX6_row 132 = .ok (.new 84, 3) := by decide +kernel
theorem dX6_row_135 : decode cX6_row 135 = .ok (.dup, 1) := by decide +kernel
theorem dX6_row_136 : decode cX6_row 136 = .ok (.ldc 206, 2) := by decide +kernel
theorem dX6_row_138 : decode cX6_row 138 = .ok (.invokespecial 88, 3) := by decide +kernel
theorem dX6_row_141 : decode cX6_row 141 = .ok (.athrow, 1) := by decide +kernel
set_option maxRecDepth 20000 in
theorem ggX6_block_X6_needRow : GoodIn wsX6_block wsX6_needRow := goodIn_ca (goodIn_ca (goodIn_r _ [6, 7, 8, 9, 10, 11, 12, 13, 14, 15, 5, 16, 17, 18, 19, 40, 41, 42, 43, 44, 45, 46, 47, 48, 49, 50, 51, 52, 53, 54, 55, 56, 57, 58, 59, 60, 61, 62, 63, 64, 65, 66, 67, 68, 69] (by decide +kernel) (by decide +kernel)) (goodIn_sub (fun _ h => List.mem_cons_of_mem _ (List.mem_append_left _ (List.mem_append_left _ (List.mem_append_right _ h)))) (by decide +kernel))) (goodIn_sub (fun _ h => List.mem_cons_of_mem _ (List.mem_append_left _ (List.mem_append_right _ h))) (by decide +kernel))
set_option maxRecDepth 20000 in
theorem gX6_block_X6_needRow : GoodIn wsX6_block (wsV RX6 172 RX6 yX6_needRow wsX6_needRow) := goodIn_app (goodIn_of _ (by decide +kernel)) ggX6_block_X6_needRow
set_option maxRecDepth 20000 in
theorem ggX6_block_X6_needIndex : GoodIn wsX6_block wsX6_needIndex := goodIn_ca (goodIn_r _ [22, 7, 8] (by decide +kernel) (by decide +kernel)) (goodIn_sub (fun _ h => List.mem_cons_of_mem _ (List.mem_append_left _ (List.mem_append_left _ (List.mem_append_right _ h)))) (by decide +kernel))
set_option maxRecDepth 20000 in
theorem gX6_block_X6_needIndex : GoodIn wsX6_block (va_wsS RX6 208 yX6_needIndex wsX6_needIndex) := goodIn_app (goodIn_of _ (by decide +kernel)) ggX6_block_X6_needIndex
set_option maxRecDepth 20000 in
theorem ggX6_block_X3_blockAt : GoodIn wsX6_block wsX3_blockAt := goodIn_ca (goodIn_r _ [27, 28, 29, 30, 31, 32, 33, 34, 35, 36, 37, 38, 39] (by decide +kernel) (by decide +kernel)) (goodIn_sub (fun _ h => List.mem_cons_of_mem _ (List.mem_append_right _ h)) (by decide +kernel))
set_option maxRecDepth 20000 in
theorem gX6_block_X3_blockAt : GoodIn wsX6_block (wsV RX6 212 RX3 yX3_blockAt wsX3_blockAt) := goodIn_app (goodIn_of _ (by decide +kernel)) ggX6_block_X3_blockAt
theorem dX6_block_0 : decode cX6_block 0 = .ok (.aload_n 0, 1) := by decide +kernel
theorem dX6_block_1 : decode cX6_block 1 = .ok (.iload_n 1, 1) := by decide +kernel
theorem dX6_block_2 : decode cX6_block 2 = .ok (.invokevirtual 172, 3) := by decide +kernel
theorem dX6_block_5 : decode cX6_block 5 = .ok (.astore_n 3, 1) := by decide +kernel
theorem dX6_block_6 : decode cX6_block 6 = .ok (.iload_n 2, 1) := by decide +kernel
theorem dX6_block_7 : decode cX6_block 7 = .ok (.aload_n 3, 1) := by decide +kernel
theorem dX6_block_8 : decode cX6_block 8 = .ok (.getfield 176, 3) := by decide +kernel
theorem dX6_block_11 : decode cX6_block 11 = .ok (.invokestatic 208, 3) := by decide +kernel
theorem dX6_block_14 : decode cX6_block 14 = .ok (.aload_n 3, 1) := by decide +kernel
theorem dX6_block_15 : decode cX6_block 15 = .ok (.iload_n 2, 1) := by decide +kernel
theorem dX6_block_16 : decode cX6_block 16 = .ok (.invokevirtual 212, 3) := by decide +kernel
theorem dX6_block_19 : decode cX6_block 19 = .ok (.ireturn, 1) := by decide +kernel
set_option maxRecDepth 20000 in
theorem ggX6_piece_X6_needRow : GoodIn wsX6_piece wsX6_needRow := goodIn_ca (goodIn_ca (goodIn_r _ [6, 7, 8, 9, 10, 11, 12, 13, 14, 15, 5, 16, 17, 18, 19, 40, 41, 42, 43, 44, 45, 46, 47, 48, 49, 50, 51, 52, 53, 54, 55, 56, 57, 58, 59, 60, 61, 62, 63, 64, 65, 66, 67, 68, 69] (by decide +kernel) (by decide +kernel)) (goodIn_sub (fun _ h => List.mem_cons_of_mem _ (List.mem_append_left _ (List.mem_append_left _ (List.mem_append_right _ h)))) (by decide +kernel))) (goodIn_sub (fun _ h => List.mem_cons_of_mem _ (List.mem_append_left _ (List.mem_append_right _ h))) (by decide +kernel))
set_option maxRecDepth 20000 in
theorem gX6_piece_X6_needRow : GoodIn wsX6_piece (wsV RX6 172 RX6 yX6_needRow wsX6_needRow) := goodIn_app (goodIn_of _ (by decide +kernel)) ggX6_piece_X6_needRow
set_option maxRecDepth 20000 in
theorem ggX6_piece_X6_needIndex : GoodIn wsX6_piece wsX6_needIndex := goodIn_ca (goodIn_r _ [22, 7, 8] (by decide +kernel) (by decide +kernel)) (goodIn_sub (fun _ h => List.mem_cons_of_mem _ (List.mem_append_left _ (List.mem_append_left _ (List.mem_append_right _ h)))) (by decide +kernel))
set_option maxRecDepth 20000 in
theorem gX6_piece_X6_needIndex : GoodIn wsX6_piece (va_wsS RX6 208 yX6_needIndex wsX6_needIndex) := goodIn_app (goodIn_of _ (by decide +kernel)) ggX6_piece_X6_needIndex
set_option maxRecDepth 20000 in
theorem ggX6_piece_X3_pieceAt : GoodIn wsX6_piece wsX3_pieceAt := goodIn_ca (goodIn_r _ [27, 28, 29, 30, 31, 32, 33, 34, 35, 36, 37, 38, 39] (by decide +kernel) (by decide +kernel)) (goodIn_sub (fun _ h => List.mem_cons_of_mem _ (List.mem_append_right _ h)) (by decide +kernel))
set_option maxRecDepth 20000 in
theorem gX6_piece_X3_pieceAt : GoodIn wsX6_piece (wsV RX6 216 RX3 yX3_pieceAt wsX3_pieceAt) := goodIn_app (goodIn_of _ (by decide +kernel)) ggX6_piece_X3_pieceAt
theorem dX6_piece_0 : decode cX6_piece 0 = .ok (.aload_n 0, 1) := by decide +kernel
theorem dX6_piece_1 : decode cX6_piece 1 = .ok (.iload_n 1, 1) := by decide +kernel
theorem dX6_piece_2 : decode cX6_piece 2 = .ok (.invokevirtual 172, 3) := by decide +kernel
theorem dX6_piece_5 : decode cX6_piece 5 = .ok (.astore_n 3, 1) := by decide +kernel
theorem dX6_piece_6 : decode cX6_piece 6 = .ok (.iload_n 2, 1) := by decide +kernel
theorem dX6_piece_7 : decode cX6_piece 7 = .ok (.aload_n 3, 1) := by decide +kernel
theorem dX6_piece_8 : decode cX6_piece 8 = .ok (.getfield 181, 3) := by decide +kernel
theorem dX6_piece_11 : decode cX6_piece 11 = .ok (.invokestatic 208, 3) := by decide +kernel
theorem dX6_piece_14 : decode cX6_piece 14 = .ok (.aload_n 3, 1) := by decide +kernel
theorem dX6_piece_15 : decode cX6_piece 15 = .ok (.iload_n 2, 1) := by decide +kernel
theorem dX6_piece_16 : decode cX6_piece 16 = .ok (.invokevirtual 216, 3) := by decide +kernel
theorem dX6_piece_19 : decode cX6_piece 19 = .ok (.ireturn, 1) := by decide +kernel
set_option maxRecDepth 20000 in
theorem ggX6_kind_X6_needChase : GoodIn wsX6_kind wsX6_needChase := goodIn_ca (goodIn_r _ [12, 13, 14, 15, 30, 31, 32, 33, 34, 35, 36, 37, 38, 39, 40] (by decide +kernel) (by decide +kernel)) (goodIn_sub (fun _ h => List.mem_cons_of_mem _ (List.mem_append_left _ (List.mem_append_right _ h))) (by decide +kernel))
set_option maxRecDepth 20000 in
theorem gX6_kind_X6_needChase : GoodIn wsX6_kind (wsV RX6 112 RX6 yX6_needChase wsX6_needChase) := goodIn_app (goodIn_of _ (by decide +kernel)) ggX6_kind_X6_needChase
set_option maxRecDepth 20000 in
theorem ggX6_kind_X6_needKind : GoodIn wsX6_kind wsX6_needKind := goodIn_ca (goodIn_r _ [19, 20, 21, 3, 22, 30, 31, 32, 33, 34, 35, 36, 37, 38, 39, 40, 41, 42, 43, 44, 45, 46, 47, 48, 49, 50, 51] (by decide +kernel) (by decide +kernel)) (goodIn_sub (fun _ h => List.mem_cons_of_mem _ (List.mem_append_right _ h)) (by decide +kernel))
set_option maxRecDepth 20000 in
theorem gX6_kind_X6_needKind : GoodIn wsX6_kind (wsV RX6 219 RX6 yX6_needKind wsX6_needKind) := goodIn_app (goodIn_of _ (by decide +kernel)) ggX6_kind_X6_needKind
set_option maxRecDepth 20000 in
theorem ggX6_kind_X5_inRows : GoodIn wsX6_kind wsX5_inRows := goodIn_ca (goodIn_r _ [27, 28, 29, 52, 53, 54, 55, 56, 57, 58, 59, 60, 61, 62, 63, 64, 65, 66, 67, 68, 69] (by decide +kernel) (by decide +kernel)) (goodIn_sub (fun _ h => List.mem_cons_of_mem _ (List.mem_append_left _ (List.mem_append_left _ (List.mem_append_left _ (List.mem_append_right _ h))))) (by decide +kernel))
set_option maxRecDepth 20000 in
theorem gX6_kind_X5_inRows : GoodIn wsX6_kind (wsV RX6 233 RX5 yX5_inRows wsX5_inRows) := goodIn_app (goodIn_of _ (by decide +kernel)) ggX6_kind_X5_inRows
theorem dX6_kind_0 : decode cX6_kind 0 = .ok (.aload_n 0, 1) := by decide +kernel
theorem dX6_kind_1 : decode cX6_kind 1 = .ok (.invokevirtual 112, 3) := by decide +kernel
theorem dX6_kind_4 : decode cX6_kind 4 = .ok (.aload_n 0, 1) := by decide +kernel
theorem dX6_kind_5 : decode cX6_kind 5 = .ok (.iload_n 1, 1) := by decide +kernel
theorem dX6_kind_6 : decode cX6_kind 6 = .ok (.invokevirtual 219, 3) := by decide +kernel
theorem dX6_kind_9 : decode cX6_kind 9 = .ok (.iload_n 2, 1) := by decide +kernel
theorem dX6_kind_10 : decode cX6_kind 10 = .ok (.tableswitch 77 0 3 #[30, 48, 58, 68], 30) := by decide +kernel
theorem dX6_kind_40 : decode cX6_kind 40 = .ok (.aload_n 0, 1) := by decide +kernel
theorem dX6_kind_41 : decode cX6_kind 41 = .ok (.getfield 58, 3) := by decide +kernel
theorem dX6_kind_44 : decode cX6_kind 44 = .ok (.getfield 223, 3) := by decide +kernel
theorem dX6_kind_47 : decode cX6_kind 47 = .ok (.iload_n 1, 1) := by decide +kernel
theorem dX6_kind_48 : decode cX6_kind 48 = .ok (.baload, 1) := by decide +kernel
theorem dX6_kind_49 : decode cX6_kind 49 = .ok (.ifCond .eq 7, 3) := by decide +kernel
theorem dX6_kind_52 : decode cX6_kind 52 = .ok (.iconst 1, 1) := by decide +kernel
theorem dX6_kind_53 : decode cX6_kind 53 = .ok (.goto 4, 3) := by decide +kernel
theorem dX6_kind_56 : decode cX6_kind 56 = .ok (.iconst 0, 1) := by decide +kernel
theorem dX6_kind_57 : decode cX6_kind 57 = .ok (.ireturn, 1) := by decide +kernel
theorem dX6_kind_58 : decode cX6_kind 58 = .ok (.aload_n 0, 1) := by decide +kernel
theorem dX6_kind_59 : decode cX6_kind 59 = .ok (.getfield 58, 3) := by decide +kernel
theorem dX6_kind_62 : decode cX6_kind 62 = .ok (.getfield 226, 3) := by decide +kernel
theorem dX6_kind_65 : decode cX6_kind 65 = .ok (.iload_n 1, 1) := by decide +kernel
theorem dX6_kind_66 : decode cX6_kind 66 = .ok (.iaload, 1) := by decide +kernel
theorem dX6_kind_67 : decode cX6_kind 67 = .ok (.ireturn, 1) := by decide +kernel
theorem dX6_kind_68 : decode cX6_kind 68 = .ok (.aload_n 0, 1) := by decide +kernel
theorem dX6_kind_69 : decode cX6_kind 69 = .ok (.getfield 33, 3) := by decide +kernel
theorem dX6_kind_72 : decode cX6_kind 72 = .ok (.getfield 230, 3) := by decide +kernel
theorem dX6_kind_75 : decode cX6_kind 75 = .ok (.iload_n 1, 1) := by decide +kernel
theorem dX6_kind_76 : decode cX6_kind 76 = .ok (.iaload, 1) := by decide +kernel
theorem dX6_kind_77 : decode cX6_kind 77 = .ok (.ireturn, 1) := by decide +kernel
theorem dX6_kind_78 : decode cX6_kind 78 = .ok (.aload_n 0, 1) := by decide +kernel
theorem dX6_kind_79 : decode cX6_kind 79 = .ok (.getfield 33, 3) := by decide +kernel
theorem dX6_kind_82 : decode cX6_kind 82 = .ok (.iload_n 1, 1) := by decide +kernel
theorem dX6_kind_83 : decode cX6_kind 83 = .ok (.invokevirtual 233, 3) := by decide +kernel
theorem dX6_kind_86 : decode cX6_kind 86 = .ok (.ireturn, 1) := by decide +kernel
theorem dX6_kind_87 : decode cX6_kind 87 = .ok (.new 84, 3) := by decide +kernel
theorem dX6_kind_90 : decode cX6_kind 90 = .ok (.dup, 1) := by decide +kernel
theorem dX6_kind_91 : decode cX6_kind 91 = .ok (.ldc 236, 2) := by decide +kernel
theorem dX6_kind_93 : decode cX6_kind 93 = .ok (.invokespecial 88, 3) := by decide +kernel
theorem dX6_kind_96 : decode cX6_kind 96 = .ok (.athrow, 1) := by decide +kernel
set_option maxRecDepth 20000 in
theorem ggX6_kindOf_X6_needChase : GoodIn wsX6_kindOf wsX6_needChase := goodIn_ca (goodIn_r _ [6, 7, 8, 9, 18, 19, 20, 21, 22, 23, 24, 25, 26, 27, 28] (by decide +kernel) (by decide +kernel)) (goodIn_sub (fun _ h => List.mem_cons_of_mem _ (List.mem_append_left _ (List.mem_append_right _ h))) (by decide +kernel))
set_option maxRecDepth 20000 in
theorem gX6_kindOf_X6_needChase : GoodIn wsX6_kindOf (wsV RX6 112 RX6 yX6_needChase wsX6_needChase) := goodIn_app (goodIn_of _ (by decide +kernel)) ggX6_kindOf_X6_needChase
set_option maxRecDepth 20000 in
theorem ggX6_kindOf_X1_find : GoodIn wsX6_kindOf wsX1_find := goodIn_ca (goodIn_r _ [14, 15, 16, 17, 29, 30, 31, 32, 33, 34, 35, 36, 37, 38, 39] (by decide +kernel) (by decide +kernel)) (goodIn_sub (fun _ h => List.mem_cons_of_mem _ (List.mem_append_right _ h)) (by decide +kernel))
set_option maxRecDepth 20000 in
theorem gX6_kindOf_X1_find : GoodIn wsX6_kindOf (wsV RX6 238 RX1 yX1_find wsX1_find) := goodIn_app (goodIn_of _ (by decide +kernel)) ggX6_kindOf_X1_find
theorem dX6_kindOf_0 : decode cX6_kindOf 0 = .ok (.aload_n 0, 1) := by decide +kernel
theorem dX6_kindOf_1 : decode cX6_kindOf 1 = .ok (.invokevirtual 112, 3) := by decide +kernel
theorem dX6_kindOf_4 : decode cX6_kindOf 4 = .ok (.aload_n 0, 1) := by decide +kernel
theorem dX6_kindOf_5 : decode cX6_kindOf 5 = .ok (.getfield 58, 3) := by decide +kernel
theorem dX6_kindOf_8 : decode cX6_kindOf 8 = .ok (.iload_n 1, 1) := by decide +kernel
theorem dX6_kindOf_9 : decode cX6_kindOf 9 = .ok (.iload_n 2, 1) := by decide +kernel
theorem dX6_kindOf_10 : decode cX6_kindOf 10 = .ok (.invokevirtual 238, 3) := by decide +kernel
theorem dX6_kindOf_13 : decode cX6_kindOf 13 = .ok (.ireturn, 1) := by decide +kernel
set_option maxRecDepth 20000 in
theorem ggX6_isTight_X6_needRow : GoodIn wsX6_isTight wsX6_needRow := goodIn_ca (goodIn_ca (goodIn_r _ [6, 7, 8, 1, 9, 10, 11, 12, 13, 14, 5, 15, 16, 17, 18, 43, 44, 45, 46, 47, 48, 49, 50, 51, 52, 53, 54, 55, 56, 57, 58, 59, 60, 61, 62, 63, 64, 65, 66, 67, 68, 69, 70, 71, 72] (by decide +kernel) (by decide +kernel)) (goodIn_sub (fun _ h => List.mem_cons_of_mem _ (List.mem_append_left _ (List.mem_append_right _ h))) (by decide +kernel))) (goodIn_sub (fun _ h => List.mem_cons_of_mem _ (List.mem_append_right _ h)) (by decide +kernel))
set_option maxRecDepth 20000 in
theorem gX6_isTight_X6_needRow : GoodIn wsX6_isTight (wsV RX6 172 RX6 yX6_needRow wsX6_needRow) := goodIn_app (goodIn_of _ (by decide +kernel)) ggX6_isTight_X6_needRow
set_option maxRecDepth 20000 in
theorem ggX6_isTight_X3_isTightIn : GoodIn wsX6_isTight wsX3_isTightIn := goodIn_r _ [23, 24, 25, 26, 27, 22, 28, 29, 30, 31, 32, 33, 34, 35, 36, 37, 38, 39, 40, 41, 42, 73, 74, 75, 76, 77, 78, 79, 80, 81, 82, 54, 55, 56, 57, 58, 59, 60, 61, 62, 63, 64] (by decide +kernel) (by decide +kernel)
set_option maxRecDepth 20000 in
theorem gX6_isTight_X3_isTightIn : GoodIn wsX6_isTight (wsV RX6 242 RX3 yX3_isTightIn wsX3_isTightIn) := goodIn_app (goodIn_of _ (by decide +kernel)) ggX6_isTight_X3_isTightIn
theorem dX6_isTight_0 : decode cX6_isTight 0 = .ok (.aload_n 0, 1) := by decide +kernel
theorem dX6_isTight_1 : decode cX6_isTight 1 = .ok (.iload_n 1, 1) := by decide +kernel
theorem dX6_isTight_2 : decode cX6_isTight 2 = .ok (.invokevirtual 172, 3) := by decide +kernel
theorem dX6_isTight_5 : decode cX6_isTight 5 = .ok (.aload_n 0, 1) := by decide +kernel
theorem dX6_isTight_6 : decode cX6_isTight 6 = .ok (.getfield 58, 3) := by decide +kernel
theorem dX6_isTight_9 : decode cX6_isTight 9 = .ok (.invokevirtual 242, 3) := by decide +kernel
theorem dX6_isTight_12 : decode cX6_isTight 12 = .ok (.ireturn, 1) := by decide +kernel
set_option maxRecDepth 20000 in
theorem ggX6_widestGap_X6_needChase : GoodIn wsX6_widestGap wsX6_needChase := goodIn_ca (goodIn_r _ [9, 10, 11, 12, 32, 33, 34, 35, 36, 37, 38, 39, 40, 41, 42] (by decide +kernel) (by decide +kernel)) (goodIn_sub (fun _ h => List.mem_cons_of_mem _ (List.mem_append_right _ h)) (by decide +kernel))
set_option maxRecDepth 20000 in
theorem gX6_widestGap_X6_needChase : GoodIn wsX6_widestGap (wsV RX6 112 RX6 yX6_needChase wsX6_needChase) := goodIn_app (goodIn_of _ (by decide +kernel)) ggX6_widestGap_X6_needChase
set_option maxRecDepth 20000 in
theorem ggX6_widestGap_X3_gapIn : GoodIn wsX6_widestGap wsX3_gapIn := goodIn_r _ [17, 18, 19, 20, 21, 22, 23, 16, 24, 25, 26, 27, 28, 29, 30, 31, 43, 44, 45, 46, 47, 48, 49, 50, 51, 52, 53, 62, 63, 64, 65, 66, 67, 68, 69, 70, 71] (by decide +kernel) (by decide +kernel)
set_option maxRecDepth 20000 in
theorem gX6_widestGap_X3_gapIn : GoodIn wsX6_widestGap (wsV RX6 184 RX3 yX3_gapIn wsX3_gapIn) := goodIn_app (goodIn_of _ (by decide +kernel)) ggX6_widestGap_X3_gapIn
theorem dX6_widestGap_0 : decode cX6_widestGap 0 = .ok (.aload_n 0, 1) := by decide +kernel
theorem dX6_widestGap_1 : decode cX6_widestGap 1 = .ok (.invokevirtual 112, 3) := by decide +kernel
theorem dX6_widestGap_4 : decode cX6_widestGap 4 = .ok (.iconst 0, 1) := by decide +kernel
theorem dX6_widestGap_5 : decode cX6_widestGap 5 = .ok (.istore_n 1, 1) := by decide +kernel
theorem dX6_widestGap_6 : decode cX6_widestGap 6 = .ok (.iconst 1, 1) := by decide +kernel
theorem dX6_widestGap_7 : decode cX6_widestGap 7 = .ok (.istore_n 2, 1) := by decide +kernel
theorem dX6_widestGap_8 : decode cX6_widestGap 8 = .ok (.iload_n 2, 1) := by decide +kernel
theorem dX6_widestGap_9 : decode cX6_widestGap 9 = .ok (.aload_n 0, 1) := by decide +kernel
theorem dX6_widestGap_10 : decode cX6_widestGap 10 = .ok (.getfield 58, 3) := by decide +kernel
theorem dX6_widestGap_13 : decode cX6_widestGap 13 = .ok (.getfield 115, 3) := by decide +kernel
theorem dX6_widestGap_16 : decode cX6_widestGap 16 = .ok (.if_icmp .ge 46, 3) := by decide +kernel
theorem dX6_widestGap_19 : decode cX6_widestGap 19 = .ok (.aload_n 0, 1) := by decide +kernel
theorem dX6_widestGap_20 : decode cX6_widestGap 20 = .ok (.getfield 33, 3) := by decide +kernel
theorem dX6_widestGap_23 : decode cX6_widestGap 23 = .ok (.getfield 246, 3) := by decide +kernel
theorem dX6_widestGap_26 : decode cX6_widestGap 26 = .ok (.iload_n 2, 1) := by decide +kernel
theorem dX6_widestGap_27 : decode cX6_widestGap 27 = .ok (.aaload, 1) := by decide +kernel
theorem dX6_widestGap_28 : decode cX6_widestGap 28 = .ok (.aload_n 0, 1) := by decide +kernel
theorem dX6_widestGap_29 : decode cX6_widestGap 29 = .ok (.getfield 58, 3) := by decide +kernel
theorem dX6_widestGap_32 : decode cX6_widestGap 32 = .ok (.invokevirtual 184, 3) := by decide +kernel
theorem dX6_widestGap_35 : decode cX6_widestGap 35 = .ok (.aload_n 0, 1) := by decide +kernel
theorem dX6_widestGap_36 : decode cX6_widestGap 36 = .ok (.getfield 33, 3) := by decide +kernel
theorem dX6_widestGap_39 : decode cX6_widestGap 39 = .ok (.getfield 246, 3) := by decide +kernel
theorem dX6_widestGap_42 : decode cX6_widestGap 42 = .ok (.iload_n 1, 1) := by decide +kernel
theorem dX6_widestGap_43 : decode cX6_widestGap 43 = .ok (.aaload, 1) := by decide +kernel
theorem dX6_widestGap_44 : decode cX6_widestGap 44 = .ok (.aload_n 0, 1) := by decide +kernel
theorem dX6_widestGap_45 : decode cX6_widestGap 45 = .ok (.getfield 58, 3) := by decide +kernel
theorem dX6_widestGap_48 : decode cX6_widestGap 48 = .ok (.invokevirtual 184, 3) := by decide +kernel
theorem dX6_widestGap_51 : decode cX6_widestGap 51 = .ok (.if_icmp .le 5, 3) := by decide +kernel
theorem dX6_widestGap_54 : decode cX6_widestGap 54 = .ok (.iload_n 2, 1) := by decide +kernel
theorem dX6_widestGap_55 : decode cX6_widestGap 55 = .ok (.istore_n 1, 1) := by decide +kernel
theorem dX6_widestGap_56 : decode cX6_widestGap 56 = .ok (.iinc 2 1, 3) := by decide +kernel
theorem dX6_widestGap_59 : decode cX6_widestGap 59 = .ok (.goto (-51), 3) := by decide +kernel
theorem dX6_widestGap_62 : decode cX6_widestGap 62 = .ok (.iload_n 1, 1) := by decide +kernel
theorem dX6_widestGap_63 : decode cX6_widestGap 63 = .ok (.ireturn, 1) := by decide +kernel
set_option maxRecDepth 20000 in
theorem ggX6_loosest_X6_needChase : GoodIn wsX6_loosest wsX6_needChase := goodIn_ca (goodIn_r _ [10, 11, 12, 13, 38, 39, 40, 41, 42, 43, 44, 45, 46, 47, 48] (by decide +kernel) (by decide +kernel)) (goodIn_sub (fun _ h => List.mem_cons_of_mem _ (List.mem_append_right _ h)) (by decide +kernel))
set_option maxRecDepth 20000 in
theorem gX6_loosest_X6_needChase : GoodIn wsX6_loosest (wsV RX6 112 RX6 yX6_needChase wsX6_needChase) := goodIn_app (goodIn_of _ (by decide +kernel)) ggX6_loosest_X6_needChase
set_option maxRecDepth 20000 in
theorem ggX6_loosest_X3_loosenessIn : GoodIn wsX6_loosest wsX3_loosenessIn := goodIn_r _ [18, 19, 20, 21, 22, 17, 23, 24, 25, 26, 27, 28, 29, 30, 31, 32, 33, 34, 35, 36, 37, 68, 69, 70, 71, 72, 73, 74, 75, 76, 77, 49, 50, 51, 52, 53, 54, 55, 56, 57, 58, 59] (by decide +kernel) (by decide +kernel)
set_option maxRecDepth 20000 in
theorem gX6_loosest_X3_loosenessIn : GoodIn wsX6_loosest (wsV RX6 249 RX3 yX3_loosenessIn wsX3_loosenessIn) := goodIn_app (goodIn_of _ (by decide +kernel)) ggX6_loosest_X3_loosenessIn
theorem dX6_loosest_0 : decode cX6_loosest 0 = .ok (.aload_n 0, 1) := by decide +kernel
theorem dX6_loosest_1 : decode cX6_loosest 1 = .ok (.invokevirtual 112, 3) := by decide +kernel
theorem dX6_loosest_4 : decode cX6_loosest 4 = .ok (.iconst (-1), 1) := by decide +kernel
theorem dX6_loosest_5 : decode cX6_loosest 5 = .ok (.istore_n 1, 1) := by decide +kernel
theorem dX6_loosest_6 : decode cX6_loosest 6 = .ok (.iconst (-1), 1) := by decide +kernel
theorem dX6_loosest_7 : decode cX6_loosest 7 = .ok (.istore_n 2, 1) := by decide +kernel
theorem dX6_loosest_8 : decode cX6_loosest 8 = .ok (.iconst 0, 1) := by decide +kernel
theorem dX6_loosest_9 : decode cX6_loosest 9 = .ok (.istore_n 3, 1) := by decide +kernel
theorem dX6_loosest_10 : decode cX6_loosest 10 = .ok (.iload_n 3, 1) := by decide +kernel
theorem dX6_loosest_11 : decode cX6_loosest 11 = .ok (.aload_n 0, 1) := by decide +kernel
theorem dX6_loosest_12 : decode cX6_loosest 12 = .ok (.getfield 58, 3) := by decide +kernel
theorem dX6_loosest_15 : decode cX6_loosest 15 = .ok (.getfield 115, 3) := by decide +kernel
theorem dX6_loosest_18 : decode cX6_loosest 18 = .ok (.if_icmp .ge 53, 3) := by decide +kernel
theorem dX6_loosest_21 : decode cX6_loosest 21 = .ok (.aload_n 0, 1) := by decide +kernel
theorem dX6_loosest_22 : decode cX6_loosest 22 = .ok (.getfield 33, 3) := by decide +kernel
theorem dX6_loosest_25 : decode cX6_loosest 25 = .ok (.getfield 246, 3) := by decide +kernel
theorem dX6_loosest_28 : decode cX6_loosest 28 = .ok (.iload_n 3, 1) := by decide +kernel
theorem dX6_loosest_29 : decode cX6_loosest 29 = .ok (.aaload, 1) := by decide +kernel
theorem dX6_loosest_30 : decode cX6_loosest 30 = .ok (.astore 4, 2) := by decide +kernel
theorem dX6_loosest_32 : decode cX6_loosest 32 = .ok (.aload 4, 2) := by decide +kernel
theorem dX6_loosest_34 : decode cX6_loosest 34 = .ok (.getfield 176, 3) := by decide +kernel
theorem dX6_loosest_37 : decode cX6_loosest 37 = .ok (.ifCond .le 28, 3) := by decide +kernel
theorem dX6_loosest_40 : decode cX6_loosest 40 = .ok (.aload 4, 2) := by decide +kernel
theorem dX6_loosest_42 : decode cX6_loosest 42 = .ok (.aload_n 0, 1) := by decide +kernel
theorem dX6_loosest_43 : decode cX6_loosest 43 = .ok (.getfield 58, 3) := by decide +kernel
theorem dX6_loosest_46 : decode cX6_loosest 46 = .ok (.invokevirtual 249, 3) := by decide +kernel
theorem dX6_loosest_49 : decode cX6_loosest 49 = .ok (.iload_n 2, 1) := by decide +kernel
theorem dX6_loosest_50 : decode cX6_loosest 50 = .ok (.if_icmp .le 15, 3) := by decide +kernel
theorem dX6_loosest_53 : decode cX6_loosest 53 = .ok (.iload_n 3, 1) := by decide +kernel
theorem dX6_loosest_54 : decode cX6_loosest 54 = .ok (.istore_n 1, 1) := by decide +kernel
theorem dX6_loosest_55 : decode cX6_loosest 55 = .ok (.aload 4, 2) := by decide +kernel
theorem dX6_loosest_57 : decode cX6_loosest 57 = .ok (.aload_n 0, 1) := by decide +kernel
theorem dX6_loosest_58 : decode cX6_loosest 58 = .ok (.getfield 58, 3) := by decide +kernel
theorem dX6_loosest_61 : decode cX6_loosest 61 = .ok (.invokevirtual 249, 3) := by decide +kernel
theorem dX6_loosest_64 : decode cX6_loosest 64 = .ok (.istore_n 2, 1) := by decide +kernel
theorem dX6_loosest_65 : decode cX6_loosest 65 = .ok (.iinc 3 1, 3) := by decide +kernel
theorem dX6_loosest_68 : decode cX6_loosest 68 = .ok (.goto (-58), 3) := by decide +kernel
theorem dX6_loosest_71 : decode cX6_loosest 71 = .ok (.iload_n 1, 1) := by decide +kernel
theorem dX6_loosest_72 : decode cX6_loosest 72 = .ok (.ireturn, 1) := by decide +kernel
set_option maxRecDepth 20000 in
theorem ggX6_longestLeft_X6_needChase : GoodIn wsX6_longestLeft wsX6_needChase := goodIn_ca (goodIn_r _ [10, 11, 12, 13, 14, 15, 16, 17, 18, 19, 20, 21, 22, 23, 24] (by decide +kernel) (by decide +kernel)) (goodIn_sub (fun _ h => List.mem_cons_of_mem _ (List.mem_append_right _ h)) (by decide +kernel))
set_option maxRecDepth 20000 in
theorem gX6_longestLeft_X6_needChase : GoodIn wsX6_longestLeft (wsV RX6 112 RX6 yX6_needChase wsX6_needChase) := goodIn_app (goodIn_of _ (by decide +kernel)) ggX6_longestLeft_X6_needChase
theorem dX6_longestLeft_0 : decode cX6_longestLeft 0 = .ok (.aload_n 0, 1) := by decide +kernel
theorem dX6_longestLeft_1 : decode cX6_longestLeft 1 = .ok (.invokevirtual 112, 3) := by decide +kernel
theorem dX6_longestLeft_4 : decode cX6_longestLeft 4 = .ok (.iconst 0, 1) := by decide +kernel
theorem dX6_longestLeft_5 : decode cX6_longestLeft 5 = .ok (.istore_n 1, 1) := by decide +kernel
theorem dX6_longestLeft_6 : decode cX6_longestLeft 6 = .ok (.iload_n 1, 1) := by decide +kernel
theorem dX6_longestLeft_7 : decode cX6_longestLeft 7 = .ok (.aload_n 0, 1) := by decide +kernel
theorem dX6_longestLeft_8 : decode cX6_longestLeft 8 = .ok (.getfield 58, 3) := by decide +kernel
theorem dX6_longestLeft_11 : decode cX6_longestLeft 11 = .ok (.getfield 92, 3) := by decide +kernel
theorem dX6_longestLeft_14 : decode cX6_longestLeft 14 = .ok (.if_icmp .ge 33, 3) := by decide +kernel
theorem dX6_longestLeft_17 : decode cX6_longestLeft 17 = .ok (.aload_n 0, 1) := by decide +kernel
theorem dX6_longestLeft_18 : decode cX6_longestLeft 18 = .ok (.getfield 58, 3) := by decide +kernel
theorem dX6_longestLeft_21 : decode cX6_longestLeft 21 = .ok (.getfield 252, 3) := by decide +kernel
theorem dX6_longestLeft_24 : decode cX6_longestLeft 24 = .ok (.iload_n 1, 1) := by decide +kernel
theorem dX6_longestLeft_25 : decode cX6_longestLeft 25 = .ok (.iaload, 1) := by decide +kernel
theorem dX6_longestLeft_26 : decode cX6_longestLeft 26 = .ok (.istore_n 2, 1) := by decide +kernel
theorem dX6_longestLeft_27 : decode cX6_longestLeft 27 = .ok (.aload_n 0, 1) := by decide +kernel
theorem dX6_longestLeft_28 : decode cX6_longestLeft 28 = .ok (.getfield 33, 3) := by decide +kernel
theorem dX6_longestLeft_31 : decode cX6_longestLeft 31 = .ok (.getfield 230, 3) := by decide +kernel
theorem dX6_longestLeft_34 : decode cX6_longestLeft 34 = .ok (.iload_n 2, 1) := by decide +kernel
theorem dX6_longestLeft_35 : decode cX6_longestLeft 35 = .ok (.iaload, 1) := by decide +kernel
theorem dX6_longestLeft_36 : decode cX6_longestLeft 36 = .ok (.ifCond .le 5, 3) := by decide +kernel
theorem dX6_longestLeft_39 : decode cX6_longestLeft 39 = .ok (.iload_n 2, 1) := by decide +kernel
theorem dX6_longestLeft_40 : decode cX6_longestLeft 40 = .ok (.ireturn, 1) := by decide +kernel
theorem dX6_longestLeft_41 : decode cX6_longestLeft 41 = .ok (.iinc 1 1, 3) := by decide +kernel
theorem dX6_longestLeft_44 : decode cX6_longestLeft 44 = .ok (.goto (-38), 3) := by decide +kernel
theorem dX6_longestLeft_47 : decode cX6_longestLeft 47 = .ok (.iconst (-1), 1) := by decide +kernel
theorem dX6_longestLeft_48 : decode cX6_longestLeft 48 = .ok (.ireturn, 1) := by decide +kernel
set_option maxRecDepth 20000 in
theorem ggX6_lengthLeft_X6_needChase : GoodIn wsX6_lengthLeft wsX6_needChase := goodIn_ca (goodIn_r _ [10, 11, 12, 13, 14, 15, 16, 17, 18, 19, 20, 21, 22, 23, 24] (by decide +kernel) (by decide +kernel)) (goodIn_sub (fun _ h => List.mem_cons_of_mem _ (List.mem_append_right _ h)) (by decide +kernel))
set_option maxRecDepth 20000 in
theorem gX6_lengthLeft_X6_needChase : GoodIn wsX6_lengthLeft (wsV RX6 112 RX6 yX6_needChase wsX6_needChase) := goodIn_app (goodIn_of _ (by decide +kernel)) ggX6_lengthLeft_X6_needChase
theorem dX6_lengthLeft_0 : decode cX6_lengthLeft 0 = .ok (.aload_n 0, 1) := by decide +kernel
theorem dX6_lengthLeft_1 : decode cX6_lengthLeft 1 = .ok (.invokevirtual 112, 3) := by decide +kernel
theorem dX6_lengthLeft_4 : decode cX6_lengthLeft 4 = .ok (.iconst 0, 1) := by decide +kernel
theorem dX6_lengthLeft_5 : decode cX6_lengthLeft 5 = .ok (.istore_n 1, 1) := by decide +kernel
theorem dX6_lengthLeft_6 : decode cX6_lengthLeft 6 = .ok (.iconst 0, 1) := by decide +kernel
theorem dX6_lengthLeft_7 : decode cX6_lengthLeft 7 = .ok (.istore_n 2, 1) := by decide +kernel
theorem dX6_lengthLeft_8 : decode cX6_lengthLeft 8 = .ok (.iload_n 2, 1) := by decide +kernel
theorem dX6_lengthLeft_9 : decode cX6_lengthLeft 9 = .ok (.aload_n 0, 1) := by decide +kernel
theorem dX6_lengthLeft_10 : decode cX6_lengthLeft 10 = .ok (.getfield 58, 3) := by decide +kernel
theorem dX6_lengthLeft_13 : decode cX6_lengthLeft 13 = .ok (.getfield 92, 3) := by decide +kernel
theorem dX6_lengthLeft_16 : decode cX6_lengthLeft 16 = .ok (.if_icmp .ge 31, 3) := by decide +kernel
theorem dX6_lengthLeft_19 : decode cX6_lengthLeft 19 = .ok (.iload_n 1, 1) := by decide +kernel
theorem dX6_lengthLeft_20 : decode cX6_lengthLeft 20 = .ok (.aload_n 0, 1) := by decide +kernel
theorem dX6_lengthLeft_21 : decode cX6_lengthLeft 21 = .ok (.getfield 33, 3) := by decide +kernel
theorem dX6_lengthLeft_24 : decode cX6_lengthLeft 24 = .ok (.getfield 230, 3) := by decide +kernel
theorem dX6_lengthLeft_27 : decode cX6_lengthLeft 27 = .ok (.iload_n 2, 1) := by decide +kernel
theorem dX6_lengthLeft_28 : decode cX6_lengthLeft 28 = .ok (.iaload, 1) := by decide +kernel
theorem dX6_lengthLeft_29 : decode cX6_lengthLeft 29 = .ok (.aload_n 0, 1) := by decide +kernel
theorem dX6_lengthLeft_30 : decode cX6_lengthLeft 30 = .ok (.getfield 58, 3) := by decide +kernel
theorem dX6_lengthLeft_33 : decode cX6_lengthLeft 33 = .ok (.getfield 226, 3) := by decide +kernel
theorem dX6_lengthLeft_36 : decode cX6_lengthLeft 36 = .ok (.iload_n 2, 1) := by decide +kernel
theorem dX6_lengthLeft_37 : decode cX6_lengthLeft 37 = .ok (.iaload, 1) := by decide +kernel
theorem dX6_lengthLeft_38 : decode cX6_lengthLeft 38 = .ok (.imul, 1) := by decide +kernel
theorem dX6_lengthLeft_39 : decode cX6_lengthLeft 39 = .ok (.iadd, 1) := by decide +kernel
theorem dX6_lengthLeft_40 : decode cX6_lengthLeft 40 = .ok (.istore_n 1, 1) := by decide +kernel
theorem dX6_lengthLeft_41 : decode cX6_lengthLeft 41 = .ok (.iinc 2 1, 3) := by decide +kernel
theorem dX6_lengthLeft_44 : decode cX6_lengthLeft 44 = .ok (.goto (-36), 3) := by decide +kernel
theorem dX6_lengthLeft_47 : decode cX6_lengthLeft 47 = .ok (.iload_n 1, 1) := by decide +kernel
theorem dX6_lengthLeft_48 : decode cX6_lengthLeft 48 = .ok (.ireturn, 1) := by decide +kernel
set_option maxRecDepth 20000 in
theorem ggX6_meanGap_X6_needChase : GoodIn wsX6_meanGap wsX6_needChase := goodIn_ca (goodIn_r _ [9, 10, 11, 12, 32, 33, 34, 35, 36, 37, 38, 39, 40, 41, 42] (by decide +kernel) (by decide +kernel)) (goodIn_sub (fun _ h => List.mem_cons_of_mem _ (List.mem_append_right _ h)) (by decide +kernel))
set_option maxRecDepth 20000 in
theorem gX6_meanGap_X6_needChase : GoodIn wsX6_meanGap (wsV RX6 112 RX6 yX6_needChase wsX6_needChase) := goodIn_app (goodIn_of _ (by decide +kernel)) ggX6_meanGap_X6_needChase
set_option maxRecDepth 20000 in
theorem ggX6_meanGap_X3_gapIn : GoodIn wsX6_meanGap wsX3_gapIn := goodIn_r _ [17, 18, 19, 20, 21, 22, 23, 16, 24, 25, 26, 27, 28, 29, 30, 31, 43, 44, 45, 46, 47, 48, 49, 50, 51, 52, 53, 62, 63, 64, 65, 66, 67, 68, 69, 70, 71] (by decide +kernel) (by decide +kernel)
set_option maxRecDepth 20000 in
theorem gX6_meanGap_X3_gapIn : GoodIn wsX6_meanGap (wsV RX6 184 RX3 yX3_gapIn wsX3_gapIn) := goodIn_app (goodIn_of _ (by decide +kernel)) ggX6_meanGap_X3_gapIn
theorem dX6_meanGap_0 : decode cX6_meanGap 0 = .ok (.aload_n 0, 1) := by decide +kernel
theorem dX6_meanGap_1 : decode cX6_meanGap 1 = .ok (.invokevirtual 112, 3) := by decide +kernel
theorem dX6_meanGap_4 : decode cX6_meanGap 4 = .ok (.iconst 0, 1) := by decide +kernel
theorem dX6_meanGap_5 : decode cX6_meanGap 5 = .ok (.istore_n 1, 1) := by decide +kernel
theorem dX6_meanGap_6 : decode cX6_meanGap 6 = .ok (.iconst 0, 1) := by decide +kernel
theorem dX6_meanGap_7 : decode cX6_meanGap 7 = .ok (.istore_n 2, 1) := by decide +kernel
theorem dX6_meanGap_8 : decode cX6_meanGap 8 = .ok (.iload_n 2, 1) := by decide +kernel
theorem dX6_meanGap_9 : decode cX6_meanGap 9 = .ok (.aload_n 0, 1) := by decide +kernel
theorem dX6_meanGap_10 : decode cX6_meanGap 10 = .ok (.getfield 58, 3) := by decide +kernel
theorem dX6_meanGap_13 : decode cX6_meanGap 13 = .ok (.getfield 115, 3) := by decide +kernel
theorem dX6_meanGap_16 : decode cX6_meanGap 16 = .ok (.if_icmp .ge 28, 3) := by decide +kernel
theorem dX6_meanGap_19 : decode cX6_meanGap 19 = .ok (.iload_n 1, 1) := by decide +kernel
theorem dX6_meanGap_20 : decode cX6_meanGap 20 = .ok (.aload_n 0, 1) := by decide +kernel
theorem dX6_meanGap_21 : decode cX6_meanGap 21 = .ok (.getfield 33, 3) := by decide +kernel
theorem dX6_meanGap_24 : decode cX6_meanGap 24 = .ok (.getfield 246, 3) := by decide +kernel
theorem dX6_meanGap_27 : decode cX6_meanGap 27 = .ok (.iload_n 2, 1) := by decide +kernel
theorem dX6_meanGap_28 : decode cX6_meanGap 28 = .ok (.aaload, 1) := by decide +kernel
theorem dX6_meanGap_29 : decode cX6_meanGap 29 = .ok (.aload_n 0, 1) := by decide +kernel
theorem dX6_meanGap_30 : decode cX6_meanGap 30 = .ok (.getfield 58, 3) := by decide +kernel
theorem dX6_meanGap_33 : decode cX6_meanGap 33 = .ok (.invokevirtual 184, 3) := by decide +kernel
theorem dX6_meanGap_36 : decode cX6_meanGap 36 = .ok (.iadd, 1) := by decide +kernel
theorem dX6_meanGap_37 : decode cX6_meanGap 37 = .ok (.istore_n 1, 1) := by decide +kernel
theorem dX6_meanGap_38 : decode cX6_meanGap 38 = .ok (.iinc 2 1, 3) := by decide +kernel
theorem dX6_meanGap_41 : decode cX6_meanGap 41 = .ok (.goto (-33), 3) := by decide +kernel
theorem dX6_meanGap_44 : decode cX6_meanGap 44 = .ok (.aload_n 0, 1) := by decide +kernel
theorem dX6_meanGap_45 : decode cX6_meanGap 45 = .ok (.getfield 58, 3) := by decide +kernel
theorem dX6_meanGap_48 : decode cX6_meanGap 48 = .ok (.getfield 115, 3) := by decide +kernel
theorem dX6_meanGap_51 : decode cX6_meanGap 51 = .ok (.ifCond .ne 7, 3) := by decide +kernel
theorem dX6_meanGap_54 : decode cX6_meanGap 54 = .ok (.dconst 0, 1) := by decide +kernel
theorem dX6_meanGap_55 : decode cX6_meanGap 55 = .ok (.goto 14, 3) := by decide +kernel
theorem dX6_meanGap_58 : decode cX6_meanGap 58 = .ok (.iload_n 1, 1) := by decide +kernel
theorem dX6_meanGap_59 : decode cX6_meanGap 59 = .ok (.i2d, 1) := by decide +kernel
theorem dX6_meanGap_60 : decode cX6_meanGap 60 = .ok (.aload_n 0, 1) := by decide +kernel
theorem dX6_meanGap_61 : decode cX6_meanGap 61 = .ok (.getfield 58, 3) := by decide +kernel
theorem dX6_meanGap_64 : decode cX6_meanGap 64 = .ok (.getfield 115, 3) := by decide +kernel
theorem dX6_meanGap_67 : decode cX6_meanGap 67 = .ok (.i2d, 1) := by decide +kernel
theorem dX6_meanGap_68 : decode cX6_meanGap 68 = .ok (.ddiv, 1) := by decide +kernel
theorem dX6_meanGap_69 : decode cX6_meanGap 69 = .ok (.dreturn, 1) := by decide +kernel
set_option maxRecDepth 20000 in
theorem ggX6_woodShare_X6_needChase : GoodIn wsX6_woodShare wsX6_needChase := goodIn_ca (goodIn_r _ [9, 10, 11, 12, 31, 32, 33, 34, 35, 36, 37, 38, 39, 40, 41] (by decide +kernel) (by decide +kernel)) (goodIn_sub (fun _ h => List.mem_cons_of_mem _ (List.mem_append_left _ (List.mem_append_right _ h))) (by decide +kernel))
set_option maxRecDepth 20000 in
theorem gX6_woodShare_X6_needChase : GoodIn wsX6_woodShare (wsV RX6 112 RX6 yX6_needChase wsX6_needChase) := goodIn_app (goodIn_of _ (by decide +kernel)) ggX6_woodShare_X6_needChase
set_option maxRecDepth 20000 in
theorem ggX6_woodShare_X3_woodIn : GoodIn wsX6_woodShare wsX3_woodIn := goodIn_ca (goodIn_r _ [17, 18, 19, 20, 42, 43, 44, 45, 46, 47, 48, 49, 50, 51, 52, 61, 62, 63, 64, 65, 66, 67, 68, 69, 70] (by decide +kernel) (by decide +kernel)) (goodIn_sub (fun _ h => List.mem_cons_of_mem _ (List.mem_append_right _ h)) (by decide +kernel))
set_option maxRecDepth 20000 in
theorem gX6_woodShare_X3_woodIn : GoodIn wsX6_woodShare (wsV RX6 193 RX3 yX3_woodIn wsX3_woodIn) := goodIn_app (goodIn_of _ (by decide +kernel)) ggX6_woodShare_X3_woodIn
set_option maxRecDepth 20000 in
theorem ggX6_woodShare_X5_piecesInRows : GoodIn wsX6_woodShare wsX5_piecesInRows := goodIn_r _ [25, 26, 27, 53, 54, 55, 56, 57, 58, 59, 60, 61, 62, 63, 64, 65, 66, 67, 68, 69, 70] (by decide +kernel) (by decide +kernel)
set_option maxRecDepth 20000 in
theorem gX6_woodShare_X5_piecesInRows : GoodIn wsX6_woodShare (wsV RX6 125 RX5 yX5_piecesInRows wsX5_piecesInRows) := goodIn_app (goodIn_of _ (by decide +kernel)) ggX6_woodShare_X5_piecesInRows
set_option maxRecDepth 20000 in
theorem ggX6_woodShare_X6_share : GoodIn wsX6_woodShare wsX6_share := goodIn_r _ [30] (by decide +kernel) (by decide +kernel)
set_option maxRecDepth 20000 in
theorem gX6_woodShare_X6_share : GoodIn wsX6_woodShare (va_wsS RX6 255 yX6_share wsX6_share) := goodIn_app (goodIn_of _ (by decide +kernel)) ggX6_woodShare_X6_share
theorem dX6_woodShare_0 : decode cX6_woodShare 0 = .ok (.aload_n 0, 1) := by decide +kernel
theorem dX6_woodShare_1 : decode cX6_woodShare 1 = .ok (.invokevirtual 112, 3) := by decide +kernel
theorem dX6_woodShare_4 : decode cX6_woodShare 4 = .ok (.iconst 0, 1) := by decide +kernel
theorem dX6_woodShare_5 : decode cX6_woodShare 5 = .ok (.istore_n 1, 1) := by decide +kernel
theorem dX6_woodShare_6 : decode cX6_woodShare 6 = .ok (.iconst 0, 1) := by decide +kernel
theorem dX6_woodShare_7 : decode cX6_woodShare 7 = .ok (.istore_n 2, 1) := by decide +kernel
theorem dX6_woodShare_8 : decode cX6_woodShare 8 = .ok (.iload_n 2, 1) := by decide +kernel
theorem dX6_woodShare_9 : decode cX6_woodShare 9 = .ok (.aload_n 0, 1) := by decide +kernel
theorem dX6_woodShare_10 : decode cX6_woodShare 10 = .ok (.getfield 58, 3) := by decide +kernel
theorem dX6_woodShare_13 : decode cX6_woodShare 13 = .ok (.getfield 115, 3) := by decide +kernel
theorem dX6_woodShare_16 : decode cX6_woodShare 16 = .ok (.if_icmp .ge 28, 3) := by decide +kernel
theorem dX6_woodShare_19 : decode cX6_woodShare 19 = .ok (.iload_n 1, 1) := by decide +kernel
theorem dX6_woodShare_20 : decode cX6_woodShare 20 = .ok (.aload_n 0, 1) := by decide +kernel
theorem dX6_woodShare_21 : decode cX6_woodShare 21 = .ok (.getfield 33, 3) := by decide +kernel
theorem dX6_woodShare_24 : decode cX6_woodShare 24 = .ok (.getfield 246, 3) := by decide +kernel
theorem dX6_woodShare_27 : decode cX6_woodShare 27 = .ok (.iload_n 2, 1) := by decide +kernel
theorem dX6_woodShare_28 : decode cX6_woodShare 28 = .ok (.aaload, 1) := by decide +kernel
theorem dX6_woodShare_29 : decode cX6_woodShare 29 = .ok (.aload_n 0, 1) := by decide +kernel
theorem dX6_woodShare_30 : decode cX6_woodShare 30 = .ok (.getfield 58, 3) := by decide +kernel
theorem dX6_woodShare_33 : decode cX6_woodShare 33 = .ok (.invokevirtual 193, 3) := by decide +kernel
theorem dX6_woodShare_36 : decode cX6_woodShare 36 = .ok (.iadd, 1) := by decide +kernel
theorem dX6_woodShare_37 : decode cX6_woodShare 37 = .ok (.istore_n 1, 1) := by decide +kernel
theorem dX6_woodShare_38 : decode cX6_woodShare 38 = .ok (.iinc 2 1, 3) := by decide +kernel
theorem dX6_woodShare_41 : decode cX6_woodShare 41 = .ok (.goto (-33), 3) := by decide +kernel
theorem dX6_woodShare_44 : decode cX6_woodShare 44 = .ok (.iload_n 1, 1) := by decide +kernel
theorem dX6_woodShare_45 : decode cX6_woodShare 45 = .ok (.aload_n 0, 1) := by decide +kernel
theorem dX6_woodShare_46 : decode cX6_woodShare 46 = .ok (.getfield 33, 3) := by decide +kernel
theorem dX6_woodShare_49 : decode cX6_woodShare 49 = .ok (.invokevirtual 125, 3) := by decide +kernel
theorem dX6_woodShare_52 : decode cX6_woodShare 52 = .ok (.invokestatic 255, 3) := by decide +kernel
theorem dX6_woodShare_55 : decode cX6_woodShare 55 = .ok (.freturn, 1) := by decide +kernel
set_option maxRecDepth 20000 in
theorem ggX6_goodShare_X6_needChase : GoodIn wsX6_goodShare wsX6_needChase := goodIn_ca (goodIn_r _ [8, 9, 10, 11, 15, 16, 17, 18, 19, 20, 21, 22, 23, 24, 25] (by decide +kernel) (by decide +kernel)) (goodIn_sub (fun _ h => List.mem_cons_of_mem _ (List.mem_append_right _ h)) (by decide +kernel))
set_option maxRecDepth 20000 in
theorem gX6_goodShare_X6_needChase : GoodIn wsX6_goodShare (wsV RX6 112 RX6 yX6_needChase wsX6_needChase) := goodIn_app (goodIn_of _ (by decide +kernel)) ggX6_goodShare_X6_needChase
set_option maxRecDepth 20000 in
theorem ggX6_goodShare_X6_share : GoodIn wsX6_goodShare wsX6_share := goodIn_r _ [14] (by decide +kernel) (by decide +kernel)
set_option maxRecDepth 20000 in
theorem gX6_goodShare_X6_share : GoodIn wsX6_goodShare (va_wsS RX6 255 yX6_share wsX6_share) := goodIn_app (goodIn_of _ (by decide +kernel)) ggX6_goodShare_X6_share
theorem dX6_goodShare_0 : decode cX6_goodShare 0 = .ok (.aload_n 0, 1) := by decide +kernel
theorem dX6_goodShare_1 : decode cX6_goodShare 1 = .ok (.invokevirtual 112, 3) := by decide +kernel
theorem dX6_goodShare_4 : decode cX6_goodShare 4 = .ok (.aload_n 0, 1) := by decide +kernel
theorem dX6_goodShare_5 : decode cX6_goodShare 5 = .ok (.getfield 33, 3) := by decide +kernel
theorem dX6_goodShare_8 : decode cX6_goodShare 8 = .ok (.getfield 135, 3) := by decide +kernel
theorem dX6_goodShare_11 : decode cX6_goodShare 11 = .ok (.aload_n 0, 1) := by decide +kernel
theorem dX6_goodShare_12 : decode cX6_goodShare 12 = .ok (.getfield 33, 3) := by decide +kernel
theorem dX6_goodShare_15 : decode cX6_goodShare 15 = .ok (.getfield 132, 3) := by decide +kernel
theorem dX6_goodShare_18 : decode cX6_goodShare 18 = .ok (.invokestatic 255, 3) := by decide +kernel
theorem dX6_goodShare_21 : decode cX6_goodShare 21 = .ok (.freturn, 1) := by decide +kernel
theorem dX6_share_0 : decode cX6_share 0 = .ok (.iload_n 1, 1) := by decide +kernel
theorem dX6_share_1 : decode cX6_share 1 = .ok (.ifCond .ne 7, 3) := by decide +kernel
theorem dX6_share_4 : decode cX6_share 4 = .ok (.fconst 0, 1) := by decide +kernel
theorem dX6_share_5 : decode cX6_share 5 = .ok (.goto 8, 3) := by decide +kernel
theorem dX6_share_8 : decode cX6_share 8 = .ok (.iload_n 0, 1) := by decide +kernel
theorem dX6_share_9 : decode cX6_share 9 = .ok (.i2f, 1) := by decide +kernel
theorem dX6_share_10 : decode cX6_share 10 = .ok (.iload_n 1, 1) := by decide +kernel
theorem dX6_share_11 : decode cX6_share 11 = .ok (.i2f, 1) := by decide +kernel
theorem dX6_share_12 : decode cX6_share 12 = .ok (.fdiv, 1) := by decide +kernel
theorem dX6_share_13 : decode cX6_share 13 = .ok (.freturn, 1) := by decide +kernel
set_option maxRecDepth 20000 in
theorem ggX6_choice_X6_needRow : GoodIn wsX6_choice wsX6_needRow := goodIn_ca (goodIn_ca (goodIn_r _ [13, 14, 15, 8, 16, 3, 17, 18, 19, 20, 12, 21, 22, 23, 24, 114, 115, 116, 117, 118, 119, 120, 121, 122, 123, 124, 133, 134, 135, 136, 137, 138, 139, 140, 141, 142, 143, 144, 145, 146, 147, 148, 149, 150, 151] (by decide +kernel) (by decide +kernel)) (goodIn_sub (fun _ h => List.mem_cons_of_mem _ (List.mem_append_left _ (List.mem_append_left _ (List.mem_append_right _ h)))) (by decide +kernel))) (goodIn_sub (fun _ h => List.mem_cons_of_mem _ (List.mem_append_left _ (List.mem_append_right _ h))) (by decide +kernel))
set_option maxRecDepth 20000 in
theorem gX6_choice_X6_needRow : GoodIn wsX6_choice (wsV RX6 172 RX6 yX6_needRow wsX6_needRow) := goodIn_app (goodIn_of _ (by decide +kernel)) ggX6_choice_X6_needRow
set_option maxRecDepth 20000 in
theorem ggX6_choice_X6_solve : GoodIn wsX6_choice wsX6_solve := goodIn_ca (goodIn_r _ [28, 4, 8, 29, 30, 31, 32, 33, 34, 35, 36, 37, 38, 39, 40, 41, 42, 43, 44, 45, 46, 47, 48, 49, 50, 51, 52, 53, 54, 55, 56, 57, 58, 59, 60, 61, 62, 63, 64, 65, 66, 67, 68, 69, 70, 71, 72, 73, 74, 75, 76, 77, 78, 79, 80, 81, 82, 83, 84, 85, 86, 87, 88, 89, 90, 91, 92, 93, 94, 95, 96, 97, 98, 99, 100, 101, 102, 103, 104, 105, 106, 107, 108, 114, 115, 116, 117, 118, 119, 120, 121, 122, 123, 124, 144, 145, 146, 147, 148, 149, 150, 151, 125, 126, 127, 128, 129, 130, 131, 132, 133, 134, 135, 136, 137, 138, 139, 140, 141, 142, 143, 152, 153, 154, 155, 156, 157, 158, 159, 160, 161] (by decide +kernel) (by decide +kernel)) (goodIn_sub (fun _ h => List.mem_cons_of_mem _ (List.mem_append_right _ h)) (by decide +kernel))
set_option maxRecDepth 20000 in
theorem gX6_choice_X6_solve : GoodIn wsX6_choice (wsV RX6 261 RX6 yX6_solve wsX6_solve) := goodIn_app (goodIn_of _ (by decide +kernel)) ggX6_choice_X6_solve
set_option maxRecDepth 20000 in
theorem ggX6_choice_X4_woodTaken : GoodIn wsX6_choice wsX4_woodTaken := goodIn_ca (goodIn_r _ [112, 45, 113, 104, 133, 134, 135, 136, 137, 138, 139, 140, 141, 142, 143, 125, 126, 127, 128, 129, 130, 131, 132] (by decide +kernel) (by decide +kernel)) (goodIn_sub (fun _ h => List.mem_cons_of_mem _ (List.mem_append_right _ h)) (by decide +kernel))
set_option maxRecDepth 20000 in
theorem gX6_choice_X4_woodTaken : GoodIn wsX6_choice (wsV RX6 272 RX4 yX4_woodTaken wsX4_woodTaken) := goodIn_app (goodIn_of _ (by decide +kernel)) ggX6_choice_X4_woodTaken
theorem dX6_choice_0 : decode cX6_choice 0 = .ok (.aload_n 0, 1) := by decide +kernel
theorem dX6_choice_1 : decode cX6_choice 1 = .ok (.iload_n 1, 1) := by decide +kernel
theorem dX6_choice_2 : decode cX6_choice 2 = .ok (.invokevirtual 172, 3) := by decide +kernel
theorem dX6_choice_5 : decode cX6_choice 5 = .ok (.astore_n 3, 1) := by decide +kernel
theorem dX6_choice_6 : decode cX6_choice 6 = .ok (.iload_n 2, 1) := by decide +kernel
theorem dX6_choice_7 : decode cX6_choice 7 = .ok (.ifCond .lt 8, 3) := by decide +kernel
theorem dX6_choice_10 : decode cX6_choice 10 = .ok (.iload_n 2, 1) := by decide +kernel
theorem dX6_choice_11 : decode cX6_choice 11 = .ok (.iconst 3, 1) := by decide +kernel
theorem dX6_choice_12 : decode cX6_choice 12 = .ok (.if_icmp .le 14, 3) := by decide +kernel
theorem dX6_choice_15 : decode cX6_choice 15 = .ok (.new 84, 3) := by decide +kernel
theorem dX6_choice_18 : decode cX6_choice 18 = .ok (.dup, 1) := by decide +kernel
theorem dX6_choice_19 : decode cX6_choice 19 = .ok (.ldc_w 259, 3) := by decide +kernel
theorem dX6_choice_22 : decode cX6_choice 22 = .ok (.invokespecial 88, 3) := by decide +kernel
theorem dX6_choice_25 : decode cX6_choice 25 = .ok (.athrow, 1) := by decide +kernel
theorem dX6_choice_26 : decode cX6_choice 26 = .ok (.aload_n 0, 1) := by decide +kernel
theorem dX6_choice_27 : decode cX6_choice 27 = .ok (.aload_n 0, 1) := by decide +kernel
theorem dX6_choice_28 : decode cX6_choice 28 = .ok (.getfield 33, 3) := by decide +kernel
theorem dX6_choice_31 : decode cX6_choice 31 = .ok (.aload_n 3, 1) := by decide +kernel
theorem dX6_choice_32 : decode cX6_choice 32 = .ok (.invokevirtual 261, 3) := by decide +kernel
theorem dX6_choice_35 : decode cX6_choice 35 = .ok (.ifCond .ne 5, 3) := by decide +kernel
theorem dX6_choice_38 : decode cX6_choice 38 = .ok (.iconst (-1), 1) := by decide +kernel
theorem dX6_choice_39 : decode cX6_choice 39 = .ok (.ireturn, 1) := by decide +kernel
theorem dX6_choice_40 : decode cX6_choice 40 = .ok (.iload_n 2, 1) := by decide +kernel
theorem dX6_choice_41 : decode cX6_choice 41 = .ok (.tableswitch 51 0 2 #[27, 35, 43], 27) := by decide +kernel
theorem dX6_choice_68 : decode cX6_choice 68 = .ok (.aload_n 0, 1) := by decide +kernel
theorem dX6_choice_69 : decode cX6_choice 69 = .ok (.getfield 19, 3) := by decide +kernel
theorem dX6_choice_72 : decode cX6_choice 72 = .ok (.getfield 265, 3) := by decide +kernel
theorem dX6_choice_75 : decode cX6_choice 75 = .ok (.ireturn, 1) := by decide +kernel
theorem dX6_choice_76 : decode cX6_choice 76 = .ok (.aload_n 0, 1) := by decide +kernel
theorem dX6_choice_77 : decode cX6_choice 77 = .ok (.getfield 19, 3) := by decide +kernel
theorem dX6_choice_80 : decode cX6_choice 80 = .ok (.getfield 268, 3) := by decide +kernel
theorem dX6_choice_83 : decode cX6_choice 83 = .ok (.ireturn, 1) := by decide +kernel
theorem dX6_choice_84 : decode cX6_choice 84 = .ok (.aload_n 0, 1) := by decide +kernel
theorem dX6_choice_85 : decode cX6_choice 85 = .ok (.getfield 19, 3) := by decide +kernel
theorem dX6_choice_88 : decode cX6_choice 88 = .ok (.getfield 269, 3) := by decide +kernel
theorem dX6_choice_91 : decode cX6_choice 91 = .ok (.ireturn, 1) := by decide +kernel
theorem dX6_choice_92 : decode cX6_choice 92 = .ok (.aload_n 0, 1) := by decide +kernel
theorem dX6_choice_93 : decode cX6_choice 93 = .ok (.getfield 19, 3) := by decide +kernel
theorem dX6_choice_96 : decode cX6_choice 96 = .ok (.aload_n 0, 1) := by decide +kernel
theorem dX6_choice_97 : decode cX6_choice 97 = .ok (.getfield 58, 3) := by decide +kernel
theorem dX6_choice_100 : decode cX6_choice 100 = .ok (.invokevirtual 272, 3) := by decide +kernel
theorem dX6_choice_103 : decode cX6_choice 103 = .ok (.ireturn, 1) := by decide +kernel
set_option maxRecDepth 20000 in
theorem ggX6_chosen_X6_needRow : GoodIn wsX6_chosen wsX6_needRow := goodIn_ca (goodIn_ca (goodIn_r _ [8, 9, 10, 11, 12, 1, 13, 14, 15, 16, 7, 17, 18, 19, 20, 110, 111, 112, 113, 114, 115, 116, 117, 118, 119, 120, 129, 130, 131, 132, 133, 134, 135, 136, 137, 138, 139, 140, 141, 142, 143, 144, 145, 146, 147] (by decide +kernel) (by decide +kernel)) (goodIn_sub (fun _ h => List.mem_cons_of_mem _ (List.mem_append_left _ (List.mem_append_right _ h))) (by decide +kernel))) (goodIn_sub (fun _ h => List.mem_cons_of_mem _ (List.mem_append_right _ h)) (by decide +kernel))
set_option maxRecDepth 20000 in
theorem gX6_chosen_X6_needRow : GoodIn wsX6_chosen (wsV RX6 172 RX6 yX6_needRow wsX6_needRow) := goodIn_app (goodIn_of _ (by decide +kernel)) ggX6_chosen_X6_needRow
set_option maxRecDepth 20000 in
theorem ggX6_chosen_X6_needKind : GoodIn wsX6_chosen wsX6_needKind := goodIn_ca (goodIn_r _ [24, 9, 10, 11, 25, 110, 111, 112, 113, 114, 115, 116, 117, 118, 119, 120, 129, 130, 131, 132, 133, 134, 135, 136, 137, 138, 139] (by decide +kernel) (by decide +kernel)) (goodIn_sub (fun _ h => List.mem_cons_of_mem _ (List.mem_append_left _ (List.mem_append_right _ h))) (by decide +kernel))
set_option maxRecDepth 20000 in
theorem gX6_chosen_X6_needKind : GoodIn wsX6_chosen (wsV RX6 219 RX6 yX6_needKind wsX6_needKind) := goodIn_app (goodIn_of _ (by decide +kernel)) ggX6_chosen_X6_needKind
set_option maxRecDepth 20000 in
theorem ggX6_chosen_X6_solve : GoodIn wsX6_chosen wsX6_solve := goodIn_ca (goodIn_r _ [29, 2, 11, 30, 31, 32, 33, 34, 35, 36, 37, 38, 39, 40, 41, 42, 43, 44, 45, 46, 47, 48, 49, 50, 51, 52, 53, 54, 55, 56, 57, 58, 59, 60, 61, 62, 63, 64, 65, 66, 67, 68, 69, 70, 71, 72, 73, 74, 75, 76, 77, 78, 79, 80, 81, 82, 83, 84, 85, 86, 87, 88, 89, 90, 91, 92, 93, 94, 95, 96, 97, 98, 99, 100, 101, 102, 103, 104, 105, 106, 107, 108, 109, 110, 111, 112, 113, 114, 115, 116, 117, 118, 119, 120, 140, 141, 142, 143, 144, 145, 146, 147, 121, 122, 123, 124, 125, 126, 127, 128, 129, 130, 131, 132, 133, 134, 135, 136, 137, 138, 139, 148, 149, 150, 151, 152, 153, 154, 155, 156, 157] (by decide +kernel) (by decide +kernel)) (goodIn_sub (fun _ h => List.mem_cons_of_mem _ (List.mem_append_left _ (List.mem_append_left _ (List.mem_append_right _ h)))) (by decide +kernel))
set_option maxRecDepth 20000 in
theorem gX6_chosen_X6_solve : GoodIn wsX6_chosen (wsV RX6 261 RX6 yX6_solve wsX6_solve) := goodIn_app (goodIn_of _ (by decide +kernel)) ggX6_chosen_X6_solve
theorem dX6_chosen_0 : decode cX6_chosen 0 = .ok (.aload_n 0, 1) := by decide +kernel
theorem dX6_chosen_1 : decode cX6_chosen 1 = .ok (.iload_n 1, 1) := by decide +kernel
theorem dX6_chosen_2 : decode cX6_chosen 2 = .ok (.invokevirtual 172, 3) := by decide +kernel
theorem dX6_chosen_5 : decode cX6_chosen 5 = .ok (.astore_n 3, 1) := by decide +kernel
theorem dX6_chosen_6 : decode cX6_chosen 6 = .ok (.aload_n 0, 1) := by decide +kernel
theorem dX6_chosen_7 : decode cX6_chosen 7 = .ok (.iload_n 2, 1) := by decide +kernel
theorem dX6_chosen_8 : decode cX6_chosen 8 = .ok (.invokevirtual 219, 3) := by decide +kernel
theorem dX6_chosen_11 : decode cX6_chosen 11 = .ok (.aload_n 0, 1) := by decide +kernel
theorem dX6_chosen_12 : decode cX6_chosen 12 = .ok (.aload_n 0, 1) := by decide +kernel
theorem dX6_chosen_13 : decode cX6_chosen 13 = .ok (.getfield 33, 3) := by decide +kernel
theorem dX6_chosen_16 : decode cX6_chosen 16 = .ok (.aload_n 3, 1) := by decide +kernel
theorem dX6_chosen_17 : decode cX6_chosen 17 = .ok (.invokevirtual 261, 3) := by decide +kernel
theorem dX6_chosen_20 : decode cX6_chosen 20 = .ok (.ifCond .eq 15, 3) := by decide +kernel
theorem dX6_chosen_23 : decode cX6_chosen 23 = .ok (.aload_n 0, 1) := by decide +kernel
theorem dX6_chosen_24 : decode cX6_chosen 24 = .ok (.getfield 19, 3) := by decide +kernel
theorem dX6_chosen_27 : decode cX6_chosen 27 = .ok (.getfield 275, 3) := by decide +kernel
theorem dX6_chosen_30 : decode cX6_chosen 30 = .ok (.iload_n 2, 1) := by decide +kernel
theorem dX6_chosen_31 : decode cX6_chosen 31 = .ok (.iaload, 1) := by decide +kernel
theorem dX6_chosen_32 : decode cX6_chosen 32 = .ok (.goto 4, 3) := by decide +kernel
theorem dX6_chosen_35 : decode cX6_chosen 35 = .ok (.iconst (-1), 1) := by decide +kernel
theorem dX6_chosen_36 : decode cX6_chosen 36 = .ok (.ireturn, 1) := by decide +kernel
set_option maxRecDepth 20000 in
theorem ggX6_ways_X6_needRow : GoodIn wsX6_ways wsX6_needRow := goodIn_ca (goodIn_ca (goodIn_r _ [8, 9, 10, 3, 11, 2, 12, 13, 14, 15, 7, 16, 17, 18, 19, 73, 74, 75, 76, 77, 78, 79, 80, 81, 82, 83, 84, 85, 86, 87, 88, 89, 90, 91, 92, 93, 94, 95, 96, 97, 98, 99, 100, 101, 102] (by decide +kernel) (by decide +kernel)) (goodIn_sub (fun _ h => List.mem_cons_of_mem _ (List.mem_append_left _ (List.mem_append_left _ (List.mem_append_right _ h)))) (by decide +kernel))) (goodIn_sub (fun _ h => List.mem_cons_of_mem _ (List.mem_append_left _ (List.mem_append_right _ h))) (by decide +kernel))
set_option maxRecDepth 20000 in
theorem gX6_ways_X6_needRow : GoodIn wsX6_ways (wsV RX6 172 RX6 yX6_needRow wsX6_needRow) := goodIn_app (goodIn_of _ (by decide +kernel)) ggX6_ways_X6_needRow
set_option maxRecDepth 20000 in
theorem ggX6_ways_X4_stockFrom : GoodIn wsX6_ways wsX4_stockFrom := goodIn_r _ [24, 25, 26, 27, 28, 29, 30, 95, 96, 97, 98, 99, 100, 101, 102, 103, 104, 105, 106, 107, 108, 109, 110] (by decide +kernel) (by decide +kernel)
set_option maxRecDepth 20000 in
theorem gX6_ways_X4_stockFrom : GoodIn wsX6_ways (wsV RX6 278 RX4 yX4_stockFrom wsX4_stockFrom) := goodIn_app (goodIn_of _ (by decide +kernel)) ggX6_ways_X4_stockFrom
set_option maxRecDepth 20000 in
theorem ggX6_ways_X3_roomIn : GoodIn wsX6_ways wsX3_roomIn := goodIn_r _ [35, 36, 37, 38, 84, 85, 86, 87, 88, 89, 90, 91, 92, 93, 94, 111, 112, 113, 114, 115, 116, 117, 118, 119, 120] (by decide +kernel) (by decide +kernel)
set_option maxRecDepth 20000 in
theorem gX6_ways_X3_roomIn : GoodIn wsX6_ways (wsV RX6 281 RX3 yX3_roomIn wsX3_roomIn) := goodIn_app (goodIn_of _ (by decide +kernel)) ggX6_ways_X3_roomIn
set_option maxRecDepth 20000 in
theorem ggX6_ways_X5_canHaveQuoin : GoodIn wsX6_ways wsX5_canHaveQuoin := goodIn_r _ [43, 44, 45, 46, 47, 34, 48, 49, 95, 96, 97, 98, 99, 100, 101, 102, 111, 112, 113, 114, 115, 116, 117, 118, 119, 120] (by decide +kernel) (by decide +kernel)
set_option maxRecDepth 20000 in
theorem gX6_ways_X5_canHaveQuoin : GoodIn wsX6_ways (wsV RX6 284 RX5 yX5_canHaveQuoin wsX5_canHaveQuoin) := goodIn_app (goodIn_of _ (by decide +kernel)) ggX6_ways_X5_canHaveQuoin
set_option maxRecDepth 20000 in
theorem ggX6_ways_X4_countWays : GoodIn wsX6_ways wsX4_countWays := goodIn_ca (goodIn_r _ [53, 54, 55, 56, 57, 58, 59, 23, 60, 61, 62, 63, 27, 28, 29, 30, 64, 26, 65, 66, 67, 68, 69, 70, 71, 72, 84, 85, 86, 87, 88, 89, 90, 91, 92, 93, 94, 103, 104, 105, 106, 107, 108, 109, 110] (by decide +kernel) (by decide +kernel)) (goodIn_sub (fun _ h => List.mem_cons_of_mem _ (List.mem_append_right _ h)) (by decide +kernel))
set_option maxRecDepth 20000 in
theorem gX6_ways_X4_countWays : GoodIn wsX6_ways (wsV RX6 288 RX4 yX4_countWays wsX4_countWays) := goodIn_app (goodIn_of _ (by decide +kernel)) ggX6_ways_X4_countWays
theorem dX6_ways_0 : decode cX6_ways 0 = .ok (.aload_n 0, 1) := by decide +kernel
theorem dX6_ways_1 : decode cX6_ways 1 = .ok (.iload_n 1, 1) := by decide +kernel
theorem dX6_ways_2 : decode cX6_ways 2 = .ok (.invokevirtual 172, 3) := by decide +kernel
theorem dX6_ways_5 : decode cX6_ways 5 = .ok (.astore_n 2, 1) := by decide +kernel
theorem dX6_ways_6 : decode cX6_ways 6 = .ok (.aload_n 0, 1) := by decide +kernel
theorem dX6_ways_7 : decode cX6_ways 7 = .ok (.getfield 19, 3) := by decide +kernel
theorem dX6_ways_10 : decode cX6_ways 10 = .ok (.aload_n 0, 1) := by decide +kernel
theorem dX6_ways_11 : decode cX6_ways 11 = .ok (.getfield 33, 3) := by decide +kernel
theorem dX6_ways_14 : decode cX6_ways 14 = .ok (.invokevirtual 278, 3) := by decide +kernel
theorem dX6_ways_17 : decode cX6_ways 17 = .ok (.aload_n 0, 1) := by decide +kernel
theorem dX6_ways_18 : decode cX6_ways 18 = .ok (.getfield 19, 3) := by decide +kernel
theorem dX6_ways_21 : decode cX6_ways 21 = .ok (.aload_n 0, 1) := by decide +kernel
theorem dX6_ways_22 : decode cX6_ways 22 = .ok (.getfield 58, 3) := by decide +kernel
theorem dX6_ways_25 : decode cX6_ways 25 = .ok (.aload_n 2, 1) := by decide +kernel
theorem dX6_ways_26 : decode cX6_ways 26 = .ok (.aload_n 0, 1) := by decide +kernel
theorem dX6_ways_27 : decode cX6_ways 27 = .ok (.getfield 58, 3) := by decide +kernel
theorem dX6_ways_30 : decode cX6_ways 30 = .ok (.invokevirtual 281, 3) := by decide +kernel
theorem dX6_ways_33 : decode cX6_ways 33 = .ok (.aload_n 0, 1) := by decide +kernel
theorem dX6_ways_34 : decode cX6_ways 34 = .ok (.getfield 33, 3) := by decide +kernel
theorem dX6_ways_37 : decode cX6_ways 37 = .ok (.aload_n 2, 1) := by decide +kernel
theorem dX6_ways_38 : decode cX6_ways 38 = .ok (.invokevirtual 284, 3) := by decide +kernel
theorem dX6_ways_41 : decode cX6_ways 41 = .ok (.invokevirtual 288, 3) := by decide +kernel
theorem dX6_ways_44 : decode cX6_ways 44 = .ok (.ireturn, 1) := by decide +kernel
set_option maxRecDepth 20000 in
theorem ggX6_nearest_X6_needRow : GoodIn wsX6_nearest wsX6_needRow := goodIn_ca (goodIn_ca (goodIn_r _ [14, 15, 16, 1, 17, 5, 18, 19, 20, 21, 13, 22, 23, 24, 25, 77, 78, 79, 80, 81, 82, 83, 84, 85, 86, 87, 88, 89, 90, 91, 92, 93, 94, 95, 96, 97, 98, 99, 100, 101, 102, 103, 104, 105, 106] (by decide +kernel) (by decide +kernel)) (goodIn_sub (fun _ h => List.mem_cons_of_mem _ (List.mem_append_left _ (List.mem_append_left _ (List.mem_append_right _ h)))) (by decide +kernel))) (goodIn_sub (fun _ h => List.mem_cons_of_mem _ (List.mem_append_left _ (List.mem_append_right _ h))) (by decide +kernel))
set_option maxRecDepth 20000 in
theorem gX6_nearest_X6_needRow : GoodIn wsX6_nearest (wsV RX6 172 RX6 yX6_needRow wsX6_needRow) := goodIn_app (goodIn_of _ (by decide +kernel)) ggX6_nearest_X6_needRow
set_option maxRecDepth 20000 in
theorem ggX6_nearest_X3_roomIn : GoodIn wsX6_nearest wsX3_roomIn := goodIn_r _ [30, 31, 32, 33, 88, 89, 90, 91, 92, 93, 94, 95, 96, 97, 98, 107, 108, 109, 110, 111, 112, 113, 114, 115, 116] (by decide +kernel) (by decide +kernel)
set_option maxRecDepth 20000 in
theorem gX6_nearest_X3_roomIn : GoodIn wsX6_nearest (wsV RX6 281 RX3 yX3_roomIn wsX3_roomIn) := goodIn_app (goodIn_of _ (by decide +kernel)) ggX6_nearest_X3_roomIn
set_option maxRecDepth 20000 in
theorem ggX6_nearest_X3_hasQuoin : GoodIn wsX6_nearest wsX3_hasQuoin := goodIn_r _ [37, 38, 107, 108, 109, 110, 111, 112, 113, 114, 115, 116] (by decide +kernel) (by decide +kernel)
set_option maxRecDepth 20000 in
theorem gX6_nearest_X3_hasQuoin : GoodIn wsX6_nearest (wsV RX6 199 RX3 yX3_hasQuoin wsX3_hasQuoin) := goodIn_app (goodIn_of _ (by decide +kernel)) ggX6_nearest_X3_hasQuoin
set_option maxRecDepth 20000 in
theorem ggX6_nearest_X4_stockFrom : GoodIn wsX6_nearest wsX4_stockFrom := goodIn_r _ [43, 44, 45, 46, 47, 48, 49, 99, 100, 101, 102, 103, 104, 105, 106, 117, 118, 119, 120, 121, 122, 123, 124] (by decide +kernel) (by decide +kernel)
set_option maxRecDepth 20000 in
theorem gX6_nearest_X4_stockFrom : GoodIn wsX6_nearest (wsV RX6 278 RX4 yX4_stockFrom wsX4_stockFrom) := goodIn_app (goodIn_of _ (by decide +kernel)) ggX6_nearest_X4_stockFrom
set_option maxRecDepth 20000 in
theorem ggX6_nearest_X4_study : GoodIn wsX6_nearest wsX4_study := goodIn_ca (goodIn_r _ [53, 54, 55, 56, 57, 58, 59, 42, 60, 61, 46, 47, 48, 49, 62, 63, 45, 64, 65, 66, 67, 68, 8, 69, 70, 71, 72, 117, 118, 119, 120, 121, 122, 123, 124, 88, 89, 90, 91, 92, 93, 94, 95, 96, 97, 98] (by decide +kernel) (by decide +kernel)) (goodIn_sub (fun _ h => List.mem_cons_of_mem _ (List.mem_append_right _ h)) (by decide +kernel))
set_option maxRecDepth 20000 in
theorem gX6_nearest_X4_study : GoodIn wsX6_nearest (wsV RX6 292 RX4 yX4_study wsX4_study) := goodIn_app (goodIn_of _ (by decide +kernel)) ggX6_nearest_X4_study
set_option maxRecDepth 20000 in
theorem ggX6_nearest_X4_canMake : GoodIn wsX6_nearest wsX4_canMake := goodIn_ca (goodIn_r _ [76, 54, 56, 117, 118, 119, 120, 121, 122, 123, 124] (by decide +kernel) (by decide +kernel)) (goodIn_sub (fun _ h => List.mem_cons_of_mem _ (List.mem_append_right _ h)) (by decide +kernel))
set_option maxRecDepth 20000 in
theorem gX6_nearest_X4_canMake : GoodIn wsX6_nearest (wsV RX6 296 RX4 yX4_canMake wsX4_canMake) := goodIn_app (goodIn_of _ (by decide +kernel)) ggX6_nearest_X4_canMake
theorem dX6_nearest_0 : decode cX6_nearest 0 = .ok (.aload_n 0, 1) := by decide +kernel
theorem dX6_nearest_1 : decode cX6_nearest 1 = .ok (.iload_n 1, 1) := by decide +kernel
theorem dX6_nearest_2 : decode cX6_nearest 2 = .ok (.invokevirtual 172, 3) := by decide +kernel
theorem dX6_nearest_5 : decode cX6_nearest 5 = .ok (.astore_n 2, 1) := by decide +kernel
theorem dX6_nearest_6 : decode cX6_nearest 6 = .ok (.aload_n 2, 1) := by decide +kernel
theorem dX6_nearest_7 : decode cX6_nearest 7 = .ok (.aload_n 0, 1) := by decide +kernel
theorem dX6_nearest_8 : decode cX6_nearest 8 = .ok (.getfield 58, 3) := by decide +kernel
theorem dX6_nearest_11 : decode cX6_nearest 11 = .ok (.invokevirtual 281, 3) := by decide +kernel
theorem dX6_nearest_14 : decode cX6_nearest 14 = .ok (.aload_n 2, 1) := by decide +kernel
theorem dX6_nearest_15 : decode cX6_nearest 15 = .ok (.invokevirtual 199, 3) := by decide +kernel
theorem dX6_nearest_18 : decode cX6_nearest 18 = .ok (.ifCond .eq 13, 3) := by decide +kernel
theorem dX6_nearest_21 : decode cX6_nearest 21 = .ok (.aload_n 0, 1) := by decide +kernel
theorem dX6_nearest_22 : decode cX6_nearest 22 = .ok (.getfield 58, 3) := by decide +kernel
theorem dX6_nearest_25 : decode cX6_nearest 25 = .ok (.getfield 155, 3) := by decide +kernel
theorem dX6_nearest_28 : decode cX6_nearest 28 = .ok (.goto 4, 3) := by decide +kernel
theorem dX6_nearest_31 : decode cX6_nearest 31 = .ok (.iconst 0, 1) := by decide +kernel
theorem dX6_nearest_32 : decode cX6_nearest 32 = .ok (.isub, 1) := by decide +kernel
theorem dX6_nearest_33 : decode cX6_nearest 33 = .ok (.istore_n 3, 1) := by decide +kernel
theorem dX6_nearest_34 : decode cX6_nearest 34 = .ok (.aload_n 2, 1) := by decide +kernel
theorem dX6_nearest_35 : decode cX6_nearest 35 = .ok (.invokevirtual 199, 3) := by decide +kernel
theorem dX6_nearest_38 : decode cX6_nearest 38 = .ok (.ifCond .eq 13, 3) := by decide +kernel
theorem dX6_nearest_41 : decode cX6_nearest 41 = .ok (.aload_n 0, 1) := by decide +kernel
theorem dX6_nearest_42 : decode cX6_nearest 42 = .ok (.getfield 58, 3) := by decide +kernel
theorem dX6_nearest_45 : decode cX6_nearest 45 = .ok (.getfield 158, 3) := by decide +kernel
theorem dX6_nearest_48 : decode cX6_nearest 48 = .ok (.goto 4, 3) := by decide +kernel
theorem dX6_nearest_51 : decode cX6_nearest 51 = .ok (.iconst 0, 1) := by decide +kernel
theorem dX6_nearest_52 : decode cX6_nearest 52 = .ok (.istore 4, 2) := by decide +kernel
theorem dX6_nearest_54 : decode cX6_nearest 54 = .ok (.aload_n 0, 1) := by decide +kernel
theorem dX6_nearest_55 : decode cX6_nearest 55 = .ok (.getfield 19, 3) := by decide +kernel
theorem dX6_nearest_58 : decode cX6_nearest 58 = .ok (.aload_n 0, 1) := by decide +kernel
theorem dX6_nearest_59 : decode cX6_nearest 59 = .ok (.getfield 33, 3) := by decide +kernel
theorem dX6_nearest_62 : decode cX6_nearest 62 = .ok (.invokevirtual 278, 3) := by decide +kernel
theorem dX6_nearest_65 : decode cX6_nearest 65 = .ok (.aload_n 0, 1) := by decide +kernel
theorem dX6_nearest_66 : decode cX6_nearest 66 = .ok (.getfield 19, 3) := by decide +kernel
theorem dX6_nearest_69 : decode cX6_nearest 69 = .ok (.aload_n 0, 1) := by decide +kernel
theorem dX6_nearest_70 : decode cX6_nearest 70 = .ok (.getfield 58, 3) := by decide +kernel
theorem dX6_nearest_73 : decode cX6_nearest 73 = .ok (.invokevirtual 292, 3) := by decide +kernel
theorem dX6_nearest_76 : decode cX6_nearest 76 = .ok (.iload_n 3, 1) := by decide +kernel
theorem dX6_nearest_77 : decode cX6_nearest 77 = .ok (.istore 5, 2) := by decide +kernel
theorem dX6_nearest_79 : decode cX6_nearest 79 = .ok (.iload 5, 2) := by decide +kernel
theorem dX6_nearest_81 : decode cX6_nearest 81 = .ok (.ifCond .le 33, 3) := by decide +kernel
theorem dX6_nearest_84 : decode cX6_nearest 84 = .ok (.aload_n 0, 1) := by decide +kernel
theorem dX6_nearest_85 : decode cX6_nearest 85 = .ok (.getfield 19, 3) := by decide +kernel
theorem dX6_nearest_88 : decode cX6_nearest 88 = .ok (.iload 5, 2) := by decide +kernel
theorem dX6_nearest_90 : decode cX6_nearest 90 = .ok (.invokevirtual 296, 3) := by decide +kernel
theorem dX6_nearest_93 : decode cX6_nearest 93 = .ok (.ifCond .eq 15, 3) := by decide +kernel
theorem dX6_nearest_96 : decode cX6_nearest 96 = .ok (.iconst 0, 1) := by decide +kernel
theorem dX6_nearest_97 : decode cX6_nearest 97 = .ok (.iload_n 3, 1) := by decide +kernel
theorem dX6_nearest_98 : decode cX6_nearest 98 = .ok (.iload 5, 2) := by decide +kernel
theorem dX6_nearest_100 : decode cX6_nearest 100 = .ok (.isub, 1) := by decide +kernel
theorem dX6_nearest_101 : decode cX6_nearest 101 = .ok (.iload 4, 2) := by decide +kernel
theorem dX6_nearest_103 : decode cX6_nearest 103 = .ok (.isub, 1) := by decide +kernel
theorem dX6_nearest_104 : decode cX6_nearest 104 = .ok (.invokestatic 300, 3) := by decide +kernel
theorem dX6_nearest_107 : decode cX6_nearest 107 = .ok (.ireturn, 1) := by decide +kernel
theorem dX6_nearest_108 : decode cX6_nearest 108 = .ok (.iinc 5 (-1), 3) := by decide +kernel
theorem dX6_nearest_111 : decode cX6_nearest 111 = .ok (.goto (-32), 3) := by decide +kernel
theorem dX6_nearest_114 : decode cX6_nearest 114 = .ok (.iconst 0, 1) := by decide +kernel
theorem dX6_nearest_115 : decode cX6_nearest 115 = .ok (.iload_n 3, 1) := by decide +kernel
theorem dX6_nearest_116 : decode cX6_nearest 116 = .ok (.iload 4, 2) := by decide +kernel
theorem dX6_nearest_118 : decode cX6_nearest 118 = .ok (.isub, 1) := by decide +kernel
theorem dX6_nearest_119 : decode cX6_nearest 119 = .ok (.invokestatic 300, 3) := by decide +kernel
theorem dX6_nearest_122 : decode cX6_nearest 122 = .ok (.ireturn, 1) := by decide +kernel
set_option maxRecDepth 20000 in
theorem ggX6_fewestAt_X6_needRow : GoodIn wsX6_fewestAt wsX6_needRow := goodIn_ca (goodIn_ca (goodIn_r _ [8, 9, 10, 3, 11, 2, 12, 13, 14, 15, 7, 16, 17, 18, 19, 123, 124, 125, 126, 127, 128, 129, 130, 131, 132, 133, 134, 135, 136, 137, 138, 139, 140, 141, 142, 143, 144, 145, 146, 147, 148, 149, 150, 151, 152] (by decide +kernel) (by decide +kernel)) (goodIn_sub (fun _ h => List.mem_cons_of_mem _ (List.mem_append_left _ (List.mem_append_left _ (List.mem_append_left _ (List.mem_append_right _ h))))) (by decide +kernel))) (goodIn_sub (fun _ h => List.mem_cons_of_mem _ (List.mem_append_left _ (List.mem_append_left _ (List.mem_append_right _ h)))) (by decide +kernel))
set_option maxRecDepth 20000 in
theorem gX6_fewestAt_X6_needRow : GoodIn wsX6_fewestAt (wsV RX6 172 RX6 yX6_needRow wsX6_needRow) := goodIn_app (goodIn_of _ (by decide +kernel)) ggX6_fewestAt_X6_needRow
set_option maxRecDepth 20000 in
theorem ggX6_fewestAt_X6_needBlockLength : GoodIn wsX6_fewestAt wsX6_needBlockLength := goodIn_ca (goodIn_r _ [22, 23, 24] (by decide +kernel) (by decide +kernel)) (goodIn_sub (fun _ h => List.mem_cons_of_mem _ (List.mem_append_left _ (List.mem_append_right _ h))) (by decide +kernel))
set_option maxRecDepth 20000 in
theorem gX6_fewestAt_X6_needBlockLength : GoodIn wsX6_fewestAt (va_wsS RX6 306 yX6_needBlockLength wsX6_needBlockLength) := goodIn_app (goodIn_of _ (by decide +kernel)) ggX6_fewestAt_X6_needBlockLength
set_option maxRecDepth 20000 in
theorem ggX6_fewestAt_X4_stockFrom : GoodIn wsX6_fewestAt wsX4_stockFrom := goodIn_r _ [29, 30, 31, 32, 33, 34, 35, 145, 146, 147, 148, 149, 150, 151, 152, 153, 154, 155, 156, 157, 158, 159, 160] (by decide +kernel) (by decide +kernel)
set_option maxRecDepth 20000 in
theorem gX6_fewestAt_X4_stockFrom : GoodIn wsX6_fewestAt (wsV RX6 278 RX4 yX4_stockFrom wsX4_stockFrom) := goodIn_app (goodIn_of _ (by decide +kernel)) ggX6_fewestAt_X4_stockFrom
set_option maxRecDepth 20000 in
theorem ggX6_fewestAt_X4_study : GoodIn wsX6_fewestAt wsX4_study := goodIn_ca (goodIn_r _ [39, 40, 41, 42, 43, 44, 45, 28, 46, 47, 32, 33, 34, 35, 48, 49, 31, 50, 51, 52, 53, 54, 55, 56, 57, 58, 59, 153, 154, 155, 156, 157, 158, 159, 160, 134, 135, 136, 137, 138, 139, 140, 141, 142, 143, 144] (by decide +kernel) (by decide +kernel)) (goodIn_sub (fun _ h => List.mem_cons_of_mem _ (List.mem_append_right _ h)) (by decide +kernel))
set_option maxRecDepth 20000 in
theorem gX6_fewestAt_X4_study : GoodIn wsX6_fewestAt (wsV RX6 292 RX4 yX4_study wsX4_study) := goodIn_app (goodIn_of _ (by decide +kernel)) ggX6_fewestAt_X4_study
set_option maxRecDepth 20000 in
theorem ggX6_fewestAt_X6_fewestWith : GoodIn wsX6_fewestAt wsX6_fewestWith := goodIn_ca (goodIn_r _ [63, 3, 1, 2, 64, 65, 66, 67, 68, 69, 70, 71, 72, 73, 74, 75, 76, 77, 78, 79, 80, 81, 82, 83, 84, 85, 86, 87, 88, 89, 90, 91, 92, 93, 94, 95, 96, 97, 98, 99, 28, 100, 42, 101, 102, 103, 104, 105, 106, 107, 40, 108, 109, 110, 111, 112, 113, 114, 115, 116, 117, 41, 47, 118, 49, 31, 119, 120, 121, 122, 53, 54, 55, 56, 123, 124, 125, 126, 127, 128, 129, 130, 131, 132, 133, 153, 154, 155, 156, 157, 158, 159, 160, 161, 162, 163, 164, 165, 166, 167, 168, 169, 170, 134, 135, 136, 137, 138, 139, 140, 141, 142, 143, 144, 145, 146, 147, 148, 149, 150, 151, 152] (by decide +kernel) (by decide +kernel)) (goodIn_sub (fun _ h => List.mem_cons_of_mem _ (List.mem_append_right _ h)) (by decide +kernel))
set_option maxRecDepth 20000 in
theorem gX6_fewestAt_X6_fewestWith : GoodIn wsX6_fewestAt (wsV RX6 309 RX6 yX6_fewestWith wsX6_fewestWith) := goodIn_app (goodIn_of _ (by decide +kernel)) ggX6_fewestAt_X6_fewestWith
theorem dX6_fewestAt_0 : decode cX6_fewestAt 0 = .ok (.aload_n 0, 1) := by decide +kernel
theorem dX6_fewestAt_1 : decode cX6_fewestAt 1 = .ok (.iload_n 1, 1) := by decide +kernel
theorem dX6_fewestAt_2 : decode cX6_fewestAt 2 = .ok (.invokevirtual 172, 3) := by decide +kernel
theorem dX6_fewestAt_5 : decode cX6_fewestAt 5 = .ok (.astore_n 3, 1) := by decide +kernel
theorem dX6_fewestAt_6 : decode cX6_fewestAt 6 = .ok (.iload_n 2, 1) := by decide +kernel
theorem dX6_fewestAt_7 : decode cX6_fewestAt 7 = .ok (.invokestatic 306, 3) := by decide +kernel
theorem dX6_fewestAt_10 : decode cX6_fewestAt 10 = .ok (.aload_n 0, 1) := by decide +kernel
theorem dX6_fewestAt_11 : decode cX6_fewestAt 11 = .ok (.getfield 19, 3) := by decide +kernel
theorem dX6_fewestAt_14 : decode cX6_fewestAt 14 = .ok (.aload_n 0, 1) := by decide +kernel
theorem dX6_fewestAt_15 : decode cX6_fewestAt 15 = .ok (.getfield 33, 3) := by decide +kernel
theorem dX6_fewestAt_18 : decode cX6_fewestAt 18 = .ok (.invokevirtual 278, 3) := by decide +kernel
theorem dX6_fewestAt_21 : decode cX6_fewestAt 21 = .ok (.aload_n 0, 1) := by decide +kernel
theorem dX6_fewestAt_22 : decode cX6_fewestAt 22 = .ok (.getfield 19, 3) := by decide +kernel
theorem dX6_fewestAt_25 : decode cX6_fewestAt 25 = .ok (.aload_n 0, 1) := by decide +kernel
theorem dX6_fewestAt_26 : decode cX6_fewestAt 26 = .ok (.getfield 58, 3) := by decide +kernel
theorem dX6_fewestAt_29 : decode cX6_fewestAt 29 = .ok (.invokevirtual 292, 3) := by decide +kernel
theorem dX6_fewestAt_32 : decode cX6_fewestAt 32 = .ok (.aload_n 0, 1) := by decide +kernel
theorem dX6_fewestAt_33 : decode cX6_fewestAt 33 = .ok (.aload_n 3, 1) := by decide +kernel
theorem dX6_fewestAt_34 : decode cX6_fewestAt 34 = .ok (.iload_n 2, 1) := by decide +kernel
theorem dX6_fewestAt_35 : decode cX6_fewestAt 35 = .ok (.invokevirtual 309, 3) := by decide +kernel
theorem dX6_fewestAt_38 : decode cX6_fewestAt 38 = .ok (.ireturn, 1) := by decide +kernel
set_option maxRecDepth 20000 in
theorem ggX6_rowFor_X6_needChase : GoodIn wsX6_rowFor wsX6_needChase := goodIn_ca (goodIn_r _ [11, 12, 13, 14, 118, 119, 120, 121, 122, 123, 124, 125, 126, 127, 128] (by decide +kernel) (by decide +kernel)) (goodIn_sub (fun _ h => List.mem_cons_of_mem _ (List.mem_append_left _ (List.mem_append_left _ (List.mem_append_right _ h)))) (by decide +kernel))
set_option maxRecDepth 20000 in
theorem gX6_rowFor_X6_needChase : GoodIn wsX6_rowFor (wsV RX6 112 RX6 yX6_needChase wsX6_needChase) := goodIn_app (goodIn_of _ (by decide +kernel)) ggX6_rowFor_X6_needChase
set_option maxRecDepth 20000 in
theorem ggX6_rowFor_X6_needBlockLength : GoodIn wsX6_rowFor wsX6_needBlockLength := goodIn_ca (goodIn_r _ [17, 18, 19] (by decide +kernel) (by decide +kernel)) (goodIn_sub (fun _ h => List.mem_cons_of_mem _ (List.mem_append_left _ (List.mem_append_right _ h))) (by decide +kernel))
set_option maxRecDepth 20000 in
theorem gX6_rowFor_X6_needBlockLength : GoodIn wsX6_rowFor (va_wsS RX6 306 yX6_needBlockLength wsX6_needBlockLength) := goodIn_app (goodIn_of _ (by decide +kernel)) ggX6_rowFor_X6_needBlockLength
set_option maxRecDepth 20000 in
theorem ggX6_rowFor_X4_stockFrom : GoodIn wsX6_rowFor wsX4_stockFrom := goodIn_r _ [24, 25, 26, 27, 28, 29, 30, 140, 141, 142, 143, 144, 145, 146, 147, 148, 149, 150, 151, 152, 153, 154, 155] (by decide +kernel) (by decide +kernel)
set_option maxRecDepth 20000 in
theorem gX6_rowFor_X4_stockFrom : GoodIn wsX6_rowFor (wsV RX6 278 RX4 yX4_stockFrom wsX4_stockFrom) := goodIn_app (goodIn_of _ (by decide +kernel)) ggX6_rowFor_X4_stockFrom
set_option maxRecDepth 20000 in
theorem ggX6_rowFor_X4_study : GoodIn wsX6_rowFor wsX4_study := goodIn_ca (goodIn_r _ [34, 35, 36, 37, 38, 39, 40, 23, 41, 42, 27, 28, 29, 30, 43, 44, 26, 45, 46, 47, 48, 49, 50, 51, 52, 53, 54, 148, 149, 150, 151, 152, 153, 154, 155, 129, 130, 131, 132, 133, 134, 135, 136, 137, 138, 139] (by decide +kernel) (by decide +kernel)) (goodIn_sub (fun _ h => List.mem_cons_of_mem _ (List.mem_append_right _ h)) (by decide +kernel))
set_option maxRecDepth 20000 in
theorem gX6_rowFor_X4_study : GoodIn wsX6_rowFor (wsV RX6 292 RX4 yX4_study wsX4_study) := goodIn_app (goodIn_of _ (by decide +kernel)) ggX6_rowFor_X4_study
set_option maxRecDepth 20000 in
theorem ggX6_rowFor_X6_fewestWith : GoodIn wsX6_rowFor wsX6_fewestWith := goodIn_ca (goodIn_r _ [58, 3, 1, 2, 59, 60, 61, 62, 63, 64, 65, 66, 67, 68, 69, 70, 71, 72, 73, 74, 75, 76, 77, 78, 79, 80, 81, 82, 83, 84, 85, 86, 87, 88, 89, 90, 91, 92, 93, 94, 23, 95, 37, 96, 97, 98, 99, 100, 101, 102, 35, 103, 104, 105, 106, 107, 108, 109, 110, 111, 112, 36, 42, 113, 44, 26, 114, 115, 116, 117, 48, 49, 50, 51, 118, 119, 120, 121, 122, 123, 124, 125, 126, 127, 128, 148, 149, 150, 151, 152, 153, 154, 155, 156, 157, 158, 159, 160, 161, 162, 163, 164, 165, 129, 130, 131, 132, 133, 134, 135, 136, 137, 138, 139, 140, 141, 142, 143, 144, 145, 146, 147] (by decide +kernel) (by decide +kernel)) (goodIn_sub (fun _ h => List.mem_cons_of_mem _ (List.mem_append_right _ h)) (by decide +kernel))
set_option maxRecDepth 20000 in
theorem gX6_rowFor_X6_fewestWith : GoodIn wsX6_rowFor (wsV RX6 309 RX6 yX6_fewestWith wsX6_fewestWith) := goodIn_app (goodIn_of _ (by decide +kernel)) ggX6_rowFor_X6_fewestWith
theorem dX6_rowFor_0 : decode cX6_rowFor 0 = .ok (.aload_n 0, 1) := by decide +kernel
theorem dX6_rowFor_1 : decode cX6_rowFor 1 = .ok (.invokevirtual 112, 3) := by decide +kernel
theorem dX6_rowFor_4 : decode cX6_rowFor 4 = .ok (.iload_n 1, 1) := by decide +kernel
theorem dX6_rowFor_5 : decode cX6_rowFor 5 = .ok (.invokestatic 306, 3) := by decide +kernel
theorem dX6_rowFor_8 : decode cX6_rowFor 8 = .ok (.aload_n 0, 1) := by decide +kernel
theorem dX6_rowFor_9 : decode cX6_rowFor 9 = .ok (.getfield 19, 3) := by decide +kernel
theorem dX6_rowFor_12 : decode cX6_rowFor 12 = .ok (.aload_n 0, 1) := by decide +kernel
theorem dX6_rowFor_13 : decode cX6_rowFor 13 = .ok (.getfield 33, 3) := by decide +kernel
theorem dX6_rowFor_16 : decode cX6_rowFor 16 = .ok (.invokevirtual 278, 3) := by decide +kernel
theorem dX6_rowFor_19 : decode cX6_rowFor 19 = .ok (.aload_n 0, 1) := by decide +kernel
theorem dX6_rowFor_20 : decode cX6_rowFor 20 = .ok (.getfield 19, 3) := by decide +kernel
theorem dX6_rowFor_23 : decode cX6_rowFor 23 = .ok (.aload_n 0, 1) := by decide +kernel
theorem dX6_rowFor_24 : decode cX6_rowFor 24 = .ok (.getfield 58, 3) := by decide +kernel
theorem dX6_rowFor_27 : decode cX6_rowFor 27 = .ok (.invokevirtual 292, 3) := by decide +kernel
theorem dX6_rowFor_30 : decode cX6_rowFor 30 = .ok (.iconst (-1), 1) := by decide +kernel
theorem dX6_rowFor_31 : decode cX6_rowFor 31 = .ok (.istore_n 2, 1) := by decide +kernel
theorem dX6_rowFor_32 : decode cX6_rowFor 32 = .ok (.ldc_w 313, 3) := by decide +kernel
theorem dX6_rowFor_35 : decode cX6_rowFor 35 = .ok (.istore_n 3, 1) := by decide +kernel
theorem dX6_rowFor_36 : decode cX6_rowFor 36 = .ok (.iconst 0, 1) := by decide +kernel
theorem dX6_rowFor_37 : decode cX6_rowFor 37 = .ok (.istore 4, 2) := by decide +kernel
theorem dX6_rowFor_39 : decode cX6_rowFor 39 = .ok (.iload 4, 2) := by decide +kernel
theorem dX6_rowFor_41 : decode cX6_rowFor 41 = .ok (.aload_n 0, 1) := by decide +kernel
theorem dX6_rowFor_42 : decode cX6_rowFor 42 = .ok (.getfield 58, 3) := by decide +kernel
theorem dX6_rowFor_45 : decode cX6_rowFor 45 = .ok (.getfield 115, 3) := by decide +kernel
theorem dX6_rowFor_48 : decode cX6_rowFor 48 = .ok (.if_icmp .ge 44, 3) := by decide +kernel
theorem dX6_rowFor_51 : decode cX6_rowFor 51 = .ok (.aload_n 0, 1) := by decide +kernel
theorem dX6_rowFor_52 : decode cX6_rowFor 52 = .ok (.aload_n 0, 1) := by decide +kernel
theorem dX6_rowFor_53 : decode cX6_rowFor 53 = .ok (.getfield 33, 3) := by decide +kernel
theorem dX6_rowFor_56 : decode cX6_rowFor 56 = .ok (.getfield 246, 3) := by decide +kernel
theorem dX6_rowFor_59 : decode cX6_rowFor 59 = .ok (.iload 4, 2) := by decide +kernel
theorem dX6_rowFor_61 : decode cX6_rowFor 61 = .ok (.aaload, 1) := by decide +kernel
theorem dX6_rowFor_62 : decode cX6_rowFor 62 = .ok (.iload_n 1, 1) := by decide +kernel
theorem dX6_rowFor_63 : decode cX6_rowFor 63 = .ok (.invokevirtual 309, 3) := by decide +kernel
theorem dX6_rowFor_66 : decode cX6_rowFor 66 = .ok (.istore 5, 2) := by decide +kernel
theorem dX6_rowFor_68 : decode cX6_rowFor 68 = .ok (.iload 5, 2) := by decide +kernel
theorem dX6_rowFor_70 : decode cX6_rowFor 70 = .ok (.iconst (-1), 1) := by decide +kernel
theorem dX6_rowFor_71 : decode cX6_rowFor 71 = .ok (.if_icmp .eq 15, 3) := by decide +kernel
theorem dX6_rowFor_74 : decode cX6_rowFor 74 = .ok (.iload 5, 2) := by decide +kernel
theorem dX6_rowFor_76 : decode cX6_rowFor 76 = .ok (.iload_n 3, 1) := by decide +kernel
theorem dX6_rowFor_77 : decode cX6_rowFor 77 = .ok (.if_icmp .ge 9, 3) := by decide +kernel
theorem dX6_rowFor_80 : decode cX6_rowFor 80 = .ok (.iload 4, 2) := by decide +kernel
theorem dX6_rowFor_82 : decode cX6_rowFor 82 = .ok (.istore_n 2, 1) := by decide +kernel
theorem dX6_rowFor_83 : decode cX6_rowFor 83 = .ok (.iload 5, 2) := by decide +kernel
theorem dX6_rowFor_85 : decode cX6_rowFor 85 = .ok (.istore_n 3, 1) := by decide +kernel
theorem dX6_rowFor_86 : decode cX6_rowFor 86 = .ok (.iinc 4 1, 3) := by decide +kernel
theorem dX6_rowFor_89 : decode cX6_rowFor 89 = .ok (.goto (-50), 3) := by decide +kernel
theorem dX6_rowFor_92 : decode cX6_rowFor 92 = .ok (.iload_n 2, 1) := by decide +kernel
theorem dX6_rowFor_93 : decode cX6_rowFor 93 = .ok (.ireturn, 1) := by decide +kernel
set_option maxRecDepth 20000 in
theorem ggX6_fewestWith_X3_takesBlock : GoodIn wsX6_fewestWith wsX3_takesBlock := goodIn_r _ [9, 10, 11, 12, 13, 8, 14, 15, 16, 17, 18, 19, 20, 21, 22, 23, 24, 25, 26, 27, 28, 93, 94, 95, 96, 97, 98, 99, 100, 101, 102, 103, 104, 105, 106, 107, 108, 109, 110, 111, 112, 113] (by decide +kernel) (by decide +kernel)
set_option maxRecDepth 20000 in
theorem gX6_fewestWith_X3_takesBlock : GoodIn wsX6_fewestWith (wsV RX6 314 RX3 yX3_takesBlock wsX3_takesBlock) := goodIn_app (goodIn_of _ (by decide +kernel)) ggX6_fewestWith_X3_takesBlock
set_option maxRecDepth 20000 in
theorem ggX6_fewestWith_X3_roomIn : GoodIn wsX6_fewestWith wsX3_roomIn := goodIn_r _ [21, 22, 23, 24, 103, 104, 105, 106, 107, 108, 109, 110, 111, 112, 113, 93, 94, 95, 96, 97, 98, 99, 100, 101, 102] (by decide +kernel) (by decide +kernel)
set_option maxRecDepth 20000 in
theorem gX6_fewestWith_X3_roomIn : GoodIn wsX6_fewestWith (wsV RX6 281 RX3 yX3_roomIn wsX3_roomIn) := goodIn_app (goodIn_of _ (by decide +kernel)) ggX6_fewestWith_X3_roomIn
set_option maxRecDepth 20000 in
theorem ggX6_fewestWith_X5_canHaveQuoin : GoodIn wsX6_fewestWith wsX5_canHaveQuoin := goodIn_r _ [34, 35, 36, 26, 27, 8, 28, 16, 114, 115, 116, 117, 118, 119, 120, 121, 93, 94, 95, 96, 97, 98, 99, 100, 101, 102] (by decide +kernel) (by decide +kernel)
set_option maxRecDepth 20000 in
theorem gX6_fewestWith_X5_canHaveQuoin : GoodIn wsX6_fewestWith (wsV RX6 284 RX5 yX5_canHaveQuoin wsX5_canHaveQuoin) := goodIn_app (goodIn_of _ (by decide +kernel)) ggX6_fewestWith_X5_canHaveQuoin
set_option maxRecDepth 20000 in
theorem ggX6_fewestWith_X4_choose : GoodIn wsX6_fewestWith wsX4_choose := goodIn_ca (goodIn_r _ [41, 42, 43, 44, 45, 46, 47, 48, 40, 49, 50, 51, 52, 53, 54, 55, 56, 57, 58, 59, 60, 61, 62, 63, 64, 65, 66, 67, 68, 69, 70, 71, 72, 73, 85, 86, 87, 88, 89, 90, 91, 92, 103, 104, 105, 106, 107, 108, 109, 110, 111, 112, 113] (by decide +kernel) (by decide +kernel)) (goodIn_sub (fun _ h => List.mem_cons_of_mem _ (List.mem_append_right _ h)) (by decide +kernel))
set_option maxRecDepth 20000 in
theorem gX6_fewestWith_X4_choose : GoodIn wsX6_fewestWith (wsV RX6 318 RX4 yX4_choose wsX4_choose) := goodIn_app (goodIn_of _ (by decide +kernel)) ggX6_fewestWith_X4_choose
theorem dX6_fewestWith_0 : decode cX6_fewestWith 0 = .ok (.aload_n 1, 1) := by decide +kernel
theorem dX6_fewestWith_1 : decode cX6_fewestWith 1 = .ok (.aload_n 0, 1) := by decide +kernel
theorem dX6_fewestWith_2 : decode cX6_fewestWith 2 = .ok (.getfield 58, 3) := by decide +kernel
theorem dX6_fewestWith_5 : decode cX6_fewestWith 5 = .ok (.iload_n 2, 1) := by decide +kernel
theorem dX6_fewestWith_6 : decode cX6_fewestWith 6 = .ok (.invokevirtual 314, 3) := by decide +kernel
theorem dX6_fewestWith_9 : decode cX6_fewestWith 9 = .ok (.ifCond .ne 5, 3) := by decide +kernel
theorem dX6_fewestWith_12 : decode cX6_fewestWith 12 = .ok (.iconst (-1), 1) := by decide +kernel
theorem dX6_fewestWith_13 : decode cX6_fewestWith 13 = .ok (.ireturn, 1) := by decide +kernel
theorem dX6_fewestWith_14 : decode cX6_fewestWith 14 = .ok (.aload_n 0, 1) := by decide +kernel
theorem dX6_fewestWith_15 : decode cX6_fewestWith 15 = .ok (.getfield 19, 3) := by decide +kernel
theorem dX6_fewestWith_18 : decode cX6_fewestWith 18 = .ok (.aload_n 0, 1) := by decide +kernel
theorem dX6_fewestWith_19 : decode cX6_fewestWith 19 = .ok (.getfield 58, 3) := by decide +kernel
theorem dX6_fewestWith_22 : decode cX6_fewestWith 22 = .ok (.aload_n 1, 1) := by decide +kernel
theorem dX6_fewestWith_23 : decode cX6_fewestWith 23 = .ok (.aload_n 0, 1) := by decide +kernel
theorem dX6_fewestWith_24 : decode cX6_fewestWith 24 = .ok (.getfield 58, 3) := by decide +kernel
theorem dX6_fewestWith_27 : decode cX6_fewestWith 27 = .ok (.invokevirtual 281, 3) := by decide +kernel
theorem dX6_fewestWith_30 : decode cX6_fewestWith 30 = .ok (.iload_n 2, 1) := by decide +kernel
theorem dX6_fewestWith_31 : decode cX6_fewestWith 31 = .ok (.isub, 1) := by decide +kernel
theorem dX6_fewestWith_32 : decode cX6_fewestWith 32 = .ok (.aload_n 0, 1) := by decide +kernel
theorem dX6_fewestWith_33 : decode cX6_fewestWith 33 = .ok (.getfield 33, 3) := by decide +kernel
theorem dX6_fewestWith_36 : decode cX6_fewestWith 36 = .ok (.aload_n 1, 1) := by decide +kernel
theorem dX6_fewestWith_37 : decode cX6_fewestWith 37 = .ok (.invokevirtual 284, 3) := by decide +kernel
theorem dX6_fewestWith_40 : decode cX6_fewestWith 40 = .ok (.invokevirtual 318, 3) := by decide +kernel
theorem dX6_fewestWith_43 : decode cX6_fewestWith 43 = .ok (.istore_n 3, 1) := by decide +kernel
theorem dX6_fewestWith_44 : decode cX6_fewestWith 44 = .ok (.iload_n 3, 1) := by decide +kernel
theorem dX6_fewestWith_45 : decode cX6_fewestWith 45 = .ok (.ifCond .eq 13, 3) := by decide +kernel
theorem dX6_fewestWith_48 : decode cX6_fewestWith 48 = .ok (.aload_n 0, 1) := by decide +kernel
theorem dX6_fewestWith_49 : decode cX6_fewestWith 49 = .ok (.getfield 19, 3) := by decide +kernel
theorem dX6_fewestWith_52 : decode cX6_fewestWith 52 = .ok (.getfield 265, 3) := by decide +kernel
theorem dX6_fewestWith_55 : decode cX6_fewestWith 55 = .ok (.goto 4, 3) := by decide +kernel
theorem dX6_fewestWith_58 : decode cX6_fewestWith 58 = .ok (.iconst (-1), 1) := by decide +kernel
theorem dX6_fewestWith_59 : decode cX6_fewestWith 59 = .ok (.ireturn, 1) := by decide +kernel
set_option maxRecDepth 20000 in
theorem ggX6_missing_X6_needRow : GoodIn wsX6_missing wsX6_needRow := goodIn_ca (goodIn_ca (goodIn_r _ [8, 9, 10, 3, 11, 1, 12, 13, 14, 15, 7, 16, 17, 18, 19, 109, 110, 111, 112, 113, 114, 115, 116, 117, 118, 119, 120, 121, 122, 123, 124, 125, 126, 127, 128, 129, 130, 131, 132, 133, 134, 135, 136, 137, 138] (by decide +kernel) (by decide +kernel)) (goodIn_sub (fun _ h => List.mem_cons_of_mem _ (List.mem_append_left _ (List.mem_append_left _ (List.mem_append_right _ h)))) (by decide +kernel))) (goodIn_sub (fun _ h => List.mem_cons_of_mem _ (List.mem_append_left _ (List.mem_append_right _ h))) (by decide +kernel))
set_option maxRecDepth 20000 in
theorem gX6_missing_X6_needRow : GoodIn wsX6_missing (wsV RX6 172 RX6 yX6_needRow wsX6_needRow) := goodIn_app (goodIn_of _ (by decide +kernel)) ggX6_missing_X6_needRow
set_option maxRecDepth 20000 in
theorem ggX6_missing_X6_solve : GoodIn wsX6_missing wsX6_solve := goodIn_ca (goodIn_r _ [23, 2, 3, 24, 25, 26, 27, 28, 29, 30, 31, 32, 33, 34, 35, 36, 37, 38, 39, 40, 41, 42, 43, 44, 45, 46, 47, 48, 49, 50, 51, 52, 53, 54, 55, 56, 57, 58, 59, 60, 61, 62, 63, 64, 65, 66, 67, 68, 69, 70, 71, 72, 73, 74, 75, 76, 77, 78, 79, 80, 81, 82, 83, 84, 85, 86, 87, 88, 89, 90, 91, 92, 93, 94, 95, 96, 97, 98, 99, 100, 101, 102, 103, 109, 110, 111, 112, 113, 114, 115, 116, 117, 118, 119, 131, 132, 133, 134, 135, 136, 137, 138, 139, 140, 141, 142, 143, 144, 145, 146, 120, 121, 122, 123, 124, 125, 126, 127, 128, 129, 130, 147, 148, 149, 150, 151, 152, 153, 154, 155, 156] (by decide +kernel) (by decide +kernel)) (goodIn_sub (fun _ h => List.mem_cons_of_mem _ (List.mem_append_right _ h)) (by decide +kernel))
set_option maxRecDepth 20000 in
theorem gX6_missing_X6_solve : GoodIn wsX6_missing (wsV RX6 261 RX6 yX6_solve wsX6_solve) := goodIn_app (goodIn_of _ (by decide +kernel)) ggX6_missing_X6_solve
set_option maxRecDepth 20000 in
theorem ggX6_missing_X3_roomIn : GoodIn wsX6_missing wsX3_roomIn := goodIn_r _ [63, 64, 65, 66, 120, 121, 122, 123, 124, 125, 126, 127, 128, 129, 130, 147, 148, 149, 150, 151, 152, 153, 154, 155, 156] (by decide +kernel) (by decide +kernel)
set_option maxRecDepth 20000 in
theorem gX6_missing_X3_roomIn : GoodIn wsX6_missing (wsV RX6 281 RX3 yX3_roomIn wsX3_roomIn) := goodIn_app (goodIn_of _ (by decide +kernel)) ggX6_missing_X3_roomIn
set_option maxRecDepth 20000 in
theorem ggX6_missing_X5_canHaveQuoin : GoodIn wsX6_missing wsX5_canHaveQuoin := goodIn_r _ [71, 72, 73, 74, 75, 62, 76, 77, 131, 132, 133, 134, 135, 136, 137, 138, 147, 148, 149, 150, 151, 152, 153, 154, 155, 156] (by decide +kernel) (by decide +kernel)
set_option maxRecDepth 20000 in
theorem gX6_missing_X5_canHaveQuoin : GoodIn wsX6_missing (wsV RX6 284 RX5 yX5_canHaveQuoin wsX5_canHaveQuoin) := goodIn_app (goodIn_of _ (by decide +kernel)) ggX6_missing_X5_canHaveQuoin
set_option maxRecDepth 20000 in
theorem ggX6_missing_X4_findMissing : GoodIn wsX6_missing wsX4_findMissing := goodIn_ca (goodIn_r _ [107, 40, 46, 30, 42, 43, 44, 27, 45, 39, 31, 32, 33, 34, 47, 48, 49, 50, 51, 52, 53, 54, 55, 56, 57, 58, 108, 79, 80, 81, 41, 82, 83, 84, 85, 86, 87, 88, 89, 90, 91, 92, 93, 94, 95, 96, 97, 98, 99, 100, 101, 102, 103, 120, 121, 122, 123, 124, 125, 126, 127, 128, 129, 130, 139, 140, 141, 142, 143, 144, 145, 146] (by decide +kernel) (by decide +kernel)) (goodIn_sub (fun _ h => List.mem_cons_of_mem _ (List.mem_append_right _ h)) (by decide +kernel))
set_option maxRecDepth 20000 in
theorem gX6_missing_X4_findMissing : GoodIn wsX6_missing (wsV RX6 322 RX4 yX4_findMissing wsX4_findMissing) := goodIn_app (goodIn_of _ (by decide +kernel)) ggX6_missing_X4_findMissing
theorem dX6_missing_0 : decode cX6_missing 0 = .ok (.aload_n 0, 1) := by decide +kernel
theorem dX6_missing_1 : decode cX6_missing 1 = .ok (.iload_n 1, 1) := by decide +kernel
theorem dX6_missing_2 : decode cX6_missing 2 = .ok (.invokevirtual 172, 3) := by decide +kernel
theorem dX6_missing_5 : decode cX6_missing 5 = .ok (.astore_n 2, 1) := by decide +kernel
theorem dX6_missing_6 : decode cX6_missing 6 = .ok (.aload_n 0, 1) := by decide +kernel
theorem dX6_missing_7 : decode cX6_missing 7 = .ok (.aload_n 0, 1) := by decide +kernel
theorem dX6_missing_8 : decode cX6_missing 8 = .ok (.getfield 33, 3) := by decide +kernel
theorem dX6_missing_11 : decode cX6_missing 11 = .ok (.aload_n 2, 1) := by decide +kernel
theorem dX6_missing_12 : decode cX6_missing 12 = .ok (.invokevirtual 261, 3) := by decide +kernel
theorem dX6_missing_15 : decode cX6_missing 15 = .ok (.ifCond .eq 5, 3) := by decide +kernel
theorem dX6_missing_18 : decode cX6_missing 18 = .ok (.iconst (-1), 1) := by decide +kernel
theorem dX6_missing_19 : decode cX6_missing 19 = .ok (.ireturn, 1) := by decide +kernel
theorem dX6_missing_20 : decode cX6_missing 20 = .ok (.aload_n 0, 1) := by decide +kernel
theorem dX6_missing_21 : decode cX6_missing 21 = .ok (.getfield 19, 3) := by decide +kernel
theorem dX6_missing_24 : decode cX6_missing 24 = .ok (.aload_n 0, 1) := by decide +kernel
theorem dX6_missing_25 : decode cX6_missing 25 = .ok (.getfield 58, 3) := by decide +kernel
theorem dX6_missing_28 : decode cX6_missing 28 = .ok (.aload_n 2, 1) := by decide +kernel
theorem dX6_missing_29 : decode cX6_missing 29 = .ok (.aload_n 0, 1) := by decide +kernel
theorem dX6_missing_30 : decode cX6_missing 30 = .ok (.getfield 58, 3) := by decide +kernel
theorem dX6_missing_33 : decode cX6_missing 33 = .ok (.invokevirtual 281, 3) := by decide +kernel
theorem dX6_missing_36 : decode cX6_missing 36 = .ok (.aload_n 0, 1) := by decide +kernel
theorem dX6_missing_37 : decode cX6_missing 37 = .ok (.getfield 33, 3) := by decide +kernel
theorem dX6_missing_40 : decode cX6_missing 40 = .ok (.aload_n 2, 1) := by decide +kernel
theorem dX6_missing_41 : decode cX6_missing 41 = .ok (.invokevirtual 284, 3) := by decide +kernel
theorem dX6_missing_44 : decode cX6_missing 44 = .ok (.invokevirtual 322, 3) := by decide +kernel
theorem dX6_missing_47 : decode cX6_missing 47 = .ok (.ireturn, 1) := by decide +kernel
set_option maxRecDepth 20000 in
theorem ggX6_canPut_X6_needRow : GoodIn wsX6_canPut wsX6_needRow := goodIn_ca (goodIn_ca (goodIn_r _ [5, 6, 7, 8, 9, 10, 11, 12, 13, 14, 4, 15, 16, 17, 18, 49, 50, 51, 52, 53, 54, 55, 56, 57, 58, 59, 60, 61, 62, 63, 64, 65, 66, 67, 68, 69, 70, 71, 72, 73, 74, 75, 76, 77, 78] (by decide +kernel) (by decide +kernel)) (goodIn_sub (fun _ h => List.mem_cons_of_mem _ (List.mem_append_left _ (List.mem_append_left _ (List.mem_append_right _ h)))) (by decide +kernel))) (goodIn_sub (fun _ h => List.mem_cons_of_mem _ (List.mem_append_left _ (List.mem_append_right _ h))) (by decide +kernel))
set_option maxRecDepth 20000 in
theorem gX6_canPut_X6_needRow : GoodIn wsX6_canPut (wsV RX6 172 RX6 yX6_needRow wsX6_needRow) := goodIn_app (goodIn_of _ (by decide +kernel)) ggX6_canPut_X6_needRow
set_option maxRecDepth 20000 in
theorem ggX6_canPut_X6_needKind : GoodIn wsX6_canPut wsX6_needKind := goodIn_ca (goodIn_r _ [22, 6, 7, 8, 23, 49, 50, 51, 52, 53, 54, 55, 56, 57, 58, 59, 60, 61, 62, 63, 64, 65, 66, 67, 68, 69, 70] (by decide +kernel) (by decide +kernel)) (goodIn_sub (fun _ h => List.mem_cons_of_mem _ (List.mem_append_left _ (List.mem_append_left _ (List.mem_append_right _ h)))) (by decide +kernel))
set_option maxRecDepth 20000 in
theorem gX6_canPut_X6_needKind : GoodIn wsX6_canPut (wsV RX6 219 RX6 yX6_needKind wsX6_needKind) := goodIn_app (goodIn_of _ (by decide +kernel)) ggX6_canPut_X6_needKind
set_option maxRecDepth 20000 in
theorem ggX6_canPut_X6_takesPiece : GoodIn wsX6_canPut wsX6_takesPiece := goodIn_ca (goodIn_r _ [27, 10, 28, 8, 29, 30, 31, 32, 33, 34, 35, 36, 37, 38, 39, 40, 41, 42, 43, 44, 45, 46, 47, 48, 49, 50, 51, 52, 53, 54, 55, 56, 57, 58, 59, 71, 72, 73, 74, 75, 76, 77, 78, 60, 61, 62, 63, 64, 65, 66, 67, 68, 69, 70, 79, 80, 81, 82, 83, 84, 85, 86, 87, 88] (by decide +kernel) (by decide +kernel)) (goodIn_sub (fun _ h => List.mem_cons_of_mem _ (List.mem_append_right _ h)) (by decide +kernel))
set_option maxRecDepth 20000 in
theorem gX6_canPut_X6_takesPiece : GoodIn wsX6_canPut (wsV RX6 325 RX6 yX6_takesPiece wsX6_takesPiece) := goodIn_app (goodIn_of _ (by decide +kernel)) ggX6_canPut_X6_takesPiece
theorem dX6_canPut_0 : decode cX6_canPut 0 = .ok (.aload_n 0, 1) := by decide +kernel
theorem dX6_canPut_1 : decode cX6_canPut 1 = .ok (.iload_n 1, 1) := by decide +kernel
theorem dX6_canPut_2 : decode cX6_canPut 2 = .ok (.invokevirtual 172, 3) := by decide +kernel
theorem dX6_canPut_5 : decode cX6_canPut 5 = .ok (.astore_n 3, 1) := by decide +kernel
theorem dX6_canPut_6 : decode cX6_canPut 6 = .ok (.aload_n 0, 1) := by decide +kernel
theorem dX6_canPut_7 : decode cX6_canPut 7 = .ok (.iload_n 2, 1) := by decide +kernel
theorem dX6_canPut_8 : decode cX6_canPut 8 = .ok (.invokevirtual 219, 3) := by decide +kernel
theorem dX6_canPut_11 : decode cX6_canPut 11 = .ok (.aload_n 0, 1) := by decide +kernel
theorem dX6_canPut_12 : decode cX6_canPut 12 = .ok (.aload_n 3, 1) := by decide +kernel
theorem dX6_canPut_13 : decode cX6_canPut 13 = .ok (.iload_n 2, 1) := by decide +kernel
theorem dX6_canPut_14 : decode cX6_canPut 14 = .ok (.invokevirtual 325, 3) := by decide +kernel
theorem dX6_canPut_17 : decode cX6_canPut 17 = .ok (.ireturn, 1) := by decide +kernel
set_option maxRecDepth 20000 in
theorem ggX6_takesPiece_X3_gapIn : GoodIn wsX6_takesPiece wsX3_gapIn := goodIn_r _ [9, 10, 11, 12, 13, 14, 15, 8, 16, 17, 18, 19, 20, 21, 22, 23, 43, 44, 45, 46, 47, 48, 49, 50, 51, 52, 53, 54, 55, 56, 57, 58, 59, 60, 61, 62, 63] (by decide +kernel) (by decide +kernel)
set_option maxRecDepth 20000 in
theorem gX6_takesPiece_X3_gapIn : GoodIn wsX6_takesPiece (wsV RX6 184 RX3 yX3_gapIn wsX3_gapIn) := goodIn_app (goodIn_of _ (by decide +kernel)) ggX6_takesPiece_X3_gapIn
theorem dX6_takesPiece_0 : decode cX6_takesPiece 0 = .ok (.aload_n 0, 1) := by decide +kernel
theorem dX6_takesPiece_1 : decode cX6_takesPiece 1 = .ok (.getfield 33, 3) := by decide +kernel
theorem dX6_takesPiece_4 : decode cX6_takesPiece 4 = .ok (.getfield 230, 3) := by decide +kernel
theorem dX6_takesPiece_7 : decode cX6_takesPiece 7 = .ok (.iload_n 2, 1) := by decide +kernel
theorem dX6_takesPiece_8 : decode cX6_takesPiece 8 = .ok (.iaload, 1) := by decide +kernel
theorem dX6_takesPiece_9 : decode cX6_takesPiece 9 = .ok (.ifCond .le 27, 3) := by decide +kernel
theorem dX6_takesPiece_12 : decode cX6_takesPiece 12 = .ok (.aload_n 0, 1) := by decide +kernel
theorem dX6_takesPiece_13 : decode cX6_takesPiece 13 = .ok (.getfield 58, 3) := by decide +kernel
theorem dX6_takesPiece_16 : decode cX6_takesPiece 16 = .ok (.getfield 226, 3) := by decide +kernel
theorem dX6_takesPiece_19 : decode cX6_takesPiece 19 = .ok (.iload_n 2, 1) := by decide +kernel
theorem dX6_takesPiece_20 : decode cX6_takesPiece 20 = .ok (.iaload, 1) := by decide +kernel
theorem dX6_takesPiece_21 : decode cX6_takesPiece 21 = .ok (.aload_n 1, 1) := by decide +kernel
theorem dX6_takesPiece_22 : decode cX6_takesPiece 22 = .ok (.aload_n 0, 1) := by decide +kernel
theorem dX6_takesPiece_23 : decode cX6_takesPiece 23 = .ok (.getfield 58, 3) := by decide +kernel
theorem dX6_takesPiece_26 : decode cX6_takesPiece 26 = .ok (.invokevirtual 184, 3) := by decide +kernel
theorem dX6_takesPiece_29 : decode cX6_takesPiece 29 = .ok (.if_icmp .gt 7, 3) := by decide +kernel
theorem dX6_takesPiece_32 : decode cX6_takesPiece 32 = .ok (.iconst 1, 1) := by decide +kernel
theorem dX6_takesPiece_33 : decode cX6_takesPiece 33 = .ok (.goto 4, 3) := by decide +kernel
theorem dX6_takesPiece_36 : decode cX6_takesPiece 36 = .ok (.iconst 0, 1) := by decide +kernel
theorem dX6_takesPiece_37 : decode cX6_takesPiece 37 = .ok (.ireturn, 1) := by decide +kernel
set_option maxRecDepth 20000 in
theorem ggX6_freshChoice_X6_needRow : GoodIn wsX6_freshChoice wsX6_needRow := goodIn_ca (goodIn_ca (goodIn_r _ [10, 11, 12, 13, 14, 2, 3, 15, 16, 17, 9, 18, 19, 20, 21, 146, 147, 148, 149, 150, 151, 152, 153, 154, 155, 156, 173, 174, 175, 176, 177, 178, 179, 180, 181, 182, 183, 157, 158, 159, 160, 161, 162, 163, 164] (by decide +kernel) (by decide +kernel)) (goodIn_sub (fun _ h => List.mem_cons_of_mem _ (List.mem_append_left _ (List.mem_append_left _ (List.mem_append_right _ h)))) (by decide +kernel))) (goodIn_sub (fun _ h => List.mem_cons_of_mem _ (List.mem_append_left _ (List.mem_append_right _ h))) (by decide +kernel))
set_option maxRecDepth 20000 in
theorem gX6_freshChoice_X6_needRow : GoodIn wsX6_freshChoice (wsV RX6 172 RX6 yX6_needRow wsX6_needRow) := goodIn_app (goodIn_of _ (by decide +kernel)) ggX6_freshChoice_X6_needRow
set_option maxRecDepth 20000 in
theorem ggX6_freshChoice_X5_copyFrom : GoodIn wsX6_freshChoice wsX5_copyFrom := goodIn_r _ [26, 27, 28, 29, 30, 31, 32, 33, 34, 35, 36, 37, 38, 39, 40, 41, 42, 43, 44, 45, 46, 47, 48, 49, 50, 51, 52, 53, 54, 157, 158, 159, 160, 161, 162, 163, 164, 184, 185, 186, 187, 188, 189, 190, 191, 192, 193] (by decide +kernel) (by decide +kernel)
set_option maxRecDepth 20000 in
theorem gX6_freshChoice_X5_copyFrom : GoodIn wsX6_freshChoice (wsV RX6 95 RX5 yX5_copyFrom wsX5_copyFrom) := goodIn_app (goodIn_of _ (by decide +kernel)) ggX6_freshChoice_X5_copyFrom
set_option maxRecDepth 20000 in
theorem ggX6_freshChoice_X5_empty : GoodIn wsX6_freshChoice wsX5_empty := goodIn_ca (goodIn_r _ [58, 27, 28, 59, 60, 61, 62, 63, 42, 64, 49, 50, 51, 65, 66, 67, 25, 68, 33, 69, 70, 71, 72, 73, 74, 52, 157, 158, 159, 160, 161, 162, 163, 164, 184, 185, 186, 187, 188, 189, 190, 191, 192, 193] (by decide +kernel) (by decide +kernel)) (goodIn_sub (fun _ h => List.mem_cons_of_mem _ (List.mem_append_right _ h)) (by decide +kernel))
set_option maxRecDepth 20000 in
theorem gX6_freshChoice_X5_empty : GoodIn wsX6_freshChoice (wsV RX6 329 RX5 yX5_empty wsX5_empty) := goodIn_app (goodIn_of _ (by decide +kernel)) ggX6_freshChoice_X5_empty
set_option maxRecDepth 20000 in
theorem ggX6_freshChoice_X6_solve : GoodIn wsX6_freshChoice wsX6_solve := goodIn_ca (goodIn_r _ [78, 4, 13, 79, 80, 81, 82, 83, 84, 85, 86, 30, 31, 32, 87, 88, 89, 90, 91, 92, 93, 94, 95, 96, 97, 98, 99, 100, 101, 102, 103, 104, 105, 106, 107, 108, 109, 110, 111, 112, 113, 42, 114, 115, 47, 50, 116, 117, 118, 25, 119, 33, 71, 72, 73, 74, 52, 120, 121, 122, 123, 124, 125, 126, 127, 128, 129, 130, 131, 132, 133, 134, 135, 136, 137, 138, 139, 140, 141, 142, 143, 144, 145, 146, 147, 148, 149, 150, 151, 152, 153, 154, 155, 156, 157, 158, 159, 160, 161, 162, 163, 164, 165, 166, 167, 168, 169, 170, 171, 172, 173, 174, 175, 176, 177, 178, 179, 180, 181, 182, 183, 184, 185, 186, 187, 188, 189, 190, 191, 192, 193] (by decide +kernel) (by decide +kernel)) (goodIn_sub (fun _ h => List.mem_cons_of_mem _ (List.mem_append_right _ h)) (by decide +kernel))
set_option maxRecDepth 20000 in
theorem gX6_freshChoice_X6_solve : GoodIn wsX6_freshChoice (wsV RX6 261 RX6 yX6_solve wsX6_solve) := goodIn_app (goodIn_of _ (by decide +kernel)) ggX6_freshChoice_X6_solve
theorem dX6_freshChoice_0 : decode cX6_freshChoice 0 = .ok (.aload_n 0, 1) := by decide +kernel
theorem dX6_freshChoice_1 : decode cX6_freshChoice 1 = .ok (.iload_n 1, 1) := by decide +kernel
theorem dX6_freshChoice_2 : decode cX6_freshChoice 2 = .ok (.invokevirtual 172, 3) := by decide +kernel
theorem dX6_freshChoice_5 : decode cX6_freshChoice 5 = .ok (.pop, 1) := by decide +kernel
theorem dX6_freshChoice_6 : decode cX6_freshChoice 6 = .ok (.aload_n 0, 1) := by decide +kernel
theorem dX6_freshChoice_7 : decode cX6_freshChoice 7 = .ok (.getfield 37, 3) := by decide +kernel
theorem dX6_freshChoice_10 : decode cX6_freshChoice 10 = .ok (.aload_n 0, 1) := by decide +kernel
theorem dX6_freshChoice_11 : decode cX6_freshChoice 11 = .ok (.getfield 33, 3) := by decide +kernel
theorem dX6_freshChoice_14 : decode cX6_freshChoice 14 = .ok (.invokevirtual 95, 3) := by decide +kernel
theorem dX6_freshChoice_17 : decode cX6_freshChoice 17 = .ok (.aload_n 0, 1) := by decide +kernel
theorem dX6_freshChoice_18 : decode cX6_freshChoice 18 = .ok (.getfield 37, 3) := by decide +kernel
theorem dX6_freshChoice_21 : decode cX6_freshChoice 21 = .ok (.iload_n 1, 1) := by decide +kernel
theorem dX6_freshChoice_22 : decode cX6_freshChoice 22 = .ok (.invokevirtual 329, 3) := by decide +kernel
theorem dX6_freshChoice_25 : decode cX6_freshChoice 25 = .ok (.aload_n 0, 1) := by decide +kernel
theorem dX6_freshChoice_26 : decode cX6_freshChoice 26 = .ok (.aload_n 0, 1) := by decide +kernel
theorem dX6_freshChoice_27 : decode cX6_freshChoice 27 = .ok (.getfield 37, 3) := by decide +kernel
theorem dX6_freshChoice_30 : decode cX6_freshChoice 30 = .ok (.aload_n 0, 1) := by decide +kernel
theorem dX6_freshChoice_31 : decode cX6_freshChoice 31 = .ok (.getfield 37, 3) := by decide +kernel
theorem dX6_freshChoice_34 : decode cX6_freshChoice 34 = .ok (.getfield 246, 3) := by decide +kernel
theorem dX6_freshChoice_37 : decode cX6_freshChoice 37 = .ok (.iload_n 1, 1) := by decide +kernel
theorem dX6_freshChoice_38 : decode cX6_freshChoice 38 = .ok (.aaload, 1) := by decide +kernel
theorem dX6_freshChoice_39 : decode cX6_freshChoice 39 = .ok (.invokevirtual 261, 3) := by decide +kernel
theorem dX6_freshChoice_42 : decode cX6_freshChoice 42 = .ok (.ifCond .eq 13, 3) := by decide +kernel
theorem dX6_freshChoice_45 : decode cX6_freshChoice 45 = .ok (.aload_n 0, 1) := by decide +kernel
theorem dX6_freshChoice_46 : decode cX6_freshChoice 46 = .ok (.getfield 19, 3) := by decide +kernel
theorem dX6_freshChoice_49 : decode cX6_freshChoice 49 = .ok (.getfield 265, 3) := by decide +kernel
theorem dX6_freshChoice_52 : decode cX6_freshChoice 52 = .ok (.goto 4, 3) := by decide +kernel
theorem dX6_freshChoice_55 : decode cX6_freshChoice 55 = .ok (.iconst (-1), 1) := by decide +kernel
theorem dX6_freshChoice_56 : decode cX6_freshChoice 56 = .ok (.ireturn, 1) := by decide +kernel
set_option maxRecDepth 20000 in
theorem ggX6_fillable_X6_needChase : GoodIn wsX6_fillable wsX6_needChase := goodIn_ca (goodIn_r _ [11, 12, 13, 14, 54, 55, 56, 57, 58, 59, 60, 61, 62, 63, 64] (by decide +kernel) (by decide +kernel)) (goodIn_sub (fun _ h => List.mem_cons_of_mem _ (List.mem_append_left _ (List.mem_append_right _ h))) (by decide +kernel))
set_option maxRecDepth 20000 in
theorem gX6_fillable_X6_needChase : GoodIn wsX6_fillable (wsV RX6 112 RX6 yX6_needChase wsX6_needChase) := goodIn_app (goodIn_of _ (by decide +kernel)) ggX6_fillable_X6_needChase
set_option maxRecDepth 20000 in
theorem ggX6_fillable_X4_stockFrom : GoodIn wsX6_fillable wsX4_stockFrom := goodIn_r _ [19, 20, 21, 22, 23, 24, 25, 76, 77, 78, 79, 80, 81, 82, 83, 84, 85, 86, 87, 88, 89, 90, 91] (by decide +kernel) (by decide +kernel)
set_option maxRecDepth 20000 in
theorem gX6_fillable_X4_stockFrom : GoodIn wsX6_fillable (wsV RX6 278 RX4 yX4_stockFrom wsX4_stockFrom) := goodIn_app (goodIn_of _ (by decide +kernel)) ggX6_fillable_X4_stockFrom
set_option maxRecDepth 20000 in
theorem ggX6_fillable_X4_study : GoodIn wsX6_fillable wsX4_study := goodIn_ca (goodIn_r _ [29, 30, 31, 32, 33, 34, 35, 18, 36, 37, 22, 23, 24, 25, 38, 39, 21, 40, 41, 42, 43, 44, 45, 46, 47, 48, 49, 84, 85, 86, 87, 88, 89, 90, 91, 65, 66, 67, 68, 69, 70, 71, 72, 73, 74, 75] (by decide +kernel) (by decide +kernel)) (goodIn_sub (fun _ h => List.mem_cons_of_mem _ (List.mem_append_right _ h)) (by decide +kernel))
set_option maxRecDepth 20000 in
theorem gX6_fillable_X4_study : GoodIn wsX6_fillable (wsV RX6 292 RX4 yX4_study wsX4_study) := goodIn_app (goodIn_of _ (by decide +kernel)) ggX6_fillable_X4_study
set_option maxRecDepth 20000 in
theorem ggX6_fillable_X4_canMake : GoodIn wsX6_fillable wsX4_canMake := goodIn_ca (goodIn_r _ [53, 30, 32, 84, 85, 86, 87, 88, 89, 90, 91] (by decide +kernel) (by decide +kernel)) (goodIn_sub (fun _ h => List.mem_cons_of_mem _ (List.mem_append_right _ h)) (by decide +kernel))
set_option maxRecDepth 20000 in
theorem gX6_fillable_X4_canMake : GoodIn wsX6_fillable (wsV RX6 296 RX4 yX4_canMake wsX4_canMake) := goodIn_app (goodIn_of _ (by decide +kernel)) ggX6_fillable_X4_canMake
theorem dX6_fillable_0 : decode cX6_fillable 0 = .ok (.aload_n 0, 1) := by decide +kernel
theorem dX6_fillable_1 : decode cX6_fillable 1 = .ok (.invokevirtual 112, 3) := by decide +kernel
theorem dX6_fillable_4 : decode cX6_fillable 4 = .ok (.iload_n 1, 1) := by decide +kernel
theorem dX6_fillable_5 : decode cX6_fillable 5 = .ok (.ifCond .lt 14, 3) := by decide +kernel
theorem dX6_fillable_8 : decode cX6_fillable 8 = .ok (.iload_n 1, 1) := by decide +kernel
theorem dX6_fillable_9 : decode cX6_fillable 9 = .ok (.aload_n 0, 1) := by decide +kernel
theorem dX6_fillable_10 : decode cX6_fillable 10 = .ok (.getfield 58, 3) := by decide +kernel
theorem dX6_fillable_13 : decode cX6_fillable 13 = .ok (.getfield 152, 3) := by decide +kernel
theorem dX6_fillable_16 : decode cX6_fillable 16 = .ok (.if_icmp .le 14, 3) := by decide +kernel
theorem dX6_fillable_19 : decode cX6_fillable 19 = .ok (.new 84, 3) := by decide +kernel
theorem dX6_fillable_22 : decode cX6_fillable 22 = .ok (.dup, 1) := by decide +kernel
theorem dX6_fillable_23 : decode cX6_fillable 23 = .ok (.ldc_w 332, 3) := by decide +kernel
theorem dX6_fillable_26 : decode cX6_fillable 26 = .ok (.invokespecial 88, 3) := by decide +kernel
theorem dX6_fillable_29 : decode cX6_fillable 29 = .ok (.athrow, 1) := by decide +kernel
theorem dX6_fillable_30 : decode cX6_fillable 30 = .ok (.aload_n 0, 1) := by decide +kernel
theorem dX6_fillable_31 : decode cX6_fillable 31 = .ok (.getfield 19, 3) := by decide +kernel
theorem dX6_fillable_34 : decode cX6_fillable 34 = .ok (.aload_n 0, 1) := by decide +kernel
theorem dX6_fillable_35 : decode cX6_fillable 35 = .ok (.getfield 33, 3) := by decide +kernel
theorem dX6_fillable_38 : decode cX6_fillable 38 = .ok (.invokevirtual 278, 3) := by decide +kernel
theorem dX6_fillable_41 : decode cX6_fillable 41 = .ok (.aload_n 0, 1) := by decide +kernel
theorem dX6_fillable_42 : decode cX6_fillable 42 = .ok (.getfield 19, 3) := by decide +kernel
theorem dX6_fillable_45 : decode cX6_fillable 45 = .ok (.aload_n 0, 1) := by decide +kernel
theorem dX6_fillable_46 : decode cX6_fillable 46 = .ok (.getfield 58, 3) := by decide +kernel
theorem dX6_fillable_49 : decode cX6_fillable 49 = .ok (.invokevirtual 292, 3) := by decide +kernel
theorem dX6_fillable_52 : decode cX6_fillable 52 = .ok (.iconst 0, 1) := by decide +kernel
theorem dX6_fillable_53 : decode cX6_fillable 53 = .ok (.istore_n 2, 1) := by decide +kernel
theorem dX6_fillable_54 : decode cX6_fillable 54 = .ok (.iconst 0, 1) := by decide +kernel
theorem dX6_fillable_55 : decode cX6_fillable 55 = .ok (.istore_n 3, 1) := by decide +kernel
theorem dX6_fillable_56 : decode cX6_fillable 56 = .ok (.iload_n 3, 1) := by decide +kernel
theorem dX6_fillable_57 : decode cX6_fillable 57 = .ok (.iload_n 1, 1) := by decide +kernel
theorem dX6_fillable_58 : decode cX6_fillable 58 = .ok (.if_icmp .gt 23, 3) := by decide +kernel
theorem dX6_fillable_61 : decode cX6_fillable 61 = .ok (.aload_n 0, 1) := by decide +kernel
theorem dX6_fillable_62 : decode cX6_fillable 62 = .ok (.getfield 19, 3) := by decide +kernel
theorem dX6_fillable_65 : decode cX6_fillable 65 = .ok (.iload_n 3, 1) := by decide +kernel
theorem dX6_fillable_66 : decode cX6_fillable 66 = .ok (.invokevirtual 296, 3) := by decide +kernel
theorem dX6_fillable_69 : decode cX6_fillable 69 = .ok (.ifCond .eq 6, 3) := by decide +kernel
theorem dX6_fillable_72 : decode cX6_fillable 72 = .ok (.iinc 2 1, 3) := by decide +kernel
theorem dX6_fillable_75 : decode cX6_fillable 75 = .ok (.iinc 3 1, 3) := by decide +kernel
theorem dX6_fillable_78 : decode cX6_fillable 78 = .ok (.goto (-22), 3) := by decide +kernel
theorem dX6_fillable_81 : decode cX6_fillable 81 = .ok (.iload_n 2, 1) := by decide +kernel
theorem dX6_fillable_82 : decode cX6_fillable 82 = .ok (.ireturn, 1) := by decide +kernel
set_option maxRecDepth 20000 in
theorem ggX6_fallsIn_X6_needRow : GoodIn wsX6_fallsIn wsX6_needRow := goodIn_ca (goodIn_ca (goodIn_r _ [8, 9, 10, 2, 11, 12, 13, 14, 15, 16, 7, 17, 18, 19, 20, 73, 74, 75, 76, 77, 78, 79, 80, 81, 82, 83, 84, 85, 86, 87, 88, 89, 90, 91, 92, 93, 94, 95, 96, 97, 98, 99, 100, 101, 102] (by decide +kernel) (by decide +kernel)) (goodIn_sub (fun _ h => List.mem_cons_of_mem _ (List.mem_append_left _ (List.mem_append_left _ (List.mem_append_right _ h)))) (by decide +kernel))) (goodIn_sub (fun _ h => List.mem_cons_of_mem _ (List.mem_append_left _ (List.mem_append_right _ h))) (by decide +kernel))
set_option maxRecDepth 20000 in
theorem gX6_fallsIn_X6_needRow : GoodIn wsX6_fallsIn (wsV RX6 172 RX6 yX6_needRow wsX6_needRow) := goodIn_app (goodIn_of _ (by decide +kernel)) ggX6_fallsIn_X6_needRow
set_option maxRecDepth 20000 in
theorem ggX6_fallsIn_X3_growthInDay : GoodIn wsX6_fallsIn wsX3_growthInDay := goodIn_ca (goodIn_r _ [25, 26, 27, 28, 29, 24, 30, 31, 32, 33, 84, 85, 86, 87, 88, 89, 90, 91, 92, 93, 94, 63, 64, 65, 66, 67, 68, 69, 70, 71, 72] (by decide +kernel) (by decide +kernel)) (goodIn_sub (fun _ h => List.mem_cons_of_mem _ (List.mem_append_right _ h)) (by decide +kernel))
set_option maxRecDepth 20000 in
theorem gX6_fallsIn_X3_growthInDay : GoodIn wsX6_fallsIn (wsV RX6 334 RX3 yX3_growthInDay wsX3_growthInDay) := goodIn_app (goodIn_of _ (by decide +kernel)) ggX6_fallsIn_X3_growthInDay
set_option maxRecDepth 20000 in
theorem ggX6_fallsIn_X3_growthInImpression : GoodIn wsX6_fallsIn wsX3_growthInImpression := goodIn_r _ [37, 38, 39, 84, 85, 86, 87, 88, 89, 90, 91, 92, 93, 94, 63, 64, 65, 66, 67, 68, 69, 70, 71, 72] (by decide +kernel) (by decide +kernel)
set_option maxRecDepth 20000 in
theorem gX6_fallsIn_X3_growthInImpression : GoodIn wsX6_fallsIn (wsV RX6 337 RX3 yX3_growthInImpression wsX3_growthInImpression) := goodIn_app (goodIn_of _ (by decide +kernel)) ggX6_fallsIn_X3_growthInImpression
set_option maxRecDepth 20000 in
theorem ggX6_fallsIn_X3_loosenessIn : GoodIn wsX6_fallsIn wsX3_loosenessIn := goodIn_r _ [43, 44, 45, 46, 47, 24, 48, 49, 50, 51, 52, 53, 54, 55, 56, 57, 58, 59, 60, 61, 62, 63, 64, 65, 66, 67, 68, 69, 70, 71, 72, 84, 85, 86, 87, 88, 89, 90, 91, 92, 93, 94] (by decide +kernel) (by decide +kernel)
set_option maxRecDepth 20000 in
theorem gX6_fallsIn_X3_loosenessIn : GoodIn wsX6_fallsIn (wsV RX6 249 RX3 yX3_loosenessIn wsX3_loosenessIn) := goodIn_app (goodIn_of _ (by decide +kernel)) ggX6_fallsIn_X3_loosenessIn
theorem dX6_fallsIn_0 : decode cX6_fallsIn 0 = .ok (.aload_n 0, 1) := by decide +kernel
theorem dX6_fallsIn_1 : decode cX6_fallsIn 1 = .ok (.iload_n 1, 1) := by decide +kernel
theorem dX6_fallsIn_2 : decode cX6_fallsIn 2 = .ok (.invokevirtual 172, 3) := by decide +kernel
theorem dX6_fallsIn_5 : decode cX6_fallsIn 5 = .ok (.astore_n 3, 1) := by decide +kernel
theorem dX6_fallsIn_6 : decode cX6_fallsIn 6 = .ok (.aload_n 3, 1) := by decide +kernel
theorem dX6_fallsIn_7 : decode cX6_fallsIn 7 = .ok (.getfield 176, 3) := by decide +kernel
theorem dX6_fallsIn_10 : decode cX6_fallsIn 10 = .ok (.ifCond .ne 5, 3) := by decide +kernel
theorem dX6_fallsIn_13 : decode cX6_fallsIn 13 = .ok (.iconst (-1), 1) := by decide +kernel
theorem dX6_fallsIn_14 : decode cX6_fallsIn 14 = .ok (.ireturn, 1) := by decide +kernel
theorem dX6_fallsIn_15 : decode cX6_fallsIn 15 = .ok (.iload_n 2, 1) := by decide +kernel
theorem dX6_fallsIn_16 : decode cX6_fallsIn 16 = .ok (.ifCond .eq 14, 3) := by decide +kernel
theorem dX6_fallsIn_19 : decode cX6_fallsIn 19 = .ok (.aload_n 3, 1) := by decide +kernel
theorem dX6_fallsIn_20 : decode cX6_fallsIn 20 = .ok (.aload_n 0, 1) := by decide +kernel
theorem dX6_fallsIn_21 : decode cX6_fallsIn 21 = .ok (.getfield 58, 3) := by decide +kernel
theorem dX6_fallsIn_24 : decode cX6_fallsIn 24 = .ok (.invokevirtual 334, 3) := by decide +kernel
theorem dX6_fallsIn_27 : decode cX6_fallsIn 27 = .ok (.goto 11, 3) := by decide +kernel
theorem dX6_fallsIn_30 : decode cX6_fallsIn 30 = .ok (.aload_n 3, 1) := by decide +kernel
theorem dX6_fallsIn_31 : decode cX6_fallsIn 31 = .ok (.aload_n 0, 1) := by decide +kernel
theorem dX6_fallsIn_32 : decode cX6_fallsIn 32 = .ok (.getfield 58, 3) := by decide +kernel
theorem dX6_fallsIn_35 : decode cX6_fallsIn 35 = .ok (.invokevirtual 337, 3) := by decide +kernel
theorem dX6_fallsIn_38 : decode cX6_fallsIn 38 = .ok (.istore 4, 2) := by decide +kernel
theorem dX6_fallsIn_40 : decode cX6_fallsIn 40 = .ok (.aload_n 3, 1) := by decide +kernel
theorem dX6_fallsIn_41 : decode cX6_fallsIn 41 = .ok (.aload_n 0, 1) := by decide +kernel
theorem dX6_fallsIn_42 : decode cX6_fallsIn 42 = .ok (.getfield 58, 3) := by decide +kernel
theorem dX6_fallsIn_45 : decode cX6_fallsIn 45 = .ok (.invokevirtual 249, 3) := by decide +kernel
theorem dX6_fallsIn_48 : decode cX6_fallsIn 48 = .ok (.istore 5, 2) := by decide +kernel
theorem dX6_fallsIn_50 : decode cX6_fallsIn 50 = .ok (.iconst 1, 1) := by decide +kernel
theorem dX6_fallsIn_51 : decode cX6_fallsIn 51 = .ok (.istore 6, 2) := by decide +kernel
theorem dX6_fallsIn_53 : decode cX6_fallsIn 53 = .ok (.iload 6, 2) := by decide +kernel
theorem dX6_fallsIn_55 : decode cX6_fallsIn 55 = .ok (.sipush 200, 3) := by decide +kernel
theorem dX6_fallsIn_58 : decode cX6_fallsIn 58 = .ok (.if_icmp .gt 31, 3) := by decide +kernel
theorem dX6_fallsIn_61 : decode cX6_fallsIn 61 = .ok (.iload 5, 2) := by decide +kernel
theorem dX6_fallsIn_63 : decode cX6_fallsIn 63 = .ok (.iload 4, 2) := by decide +kernel
theorem dX6_fallsIn_65 : decode cX6_fallsIn 65 = .ok (.iadd, 1) := by decide +kernel
theorem dX6_fallsIn_66 : decode cX6_fallsIn 66 = .ok (.istore 5, 2) := by decide +kernel
theorem dX6_fallsIn_68 : decode cX6_fallsIn 68 = .ok (.iload 5, 2) := by decide +kernel
theorem dX6_fallsIn_70 : decode cX6_fallsIn 70 = .ok (.aload_n 0, 1) := by decide +kernel
theorem dX6_fallsIn_71 : decode cX6_fallsIn 71 = .ok (.getfield 58, 3) := by decide +kernel
theorem dX6_fallsIn_74 : decode cX6_fallsIn 74 = .ok (.getfield 167, 3) := by decide +kernel
theorem dX6_fallsIn_77 : decode cX6_fallsIn 77 = .ok (.if_icmp .le 6, 3) := by decide +kernel
theorem dX6_fallsIn_80 : decode cX6_fallsIn 80 = .ok (.iload 6, 2) := by decide +kernel
theorem dX6_fallsIn_82 : decode cX6_fallsIn 82 = .ok (.ireturn, 1) := by decide +kernel
theorem dX6_fallsIn_83 : decode cX6_fallsIn 83 = .ok (.iinc 6 1, 3) := by decide +kernel
theorem dX6_fallsIn_86 : decode cX6_fallsIn 86 = .ok (.goto (-33), 3) := by decide +kernel
theorem dX6_fallsIn_89 : decode cX6_fallsIn 89 = .ok (.iconst (-1), 1) := by decide +kernel
theorem dX6_fallsIn_90 : decode cX6_fallsIn 90 = .ok (.ireturn, 1) := by decide +kernel
set_option maxRecDepth 20000 in
theorem ggX6_goodIn_X6_needChase : GoodIn wsX6_goodIn wsX6_needChase := goodIn_ca (goodIn_r _ [10, 11, 12, 13, 113, 114, 115, 116, 117, 118, 119, 120, 121, 122, 123] (by decide +kernel) (by decide +kernel)) (goodIn_sub (fun _ h => List.mem_cons_of_mem _ (List.mem_append_left _ (List.mem_append_right _ h))) (by decide +kernel))
set_option maxRecDepth 20000 in
theorem gX6_goodIn_X6_needChase : GoodIn wsX6_goodIn (wsV RX6 112 RX6 yX6_needChase wsX6_needChase) := goodIn_app (goodIn_of _ (by decide +kernel)) ggX6_goodIn_X6_needChase
set_option maxRecDepth 20000 in
theorem ggX6_goodIn_X5_copyFrom : GoodIn wsX6_goodIn wsX5_copyFrom := goodIn_r _ [18, 19, 20, 21, 22, 23, 24, 25, 26, 27, 28, 29, 30, 31, 32, 33, 34, 35, 36, 37, 38, 39, 40, 41, 42, 43, 44, 45, 46, 124, 125, 126, 127, 128, 129, 130, 131, 132, 133, 134, 135, 136, 137, 138, 139, 140, 141] (by decide +kernel) (by decide +kernel)
set_option maxRecDepth 20000 in
theorem gX6_goodIn_X5_copyFrom : GoodIn wsX6_goodIn (wsV RX6 95 RX5 yX5_copyFrom wsX5_copyFrom) := goodIn_app (goodIn_of _ (by decide +kernel)) ggX6_goodIn_X5_copyFrom
set_option maxRecDepth 20000 in
theorem ggX6_goodIn_X5_impressOften : GoodIn wsX6_goodIn wsX5_impressOften := goodIn_ca (goodIn_r _ [50, 27, 51, 52, 53, 17, 54, 19, 55, 26, 56, 57, 58, 34, 59, 60, 38, 61, 62, 63, 64, 65, 66, 29, 30, 67, 68, 69, 70, 46, 71, 72, 73, 74, 75, 44, 45, 76, 77, 78, 79, 80, 39, 42, 81, 82, 83, 84, 85, 86, 87, 88, 89, 90, 91, 92, 20, 93, 94, 95, 96, 97, 41, 43, 98, 99, 100, 101, 25, 102, 103, 104, 105, 106, 107, 108, 109, 110, 111, 112, 124, 125, 126, 127, 128, 129, 130, 131, 132, 133, 134, 135, 136, 137, 138, 139, 140, 141, 142, 143, 144, 145, 146, 147, 148, 149, 150, 151, 152] (by decide +kernel) (by decide +kernel)) (goodIn_sub (fun _ h => List.mem_cons_of_mem _ (List.mem_append_right _ h)) (by decide +kernel))
set_option maxRecDepth 20000 in
theorem gX6_goodIn_X5_impressOften : GoodIn wsX6_goodIn (wsV RX6 342 RX5 yX5_impressOften wsX5_impressOften) := goodIn_app (goodIn_of _ (by decide +kernel)) ggX6_goodIn_X5_impressOften
theorem dX6_goodIn_0 : decode cX6_goodIn 0 = .ok (.aload_n 0, 1) := by decide +kernel
theorem dX6_goodIn_1 : decode cX6_goodIn 1 = .ok (.invokevirtual 112, 3) := by decide +kernel
theorem dX6_goodIn_4 : decode cX6_goodIn 4 = .ok (.iload_n 1, 1) := by decide +kernel
theorem dX6_goodIn_5 : decode cX6_goodIn 5 = .ok (.ifCond .lt 10, 3) := by decide +kernel
theorem dX6_goodIn_8 : decode cX6_goodIn 8 = .ok (.iload_n 1, 1) := by decide +kernel
theorem dX6_goodIn_9 : decode cX6_goodIn 9 = .ok (.sipush 200, 3) := by decide +kernel
theorem dX6_goodIn_12 : decode cX6_goodIn 12 = .ok (.if_icmp .le 14, 3) := by decide +kernel
theorem dX6_goodIn_15 : decode cX6_goodIn 15 = .ok (.new 84, 3) := by decide +kernel
theorem dX6_goodIn_18 : decode cX6_goodIn 18 = .ok (.dup, 1) := by decide +kernel
theorem dX6_goodIn_19 : decode cX6_goodIn 19 = .ok (.ldc_w 340, 3) := by decide +kernel
theorem dX6_goodIn_22 : decode cX6_goodIn 22 = .ok (.invokespecial 88, 3) := by decide +kernel
theorem dX6_goodIn_25 : decode cX6_goodIn 25 = .ok (.athrow, 1) := by decide +kernel
theorem dX6_goodIn_26 : decode cX6_goodIn 26 = .ok (.aload_n 0, 1) := by decide +kernel
theorem dX6_goodIn_27 : decode cX6_goodIn 27 = .ok (.getfield 37, 3) := by decide +kernel
theorem dX6_goodIn_30 : decode cX6_goodIn 30 = .ok (.aload_n 0, 1) := by decide +kernel
theorem dX6_goodIn_31 : decode cX6_goodIn 31 = .ok (.getfield 33, 3) := by decide +kernel
theorem dX6_goodIn_34 : decode cX6_goodIn 34 = .ok (.invokevirtual 95, 3) := by decide +kernel
theorem dX6_goodIn_37 : decode cX6_goodIn 37 = .ok (.aload_n 0, 1) := by decide +kernel
theorem dX6_goodIn_38 : decode cX6_goodIn 38 = .ok (.getfield 37, 3) := by decide +kernel
theorem dX6_goodIn_41 : decode cX6_goodIn 41 = .ok (.aload_n 0, 1) := by decide +kernel
theorem dX6_goodIn_42 : decode cX6_goodIn 42 = .ok (.getfield 58, 3) := by decide +kernel
theorem dX6_goodIn_45 : decode cX6_goodIn 45 = .ok (.iload_n 1, 1) := by decide +kernel
theorem dX6_goodIn_46 : decode cX6_goodIn 46 = .ok (.invokevirtual 342, 3) := by decide +kernel
theorem dX6_goodIn_49 : decode cX6_goodIn 49 = .ok (.ireturn, 1) := by decide +kernel
set_option maxRecDepth 20000 in
theorem ggX6_lockable_X6_needChase : GoodIn wsX6_lockable wsX6_needChase := goodIn_ca (goodIn_r _ [10, 11, 12, 13, 94, 95, 96, 97, 98, 99, 100, 101, 102, 103, 104] (by decide +kernel) (by decide +kernel)) (goodIn_sub (fun _ h => List.mem_cons_of_mem _ (List.mem_append_left _ (List.mem_append_right _ h))) (by decide +kernel))
set_option maxRecDepth 20000 in
theorem gX6_lockable_X6_needChase : GoodIn wsX6_lockable (wsV RX6 112 RX6 yX6_needChase wsX6_needChase) := goodIn_app (goodIn_of _ (by decide +kernel)) ggX6_lockable_X6_needChase
set_option maxRecDepth 20000 in
theorem ggX6_lockable_X4_stockFrom : GoodIn wsX6_lockable wsX4_stockFrom := goodIn_r _ [18, 19, 20, 21, 22, 23, 24, 116, 117, 118, 119, 120, 121, 122, 123, 124, 125, 126, 127, 128, 129, 130, 131] (by decide +kernel) (by decide +kernel)
set_option maxRecDepth 20000 in
theorem gX6_lockable_X4_stockFrom : GoodIn wsX6_lockable (wsV RX6 278 RX4 yX4_stockFrom wsX4_stockFrom) := goodIn_app (goodIn_of _ (by decide +kernel)) ggX6_lockable_X4_stockFrom
set_option maxRecDepth 20000 in
theorem ggX6_lockable_X4_study : GoodIn wsX6_lockable wsX4_study := goodIn_ca (goodIn_r _ [28, 29, 30, 31, 32, 33, 34, 17, 35, 36, 21, 22, 23, 24, 37, 38, 20, 39, 40, 41, 42, 43, 44, 45, 46, 47, 48, 124, 125, 126, 127, 128, 129, 130, 131, 105, 106, 107, 108, 109, 110, 111, 112, 113, 114, 115] (by decide +kernel) (by decide +kernel)) (goodIn_sub (fun _ h => List.mem_cons_of_mem _ (List.mem_append_right _ h)) (by decide +kernel))
set_option maxRecDepth 20000 in
theorem gX6_lockable_X4_study : GoodIn wsX6_lockable (wsV RX6 292 RX4 yX4_study wsX4_study) := goodIn_app (goodIn_of _ (by decide +kernel)) ggX6_lockable_X4_study
set_option maxRecDepth 20000 in
theorem ggX6_lockable_X3_roomIn : GoodIn wsX6_lockable wsX3_roomIn := goodIn_r _ [53, 54, 55, 56, 105, 106, 107, 108, 109, 110, 111, 112, 113, 114, 115, 132, 133, 134, 135, 136, 137, 138, 139, 140, 141] (by decide +kernel) (by decide +kernel)
set_option maxRecDepth 20000 in
theorem gX6_lockable_X3_roomIn : GoodIn wsX6_lockable (wsV RX6 281 RX3 yX3_roomIn wsX3_roomIn) := goodIn_app (goodIn_of _ (by decide +kernel)) ggX6_lockable_X3_roomIn
set_option maxRecDepth 20000 in
theorem ggX6_lockable_X5_canHaveQuoin : GoodIn wsX6_lockable wsX5_canHaveQuoin := goodIn_r _ [61, 62, 63, 64, 65, 52, 66, 67, 116, 117, 118, 119, 120, 121, 122, 123, 132, 133, 134, 135, 136, 137, 138, 139, 140, 141] (by decide +kernel) (by decide +kernel)
set_option maxRecDepth 20000 in
theorem gX6_lockable_X5_canHaveQuoin : GoodIn wsX6_lockable (wsV RX6 284 RX5 yX5_canHaveQuoin wsX5_canHaveQuoin) := goodIn_app (goodIn_of _ (by decide +kernel)) ggX6_lockable_X5_canHaveQuoin
set_option maxRecDepth 20000 in
theorem ggX6_lockable_X4_choose : GoodIn wsX6_lockable wsX4_choose := goodIn_ca (goodIn_r _ [71, 31, 72, 73, 74, 75, 76, 77, 17, 78, 29, 79, 80, 81, 82, 83, 84, 85, 86, 87, 88, 30, 36, 89, 38, 20, 90, 91, 92, 93, 42, 43, 44, 45, 124, 125, 126, 127, 128, 129, 130, 131, 105, 106, 107, 108, 109, 110, 111, 112, 113, 114, 115] (by decide +kernel) (by decide +kernel)) (goodIn_sub (fun _ h => List.mem_cons_of_mem _ (List.mem_append_right _ h)) (by decide +kernel))
set_option maxRecDepth 20000 in
theorem gX6_lockable_X4_choose : GoodIn wsX6_lockable (wsV RX6 318 RX4 yX4_choose wsX4_choose) := goodIn_app (goodIn_of _ (by decide +kernel)) ggX6_lockable_X4_choose
theorem dX6_lockable_0 : decode cX6_lockable 0 = .ok (.aload_n 0, 1) := by decide +kernel
theorem dX6_lockable_1 : decode cX6_lockable 1 = .ok (.invokevirtual 112, 3) := by decide +kernel
theorem dX6_lockable_4 : decode cX6_lockable 4 = .ok (.aload_n 0, 1) := by decide +kernel
theorem dX6_lockable_5 : decode cX6_lockable 5 = .ok (.getfield 19, 3) := by decide +kernel
theorem dX6_lockable_8 : decode cX6_lockable 8 = .ok (.aload_n 0, 1) := by decide +kernel
theorem dX6_lockable_9 : decode cX6_lockable 9 = .ok (.getfield 33, 3) := by decide +kernel
theorem dX6_lockable_12 : decode cX6_lockable 12 = .ok (.invokevirtual 278, 3) := by decide +kernel
theorem dX6_lockable_15 : decode cX6_lockable 15 = .ok (.aload_n 0, 1) := by decide +kernel
theorem dX6_lockable_16 : decode cX6_lockable 16 = .ok (.getfield 19, 3) := by decide +kernel
theorem dX6_lockable_19 : decode cX6_lockable 19 = .ok (.aload_n 0, 1) := by decide +kernel
theorem dX6_lockable_20 : decode cX6_lockable 20 = .ok (.getfield 58, 3) := by decide +kernel
theorem dX6_lockable_23 : decode cX6_lockable 23 = .ok (.invokevirtual 292, 3) := by decide +kernel
theorem dX6_lockable_26 : decode cX6_lockable 26 = .ok (.iconst 0, 1) := by decide +kernel
theorem dX6_lockable_27 : decode cX6_lockable 27 = .ok (.istore_n 1, 1) := by decide +kernel
theorem dX6_lockable_28 : decode cX6_lockable 28 = .ok (.iconst 0, 1) := by decide +kernel
theorem dX6_lockable_29 : decode cX6_lockable 29 = .ok (.istore_n 2, 1) := by decide +kernel
theorem dX6_lockable_30 : decode cX6_lockable 30 = .ok (.iload_n 2, 1) := by decide +kernel
theorem dX6_lockable_31 : decode cX6_lockable 31 = .ok (.aload_n 0, 1) := by decide +kernel
theorem dX6_lockable_32 : decode cX6_lockable 32 = .ok (.getfield 58, 3) := by decide +kernel
theorem dX6_lockable_35 : decode cX6_lockable 35 = .ok (.getfield 115, 3) := by decide +kernel
theorem dX6_lockable_38 : decode cX6_lockable 38 = .ok (.if_icmp .ge 55, 3) := by decide +kernel
theorem dX6_lockable_41 : decode cX6_lockable 41 = .ok (.aload_n 0, 1) := by decide +kernel
theorem dX6_lockable_42 : decode cX6_lockable 42 = .ok (.getfield 33, 3) := by decide +kernel
theorem dX6_lockable_45 : decode cX6_lockable 45 = .ok (.getfield 246, 3) := by decide +kernel
theorem dX6_lockable_48 : decode cX6_lockable 48 = .ok (.iload_n 2, 1) := by decide +kernel
theorem dX6_lockable_49 : decode cX6_lockable 49 = .ok (.aaload, 1) := by decide +kernel
theorem dX6_lockable_50 : decode cX6_lockable 50 = .ok (.astore_n 3, 1) := by decide +kernel
theorem dX6_lockable_51 : decode cX6_lockable 51 = .ok (.aload_n 0, 1) := by decide +kernel
theorem dX6_lockable_52 : decode cX6_lockable 52 = .ok (.getfield 19, 3) := by decide +kernel
theorem dX6_lockable_55 : decode cX6_lockable 55 = .ok (.aload_n 0, 1) := by decide +kernel
theorem dX6_lockable_56 : decode cX6_lockable 56 = .ok (.getfield 58, 3) := by decide +kernel
theorem dX6_lockable_59 : decode cX6_lockable 59 = .ok (.aload_n 3, 1) := by decide +kernel
theorem dX6_lockable_60 : decode cX6_lockable 60 = .ok (.aload_n 0, 1) := by decide +kernel
theorem dX6_lockable_61 : decode cX6_lockable 61 = .ok (.getfield 58, 3) := by decide +kernel
theorem dX6_lockable_64 : decode cX6_lockable 64 = .ok (.invokevirtual 281, 3) := by decide +kernel
theorem dX6_lockable_67 : decode cX6_lockable 67 = .ok (.aload_n 0, 1) := by decide +kernel
theorem dX6_lockable_68 : decode cX6_lockable 68 = .ok (.getfield 33, 3) := by decide +kernel
theorem dX6_lockable_71 : decode cX6_lockable 71 = .ok (.aload_n 3, 1) := by decide +kernel
theorem dX6_lockable_72 : decode cX6_lockable 72 = .ok (.invokevirtual 284, 3) := by decide +kernel
theorem dX6_lockable_75 : decode cX6_lockable 75 = .ok (.invokevirtual 318, 3) := by decide +kernel
theorem dX6_lockable_78 : decode cX6_lockable 78 = .ok (.ifCond .eq 9, 3) := by decide +kernel
theorem dX6_lockable_81 : decode cX6_lockable 81 = .ok (.iload_n 1, 1) := by decide +kernel
theorem dX6_lockable_82 : decode cX6_lockable 82 = .ok (.iconst 1, 1) := by decide +kernel
theorem dX6_lockable_83 : decode cX6_lockable 83 = .ok (.iload_n 2, 1) := by decide +kernel
theorem dX6_lockable_84 : decode cX6_lockable 84 = .ok (.ishl, 1) := by decide +kernel
theorem dX6_lockable_85 : decode cX6_lockable 85 = .ok (.ior, 1) := by decide +kernel
theorem dX6_lockable_86 : decode cX6_lockable 86 = .ok (.istore_n 1, 1) := by decide +kernel
theorem dX6_lockable_87 : decode cX6_lockable 87 = .ok (.iinc 2 1, 3) := by decide +kernel
theorem dX6_lockable_90 : decode cX6_lockable 90 = .ok (.goto (-60), 3) := by decide +kernel
theorem dX6_lockable_93 : decode cX6_lockable 93 = .ok (.iload_n 1, 1) := by decide +kernel
theorem dX6_lockable_94 : decode cX6_lockable 94 = .ok (.ireturn, 1) := by decide +kernel
set_option maxRecDepth 20000 in
theorem ggX6_lockedAll_X6_needChase : GoodIn wsX6_lockedAll wsX6_needChase := goodIn_ca (goodIn_r _ [11, 12, 13, 14, 168, 169, 170, 171, 172, 173, 174, 175, 176, 177, 178] (by decide +kernel) (by decide +kernel)) (goodIn_sub (fun _ h => List.mem_cons_of_mem _ (List.mem_append_left _ (List.mem_append_right _ h))) (by decide +kernel))
set_option maxRecDepth 20000 in
theorem gX6_lockedAll_X6_needChase : GoodIn wsX6_lockedAll (wsV RX6 112 RX6 yX6_needChase wsX6_needChase) := goodIn_app (goodIn_of _ (by decide +kernel)) ggX6_lockedAll_X6_needChase
set_option maxRecDepth 20000 in
theorem ggX6_lockedAll_X5_copyFrom : GoodIn wsX6_lockedAll wsX5_copyFrom := goodIn_r _ [19, 20, 21, 22, 23, 24, 25, 26, 27, 28, 29, 30, 31, 32, 33, 34, 35, 36, 37, 38, 39, 40, 41, 42, 43, 44, 45, 46, 47, 190, 191, 192, 193, 194, 195, 196, 197, 198, 199, 200, 201, 202, 203, 204, 205, 206, 207] (by decide +kernel) (by decide +kernel)
set_option maxRecDepth 20000 in
theorem gX6_lockedAll_X5_copyFrom : GoodIn wsX6_lockedAll (wsV RX6 95 RX5 yX5_copyFrom wsX5_copyFrom) := goodIn_app (goodIn_of _ (by decide +kernel)) ggX6_lockedAll_X5_copyFrom
set_option maxRecDepth 20000 in
theorem ggX6_lockedAll_X6_solve : GoodIn wsX6_lockedAll wsX6_solve := goodIn_ca (goodIn_r _ [51, 6, 3, 52, 53, 54, 55, 56, 57, 58, 59, 23, 24, 25, 60, 61, 62, 63, 64, 65, 66, 67, 68, 69, 70, 71, 72, 73, 74, 75, 76, 77, 78, 79, 80, 81, 82, 83, 84, 85, 86, 35, 87, 88, 40, 43, 89, 90, 91, 18, 92, 26, 93, 94, 95, 96, 45, 97, 98, 99, 100, 101, 102, 103, 104, 105, 106, 107, 108, 109, 110, 111, 112, 113, 114, 115, 116, 117, 118, 119, 120, 121, 122, 168, 169, 170, 171, 172, 173, 174, 175, 176, 177, 178, 190, 191, 192, 193, 194, 195, 196, 197, 208, 209, 210, 211, 212, 213, 214, 215, 179, 180, 181, 182, 183, 184, 185, 186, 187, 188, 189, 198, 199, 200, 201, 202, 203, 204, 205, 206, 207] (by decide +kernel) (by decide +kernel)) (goodIn_sub (fun _ h => List.mem_cons_of_mem _ (List.mem_append_right _ h)) (by decide +kernel))
set_option maxRecDepth 20000 in
theorem gX6_lockedAll_X6_solve : GoodIn wsX6_lockedAll (wsV RX6 261 RX6 yX6_solve wsX6_solve) := goodIn_app (goodIn_of _ (by decide +kernel)) ggX6_lockedAll_X6_solve
set_option maxRecDepth 20000 in
theorem ggX6_lockedAll_X5_fill : GoodIn wsX6_lockedAll wsX5_fill := goodIn_ca (goodIn_r _ [126, 20, 127, 128, 129, 130, 131, 132, 133, 134, 18, 135, 21, 136, 137, 138, 35, 139, 42, 43, 140, 44, 141, 142, 143, 144, 41, 145, 146, 147, 148, 149, 150, 26, 151, 152, 93, 94, 95, 96, 45, 190, 191, 192, 193, 194, 195, 196, 197, 179, 180, 181, 182, 183, 184, 185, 186, 187, 188, 189, 208, 209, 210, 211, 212, 213, 214, 215, 198, 199, 200, 201, 202, 203, 204, 205, 206, 207] (by decide +kernel) (by decide +kernel)) (goodIn_sub (fun _ h => List.mem_cons_of_mem _ (List.mem_append_right _ h)) (by decide +kernel))
set_option maxRecDepth 20000 in
theorem gX6_lockedAll_X5_fill : GoodIn wsX6_lockedAll (wsV RX6 346 RX5 yX5_fill wsX5_fill) := goodIn_app (goodIn_of _ (by decide +kernel)) ggX6_lockedAll_X5_fill
set_option maxRecDepth 20000 in
theorem ggX6_lockedAll_X5_tightRows : GoodIn wsX6_lockedAll wsX5_tightRows := goodIn_r _ [156, 20, 157, 158, 159, 35, 160, 47, 161, 162, 163, 164, 165, 45, 46, 166, 85, 86, 87, 88, 40, 43, 167, 94, 95, 96, 190, 191, 192, 193, 194, 195, 196, 197, 198, 199, 200, 201, 202, 203, 204, 205, 206, 207, 179, 180, 181, 182, 183, 184, 185, 186, 187, 188, 189] (by decide +kernel) (by decide +kernel)
set_option maxRecDepth 20000 in
theorem gX6_lockedAll_X5_tightRows : GoodIn wsX6_lockedAll (wsV RX6 128 RX5 yX5_tightRows wsX5_tightRows) := goodIn_app (goodIn_of _ (by decide +kernel)) ggX6_lockedAll_X5_tightRows
theorem dX6_lockedAll_0 : decode cX6_lockedAll 0 = .ok (.aload_n 0, 1) := by decide +kernel
theorem dX6_lockedAll_1 : decode cX6_lockedAll 1 = .ok (.invokevirtual 112, 3) := by decide +kernel
theorem dX6_lockedAll_4 : decode cX6_lockedAll 4 = .ok (.aload_n 0, 1) := by decide +kernel
theorem dX6_lockedAll_5 : decode cX6_lockedAll 5 = .ok (.getfield 37, 3) := by decide +kernel
theorem dX6_lockedAll_8 : decode cX6_lockedAll 8 = .ok (.aload_n 0, 1) := by decide +kernel
theorem dX6_lockedAll_9 : decode cX6_lockedAll 9 = .ok (.getfield 33, 3) := by decide +kernel
theorem dX6_lockedAll_12 : decode cX6_lockedAll 12 = .ok (.invokevirtual 95, 3) := by decide +kernel
theorem dX6_lockedAll_15 : decode cX6_lockedAll 15 = .ok (.iconst 0, 1) := by decide +kernel
theorem dX6_lockedAll_16 : decode cX6_lockedAll 16 = .ok (.istore_n 1, 1) := by decide +kernel
theorem dX6_lockedAll_17 : decode cX6_lockedAll 17 = .ok (.iload_n 1, 1) := by decide +kernel
theorem dX6_lockedAll_18 : decode cX6_lockedAll 18 = .ok (.aload_n 0, 1) := by decide +kernel
theorem dX6_lockedAll_19 : decode cX6_lockedAll 19 = .ok (.getfield 58, 3) := by decide +kernel
theorem dX6_lockedAll_22 : decode cX6_lockedAll 22 = .ok (.getfield 115, 3) := by decide +kernel
theorem dX6_lockedAll_25 : decode cX6_lockedAll 25 = .ok (.if_icmp .ge 45, 3) := by decide +kernel
theorem dX6_lockedAll_28 : decode cX6_lockedAll 28 = .ok (.aload_n 0, 1) := by decide +kernel
theorem dX6_lockedAll_29 : decode cX6_lockedAll 29 = .ok (.aload_n 0, 1) := by decide +kernel
theorem dX6_lockedAll_30 : decode cX6_lockedAll 30 = .ok (.getfield 37, 3) := by decide +kernel
theorem dX6_lockedAll_33 : decode cX6_lockedAll 33 = .ok (.aload_n 0, 1) := by decide +kernel
theorem dX6_lockedAll_34 : decode cX6_lockedAll 34 = .ok (.getfield 37, 3) := by decide +kernel
theorem dX6_lockedAll_37 : decode cX6_lockedAll 37 = .ok (.getfield 246, 3) := by decide +kernel
theorem dX6_lockedAll_40 : decode cX6_lockedAll 40 = .ok (.iload_n 1, 1) := by decide +kernel
theorem dX6_lockedAll_41 : decode cX6_lockedAll 41 = .ok (.aaload, 1) := by decide +kernel
theorem dX6_lockedAll_42 : decode cX6_lockedAll 42 = .ok (.invokevirtual 261, 3) := by decide +kernel
theorem dX6_lockedAll_45 : decode cX6_lockedAll 45 = .ok (.ifCond .eq 19, 3) := by decide +kernel
theorem dX6_lockedAll_48 : decode cX6_lockedAll 48 = .ok (.aload_n 0, 1) := by decide +kernel
theorem dX6_lockedAll_49 : decode cX6_lockedAll 49 = .ok (.getfield 37, 3) := by decide +kernel
theorem dX6_lockedAll_52 : decode cX6_lockedAll 52 = .ok (.aload_n 0, 1) := by decide +kernel
theorem dX6_lockedAll_53 : decode cX6_lockedAll 53 = .ok (.getfield 58, 3) := by decide +kernel
theorem dX6_lockedAll_56 : decode cX6_lockedAll 56 = .ok (.iload_n 1, 1) := by decide +kernel
theorem dX6_lockedAll_57 : decode cX6_lockedAll 57 = .ok (.aload_n 0, 1) := by decide +kernel
theorem dX6_lockedAll_58 : decode cX6_lockedAll 58 = .ok (.getfield 19, 3) := by decide +kernel
theorem dX6_lockedAll_61 : decode cX6_lockedAll 61 = .ok (.invokevirtual 346, 3) := by decide +kernel
theorem dX6_lockedAll_64 : decode cX6_lockedAll 64 = .ok (.iinc 1 1, 3) := by decide +kernel
theorem dX6_lockedAll_67 : decode cX6_lockedAll 67 = .ok (.goto (-50), 3) := by decide +kernel
theorem dX6_lockedAll_70 : decode cX6_lockedAll 70 = .ok (.aload_n 0, 1) := by decide +kernel
theorem dX6_lockedAll_71 : decode cX6_lockedAll 71 = .ok (.getfield 37, 3) := by decide +kernel
theorem dX6_lockedAll_74 : decode cX6_lockedAll 74 = .ok (.aload_n 0, 1) := by decide +kernel
theorem dX6_lockedAll_75 : decode cX6_lockedAll 75 = .ok (.getfield 58, 3) := by decide +kernel
theorem dX6_lockedAll_78 : decode cX6_lockedAll 78 = .ok (.invokevirtual 128, 3) := by decide +kernel
theorem dX6_lockedAll_81 : decode cX6_lockedAll 81 = .ok (.ireturn, 1) := by decide +kernel
set_option maxRecDepth 20000 in
theorem ggX6_solve_X4_stockFrom : GoodIn wsX6_solve wsX4_stockFrom := goodIn_r _ [7, 8, 9, 10, 11, 12, 13, 94, 95, 96, 97, 98, 99, 100, 101, 102, 103, 104, 105, 106, 107, 108, 109] (by decide +kernel) (by decide +kernel)
set_option maxRecDepth 20000 in
theorem gX6_solve_X4_stockFrom : GoodIn wsX6_solve (wsV RX6 278 RX4 yX4_stockFrom wsX4_stockFrom) := goodIn_app (goodIn_of _ (by decide +kernel)) ggX6_solve_X4_stockFrom
set_option maxRecDepth 20000 in
theorem ggX6_solve_X4_study : GoodIn wsX6_solve wsX4_study := goodIn_ca (goodIn_r _ [17, 18, 19, 20, 21, 22, 23, 6, 24, 25, 10, 11, 12, 13, 26, 27, 9, 28, 29, 30, 31, 32, 33, 34, 35, 36, 37, 102, 103, 104, 105, 106, 107, 108, 109, 110, 111, 112, 113, 114, 115, 116, 117, 118, 119, 120] (by decide +kernel) (by decide +kernel)) (goodIn_sub (fun _ h => List.mem_cons_of_mem _ (List.mem_append_right _ h)) (by decide +kernel))
set_option maxRecDepth 20000 in
theorem gX6_solve_X4_study : GoodIn wsX6_solve (wsV RX6 292 RX4 yX4_study wsX4_study) := goodIn_app (goodIn_of _ (by decide +kernel)) ggX6_solve_X4_study
set_option maxRecDepth 20000 in
theorem ggX6_solve_X3_roomIn : GoodIn wsX6_solve wsX3_roomIn := goodIn_r _ [42, 43, 44, 45, 110, 111, 112, 113, 114, 115, 116, 117, 118, 119, 120, 121, 122, 123, 124, 125, 126, 127, 128, 129, 130] (by decide +kernel) (by decide +kernel)
set_option maxRecDepth 20000 in
theorem gX6_solve_X3_roomIn : GoodIn wsX6_solve (wsV RX6 281 RX3 yX3_roomIn wsX3_roomIn) := goodIn_app (goodIn_of _ (by decide +kernel)) ggX6_solve_X3_roomIn
set_option maxRecDepth 20000 in
theorem ggX6_solve_X5_canHaveQuoin : GoodIn wsX6_solve wsX5_canHaveQuoin := goodIn_r _ [50, 51, 52, 53, 54, 41, 55, 56, 94, 95, 96, 97, 98, 99, 100, 101, 121, 122, 123, 124, 125, 126, 127, 128, 129, 130] (by decide +kernel) (by decide +kernel)
set_option maxRecDepth 20000 in
theorem gX6_solve_X5_canHaveQuoin : GoodIn wsX6_solve (wsV RX6 284 RX5 yX5_canHaveQuoin wsX5_canHaveQuoin) := goodIn_app (goodIn_of _ (by decide +kernel)) ggX6_solve_X5_canHaveQuoin
set_option maxRecDepth 20000 in
theorem ggX6_solve_X4_choose : GoodIn wsX6_solve wsX4_choose := goodIn_ca (goodIn_r _ [60, 20, 61, 62, 63, 64, 65, 66, 6, 67, 18, 68, 69, 70, 71, 72, 73, 74, 75, 76, 77, 19, 25, 78, 27, 9, 79, 80, 81, 82, 31, 32, 33, 34, 102, 103, 104, 105, 106, 107, 108, 109, 110, 111, 112, 113, 114, 115, 116, 117, 118, 119, 120] (by decide +kernel) (by decide +kernel)) (goodIn_sub (fun _ h => List.mem_cons_of_mem _ (List.mem_append_right _ h)) (by decide +kernel))
set_option maxRecDepth 20000 in
theorem gX6_solve_X4_choose : GoodIn wsX6_solve (wsV RX6 318 RX4 yX4_choose wsX4_choose) := goodIn_app (goodIn_of _ (by decide +kernel)) ggX6_solve_X4_choose
theorem dX6_solve_0 : decode cX6_solve 0 = .ok (.aload_n 0, 1) := by decide +kernel
theorem dX6_solve_1 : decode cX6_solve 1 = .ok (.getfield 19, 3) := by decide +kernel
theorem dX6_solve_4 : decode cX6_solve 4 = .ok (.aload_n 1, 1) := by decide +kernel
theorem dX6_solve_5 : decode cX6_solve 5 = .ok (.invokevirtual 278, 3) := by decide +kernel
theorem dX6_solve_8 : decode cX6_solve 8 = .ok (.aload_n 0, 1) := by decide +kernel
theorem dX6_solve_9 : decode cX6_solve 9 = .ok (.getfield 19, 3) := by decide +kernel
theorem dX6_solve_12 : decode cX6_solve 12 = .ok (.aload_n 0, 1) := by decide +kernel
theorem dX6_solve_13 : decode cX6_solve 13 = .ok (.getfield 58, 3) := by decide +kernel
theorem dX6_solve_16 : decode cX6_solve 16 = .ok (.invokevirtual 292, 3) := by decide +kernel
theorem dX6_solve_19 : decode cX6_solve 19 = .ok (.aload_n 0, 1) := by decide +kernel
theorem dX6_solve_20 : decode cX6_solve 20 = .ok (.getfield 19, 3) := by decide +kernel
theorem dX6_solve_23 : decode cX6_solve 23 = .ok (.aload_n 0, 1) := by decide +kernel
theorem dX6_solve_24 : decode cX6_solve 24 = .ok (.getfield 58, 3) := by decide +kernel
theorem dX6_solve_27 : decode cX6_solve 27 = .ok (.aload_n 2, 1) := by decide +kernel
theorem dX6_solve_28 : decode cX6_solve 28 = .ok (.aload_n 0, 1) := by decide +kernel
theorem dX6_solve_29 : decode cX6_solve 29 = .ok (.getfield 58, 3) := by decide +kernel
theorem dX6_solve_32 : decode cX6_solve 32 = .ok (.invokevirtual 281, 3) := by decide +kernel
theorem dX6_solve_35 : decode cX6_solve 35 = .ok (.aload_n 1, 1) := by decide +kernel
theorem dX6_solve_36 : decode cX6_solve 36 = .ok (.aload_n 2, 1) := by decide +kernel
theorem dX6_solve_37 : decode cX6_solve 37 = .ok (.invokevirtual 284, 3) := by decide +kernel
theorem dX6_solve_40 : decode cX6_solve 40 = .ok (.invokevirtual 318, 3) := by decide +kernel
theorem dX6_solve_43 : decode cX6_solve 43 = .ok (.ireturn, 1) := by decide +kernel
set_option maxRecDepth 20000 in
theorem ggX6_writeRow_X6_needRow : GoodIn wsX6_writeRow wsX6_needRow := goodIn_ca (goodIn_ca (goodIn_r _ [9, 10, 11, 12, 13, 14, 15, 16, 17, 18, 8, 19, 20, 21, 22, 245, 246, 247, 248, 249, 250, 251, 252, 253, 254, 255, 266, 267, 268, 269, 270, 271, 272, 273, 274, 275, 276, 277, 278, 279, 280, 281, 282, 283, 284] (by decide +kernel) (by decide +kernel)) (goodIn_sub (fun _ h => List.mem_cons_of_mem _ (List.mem_append_left _ (List.mem_append_left _ (List.mem_append_right _ h)))) (by decide +kernel))) (goodIn_sub (fun _ h => List.mem_cons_of_mem _ (List.mem_append_left _ (List.mem_append_right _ h))) (by decide +kernel))
set_option maxRecDepth 20000 in
theorem gX6_writeRow_X6_needRow : GoodIn wsX6_writeRow (wsV RX6 172 RX6 yX6_needRow wsX6_needRow) := goodIn_app (goodIn_of _ (by decide +kernel)) ggX6_writeRow_X6_needRow
set_option maxRecDepth 20000 in
theorem ggX6_writeRow_J4_setLength_d00df : GoodIn wsX6_writeRow wsJ4_setLength_d00df := goodIn_r _ [27, 28, 29, 30, 31, 32, 33, 34, 35, 36, 37, 38, 39, 40, 41, 42, 43, 44, 45, 46, 47, 48, 49, 50, 51, 52, 53, 54, 55, 56, 57, 58, 59, 60, 61, 62, 63, 64, 65, 66, 67, 68, 69, 70, 71, 72, 73, 74, 75, 76, 77, 78, 79, 80, 81, 82, 83, 84, 85, 86, 87, 88, 89, 90, 91, 92, 93, 94, 95, 96, 97, 98, 99, 26, 100, 101, 102, 103, 104, 105, 106, 107, 285, 286, 287, 288, 289, 290, 291, 292, 293, 294, 295, 296, 297, 298, 299, 300] (by decide +kernel) (by decide +kernel)
set_option maxRecDepth 20000 in
theorem gX6_writeRow_J4_setLength_d00df : GoodIn wsX6_writeRow (wsV RX6 350 RJ4 yJ4_setLength_d00df wsJ4_setLength_d00df) := goodIn_app (goodIn_of _ (by decide +kernel)) ggX6_writeRow_J4_setLength_d00df
set_option maxRecDepth 20000 in
theorem ggX6_writeRow_X6_writeGapBefore : GoodIn wsX6_writeRow wsX6_writeGapBefore := goodIn_r _ [111, 1, 112, 113, 114, 26, 115, 116, 117, 30, 118, 32, 119, 37, 120, 121, 122, 123, 124, 125, 126, 127, 38, 40, 41, 42, 43, 44, 45, 46, 47, 48, 49, 50, 51, 52, 53, 54, 55, 56, 57, 58, 59, 60, 61, 62, 63, 64, 65, 66, 67, 68, 69, 70, 71, 72, 73, 74, 75, 76, 77, 78, 79, 80, 81, 82, 83, 84, 85, 86, 87, 128, 129, 90, 130, 131, 132, 133, 134, 135, 136, 137, 105, 138, 139, 140, 141, 142, 143, 144, 145, 146, 147, 148, 149, 150, 151, 152, 153, 154, 155, 156, 157, 158, 159, 160, 161, 162, 163, 164, 165, 166, 167, 168, 169, 170, 171, 172, 173, 174, 175, 176, 177, 178, 179, 180, 181, 245, 246, 247, 248, 249, 250, 251, 252, 253, 254, 255, 291, 292, 293, 294] (by decide +kernel) (by decide +kernel)
set_option maxRecDepth 20000 in
theorem gX6_writeRow_X6_writeGapBefore : GoodIn wsX6_writeRow (wsV RX6 353 RX6 yX6_writeGapBefore wsX6_writeGapBefore) := goodIn_app (goodIn_of _ (by decide +kernel)) ggX6_writeRow_X6_writeGapBefore
set_option maxRecDepth 20000 in
theorem ggX6_writeRow_J4_append_cf468 : GoodIn wsX6_writeRow wsJ4_append_cf468 := goodIn_r _ [123, 124, 125, 30, 126, 32, 127, 37, 38, 40, 41, 42, 43, 44, 45, 46, 47, 48, 49, 50, 51, 52, 53, 54, 55, 56, 57, 58, 59, 60, 61, 62, 63, 64, 65, 66, 67, 68, 69, 70, 71, 72, 73, 74, 75, 76, 77, 78, 79, 80, 81, 82, 83, 84, 85, 86, 87, 128, 129, 90, 130, 131, 132, 133, 134, 135, 136, 137, 105, 138, 139, 140, 141, 142, 143, 144, 145, 146, 147, 148, 149, 150, 151, 152, 153, 154, 155, 156, 157, 158, 159, 160, 161, 162, 163, 164, 165, 166, 167, 168, 169, 170, 171, 172, 173, 174, 175, 176, 177, 178, 179, 180, 181, 291, 292, 293, 294] (by decide +kernel) (by decide +kernel)
set_option maxRecDepth 20000 in
theorem gX6_writeRow_J4_append_cf468 : GoodIn wsX6_writeRow (wsV RX6 356 RJ4 yJ4_append_cf468 wsJ4_append_cf468) := goodIn_app (goodIn_of _ (by decide +kernel)) ggX6_writeRow_J4_append_cf468
set_option maxRecDepth 20000 in
theorem ggX6_writeRow_X3_blockAt : GoodIn wsX6_writeRow wsX3_blockAt := goodIn_ca (goodIn_r _ [186, 187, 188, 256, 257, 258, 259, 260, 261, 262, 263, 264, 265] (by decide +kernel) (by decide +kernel)) (goodIn_sub (fun _ h => List.mem_cons_of_mem _ (List.mem_append_right _ h)) (by decide +kernel))
set_option maxRecDepth 20000 in
theorem gX6_writeRow_X3_blockAt : GoodIn wsX6_writeRow (wsV RX6 212 RX3 yX3_blockAt wsX3_blockAt) := goodIn_app (goodIn_of _ (by decide +kernel)) ggX6_writeRow_X3_blockAt
set_option maxRecDepth 20000 in
theorem ggX6_writeRow_J4_append_bf812 : GoodIn wsX6_writeRow wsJ4_append_bf812 := goodIn_r _ [192, 193, 194, 30, 195, 32, 196, 37, 38, 197, 198, 199, 200, 40, 41, 42, 43, 44, 45, 46, 47, 48, 49, 50, 51, 52, 53, 54, 55, 56, 57, 58, 59, 60, 61, 62, 63, 64, 65, 66, 67, 68, 69, 70, 71, 72, 73, 74, 75, 76, 77, 78, 79, 80, 81, 82, 83, 84, 85, 86, 87, 201, 202, 203, 204, 205, 206, 207, 105, 208, 167, 209, 210, 211, 152, 153, 154, 212, 213, 157, 214, 159, 215, 216, 162, 217, 218, 219, 220, 221, 222, 164, 165, 166, 168, 169, 291, 292, 293, 294] (by decide +kernel) (by decide +kernel)
set_option maxRecDepth 20000 in
theorem gX6_writeRow_J4_append_bf812 : GoodIn wsX6_writeRow (wsV RX6 360 RJ4 yJ4_append_bf812 wsJ4_append_bf812) := goodIn_app (goodIn_of _ (by decide +kernel)) ggX6_writeRow_J4_append_bf812
set_option maxRecDepth 20000 in
theorem ggX6_writeRow_X3_pieceAt : GoodIn wsX6_writeRow wsX3_pieceAt := goodIn_ca (goodIn_r _ [226, 227, 228, 256, 257, 258, 259, 260, 261, 262, 263, 264, 265] (by decide +kernel) (by decide +kernel)) (goodIn_sub (fun _ h => List.mem_cons_of_mem _ (List.mem_append_right _ h)) (by decide +kernel))
set_option maxRecDepth 20000 in
theorem gX6_writeRow_X3_pieceAt : GoodIn wsX6_writeRow (wsV RX6 216 RX3 yX3_pieceAt wsX3_pieceAt) := goodIn_app (goodIn_of _ (by decide +kernel)) ggX6_writeRow_X3_pieceAt
set_option maxRecDepth 20000 in
theorem ggX6_writeRow_X6_writeKind : GoodIn wsX6_writeRow wsX6_writeKind := goodIn_ca (goodIn_r _ [232, 12, 233, 1, 234, 235, 120, 121, 122, 26, 123, 124, 125, 30, 126, 32, 127, 37, 38, 40, 41, 42, 43, 44, 45, 46, 47, 48, 49, 50, 51, 52, 53, 54, 55, 56, 57, 58, 59, 60, 61, 62, 63, 64, 65, 66, 67, 68, 69, 70, 71, 72, 73, 74, 75, 76, 77, 78, 79, 80, 81, 82, 83, 84, 85, 86, 87, 128, 129, 90, 130, 131, 132, 133, 134, 135, 136, 137, 105, 138, 139, 140, 141, 142, 143, 144, 145, 146, 147, 148, 149, 150, 151, 152, 153, 154, 155, 156, 157, 158, 159, 160, 161, 162, 163, 164, 165, 166, 167, 168, 169, 170, 171, 172, 173, 174, 175, 176, 177, 178, 179, 180, 181, 189, 190, 191, 192, 193, 194, 195, 196, 197, 198, 199, 200, 201, 202, 203, 204, 205, 206, 207, 208, 209, 210, 211, 212, 213, 214, 215, 216, 217, 218, 219, 220, 221, 222, 245, 246, 247, 248, 249, 250, 251, 252, 253, 254, 255, 266, 267, 268, 269, 270, 271, 272, 273, 274, 275, 276, 291, 292, 293, 294] (by decide +kernel) (by decide +kernel)) (goodIn_sub (fun _ h => List.mem_cons_of_mem _ (List.mem_append_right _ h)) (by decide +kernel))
set_option maxRecDepth 20000 in
theorem gX6_writeRow_X6_writeKind : GoodIn wsX6_writeRow (wsV RX6 363 RX6 yX6_writeKind wsX6_writeKind) := goodIn_app (goodIn_of _ (by decide +kernel)) ggX6_writeRow_X6_writeKind
set_option maxRecDepth 20000 in
theorem ggX6_writeRow_X3_hasQuoin : GoodIn wsX6_writeRow wsX3_hasQuoin := goodIn_r _ [239, 240, 256, 257, 258, 259, 260, 261, 262, 263, 264, 265] (by decide +kernel) (by decide +kernel)
set_option maxRecDepth 20000 in
theorem gX6_writeRow_X3_hasQuoin : GoodIn wsX6_writeRow (wsV RX6 199 RX3 yX3_hasQuoin wsX3_hasQuoin) := goodIn_app (goodIn_of _ (by decide +kernel)) ggX6_writeRow_X3_hasQuoin
set_option maxRecDepth 20000 in
theorem ggX6_writeRow_X6_writeOpening : GoodIn wsX6_writeRow wsX6_writeOpening := goodIn_r _ [244, 1, 108, 109, 110, 8, 111, 112, 113, 114, 26, 115, 116, 117, 30, 118, 32, 119, 37, 120, 121, 122, 123, 124, 125, 126, 127, 38, 40, 41, 42, 43, 44, 45, 46, 47, 48, 49, 50, 51, 52, 53, 54, 55, 56, 57, 58, 59, 60, 61, 62, 63, 64, 65, 66, 67, 68, 69, 70, 71, 72, 73, 74, 75, 76, 77, 78, 79, 80, 81, 82, 83, 84, 85, 86, 87, 128, 129, 90, 130, 131, 132, 133, 134, 135, 136, 137, 105, 138, 139, 140, 141, 142, 143, 144, 145, 146, 147, 148, 149, 150, 151, 152, 153, 154, 155, 156, 157, 158, 159, 160, 161, 162, 163, 164, 165, 166, 167, 168, 169, 170, 171, 172, 173, 174, 175, 176, 177, 178, 179, 180, 181, 189, 190, 191, 192, 193, 194, 195, 196, 197, 198, 199, 200, 201, 202, 203, 204, 205, 206, 207, 208, 209, 210, 211, 212, 213, 214, 215, 216, 217, 218, 219, 220, 221, 222, 245, 246, 247, 248, 249, 250, 251, 252, 253, 254, 255, 291, 292, 293, 294] (by decide +kernel) (by decide +kernel)
set_option maxRecDepth 20000 in
theorem gX6_writeRow_X6_writeOpening : GoodIn wsX6_writeRow (wsV RX6 366 RX6 yX6_writeOpening wsX6_writeOpening) := goodIn_app (goodIn_of _ (by decide +kernel)) ggX6_writeRow_X6_writeOpening
set_option maxRecDepth 20000 in
theorem ggX6_writeRow_J4_length_8abf5 : GoodIn wsX6_writeRow wsJ4_length_8abf5 := goodIn_r _ [115, 116, 117, 30, 118, 32, 119, 37, 291, 292, 293, 294] (by decide +kernel) (by decide +kernel)
set_option maxRecDepth 20000 in
theorem gX6_writeRow_J4_length_8abf5 : GoodIn wsX6_writeRow (wsV RX6 369 RJ4 yJ4_length_8abf5 wsJ4_length_8abf5) := goodIn_app (goodIn_of _ (by decide +kernel)) ggX6_writeRow_J4_length_8abf5
theorem dX6_writeRow_0 : decode cX6_writeRow 0 = .ok (.aload_n 0, 1) := by decide +kernel
theorem dX6_writeRow_1 : decode cX6_writeRow 1 = .ok (.iload_n 1, 1) := by decide +kernel
theorem dX6_writeRow_2 : decode cX6_writeRow 2 = .ok (.invokevirtual 172, 3) := by decide +kernel
theorem dX6_writeRow_5 : decode cX6_writeRow 5 = .ok (.astore_n 2, 1) := by decide +kernel
theorem dX6_writeRow_6 : decode cX6_writeRow 6 = .ok (.aload_n 0, 1) := by decide +kernel
theorem dX6_writeRow_7 : decode cX6_writeRow 7 = .ok (.getfield 51, 3) := by decide +kernel
theorem dX6_writeRow_10 : decode cX6_writeRow 10 = .ok (.iconst 0, 1) := by decide +kernel
theorem dX6_writeRow_11 : decode cX6_writeRow 11 = .ok (.invokevirtual 350, 3) := by decide +kernel
theorem dX6_writeRow_14 : decode cX6_writeRow 14 = .ok (.iconst 0, 1) := by decide +kernel
theorem dX6_writeRow_15 : decode cX6_writeRow 15 = .ok (.istore_n 3, 1) := by decide +kernel
theorem dX6_writeRow_16 : decode cX6_writeRow 16 = .ok (.iload_n 3, 1) := by decide +kernel
theorem dX6_writeRow_17 : decode cX6_writeRow 17 = .ok (.aload_n 2, 1) := by decide +kernel
theorem dX6_writeRow_18 : decode cX6_writeRow 18 = .ok (.getfield 176, 3) := by decide +kernel
theorem dX6_writeRow_21 : decode cX6_writeRow 21 = .ok (.if_icmp .ge 46, 3) := by decide +kernel
theorem dX6_writeRow_24 : decode cX6_writeRow 24 = .ok (.aload_n 0, 1) := by decide +kernel
theorem dX6_writeRow_25 : decode cX6_writeRow 25 = .ok (.invokevirtual 353, 3) := by decide +kernel
theorem dX6_writeRow_28 : decode cX6_writeRow 28 = .ok (.aload_n 0, 1) := by decide +kernel
theorem dX6_writeRow_29 : decode cX6_writeRow 29 = .ok (.getfield 51, 3) := by decide +kernel
theorem dX6_writeRow_32 : decode cX6_writeRow 32 = .ok (.bipush 91, 2) := by decide +kernel
theorem dX6_writeRow_34 : decode cX6_writeRow 34 = .ok (.invokevirtual 356, 3) := by decide +kernel
theorem dX6_writeRow_37 : decode cX6_writeRow 37 = .ok (.pop, 1) := by decide +kernel
theorem dX6_writeRow_38 : decode cX6_writeRow 38 = .ok (.aload_n 0, 1) := by decide +kernel
theorem dX6_writeRow_39 : decode cX6_writeRow 39 = .ok (.getfield 51, 3) := by decide +kernel
theorem dX6_writeRow_42 : decode cX6_writeRow 42 = .ok (.aload_n 2, 1) := by decide +kernel
theorem dX6_writeRow_43 : decode cX6_writeRow 43 = .ok (.iload_n 3, 1) := by decide +kernel
theorem dX6_writeRow_44 : decode cX6_writeRow 44 = .ok (.invokevirtual 212, 3) := by decide +kernel
theorem dX6_writeRow_47 : decode cX6_writeRow 47 = .ok (.invokevirtual 360, 3) := by decide +kernel
theorem dX6_writeRow_50 : decode cX6_writeRow 50 = .ok (.pop, 1) := by decide +kernel
theorem dX6_writeRow_51 : decode cX6_writeRow 51 = .ok (.aload_n 0, 1) := by decide +kernel
theorem dX6_writeRow_52 : decode cX6_writeRow 52 = .ok (.getfield 51, 3) := by decide +kernel
theorem dX6_writeRow_55 : decode cX6_writeRow 55 = .ok (.bipush 93, 2) := by decide +kernel
theorem dX6_writeRow_57 : decode cX6_writeRow 57 = .ok (.invokevirtual 356, 3) := by decide +kernel
theorem dX6_writeRow_60 : decode cX6_writeRow 60 = .ok (.pop, 1) := by decide +kernel
theorem dX6_writeRow_61 : decode cX6_writeRow 61 = .ok (.iinc 3 1, 3) := by decide +kernel
theorem dX6_writeRow_64 : decode cX6_writeRow 64 = .ok (.goto (-48), 3) := by decide +kernel
theorem dX6_writeRow_67 : decode cX6_writeRow 67 = .ok (.iconst 0, 1) := by decide +kernel
theorem dX6_writeRow_68 : decode cX6_writeRow 68 = .ok (.istore_n 3, 1) := by decide +kernel
theorem dX6_writeRow_69 : decode cX6_writeRow 69 = .ok (.iload_n 3, 1) := by decide +kernel
theorem dX6_writeRow_70 : decode cX6_writeRow 70 = .ok (.aload_n 2, 1) := by decide +kernel
theorem dX6_writeRow_71 : decode cX6_writeRow 71 = .ok (.getfield 181, 3) := by decide +kernel
theorem dX6_writeRow_74 : decode cX6_writeRow 74 = .ok (.if_icmp .ge 22, 3) := by decide +kernel
theorem dX6_writeRow_77 : decode cX6_writeRow 77 = .ok (.aload_n 0, 1) := by decide +kernel
theorem dX6_writeRow_78 : decode cX6_writeRow 78 = .ok (.invokevirtual 353, 3) := by decide +kernel
theorem dX6_writeRow_81 : decode cX6_writeRow 81 = .ok (.aload_n 0, 1) := by decide +kernel
theorem dX6_writeRow_82 : decode cX6_writeRow 82 = .ok (.aload_n 2, 1) := by decide +kernel
theorem dX6_writeRow_83 : decode cX6_writeRow 83 = .ok (.iload_n 3, 1) := by decide +kernel
theorem dX6_writeRow_84 : decode cX6_writeRow 84 = .ok (.invokevirtual 216, 3) := by decide +kernel
theorem dX6_writeRow_87 : decode cX6_writeRow 87 = .ok (.invokevirtual 363, 3) := by decide +kernel
theorem dX6_writeRow_90 : decode cX6_writeRow 90 = .ok (.iinc 3 1, 3) := by decide +kernel
theorem dX6_writeRow_93 : decode cX6_writeRow 93 = .ok (.goto (-24), 3) := by decide +kernel
theorem dX6_writeRow_96 : decode cX6_writeRow 96 = .ok (.aload_n 2, 1) := by decide +kernel
theorem dX6_writeRow_97 : decode cX6_writeRow 97 = .ok (.invokevirtual 199, 3) := by decide +kernel
theorem dX6_writeRow_100 : decode cX6_writeRow 100 = .ok (.ifCond .eq 11, 3) := by decide +kernel
theorem dX6_writeRow_103 : decode cX6_writeRow 103 = .ok (.aload_n 0, 1) := by decide +kernel
theorem dX6_writeRow_104 : decode cX6_writeRow 104 = .ok (.aload_n 2, 1) := by decide +kernel
theorem dX6_writeRow_105 : decode cX6_writeRow 105 = .ok (.getfield 187, 3) := by decide +kernel
theorem dX6_writeRow_108 : decode cX6_writeRow 108 = .ok (.invokevirtual 366, 3) := by decide +kernel
theorem dX6_writeRow_111 : decode cX6_writeRow 111 = .ok (.aload_n 0, 1) := by decide +kernel
theorem dX6_writeRow_112 : decode cX6_writeRow 112 = .ok (.getfield 51, 3) := by decide +kernel
theorem dX6_writeRow_115 : decode cX6_writeRow 115 = .ok (.invokevirtual 369, 3) := by decide +kernel
theorem dX6_writeRow_118 : decode cX6_writeRow 118 = .ok (.ireturn, 1) := by decide +kernel
set_option maxRecDepth 20000 in
theorem ggX6_writeChoice_X6_needRow : GoodIn wsX6_writeChoice wsX6_needRow := goodIn_ca (goodIn_ca (goodIn_r _ [13, 14, 15, 3, 16, 2, 17, 18, 19, 20, 12, 21, 22, 23, 24, 306, 307, 308, 309, 310, 311, 312, 313, 314, 315, 316, 317, 318, 319, 320, 321, 322, 323, 324, 325, 326, 327, 336, 337, 338, 339, 340, 341, 342, 343] (by decide +kernel) (by decide +kernel)) (goodIn_sub (fun _ h => List.mem_cons_of_mem _ (List.mem_append_left _ (List.mem_append_right _ h))) (by decide +kernel))) (goodIn_sub (fun _ h => List.mem_cons_of_mem _ (List.mem_append_right _ h)) (by decide +kernel))
set_option maxRecDepth 20000 in
theorem gX6_writeChoice_X6_needRow : GoodIn wsX6_writeChoice (wsV RX6 172 RX6 yX6_needRow wsX6_needRow) := goodIn_app (goodIn_of _ (by decide +kernel)) ggX6_writeChoice_X6_needRow
set_option maxRecDepth 20000 in
theorem ggX6_writeChoice_J4_setLength_d00df : GoodIn wsX6_writeChoice wsJ4_setLength_d00df := goodIn_r _ [29, 30, 31, 32, 33, 34, 35, 36, 37, 38, 39, 40, 41, 42, 43, 44, 45, 46, 47, 48, 49, 50, 51, 52, 53, 54, 55, 56, 57, 58, 59, 60, 61, 62, 63, 64, 65, 66, 67, 68, 69, 70, 71, 72, 73, 74, 75, 76, 77, 78, 79, 80, 81, 82, 83, 84, 85, 86, 87, 88, 89, 90, 91, 92, 93, 94, 95, 96, 97, 98, 99, 100, 101, 28, 102, 103, 104, 105, 106, 107, 108, 109, 344, 345, 346, 347, 348, 349, 350, 351, 352, 353, 354, 355, 356, 357, 358, 359] (by decide +kernel) (by decide +kernel)
set_option maxRecDepth 20000 in
theorem gX6_writeChoice_J4_setLength_d00df : GoodIn wsX6_writeChoice (wsV RX6 350 RJ4 yJ4_setLength_d00df wsJ4_setLength_d00df) := goodIn_app (goodIn_of _ (by decide +kernel)) ggX6_writeChoice_J4_setLength_d00df
set_option maxRecDepth 20000 in
theorem ggX6_writeChoice_X6_solve : GoodIn wsX6_writeChoice wsX6_solve := goodIn_ca (goodIn_r _ [113, 6, 3, 114, 115, 116, 117, 118, 119, 120, 121, 81, 82, 83, 122, 123, 124, 125, 126, 127, 128, 129, 130, 131, 132, 133, 134, 135, 136, 137, 138, 139, 78, 60, 79, 140, 141, 142, 143, 144, 145, 146, 147, 148, 149, 150, 151, 152, 153, 154, 155, 156, 157, 158, 159, 160, 161, 162, 163, 164, 165, 166, 167, 168, 169, 170, 171, 172, 173, 174, 175, 176, 177, 178, 179, 180, 181, 182, 183, 184, 185, 186, 187, 306, 307, 308, 309, 310, 311, 312, 313, 314, 315, 316, 336, 337, 338, 339, 340, 341, 342, 343, 328, 329, 330, 331, 332, 333, 334, 335, 317, 318, 319, 320, 321, 322, 323, 324, 325, 326, 327, 360, 361, 362, 363, 364, 365, 366, 367, 368, 369] (by decide +kernel) (by decide +kernel)) (goodIn_sub (fun _ h => List.mem_cons_of_mem _ (List.mem_append_left _ (List.mem_append_left _ (List.mem_append_right _ h)))) (by decide +kernel))
set_option maxRecDepth 20000 in
theorem gX6_writeChoice_X6_solve : GoodIn wsX6_writeChoice (wsV RX6 261 RX6 yX6_solve wsX6_solve) := goodIn_app (goodIn_of _ (by decide +kernel)) ggX6_writeChoice_X6_solve
set_option maxRecDepth 20000 in
theorem ggX6_writeChoice_J4_append_cf468 : GoodIn wsX6_writeChoice wsJ4_append_cf468 := goodIn_r _ [191, 192, 193, 32, 194, 34, 195, 39, 40, 42, 43, 44, 45, 46, 47, 48, 49, 50, 51, 52, 53, 54, 55, 56, 57, 58, 59, 60, 61, 62, 63, 64, 65, 66, 67, 68, 69, 70, 71, 72, 73, 74, 75, 76, 77, 78, 79, 80, 81, 82, 83, 84, 85, 86, 87, 88, 89, 196, 197, 92, 198, 199, 200, 201, 202, 203, 204, 205, 107, 206, 207, 208, 209, 210, 211, 212, 213, 214, 215, 216, 217, 218, 219, 220, 221, 222, 223, 224, 225, 226, 227, 228, 229, 230, 231, 232, 233, 234, 235, 236, 237, 238, 239, 240, 241, 242, 243, 244, 245, 246, 247, 248, 249, 350, 351, 352, 353] (by decide +kernel) (by decide +kernel)
set_option maxRecDepth 20000 in
theorem gX6_writeChoice_J4_append_cf468 : GoodIn wsX6_writeChoice (wsV RX6 356 RJ4 yJ4_append_cf468 wsJ4_append_cf468) := goodIn_app (goodIn_of _ (by decide +kernel)) ggX6_writeChoice_J4_append_cf468
set_option maxRecDepth 20000 in
theorem ggX6_writeChoice_J4_length_8abf5 : GoodIn wsX6_writeChoice wsJ4_length_8abf5 := goodIn_r _ [253, 254, 255, 32, 256, 34, 257, 39, 350, 351, 352, 353] (by decide +kernel) (by decide +kernel)
set_option maxRecDepth 20000 in
theorem gX6_writeChoice_J4_length_8abf5 : GoodIn wsX6_writeChoice (wsV RX6 369 RJ4 yJ4_length_8abf5 wsJ4_length_8abf5) := goodIn_app (goodIn_of _ (by decide +kernel)) ggX6_writeChoice_J4_length_8abf5
set_option maxRecDepth 20000 in
theorem ggX6_writeChoice_X6_writeGapBefore : GoodIn wsX6_writeChoice wsX6_writeGapBefore := goodIn_r _ [261, 1, 250, 251, 252, 28, 253, 254, 255, 32, 256, 34, 257, 39, 188, 189, 190, 191, 192, 193, 194, 195, 40, 42, 43, 44, 45, 46, 47, 48, 49, 50, 51, 52, 53, 54, 55, 56, 57, 58, 59, 60, 61, 62, 63, 64, 65, 66, 67, 68, 69, 70, 71, 72, 73, 74, 75, 76, 77, 78, 79, 80, 81, 82, 83, 84, 85, 86, 87, 88, 89, 196, 197, 92, 198, 199, 200, 201, 202, 203, 204, 205, 107, 206, 207, 208, 209, 210, 211, 212, 213, 214, 215, 216, 217, 218, 219, 220, 221, 222, 223, 224, 225, 226, 227, 228, 229, 230, 231, 232, 233, 234, 235, 236, 237, 238, 239, 240, 241, 242, 243, 244, 245, 246, 247, 248, 249, 306, 307, 308, 309, 310, 311, 312, 313, 314, 315, 316, 350, 351, 352, 353] (by decide +kernel) (by decide +kernel)
set_option maxRecDepth 20000 in
theorem gX6_writeChoice_X6_writeGapBefore : GoodIn wsX6_writeChoice (wsV RX6 353 RX6 yX6_writeGapBefore wsX6_writeGapBefore) := goodIn_app (goodIn_of _ (by decide +kernel)) ggX6_writeChoice_X6_writeGapBefore
set_option maxRecDepth 20000 in
theorem ggX6_writeChoice_J4_append_bf812 : GoodIn wsX6_writeChoice wsJ4_append_bf812 := goodIn_r _ [265, 266, 267, 32, 268, 34, 269, 39, 40, 270, 271, 272, 273, 42, 43, 44, 45, 46, 47, 48, 49, 50, 51, 52, 53, 54, 55, 56, 57, 58, 59, 60, 61, 62, 63, 64, 65, 66, 67, 68, 69, 70, 71, 72, 73, 74, 75, 76, 77, 78, 79, 80, 81, 82, 83, 84, 85, 86, 87, 88, 89, 274, 275, 276, 277, 278, 279, 280, 107, 281, 235, 282, 283, 284, 220, 221, 222, 285, 286, 225, 287, 227, 288, 289, 230, 290, 291, 292, 293, 294, 295, 232, 233, 234, 236, 237, 350, 351, 352, 353] (by decide +kernel) (by decide +kernel)
set_option maxRecDepth 20000 in
theorem gX6_writeChoice_J4_append_bf812 : GoodIn wsX6_writeChoice (wsV RX6 360 RJ4 yJ4_append_bf812 wsJ4_append_bf812) := goodIn_app (goodIn_of _ (by decide +kernel)) ggX6_writeChoice_J4_append_bf812
set_option maxRecDepth 20000 in
theorem ggX6_writeChoice_X6_writeKind : GoodIn wsX6_writeChoice wsX6_writeKind := goodIn_ca (goodIn_r _ [299, 3, 4, 1, 300, 301, 188, 189, 190, 28, 191, 192, 193, 32, 194, 34, 195, 39, 40, 42, 43, 44, 45, 46, 47, 48, 49, 50, 51, 52, 53, 54, 55, 56, 57, 58, 59, 60, 61, 62, 63, 64, 65, 66, 67, 68, 69, 70, 71, 72, 73, 74, 75, 76, 77, 78, 79, 80, 81, 82, 83, 84, 85, 86, 87, 88, 89, 196, 197, 92, 198, 199, 200, 201, 202, 203, 204, 205, 107, 206, 207, 208, 209, 210, 211, 212, 213, 214, 215, 216, 217, 218, 219, 220, 221, 222, 223, 224, 225, 226, 227, 228, 229, 230, 231, 232, 233, 234, 235, 236, 237, 238, 239, 240, 241, 242, 243, 244, 245, 246, 247, 248, 249, 262, 263, 264, 265, 266, 267, 268, 269, 270, 271, 272, 273, 274, 275, 276, 277, 278, 279, 280, 281, 282, 283, 284, 285, 286, 287, 288, 289, 290, 291, 292, 293, 294, 295, 306, 307, 308, 309, 310, 311, 312, 313, 314, 315, 316, 317, 318, 319, 320, 321, 322, 323, 324, 325, 326, 327, 350, 351, 352, 353] (by decide +kernel) (by decide +kernel)) (goodIn_sub (fun _ h => List.mem_cons_of_mem _ (List.mem_append_left _ (List.mem_append_left _ (List.mem_append_right _ h)))) (by decide +kernel))
set_option maxRecDepth 20000 in
theorem gX6_writeChoice_X6_writeKind : GoodIn wsX6_writeChoice (wsV RX6 363 RX6 yX6_writeKind wsX6_writeKind) := goodIn_app (goodIn_of _ (by decide +kernel)) ggX6_writeChoice_X6_writeKind
set_option maxRecDepth 20000 in
theorem ggX6_writeChoice_X6_writeOpening : GoodIn wsX6_writeChoice wsX6_writeOpening := goodIn_r _ [305, 1, 258, 259, 260, 12, 261, 250, 251, 252, 28, 253, 254, 255, 32, 256, 34, 257, 39, 188, 189, 190, 191, 192, 193, 194, 195, 40, 42, 43, 44, 45, 46, 47, 48, 49, 50, 51, 52, 53, 54, 55, 56, 57, 58, 59, 60, 61, 62, 63, 64, 65, 66, 67, 68, 69, 70, 71, 72, 73, 74, 75, 76, 77, 78, 79, 80, 81, 82, 83, 84, 85, 86, 87, 88, 89, 196, 197, 92, 198, 199, 200, 201, 202, 203, 204, 205, 107, 206, 207, 208, 209, 210, 211, 212, 213, 214, 215, 216, 217, 218, 219, 220, 221, 222, 223, 224, 225, 226, 227, 228, 229, 230, 231, 232, 233, 234, 235, 236, 237, 238, 239, 240, 241, 242, 243, 244, 245, 246, 247, 248, 249, 262, 263, 264, 265, 266, 267, 268, 269, 270, 271, 272, 273, 274, 275, 276, 277, 278, 279, 280, 281, 282, 283, 284, 285, 286, 287, 288, 289, 290, 291, 292, 293, 294, 295, 306, 307, 308, 309, 310, 311, 312, 313, 314, 315, 316, 350, 351, 352, 353] (by decide +kernel) (by decide +kernel)
set_option maxRecDepth 20000 in
theorem gX6_writeChoice_X6_writeOpening : GoodIn wsX6_writeChoice (wsV RX6 366 RX6 yX6_writeOpening wsX6_writeOpening) := goodIn_app (goodIn_of _ (by decide +kernel)) ggX6_writeChoice_X6_writeOpening
theorem dX6_writeChoice_0 : decode cX6_writeChoice 0 = .ok (.aload_n 0, 1) := by decide +kernel
theorem dX6_writeChoice_1 : decode cX6_writeChoice 1 = .ok (.iload_n 1, 1) := by decide +kernel
theorem dX6_writeChoice_2 : decode cX6_writeChoice 2 = .ok (.invokevirtual 172, 3) := by decide +kernel
theorem dX6_writeChoice_5 : decode cX6_writeChoice 5 = .ok (.astore_n 2, 1) := by decide +kernel
theorem dX6_writeChoice_6 : decode cX6_writeChoice 6 = .ok (.aload_n 0, 1) := by decide +kernel
theorem dX6_writeChoice_7 : decode cX6_writeChoice 7 = .ok (.getfield 51, 3) := by decide +kernel
theorem dX6_writeChoice_10 : decode cX6_writeChoice 10 = .ok (.iconst 0, 1) := by decide +kernel
theorem dX6_writeChoice_11 : decode cX6_writeChoice 11 = .ok (.invokevirtual 350, 3) := by decide +kernel
theorem dX6_writeChoice_14 : decode cX6_writeChoice 14 = .ok (.aload_n 0, 1) := by decide +kernel
theorem dX6_writeChoice_15 : decode cX6_writeChoice 15 = .ok (.aload_n 0, 1) := by decide +kernel
theorem dX6_writeChoice_16 : decode cX6_writeChoice 16 = .ok (.getfield 33, 3) := by decide +kernel
theorem dX6_writeChoice_19 : decode cX6_writeChoice 19 = .ok (.aload_n 2, 1) := by decide +kernel
theorem dX6_writeChoice_20 : decode cX6_writeChoice 20 = .ok (.invokevirtual 261, 3) := by decide +kernel
theorem dX6_writeChoice_23 : decode cX6_writeChoice 23 = .ok (.ifCond .ne 21, 3) := by decide +kernel
theorem dX6_writeChoice_26 : decode cX6_writeChoice 26 = .ok (.aload_n 0, 1) := by decide +kernel
theorem dX6_writeChoice_27 : decode cX6_writeChoice 27 = .ok (.getfield 51, 3) := by decide +kernel
theorem dX6_writeChoice_30 : decode cX6_writeChoice 30 = .ok (.bipush 45, 2) := by decide +kernel
theorem dX6_writeChoice_32 : decode cX6_writeChoice 32 = .ok (.invokevirtual 356, 3) := by decide +kernel
theorem dX6_writeChoice_35 : decode cX6_writeChoice 35 = .ok (.pop, 1) := by decide +kernel
theorem dX6_writeChoice_36 : decode cX6_writeChoice 36 = .ok (.aload_n 0, 1) := by decide +kernel
theorem dX6_writeChoice_37 : decode cX6_writeChoice 37 = .ok (.getfield 51, 3) := by decide +kernel
theorem dX6_writeChoice_40 : decode cX6_writeChoice 40 = .ok (.invokevirtual 369, 3) := by decide +kernel
theorem dX6_writeChoice_43 : decode cX6_writeChoice 43 = .ok (.ireturn, 1) := by decide +kernel
theorem dX6_writeChoice_44 : decode cX6_writeChoice 44 = .ok (.iconst 0, 1) := by decide +kernel
theorem dX6_writeChoice_45 : decode cX6_writeChoice 45 = .ok (.istore_n 3, 1) := by decide +kernel
theorem dX6_writeChoice_46 : decode cX6_writeChoice 46 = .ok (.iload_n 3, 1) := by decide +kernel
theorem dX6_writeChoice_47 : decode cX6_writeChoice 47 = .ok (.aload_n 0, 1) := by decide +kernel
theorem dX6_writeChoice_48 : decode cX6_writeChoice 48 = .ok (.getfield 58, 3) := by decide +kernel
theorem dX6_writeChoice_51 : decode cX6_writeChoice 51 = .ok (.getfield 92, 3) := by decide +kernel
theorem dX6_writeChoice_54 : decode cX6_writeChoice 54 = .ok (.if_icmp .ge 71, 3) := by decide +kernel
theorem dX6_writeChoice_57 : decode cX6_writeChoice 57 = .ok (.aload_n 0, 1) := by decide +kernel
theorem dX6_writeChoice_58 : decode cX6_writeChoice 58 = .ok (.getfield 58, 3) := by decide +kernel
theorem dX6_writeChoice_61 : decode cX6_writeChoice 61 = .ok (.getfield 252, 3) := by decide +kernel
theorem dX6_writeChoice_64 : decode cX6_writeChoice 64 = .ok (.iload_n 3, 1) := by decide +kernel
theorem dX6_writeChoice_65 : decode cX6_writeChoice 65 = .ok (.iaload, 1) := by decide +kernel
theorem dX6_writeChoice_66 : decode cX6_writeChoice 66 = .ok (.istore 4, 2) := by decide +kernel
theorem dX6_writeChoice_68 : decode cX6_writeChoice 68 = .ok (.aload_n 0, 1) := by decide +kernel
theorem dX6_writeChoice_69 : decode cX6_writeChoice 69 = .ok (.getfield 19, 3) := by decide +kernel
theorem dX6_writeChoice_72 : decode cX6_writeChoice 72 = .ok (.getfield 275, 3) := by decide +kernel
theorem dX6_writeChoice_75 : decode cX6_writeChoice 75 = .ok (.iload 4, 2) := by decide +kernel
theorem dX6_writeChoice_77 : decode cX6_writeChoice 77 = .ok (.iaload, 1) := by decide +kernel
theorem dX6_writeChoice_78 : decode cX6_writeChoice 78 = .ok (.ifCond .le 41, 3) := by decide +kernel
theorem dX6_writeChoice_81 : decode cX6_writeChoice 81 = .ok (.aload_n 0, 1) := by decide +kernel
theorem dX6_writeChoice_82 : decode cX6_writeChoice 82 = .ok (.invokevirtual 353, 3) := by decide +kernel
theorem dX6_writeChoice_85 : decode cX6_writeChoice 85 = .ok (.aload_n 0, 1) := by decide +kernel
theorem dX6_writeChoice_86 : decode cX6_writeChoice 86 = .ok (.getfield 51, 3) := by decide +kernel
theorem dX6_writeChoice_89 : decode cX6_writeChoice 89 = .ok (.aload_n 0, 1) := by decide +kernel
theorem dX6_writeChoice_90 : decode cX6_writeChoice 90 = .ok (.getfield 19, 3) := by decide +kernel
theorem dX6_writeChoice_93 : decode cX6_writeChoice 93 = .ok (.getfield 275, 3) := by decide +kernel
theorem dX6_writeChoice_96 : decode cX6_writeChoice 96 = .ok (.iload 4, 2) := by decide +kernel
theorem dX6_writeChoice_98 : decode cX6_writeChoice 98 = .ok (.iaload, 1) := by decide +kernel
theorem dX6_writeChoice_99 : decode cX6_writeChoice 99 = .ok (.invokevirtual 360, 3) := by decide +kernel
theorem dX6_writeChoice_102 : decode cX6_writeChoice 102 = .ok (.pop, 1) := by decide +kernel
theorem dX6_writeChoice_103 : decode cX6_writeChoice 103 = .ok (.aload_n 0, 1) := by decide +kernel
theorem dX6_writeChoice_104 : decode cX6_writeChoice 104 = .ok (.getfield 51, 3) := by decide +kernel
theorem dX6_writeChoice_107 : decode cX6_writeChoice 107 = .ok (.bipush 120, 2) := by decide +kernel
theorem dX6_writeChoice_109 : decode cX6_writeChoice 109 = .ok (.invokevirtual 356, 3) := by decide +kernel
theorem dX6_writeChoice_112 : decode cX6_writeChoice 112 = .ok (.pop, 1) := by decide +kernel
theorem dX6_writeChoice_113 : decode cX6_writeChoice 113 = .ok (.aload_n 0, 1) := by decide +kernel
theorem dX6_writeChoice_114 : decode cX6_writeChoice 114 = .ok (.iload 4, 2) := by decide +kernel
theorem dX6_writeChoice_116 : decode cX6_writeChoice 116 = .ok (.invokevirtual 363, 3) := by decide +kernel
theorem dX6_writeChoice_119 : decode cX6_writeChoice 119 = .ok (.iinc 3 1, 3) := by decide +kernel
theorem dX6_writeChoice_122 : decode cX6_writeChoice 122 = .ok (.goto (-76), 3) := by decide +kernel
theorem dX6_writeChoice_125 : decode cX6_writeChoice 125 = .ok (.aload_n 0, 1) := by decide +kernel
theorem dX6_writeChoice_126 : decode cX6_writeChoice 126 = .ok (.getfield 19, 3) := by decide +kernel
theorem dX6_writeChoice_129 : decode cX6_writeChoice 129 = .ok (.getfield 268, 3) := by decide +kernel
theorem dX6_writeChoice_132 : decode cX6_writeChoice 132 = .ok (.iconst (-1), 1) := by decide +kernel
theorem dX6_writeChoice_133 : decode cX6_writeChoice 133 = .ok (.if_icmp .eq 14, 3) := by decide +kernel
theorem dX6_writeChoice_136 : decode cX6_writeChoice 136 = .ok (.aload_n 0, 1) := by decide +kernel
theorem dX6_writeChoice_137 : decode cX6_writeChoice 137 = .ok (.aload_n 0, 1) := by decide +kernel
theorem dX6_writeChoice_138 : decode cX6_writeChoice 138 = .ok (.getfield 19, 3) := by decide +kernel
theorem dX6_writeChoice_141 : decode cX6_writeChoice 141 = .ok (.getfield 268, 3) := by decide +kernel
theorem dX6_writeChoice_144 : decode cX6_writeChoice 144 = .ok (.invokevirtual 366, 3) := by decide +kernel
theorem dX6_writeChoice_147 : decode cX6_writeChoice 147 = .ok (.aload_n 0, 1) := by decide +kernel
theorem dX6_writeChoice_148 : decode cX6_writeChoice 148 = .ok (.getfield 51, 3) := by decide +kernel
theorem dX6_writeChoice_151 : decode cX6_writeChoice 151 = .ok (.invokevirtual 369, 3) := by decide +kernel
theorem dX6_writeChoice_154 : decode cX6_writeChoice 154 = .ok (.ireturn, 1) := by decide +kernel
set_option maxRecDepth 20000 in
theorem ggX6_writeStock_X6_needChase : GoodIn wsX6_writeStock wsX6_needChase := goodIn_ca (goodIn_r _ [10, 11, 12, 13, 209, 210, 211, 212, 213, 214, 215, 216, 217, 218, 219] (by decide +kernel) (by decide +kernel)) (goodIn_sub (fun _ h => List.mem_cons_of_mem _ (List.mem_append_right _ h)) (by decide +kernel))
set_option maxRecDepth 20000 in
theorem gX6_writeStock_X6_needChase : GoodIn wsX6_writeStock (wsV RX6 112 RX6 yX6_needChase wsX6_needChase) := goodIn_app (goodIn_of _ (by decide +kernel)) ggX6_writeStock_X6_needChase
set_option maxRecDepth 20000 in
theorem ggX6_writeStock_J4_setLength_d00df : GoodIn wsX6_writeStock wsJ4_setLength_d00df := goodIn_r _ [18, 19, 20, 21, 22, 23, 24, 25, 26, 27, 28, 29, 30, 31, 32, 33, 34, 35, 36, 37, 38, 39, 40, 41, 42, 43, 44, 45, 46, 47, 48, 49, 50, 51, 52, 53, 54, 55, 56, 57, 58, 59, 60, 61, 62, 63, 64, 65, 66, 67, 68, 69, 70, 71, 72, 73, 74, 75, 76, 77, 78, 79, 80, 81, 82, 83, 84, 85, 86, 87, 88, 89, 90, 17, 91, 92, 93, 94, 95, 96, 97, 98, 239, 240, 241, 242, 243, 244, 245, 246, 247, 248, 249, 250, 251, 252, 253, 254] (by decide +kernel) (by decide +kernel)
set_option maxRecDepth 20000 in
theorem gX6_writeStock_J4_setLength_d00df : GoodIn wsX6_writeStock (wsV RX6 350 RJ4 yJ4_setLength_d00df wsJ4_setLength_d00df) := goodIn_app (goodIn_of _ (by decide +kernel)) ggX6_writeStock_J4_setLength_d00df
set_option maxRecDepth 20000 in
theorem ggX6_writeStock_J4_append_cf468 : GoodIn wsX6_writeStock wsJ4_append_cf468 := goodIn_r _ [102, 103, 104, 21, 105, 23, 106, 28, 29, 31, 32, 33, 34, 35, 36, 37, 38, 39, 40, 41, 42, 43, 44, 45, 46, 47, 48, 49, 50, 51, 52, 53, 54, 55, 56, 57, 58, 59, 60, 61, 62, 63, 64, 65, 66, 67, 68, 69, 70, 71, 72, 73, 74, 75, 76, 77, 78, 107, 108, 81, 109, 110, 111, 112, 113, 114, 115, 116, 96, 117, 118, 119, 120, 121, 122, 123, 124, 125, 126, 127, 128, 129, 130, 131, 132, 133, 134, 135, 136, 137, 138, 139, 140, 141, 142, 143, 144, 145, 146, 147, 148, 149, 150, 151, 152, 153, 154, 155, 156, 157, 158, 159, 160, 245, 246, 247, 248] (by decide +kernel) (by decide +kernel)
set_option maxRecDepth 20000 in
theorem gX6_writeStock_J4_append_cf468 : GoodIn wsX6_writeStock (wsV RX6 356 RJ4 yJ4_append_cf468 wsJ4_append_cf468) := goodIn_app (goodIn_of _ (by decide +kernel)) ggX6_writeStock_J4_append_cf468
set_option maxRecDepth 20000 in
theorem ggX6_writeStock_X6_writeKind : GoodIn wsX6_writeStock wsX6_writeKind := goodIn_ca (goodIn_r _ [164, 2, 3, 1, 165, 166, 99, 100, 101, 17, 102, 103, 104, 21, 105, 23, 106, 28, 29, 31, 32, 33, 34, 35, 36, 37, 38, 39, 40, 41, 42, 43, 44, 45, 46, 47, 48, 49, 50, 51, 52, 53, 54, 55, 56, 57, 58, 59, 60, 61, 62, 63, 64, 65, 66, 67, 68, 69, 70, 71, 72, 73, 74, 75, 76, 77, 78, 107, 108, 81, 109, 110, 111, 112, 113, 114, 115, 116, 96, 117, 118, 119, 120, 121, 122, 123, 124, 125, 126, 127, 128, 129, 130, 131, 132, 133, 134, 135, 136, 137, 138, 139, 140, 141, 142, 143, 144, 145, 146, 147, 148, 149, 150, 151, 152, 153, 154, 155, 156, 157, 158, 159, 160, 167, 168, 169, 170, 171, 172, 173, 174, 175, 176, 177, 178, 179, 180, 181, 182, 183, 184, 185, 186, 187, 188, 189, 190, 191, 192, 193, 194, 195, 196, 197, 198, 199, 200, 209, 210, 211, 212, 213, 214, 215, 216, 217, 218, 219, 220, 221, 222, 223, 224, 225, 226, 227, 228, 229, 230, 245, 246, 247, 248] (by decide +kernel) (by decide +kernel)) (goodIn_sub (fun _ h => List.mem_cons_of_mem _ (List.mem_append_left _ (List.mem_append_right _ h))) (by decide +kernel))
set_option maxRecDepth 20000 in
theorem gX6_writeStock_X6_writeKind : GoodIn wsX6_writeStock (wsV RX6 363 RX6 yX6_writeKind wsX6_writeKind) := goodIn_app (goodIn_of _ (by decide +kernel)) ggX6_writeStock_X6_writeKind
set_option maxRecDepth 20000 in
theorem ggX6_writeStock_J4_append_bf812 : GoodIn wsX6_writeStock wsJ4_append_bf812 := goodIn_r _ [170, 171, 172, 21, 173, 23, 174, 28, 29, 175, 176, 177, 178, 31, 32, 33, 34, 35, 36, 37, 38, 39, 40, 41, 42, 43, 44, 45, 46, 47, 48, 49, 50, 51, 52, 53, 54, 55, 56, 57, 58, 59, 60, 61, 62, 63, 64, 65, 66, 67, 68, 69, 70, 71, 72, 73, 74, 75, 76, 77, 78, 179, 180, 181, 182, 183, 184, 185, 96, 186, 146, 187, 188, 189, 131, 132, 133, 190, 191, 136, 192, 138, 193, 194, 141, 195, 196, 197, 198, 199, 200, 143, 144, 145, 147, 148, 245, 246, 247, 248] (by decide +kernel) (by decide +kernel)
set_option maxRecDepth 20000 in
theorem gX6_writeStock_J4_append_bf812 : GoodIn wsX6_writeStock (wsV RX6 360 RJ4 yJ4_append_bf812 wsJ4_append_bf812) := goodIn_app (goodIn_of _ (by decide +kernel)) ggX6_writeStock_J4_append_bf812
set_option maxRecDepth 20000 in
theorem ggX6_writeStock_J4_length_8abf5 : GoodIn wsX6_writeStock wsJ4_length_8abf5 := goodIn_r _ [204, 205, 206, 21, 207, 23, 208, 28, 245, 246, 247, 248] (by decide +kernel) (by decide +kernel)
set_option maxRecDepth 20000 in
theorem gX6_writeStock_J4_length_8abf5 : GoodIn wsX6_writeStock (wsV RX6 369 RJ4 yJ4_length_8abf5 wsJ4_length_8abf5) := goodIn_app (goodIn_of _ (by decide +kernel)) ggX6_writeStock_J4_length_8abf5
theorem dX6_writeStock_0 : decode cX6_writeStock 0 = .ok (.aload_n 0, 1) := by decide +kernel
theorem dX6_writeStock_1 : decode cX6_writeStock 1 = .ok (.invokevirtual 112, 3) := by decide +kernel
theorem dX6_writeStock_4 : decode cX6_writeStock 4 = .ok (.aload_n 0, 1) := by decide +kernel
theorem dX6_writeStock_5 : decode cX6_writeStock 5 = .ok (.getfield 51, 3) := by decide +kernel
theorem dX6_writeStock_8 : decode cX6_writeStock 8 = .ok (.iconst 0, 1) := by decide +kernel
theorem dX6_writeStock_9 : decode cX6_writeStock 9 = .ok (.invokevirtual 350, 3) := by decide +kernel
theorem dX6_writeStock_12 : decode cX6_writeStock 12 = .ok (.iconst 0, 1) := by decide +kernel
theorem dX6_writeStock_13 : decode cX6_writeStock 13 = .ok (.istore_n 1, 1) := by decide +kernel
theorem dX6_writeStock_14 : decode cX6_writeStock 14 = .ok (.iload_n 1, 1) := by decide +kernel
theorem dX6_writeStock_15 : decode cX6_writeStock 15 = .ok (.aload_n 0, 1) := by decide +kernel
theorem dX6_writeStock_16 : decode cX6_writeStock 16 = .ok (.getfield 58, 3) := by decide +kernel
theorem dX6_writeStock_19 : decode cX6_writeStock 19 = .ok (.getfield 92, 3) := by decide +kernel
theorem dX6_writeStock_22 : decode cX6_writeStock 22 = .ok (.if_icmp .ge 55, 3) := by decide +kernel
theorem dX6_writeStock_25 : decode cX6_writeStock 25 = .ok (.iload_n 1, 1) := by decide +kernel
theorem dX6_writeStock_26 : decode cX6_writeStock 26 = .ok (.ifCond .le 13, 3) := by decide +kernel
theorem dX6_writeStock_29 : decode cX6_writeStock 29 = .ok (.aload_n 0, 1) := by decide +kernel
theorem dX6_writeStock_30 : decode cX6_writeStock 30 = .ok (.getfield 51, 3) := by decide +kernel
theorem dX6_writeStock_33 : decode cX6_writeStock 33 = .ok (.bipush 44, 2) := by decide +kernel
theorem dX6_writeStock_35 : decode cX6_writeStock 35 = .ok (.invokevirtual 356, 3) := by decide +kernel
theorem dX6_writeStock_38 : decode cX6_writeStock 38 = .ok (.pop, 1) := by decide +kernel
theorem dX6_writeStock_39 : decode cX6_writeStock 39 = .ok (.aload_n 0, 1) := by decide +kernel
theorem dX6_writeStock_40 : decode cX6_writeStock 40 = .ok (.iload_n 1, 1) := by decide +kernel
theorem dX6_writeStock_41 : decode cX6_writeStock 41 = .ok (.invokevirtual 363, 3) := by decide +kernel
theorem dX6_writeStock_44 : decode cX6_writeStock 44 = .ok (.aload_n 0, 1) := by decide +kernel
theorem dX6_writeStock_45 : decode cX6_writeStock 45 = .ok (.getfield 51, 3) := by decide +kernel
theorem dX6_writeStock_48 : decode cX6_writeStock 48 = .ok (.bipush 58, 2) := by decide +kernel
theorem dX6_writeStock_50 : decode cX6_writeStock 50 = .ok (.invokevirtual 356, 3) := by decide +kernel
theorem dX6_writeStock_53 : decode cX6_writeStock 53 = .ok (.pop, 1) := by decide +kernel
theorem dX6_writeStock_54 : decode cX6_writeStock 54 = .ok (.aload_n 0, 1) := by decide +kernel
theorem dX6_writeStock_55 : decode cX6_writeStock 55 = .ok (.getfield 51, 3) := by decide +kernel
theorem dX6_writeStock_58 : decode cX6_writeStock 58 = .ok (.aload_n 0, 1) := by decide +kernel
theorem dX6_writeStock_59 : decode cX6_writeStock 59 = .ok (.getfield 33, 3) := by decide +kernel
theorem dX6_writeStock_62 : decode cX6_writeStock 62 = .ok (.getfield 230, 3) := by decide +kernel
theorem dX6_writeStock_65 : decode cX6_writeStock 65 = .ok (.iload_n 1, 1) := by decide +kernel
theorem dX6_writeStock_66 : decode cX6_writeStock 66 = .ok (.iaload, 1) := by decide +kernel
theorem dX6_writeStock_67 : decode cX6_writeStock 67 = .ok (.invokevirtual 360, 3) := by decide +kernel
theorem dX6_writeStock_70 : decode cX6_writeStock 70 = .ok (.pop, 1) := by decide +kernel
theorem dX6_writeStock_71 : decode cX6_writeStock 71 = .ok (.iinc 1 1, 3) := by decide +kernel
theorem dX6_writeStock_74 : decode cX6_writeStock 74 = .ok (.goto (-60), 3) := by decide +kernel
theorem dX6_writeStock_77 : decode cX6_writeStock 77 = .ok (.aload_n 0, 1) := by decide +kernel
theorem dX6_writeStock_78 : decode cX6_writeStock 78 = .ok (.getfield 51, 3) := by decide +kernel
theorem dX6_writeStock_81 : decode cX6_writeStock 81 = .ok (.invokevirtual 369, 3) := by decide +kernel
theorem dX6_writeStock_84 : decode cX6_writeStock 84 = .ok (.ireturn, 1) := by decide +kernel
set_option maxRecDepth 20000 in
theorem ggX6_textByte_J4_length_8abf5 : GoodIn wsX6_textByte wsJ4_length_8abf5 := goodIn_r _ [6, 7, 8, 9, 10, 11, 12, 13, 64, 65, 66, 67] (by decide +kernel) (by decide +kernel)
set_option maxRecDepth 20000 in
theorem gX6_textByte_J4_length_8abf5 : GoodIn wsX6_textByte (wsV RX6 369 RJ4 yJ4_length_8abf5 wsJ4_length_8abf5) := goodIn_app (goodIn_of _ (by decide +kernel)) ggX6_textByte_J4_length_8abf5
set_option maxRecDepth 20000 in
theorem ggX6_textByte_X6_needIndex : GoodIn wsX6_textByte wsX6_needIndex := goodIn_ca (goodIn_r _ [17, 18, 19] (by decide +kernel) (by decide +kernel)) (goodIn_sub (fun _ h => List.mem_cons_of_mem _ (List.mem_append_right _ h)) (by decide +kernel))
set_option maxRecDepth 20000 in
theorem gX6_textByte_X6_needIndex : GoodIn wsX6_textByte (va_wsS RX6 208 yX6_needIndex wsX6_needIndex) := goodIn_app (goodIn_of _ (by decide +kernel)) ggX6_textByte_X6_needIndex
set_option maxRecDepth 20000 in
theorem ggX6_textByte_J4_charAt_5068e : GoodIn wsX6_textByte wsJ4_charAt_5068e := goodIn_r _ [23, 24, 25, 9, 26, 11, 27, 28, 29, 13, 30, 31, 32, 33, 34, 35, 36, 37, 38, 39, 40, 41, 42, 43, 44, 45, 46, 47, 48, 49, 50, 51, 52, 64, 65, 66, 67] (by decide +kernel) (by decide +kernel)
set_option maxRecDepth 20000 in
theorem gX6_textByte_J4_charAt_5068e : GoodIn wsX6_textByte (wsV RX6 372 RJ4 yJ4_charAt_5068e wsJ4_charAt_5068e) := goodIn_app (goodIn_of _ (by decide +kernel)) ggX6_textByte_J4_charAt_5068e
theorem dX6_textByte_0 : decode cX6_textByte 0 = .ok (.iload_n 1, 1) := by decide +kernel
theorem dX6_textByte_1 : decode cX6_textByte 1 = .ok (.aload_n 0, 1) := by decide +kernel
theorem dX6_textByte_2 : decode cX6_textByte 2 = .ok (.getfield 51, 3) := by decide +kernel
theorem dX6_textByte_5 : decode cX6_textByte 5 = .ok (.invokevirtual 369, 3) := by decide +kernel
theorem dX6_textByte_8 : decode cX6_textByte 8 = .ok (.invokestatic 208, 3) := by decide +kernel
theorem dX6_textByte_11 : decode cX6_textByte 11 = .ok (.aload_n 0, 1) := by decide +kernel
theorem dX6_textByte_12 : decode cX6_textByte 12 = .ok (.getfield 51, 3) := by decide +kernel
theorem dX6_textByte_15 : decode cX6_textByte 15 = .ok (.iload_n 1, 1) := by decide +kernel
theorem dX6_textByte_16 : decode cX6_textByte 16 = .ok (.invokevirtual 372, 3) := by decide +kernel
theorem dX6_textByte_19 : decode cX6_textByte 19 = .ok (.ireturn, 1) := by decide +kernel
set_option maxRecDepth 20000 in
theorem ggX6_writeGapBefore_J4_length_8abf5 : GoodIn wsX6_writeGapBefore wsJ4_length_8abf5 := goodIn_r _ [6, 7, 8, 9, 10, 11, 12, 13, 138, 139, 140, 141] (by decide +kernel) (by decide +kernel)
set_option maxRecDepth 20000 in
theorem gX6_writeGapBefore_J4_length_8abf5 : GoodIn wsX6_writeGapBefore (wsV RX6 369 RJ4 yJ4_length_8abf5 wsJ4_length_8abf5) := goodIn_app (goodIn_of _ (by decide +kernel)) ggX6_writeGapBefore_J4_length_8abf5
set_option maxRecDepth 20000 in
theorem ggX6_writeGapBefore_J4_append_cf468 : GoodIn wsX6_writeGapBefore wsJ4_append_cf468 := goodIn_r _ [17, 18, 19, 9, 20, 11, 21, 13, 22, 23, 24, 25, 26, 27, 28, 29, 30, 31, 32, 33, 34, 35, 36, 37, 38, 39, 40, 41, 42, 43, 44, 45, 46, 47, 48, 49, 50, 51, 52, 53, 54, 55, 56, 57, 58, 59, 60, 61, 62, 63, 64, 65, 66, 67, 68, 69, 70, 71, 72, 73, 74, 75, 76, 77, 78, 79, 80, 81, 82, 83, 84, 85, 86, 87, 88, 89, 90, 91, 92, 93, 94, 95, 96, 97, 98, 99, 100, 101, 102, 103, 104, 105, 106, 107, 108, 109, 110, 111, 112, 113, 114, 115, 116, 117, 118, 119, 120, 121, 122, 123, 124, 125, 126, 138, 139, 140, 141] (by decide +kernel) (by decide +kernel)
set_option maxRecDepth 20000 in
theorem gX6_writeGapBefore_J4_append_cf468 : GoodIn wsX6_writeGapBefore (wsV RX6 356 RJ4 yJ4_append_cf468 wsJ4_append_cf468) := goodIn_app (goodIn_of _ (by decide +kernel)) ggX6_writeGapBefore_J4_append_cf468
theorem dX6_writeGapBefore_0 : decode cX6_writeGapBefore 0 = .ok (.aload_n 0, 1) := by decide +kernel
theorem dX6_writeGapBefore_1 : decode cX6_writeGapBefore 1 = .ok (.getfield 51, 3) := by decide +kernel
theorem dX6_writeGapBefore_4 : decode cX6_writeGapBefore 4 = .ok (.invokevirtual 369, 3) := by decide +kernel
theorem dX6_writeGapBefore_7 : decode cX6_writeGapBefore 7 = .ok (.ifCond .le 13, 3) := by decide +kernel
theorem dX6_writeGapBefore_10 : decode cX6_writeGapBefore 10 = .ok (.aload_n 0, 1) := by decide +kernel
theorem dX6_writeGapBefore_11 : decode cX6_writeGapBefore 11 = .ok (.getfield 51, 3) := by decide +kernel
theorem dX6_writeGapBefore_14 : decode cX6_writeGapBefore 14 = .ok (.bipush 32, 2) := by decide +kernel
theorem dX6_writeGapBefore_16 : decode cX6_writeGapBefore 16 = .ok (.invokevirtual 356, 3) := by decide +kernel
theorem dX6_writeGapBefore_19 : decode cX6_writeGapBefore 19 = .ok (.pop, 1) := by decide +kernel
theorem dX6_writeGapBefore_20 : decode cX6_writeGapBefore 20 = .ok (.return_, 1) := by decide +kernel
set_option maxRecDepth 20000 in
theorem ggX6_writeKind_J4_append_cf468 : GoodIn wsX6_writeKind wsJ4_append_cf468 := goodIn_r _ [10, 11, 12, 13, 14, 15, 16, 17, 18, 19, 20, 21, 22, 23, 24, 25, 26, 27, 28, 29, 30, 31, 32, 33, 34, 35, 36, 37, 38, 39, 40, 41, 42, 43, 44, 45, 46, 47, 48, 49, 50, 51, 52, 53, 54, 55, 56, 57, 58, 59, 60, 61, 62, 63, 64, 65, 66, 67, 68, 69, 70, 71, 72, 73, 74, 75, 76, 77, 78, 79, 80, 81, 82, 83, 84, 85, 86, 87, 88, 89, 90, 91, 92, 93, 94, 95, 96, 97, 98, 99, 100, 101, 102, 103, 104, 105, 106, 107, 108, 109, 110, 111, 112, 113, 114, 115, 116, 117, 118, 119, 120, 121, 122, 179, 180, 181, 182] (by decide +kernel) (by decide +kernel)
set_option maxRecDepth 20000 in
theorem gX6_writeKind_J4_append_cf468 : GoodIn wsX6_writeKind (wsV RX6 356 RJ4 yJ4_append_cf468 wsJ4_append_cf468) := goodIn_app (goodIn_of _ (by decide +kernel)) ggX6_writeKind_J4_append_cf468
set_option maxRecDepth 20000 in
theorem ggX6_writeKind_J4_append_bf812 : GoodIn wsX6_writeKind wsJ4_append_bf812 := goodIn_r _ [126, 127, 128, 13, 129, 15, 130, 17, 18, 131, 132, 133, 134, 19, 20, 21, 22, 23, 24, 25, 26, 27, 28, 29, 30, 31, 32, 33, 34, 35, 36, 37, 38, 39, 40, 41, 42, 43, 44, 45, 46, 47, 48, 49, 50, 51, 52, 53, 54, 55, 56, 57, 58, 59, 60, 61, 62, 63, 64, 65, 66, 135, 136, 137, 138, 139, 140, 141, 78, 142, 108, 143, 144, 145, 93, 94, 95, 146, 147, 98, 148, 100, 149, 150, 103, 151, 152, 153, 154, 155, 156, 105, 106, 107, 109, 110, 179, 180, 181, 182] (by decide +kernel) (by decide +kernel)
set_option maxRecDepth 20000 in
theorem gX6_writeKind_J4_append_bf812 : GoodIn wsX6_writeKind (wsV RX6 360 RJ4 yJ4_append_bf812 wsJ4_append_bf812) := goodIn_app (goodIn_of _ (by decide +kernel)) ggX6_writeKind_J4_append_bf812
theorem dX6_writeKind_0 : decode cX6_writeKind 0 = .ok (.iload_n 1, 1) := by decide +kernel
theorem dX6_writeKind_1 : decode cX6_writeKind 1 = .ok (.ifCond .lt 58, 3) := by decide +kernel
theorem dX6_writeKind_4 : decode cX6_writeKind 4 = .ok (.iload_n 1, 1) := by decide +kernel
theorem dX6_writeKind_5 : decode cX6_writeKind 5 = .ok (.aload_n 0, 1) := by decide +kernel
theorem dX6_writeKind_6 : decode cX6_writeKind 6 = .ok (.getfield 58, 3) := by decide +kernel
theorem dX6_writeKind_9 : decode cX6_writeKind 9 = .ok (.getfield 92, 3) := by decide +kernel
theorem dX6_writeKind_12 : decode cX6_writeKind 12 = .ok (.if_icmp .ge 47, 3) := by decide +kernel
theorem dX6_writeKind_15 : decode cX6_writeKind 15 = .ok (.aload_n 0, 1) := by decide +kernel
theorem dX6_writeKind_16 : decode cX6_writeKind 16 = .ok (.getfield 51, 3) := by decide +kernel
theorem dX6_writeKind_19 : decode cX6_writeKind 19 = .ok (.aload_n 0, 1) := by decide +kernel
theorem dX6_writeKind_20 : decode cX6_writeKind 20 = .ok (.getfield 58, 3) := by decide +kernel
theorem dX6_writeKind_23 : decode cX6_writeKind 23 = .ok (.getfield 223, 3) := by decide +kernel
theorem dX6_writeKind_26 : decode cX6_writeKind 26 = .ok (.iload_n 1, 1) := by decide +kernel
theorem dX6_writeKind_27 : decode cX6_writeKind 27 = .ok (.baload, 1) := by decide +kernel
theorem dX6_writeKind_28 : decode cX6_writeKind 28 = .ok (.ifCond .eq 8, 3) := by decide +kernel
theorem dX6_writeKind_31 : decode cX6_writeKind 31 = .ok (.bipush 109, 2) := by decide +kernel
theorem dX6_writeKind_33 : decode cX6_writeKind 33 = .ok (.goto 5, 3) := by decide +kernel
theorem dX6_writeKind_36 : decode cX6_writeKind 36 = .ok (.bipush 119, 2) := by decide +kernel
theorem dX6_writeKind_38 : decode cX6_writeKind 38 = .ok (.invokevirtual 356, 3) := by decide +kernel
theorem dX6_writeKind_41 : decode cX6_writeKind 41 = .ok (.pop, 1) := by decide +kernel
theorem dX6_writeKind_42 : decode cX6_writeKind 42 = .ok (.aload_n 0, 1) := by decide +kernel
theorem dX6_writeKind_43 : decode cX6_writeKind 43 = .ok (.getfield 51, 3) := by decide +kernel
theorem dX6_writeKind_46 : decode cX6_writeKind 46 = .ok (.aload_n 0, 1) := by decide +kernel
theorem dX6_writeKind_47 : decode cX6_writeKind 47 = .ok (.getfield 58, 3) := by decide +kernel
theorem dX6_writeKind_50 : decode cX6_writeKind 50 = .ok (.getfield 226, 3) := by decide +kernel
theorem dX6_writeKind_53 : decode cX6_writeKind 53 = .ok (.iload_n 1, 1) := by decide +kernel
theorem dX6_writeKind_54 : decode cX6_writeKind 54 = .ok (.iaload, 1) := by decide +kernel
theorem dX6_writeKind_55 : decode cX6_writeKind 55 = .ok (.invokevirtual 360, 3) := by decide +kernel
theorem dX6_writeKind_58 : decode cX6_writeKind 58 = .ok (.pop, 1) := by decide +kernel
theorem dX6_writeKind_59 : decode cX6_writeKind 59 = .ok (.return_, 1) := by decide +kernel
set_option maxRecDepth 20000 in
theorem ggX6_writeOpening_X6_writeGapBefore : GoodIn wsX6_writeOpening wsX6_writeGapBefore := goodIn_r _ [6, 1, 7, 8, 9, 10, 11, 12, 13, 14, 15, 16, 17, 18, 19, 20, 21, 22, 23, 24, 25, 26, 27, 28, 29, 30, 31, 32, 33, 34, 35, 36, 37, 38, 39, 40, 41, 42, 43, 44, 45, 46, 47, 48, 49, 50, 51, 52, 53, 54, 55, 56, 57, 58, 59, 60, 61, 62, 63, 64, 65, 66, 67, 68, 69, 70, 71, 72, 73, 74, 75, 76, 77, 78, 79, 80, 81, 82, 83, 84, 85, 86, 87, 88, 89, 90, 91, 92, 93, 94, 95, 96, 97, 98, 99, 100, 101, 102, 103, 104, 105, 106, 107, 108, 109, 110, 111, 112, 113, 114, 115, 116, 117, 118, 119, 120, 121, 122, 123, 124, 125, 126, 127, 128, 129, 130, 131, 166, 167, 168, 169, 170, 171, 172, 173, 174, 175, 176, 177, 178, 179, 180] (by decide +kernel) (by decide +kernel)
set_option maxRecDepth 20000 in
theorem gX6_writeOpening_X6_writeGapBefore : GoodIn wsX6_writeOpening (wsV RX6 353 RX6 yX6_writeGapBefore wsX6_writeGapBefore) := goodIn_app (goodIn_of _ (by decide +kernel)) ggX6_writeOpening_X6_writeGapBefore
set_option maxRecDepth 20000 in
theorem ggX6_writeOpening_J4_append_cf468 : GoodIn wsX6_writeOpening wsJ4_append_cf468 := goodIn_r _ [22, 23, 24, 14, 25, 16, 26, 18, 27, 28, 29, 30, 31, 32, 33, 34, 35, 36, 37, 38, 39, 40, 41, 42, 43, 44, 45, 46, 47, 48, 49, 50, 51, 52, 53, 54, 55, 56, 57, 58, 59, 60, 61, 62, 63, 64, 65, 66, 67, 68, 69, 70, 71, 72, 73, 74, 75, 76, 77, 78, 79, 80, 81, 82, 83, 84, 85, 86, 87, 88, 89, 90, 91, 92, 93, 94, 95, 96, 97, 98, 99, 100, 101, 102, 103, 104, 105, 106, 107, 108, 109, 110, 111, 112, 113, 114, 115, 116, 117, 118, 119, 120, 121, 122, 123, 124, 125, 126, 127, 128, 129, 130, 131, 177, 178, 179, 180] (by decide +kernel) (by decide +kernel)
set_option maxRecDepth 20000 in
theorem gX6_writeOpening_J4_append_cf468 : GoodIn wsX6_writeOpening (wsV RX6 356 RJ4 yJ4_append_cf468 wsJ4_append_cf468) := goodIn_app (goodIn_of _ (by decide +kernel)) ggX6_writeOpening_J4_append_cf468
set_option maxRecDepth 20000 in
theorem ggX6_writeOpening_J4_append_bf812 : GoodIn wsX6_writeOpening wsJ4_append_bf812 := goodIn_r _ [135, 136, 137, 14, 138, 16, 139, 18, 27, 140, 141, 142, 143, 28, 29, 30, 31, 32, 33, 34, 35, 36, 37, 38, 39, 40, 41, 42, 43, 44, 45, 46, 47, 48, 49, 50, 51, 52, 53, 54, 55, 56, 57, 58, 59, 60, 61, 62, 63, 64, 65, 66, 67, 68, 69, 70, 71, 72, 73, 74, 75, 144, 145, 146, 147, 148, 149, 150, 87, 151, 117, 152, 153, 154, 102, 103, 104, 155, 156, 107, 157, 109, 158, 159, 112, 160, 161, 162, 163, 164, 165, 114, 115, 116, 118, 119, 177, 178, 179, 180] (by decide +kernel) (by decide +kernel)
set_option maxRecDepth 20000 in
theorem gX6_writeOpening_J4_append_bf812 : GoodIn wsX6_writeOpening (wsV RX6 360 RJ4 yJ4_append_bf812 wsJ4_append_bf812) := goodIn_app (goodIn_of _ (by decide +kernel)) ggX6_writeOpening_J4_append_bf812
theorem dX6_writeOpening_0 : decode cX6_writeOpening 0 = .ok (.aload_n 0, 1) := by decide +kernel
theorem dX6_writeOpening_1 : decode cX6_writeOpening 1 = .ok (.invokevirtual 353, 3) := by decide +kernel
theorem dX6_writeOpening_4 : decode cX6_writeOpening 4 = .ok (.aload_n 0, 1) := by decide +kernel
theorem dX6_writeOpening_5 : decode cX6_writeOpening 5 = .ok (.getfield 51, 3) := by decide +kernel
theorem dX6_writeOpening_8 : decode cX6_writeOpening 8 = .ok (.bipush 113, 2) := by decide +kernel
theorem dX6_writeOpening_10 : decode cX6_writeOpening 10 = .ok (.invokevirtual 356, 3) := by decide +kernel
theorem dX6_writeOpening_13 : decode cX6_writeOpening 13 = .ok (.pop, 1) := by decide +kernel
theorem dX6_writeOpening_14 : decode cX6_writeOpening 14 = .ok (.aload_n 0, 1) := by decide +kernel
theorem dX6_writeOpening_15 : decode cX6_writeOpening 15 = .ok (.getfield 51, 3) := by decide +kernel
theorem dX6_writeOpening_18 : decode cX6_writeOpening 18 = .ok (.iload_n 1, 1) := by decide +kernel
theorem dX6_writeOpening_19 : decode cX6_writeOpening 19 = .ok (.invokevirtual 360, 3) := by decide +kernel
theorem dX6_writeOpening_22 : decode cX6_writeOpening 22 = .ok (.pop, 1) := by decide +kernel
theorem dX6_writeOpening_23 : decode cX6_writeOpening 23 = .ok (.return_, 1) := by decide +kernel
set_option maxRecDepth 20000 in
theorem ggX6_place_X6_needRow : GoodIn wsX6_place wsX6_needRow := goodIn_ca (goodIn_ca (goodIn_r _ [10, 11, 12, 3, 13, 5, 14, 15, 16, 17, 9, 18, 19, 20, 21, 93, 94, 95, 96, 97, 98, 99, 100, 101, 102, 103, 104, 105, 106, 107, 108, 109, 110, 111, 112, 113, 114, 115, 116, 117, 118, 119, 120, 121, 122] (by decide +kernel) (by decide +kernel)) (goodIn_sub (fun _ h => List.mem_cons_of_mem _ (List.mem_append_left _ (List.mem_append_left _ (List.mem_append_right _ h)))) (by decide +kernel))) (goodIn_sub (fun _ h => List.mem_cons_of_mem _ (List.mem_append_left _ (List.mem_append_right _ h))) (by decide +kernel))
set_option maxRecDepth 20000 in
theorem gX6_place_X6_needRow : GoodIn wsX6_place (wsV RX6 172 RX6 yX6_needRow wsX6_needRow) := goodIn_app (goodIn_of _ (by decide +kernel)) ggX6_place_X6_needRow
set_option maxRecDepth 20000 in
theorem ggX6_place_X6_needBlockLength : GoodIn wsX6_place wsX6_needBlockLength := goodIn_ca (goodIn_r _ [24, 1, 2] (by decide +kernel) (by decide +kernel)) (goodIn_sub (fun _ h => List.mem_cons_of_mem _ (List.mem_append_left _ (List.mem_append_left _ (List.mem_append_left _ (List.mem_append_right _ h))))) (by decide +kernel))
set_option maxRecDepth 20000 in
theorem gX6_place_X6_needBlockLength : GoodIn wsX6_place (va_wsS RX6 306 yX6_needBlockLength wsX6_needBlockLength) := goodIn_app (goodIn_of _ (by decide +kernel)) ggX6_place_X6_needBlockLength
set_option maxRecDepth 20000 in
theorem ggX6_place_X3_takesBlock : GoodIn wsX6_place wsX3_takesBlock := goodIn_r _ [29, 30, 31, 32, 33, 28, 34, 35, 36, 37, 38, 39, 40, 41, 42, 43, 44, 45, 46, 47, 48, 123, 124, 125, 126, 127, 128, 129, 130, 131, 132, 104, 105, 106, 107, 108, 109, 110, 111, 112, 113, 114] (by decide +kernel) (by decide +kernel)
set_option maxRecDepth 20000 in
theorem gX6_place_X3_takesBlock : GoodIn wsX6_place (wsV RX6 314 RX3 yX3_takesBlock wsX3_takesBlock) := goodIn_app (goodIn_of _ (by decide +kernel)) ggX6_place_X3_takesBlock
set_option maxRecDepth 20000 in
theorem ggX6_place_X0_remember : GoodIn wsX6_place wsX0_remember := goodIn_r _ [53, 54, 55, 56, 57, 58, 59, 60, 61, 62, 63, 64, 65, 66, 67, 68, 69, 70, 71, 72, 73, 74, 75, 76, 77, 78, 79, 80, 28, 81, 82, 83, 30, 43, 84, 85, 44, 86, 36, 37, 87, 133, 134, 135, 115, 116, 117, 118, 119, 120, 121, 122, 123, 124, 125, 126, 127, 128, 129, 130, 131, 132] (by decide +kernel) (by decide +kernel)
set_option maxRecDepth 20000 in
theorem gX6_place_X0_remember : GoodIn wsX6_place (wsV RX6 378 RX0 yX0_remember wsX0_remember) := goodIn_app (goodIn_of _ (by decide +kernel)) ggX6_place_X0_remember
set_option maxRecDepth 20000 in
theorem ggX6_place_X3_addBlock : GoodIn wsX6_place wsX3_addBlock := goodIn_ca (goodIn_r _ [91, 30, 82, 43, 123, 124, 125, 126, 127, 128, 129, 130, 131, 132] (by decide +kernel) (by decide +kernel)) (goodIn_sub (fun _ h => List.mem_cons_of_mem _ (List.mem_append_right _ h)) (by decide +kernel))
set_option maxRecDepth 20000 in
theorem gX6_place_X3_addBlock : GoodIn wsX6_place (wsV RX6 381 RX3 yX3_addBlock wsX3_addBlock) := goodIn_app (goodIn_of _ (by decide +kernel)) ggX6_place_X3_addBlock
set_option maxRecDepth 20000 in
theorem ggX6_place_X3_gapIn : GoodIn wsX6_place wsX3_gapIn := goodIn_r _ [34, 35, 36, 37, 38, 39, 40, 28, 41, 42, 43, 44, 45, 46, 47, 48, 104, 105, 106, 107, 108, 109, 110, 111, 112, 113, 114, 123, 124, 125, 126, 127, 128, 129, 130, 131, 132] (by decide +kernel) (by decide +kernel)
set_option maxRecDepth 20000 in
theorem gX6_place_X3_gapIn : GoodIn wsX6_place (wsV RX6 184 RX3 yX3_gapIn wsX3_gapIn) := goodIn_app (goodIn_of _ (by decide +kernel)) ggX6_place_X3_gapIn
theorem dX6_place_0 : decode cX6_place 0 = .ok (.aload_n 0, 1) := by decide +kernel
theorem dX6_place_1 : decode cX6_place 1 = .ok (.iload_n 1, 1) := by decide +kernel
theorem dX6_place_2 : decode cX6_place 2 = .ok (.invokevirtual 172, 3) := by decide +kernel
theorem dX6_place_5 : decode cX6_place 5 = .ok (.astore_n 3, 1) := by decide +kernel
theorem dX6_place_6 : decode cX6_place 6 = .ok (.iload_n 2, 1) := by decide +kernel
theorem dX6_place_7 : decode cX6_place 7 = .ok (.invokestatic 306, 3) := by decide +kernel
theorem dX6_place_10 : decode cX6_place 10 = .ok (.aload_n 3, 1) := by decide +kernel
theorem dX6_place_11 : decode cX6_place 11 = .ok (.aload_n 0, 1) := by decide +kernel
theorem dX6_place_12 : decode cX6_place 12 = .ok (.getfield 58, 3) := by decide +kernel
theorem dX6_place_15 : decode cX6_place 15 = .ok (.iload_n 2, 1) := by decide +kernel
theorem dX6_place_16 : decode cX6_place 16 = .ok (.invokevirtual 314, 3) := by decide +kernel
theorem dX6_place_19 : decode cX6_place 19 = .ok (.ifCond .ne 14, 3) := by decide +kernel
theorem dX6_place_22 : decode cX6_place 22 = .ok (.new 84, 3) := by decide +kernel
theorem dX6_place_25 : decode cX6_place 25 = .ok (.dup, 1) := by decide +kernel
theorem dX6_place_26 : decode cX6_place 26 = .ok (.ldc_w 376, 3) := by decide +kernel
theorem dX6_place_29 : decode cX6_place 29 = .ok (.invokespecial 88, 3) := by decide +kernel
theorem dX6_place_32 : decode cX6_place 32 = .ok (.athrow, 1) := by decide +kernel
theorem dX6_place_33 : decode cX6_place 33 = .ok (.aload_n 0, 1) := by decide +kernel
theorem dX6_place_34 : decode cX6_place 34 = .ok (.getfield 26, 3) := by decide +kernel
theorem dX6_place_37 : decode cX6_place 37 = .ok (.aload_n 0, 1) := by decide +kernel
theorem dX6_place_38 : decode cX6_place 38 = .ok (.getfield 33, 3) := by decide +kernel
theorem dX6_place_41 : decode cX6_place 41 = .ok (.invokevirtual 378, 3) := by decide +kernel
theorem dX6_place_44 : decode cX6_place 44 = .ok (.aload_n 3, 1) := by decide +kernel
theorem dX6_place_45 : decode cX6_place 45 = .ok (.iload_n 2, 1) := by decide +kernel
theorem dX6_place_46 : decode cX6_place 46 = .ok (.invokevirtual 381, 3) := by decide +kernel
theorem dX6_place_49 : decode cX6_place 49 = .ok (.aload_n 3, 1) := by decide +kernel
theorem dX6_place_50 : decode cX6_place 50 = .ok (.aload_n 0, 1) := by decide +kernel
theorem dX6_place_51 : decode cX6_place 51 = .ok (.getfield 58, 3) := by decide +kernel
theorem dX6_place_54 : decode cX6_place 54 = .ok (.invokevirtual 184, 3) := by decide +kernel
theorem dX6_place_57 : decode cX6_place 57 = .ok (.ireturn, 1) := by decide +kernel
set_option maxRecDepth 20000 in
theorem ggX6_lift_X6_needRow : GoodIn wsX6_lift wsX6_needRow := goodIn_ca (goodIn_ca (goodIn_r _ [8, 9, 10, 11, 12, 3, 13, 14, 15, 16, 7, 17, 18, 19, 20, 87, 88, 89, 90, 91, 92, 93, 94, 95, 96, 97, 98, 99, 100, 101, 102, 103, 104, 105, 106, 107, 108, 109, 110, 111, 112, 113, 114, 115, 116] (by decide +kernel) (by decide +kernel)) (goodIn_sub (fun _ h => List.mem_cons_of_mem _ (List.mem_append_left _ (List.mem_append_left _ (List.mem_append_right _ h)))) (by decide +kernel))) (goodIn_sub (fun _ h => List.mem_cons_of_mem _ (List.mem_append_left _ (List.mem_append_right _ h))) (by decide +kernel))
set_option maxRecDepth 20000 in
theorem gX6_lift_X6_needRow : GoodIn wsX6_lift (wsV RX6 172 RX6 yX6_needRow wsX6_needRow) := goodIn_app (goodIn_of _ (by decide +kernel)) ggX6_lift_X6_needRow
set_option maxRecDepth 20000 in
theorem ggX6_lift_X6_needIndex : GoodIn wsX6_lift wsX6_needIndex := goodIn_ca (goodIn_r _ [23, 9, 10] (by decide +kernel) (by decide +kernel)) (goodIn_sub (fun _ h => List.mem_cons_of_mem _ (List.mem_append_left _ (List.mem_append_left _ (List.mem_append_right _ h)))) (by decide +kernel))
set_option maxRecDepth 20000 in
theorem gX6_lift_X6_needIndex : GoodIn wsX6_lift (va_wsS RX6 208 yX6_needIndex wsX6_needIndex) := goodIn_app (goodIn_of _ (by decide +kernel)) ggX6_lift_X6_needIndex
set_option maxRecDepth 20000 in
theorem ggX6_lift_X0_remember : GoodIn wsX6_lift wsX0_remember := goodIn_r _ [28, 29, 30, 31, 32, 33, 34, 35, 36, 37, 38, 39, 40, 41, 42, 43, 44, 45, 46, 47, 48, 49, 50, 51, 52, 53, 54, 55, 56, 57, 58, 59, 60, 61, 62, 63, 64, 65, 66, 67, 68, 117, 118, 119, 109, 110, 111, 112, 113, 114, 115, 116, 77, 78, 79, 80, 81, 82, 83, 84, 85, 86] (by decide +kernel) (by decide +kernel)
set_option maxRecDepth 20000 in
theorem gX6_lift_X0_remember : GoodIn wsX6_lift (wsV RX6 378 RX0 yX0_remember wsX0_remember) := goodIn_app (goodIn_of _ (by decide +kernel)) ggX6_lift_X0_remember
set_option maxRecDepth 20000 in
theorem ggX6_lift_X3_removeBlock : GoodIn wsX6_lift wsX3_removeBlock := goodIn_ca (goodIn_r _ [72, 60, 58, 61, 73, 74, 75, 56, 76, 77, 78, 79, 80, 81, 82, 83, 84, 85, 86] (by decide +kernel) (by decide +kernel)) (goodIn_sub (fun _ h => List.mem_cons_of_mem _ (List.mem_append_right _ h)) (by decide +kernel))
set_option maxRecDepth 20000 in
theorem gX6_lift_X3_removeBlock : GoodIn wsX6_lift (wsV RX6 384 RX3 yX3_removeBlock wsX3_removeBlock) := goodIn_app (goodIn_of _ (by decide +kernel)) ggX6_lift_X3_removeBlock
theorem dX6_lift_0 : decode cX6_lift 0 = .ok (.aload_n 0, 1) := by decide +kernel
theorem dX6_lift_1 : decode cX6_lift 1 = .ok (.iload_n 1, 1) := by decide +kernel
theorem dX6_lift_2 : decode cX6_lift 2 = .ok (.invokevirtual 172, 3) := by decide +kernel
theorem dX6_lift_5 : decode cX6_lift 5 = .ok (.astore_n 3, 1) := by decide +kernel
theorem dX6_lift_6 : decode cX6_lift 6 = .ok (.iload_n 2, 1) := by decide +kernel
theorem dX6_lift_7 : decode cX6_lift 7 = .ok (.aload_n 3, 1) := by decide +kernel
theorem dX6_lift_8 : decode cX6_lift 8 = .ok (.getfield 176, 3) := by decide +kernel
theorem dX6_lift_11 : decode cX6_lift 11 = .ok (.invokestatic 208, 3) := by decide +kernel
theorem dX6_lift_14 : decode cX6_lift 14 = .ok (.aload_n 0, 1) := by decide +kernel
theorem dX6_lift_15 : decode cX6_lift 15 = .ok (.getfield 26, 3) := by decide +kernel
theorem dX6_lift_18 : decode cX6_lift 18 = .ok (.aload_n 0, 1) := by decide +kernel
theorem dX6_lift_19 : decode cX6_lift 19 = .ok (.getfield 33, 3) := by decide +kernel
theorem dX6_lift_22 : decode cX6_lift 22 = .ok (.invokevirtual 378, 3) := by decide +kernel
theorem dX6_lift_25 : decode cX6_lift 25 = .ok (.aload_n 3, 1) := by decide +kernel
theorem dX6_lift_26 : decode cX6_lift 26 = .ok (.iload_n 2, 1) := by decide +kernel
theorem dX6_lift_27 : decode cX6_lift 27 = .ok (.invokevirtual 384, 3) := by decide +kernel
theorem dX6_lift_30 : decode cX6_lift 30 = .ok (.ireturn, 1) := by decide +kernel
set_option maxRecDepth 20000 in
theorem ggX6_put_X6_needRow : GoodIn wsX6_put wsX6_needRow := goodIn_ca (goodIn_ca (goodIn_r _ [10, 11, 12, 5, 13, 4, 14, 15, 16, 17, 9, 18, 19, 20, 21, 107, 108, 109, 110, 111, 112, 113, 114, 115, 116, 117, 118, 119, 120, 121, 122, 123, 124, 125, 126, 127, 128, 129, 130, 131, 132, 133, 134, 135, 136] (by decide +kernel) (by decide +kernel)) (goodIn_sub (fun _ h => List.mem_cons_of_mem _ (List.mem_append_left _ (List.mem_append_left _ (List.mem_append_right _ h)))) (by decide +kernel))) (goodIn_sub (fun _ h => List.mem_cons_of_mem _ (List.mem_append_left _ (List.mem_append_right _ h))) (by decide +kernel))
set_option maxRecDepth 20000 in
theorem gX6_put_X6_needRow : GoodIn wsX6_put (wsV RX6 172 RX6 yX6_needRow wsX6_needRow) := goodIn_app (goodIn_of _ (by decide +kernel)) ggX6_put_X6_needRow
set_option maxRecDepth 20000 in
theorem ggX6_put_X6_needKind : GoodIn wsX6_put wsX6_needKind := goodIn_ca (goodIn_r _ [25, 11, 12, 5, 26, 107, 108, 109, 110, 111, 112, 113, 114, 115, 116, 117, 118, 119, 120, 121, 122, 123, 124, 125, 126, 127, 128] (by decide +kernel) (by decide +kernel)) (goodIn_sub (fun _ h => List.mem_cons_of_mem _ (List.mem_append_left _ (List.mem_append_left _ (List.mem_append_right _ h)))) (by decide +kernel))
set_option maxRecDepth 20000 in
theorem gX6_put_X6_needKind : GoodIn wsX6_put (wsV RX6 219 RX6 yX6_needKind wsX6_needKind) := goodIn_app (goodIn_of _ (by decide +kernel)) ggX6_put_X6_needKind
set_option maxRecDepth 20000 in
theorem ggX6_put_X6_takesPiece : GoodIn wsX6_put wsX6_takesPiece := goodIn_ca (goodIn_r _ [30, 4, 31, 5, 32, 33, 34, 35, 36, 37, 38, 39, 40, 41, 42, 43, 44, 45, 46, 47, 48, 49, 50, 51, 107, 108, 109, 110, 111, 112, 113, 114, 115, 116, 117, 129, 130, 131, 132, 133, 134, 135, 136, 118, 119, 120, 121, 122, 123, 124, 125, 126, 127, 128, 137, 138, 139, 140, 141, 142, 143, 144, 145, 146] (by decide +kernel) (by decide +kernel)) (goodIn_sub (fun _ h => List.mem_cons_of_mem _ (List.mem_append_right _ h)) (by decide +kernel))
set_option maxRecDepth 20000 in
theorem gX6_put_X6_takesPiece : GoodIn wsX6_put (wsV RX6 325 RX6 yX6_takesPiece wsX6_takesPiece) := goodIn_app (goodIn_of _ (by decide +kernel)) ggX6_put_X6_takesPiece
set_option maxRecDepth 20000 in
theorem ggX6_put_X0_remember : GoodIn wsX6_put wsX0_remember := goodIn_r _ [56, 57, 58, 59, 60, 61, 62, 63, 64, 65, 66, 67, 68, 69, 70, 71, 72, 73, 74, 75, 76, 77, 78, 79, 80, 81, 82, 83, 36, 84, 85, 86, 87, 46, 88, 89, 47, 90, 39, 40, 91, 147, 148, 149, 129, 130, 131, 132, 133, 134, 135, 136, 137, 138, 139, 140, 141, 142, 143, 144, 145, 146] (by decide +kernel) (by decide +kernel)
set_option maxRecDepth 20000 in
theorem gX6_put_X0_remember : GoodIn wsX6_put (wsV RX6 378 RX0 yX0_remember wsX0_remember) := goodIn_app (goodIn_of _ (by decide +kernel)) ggX6_put_X0_remember
set_option maxRecDepth 20000 in
theorem ggX6_put_X5_movePieceIn : GoodIn wsX6_put wsX5_movePieceIn := goodIn_ca (goodIn_r _ [95, 70, 96, 97, 98, 36, 99, 89, 47, 100, 90, 101, 102, 103, 104, 88, 105, 106, 129, 130, 131, 132, 133, 134, 135, 136, 137, 138, 139, 140, 141, 142, 143, 144, 145, 146, 118, 119, 120, 121, 122, 123, 124, 125, 126, 127, 128] (by decide +kernel) (by decide +kernel)) (goodIn_sub (fun _ h => List.mem_cons_of_mem _ (List.mem_append_right _ h)) (by decide +kernel))
set_option maxRecDepth 20000 in
theorem gX6_put_X5_movePieceIn : GoodIn wsX6_put (wsV RX6 389 RX5 yX5_movePieceIn wsX5_movePieceIn) := goodIn_app (goodIn_of _ (by decide +kernel)) ggX6_put_X5_movePieceIn
set_option maxRecDepth 20000 in
theorem ggX6_put_X3_gapIn : GoodIn wsX6_put wsX3_gapIn := goodIn_r _ [37, 38, 39, 40, 41, 42, 43, 36, 44, 45, 46, 47, 48, 49, 50, 51, 118, 119, 120, 121, 122, 123, 124, 125, 126, 127, 128, 137, 138, 139, 140, 141, 142, 143, 144, 145, 146] (by decide +kernel) (by decide +kernel)
set_option maxRecDepth 20000 in
theorem gX6_put_X3_gapIn : GoodIn wsX6_put (wsV RX6 184 RX3 yX3_gapIn wsX3_gapIn) := goodIn_app (goodIn_of _ (by decide +kernel)) ggX6_put_X3_gapIn
theorem dX6_put_0 : decode cX6_put 0 = .ok (.aload_n 0, 1) := by decide +kernel
theorem dX6_put_1 : decode cX6_put 1 = .ok (.iload_n 1, 1) := by decide +kernel
theorem dX6_put_2 : decode cX6_put 2 = .ok (.invokevirtual 172, 3) := by decide +kernel
theorem dX6_put_5 : decode cX6_put 5 = .ok (.astore_n 3, 1) := by decide +kernel
theorem dX6_put_6 : decode cX6_put 6 = .ok (.aload_n 0, 1) := by decide +kernel
theorem dX6_put_7 : decode cX6_put 7 = .ok (.iload_n 2, 1) := by decide +kernel
theorem dX6_put_8 : decode cX6_put 8 = .ok (.invokevirtual 219, 3) := by decide +kernel
theorem dX6_put_11 : decode cX6_put 11 = .ok (.aload_n 0, 1) := by decide +kernel
theorem dX6_put_12 : decode cX6_put 12 = .ok (.aload_n 3, 1) := by decide +kernel
theorem dX6_put_13 : decode cX6_put 13 = .ok (.iload_n 2, 1) := by decide +kernel
theorem dX6_put_14 : decode cX6_put 14 = .ok (.invokevirtual 325, 3) := by decide +kernel
theorem dX6_put_17 : decode cX6_put 17 = .ok (.ifCond .ne 14, 3) := by decide +kernel
theorem dX6_put_20 : decode cX6_put 20 = .ok (.new 84, 3) := by decide +kernel
theorem dX6_put_23 : decode cX6_put 23 = .ok (.dup, 1) := by decide +kernel
theorem dX6_put_24 : decode cX6_put 24 = .ok (.ldc_w 387, 3) := by decide +kernel
theorem dX6_put_27 : decode cX6_put 27 = .ok (.invokespecial 88, 3) := by decide +kernel
theorem dX6_put_30 : decode cX6_put 30 = .ok (.athrow, 1) := by decide +kernel
theorem dX6_put_31 : decode cX6_put 31 = .ok (.aload_n 0, 1) := by decide +kernel
theorem dX6_put_32 : decode cX6_put 32 = .ok (.getfield 26, 3) := by decide +kernel
theorem dX6_put_35 : decode cX6_put 35 = .ok (.aload_n 0, 1) := by decide +kernel
theorem dX6_put_36 : decode cX6_put 36 = .ok (.getfield 33, 3) := by decide +kernel
theorem dX6_put_39 : decode cX6_put 39 = .ok (.invokevirtual 378, 3) := by decide +kernel
theorem dX6_put_42 : decode cX6_put 42 = .ok (.aload_n 0, 1) := by decide +kernel
theorem dX6_put_43 : decode cX6_put 43 = .ok (.getfield 33, 3) := by decide +kernel
theorem dX6_put_46 : decode cX6_put 46 = .ok (.aload_n 0, 1) := by decide +kernel
theorem dX6_put_47 : decode cX6_put 47 = .ok (.getfield 58, 3) := by decide +kernel
theorem dX6_put_50 : decode cX6_put 50 = .ok (.aload_n 3, 1) := by decide +kernel
theorem dX6_put_51 : decode cX6_put 51 = .ok (.iload_n 2, 1) := by decide +kernel
theorem dX6_put_52 : decode cX6_put 52 = .ok (.invokevirtual 389, 3) := by decide +kernel
theorem dX6_put_55 : decode cX6_put 55 = .ok (.aload_n 3, 1) := by decide +kernel
theorem dX6_put_56 : decode cX6_put 56 = .ok (.aload_n 0, 1) := by decide +kernel
theorem dX6_put_57 : decode cX6_put 57 = .ok (.getfield 58, 3) := by decide +kernel
theorem dX6_put_60 : decode cX6_put 60 = .ok (.invokevirtual 184, 3) := by decide +kernel
theorem dX6_put_63 : decode cX6_put 63 = .ok (.ireturn, 1) := by decide +kernel
set_option maxRecDepth 20000 in
theorem ggX6_take_X6_needRow : GoodIn wsX6_take wsX6_needRow := goodIn_ca (goodIn_ca (goodIn_r _ [9, 10, 11, 4, 12, 3, 13, 14, 15, 16, 8, 17, 18, 19, 20, 98, 99, 100, 101, 102, 103, 104, 105, 106, 107, 108, 109, 110, 111, 112, 113, 114, 115, 116, 117, 118, 119, 120, 121, 122, 123, 124, 125, 126, 127] (by decide +kernel) (by decide +kernel)) (goodIn_sub (fun _ h => List.mem_cons_of_mem _ (List.mem_append_left _ (List.mem_append_left _ (List.mem_append_right _ h)))) (by decide +kernel))) (goodIn_sub (fun _ h => List.mem_cons_of_mem _ (List.mem_append_left _ (List.mem_append_right _ h))) (by decide +kernel))
set_option maxRecDepth 20000 in
theorem gX6_take_X6_needRow : GoodIn wsX6_take (wsV RX6 172 RX6 yX6_needRow wsX6_needRow) := goodIn_app (goodIn_of _ (by decide +kernel)) ggX6_take_X6_needRow
set_option maxRecDepth 20000 in
theorem ggX6_take_X6_needIndex : GoodIn wsX6_take wsX6_needIndex := goodIn_ca (goodIn_r _ [23, 10, 11] (by decide +kernel) (by decide +kernel)) (goodIn_sub (fun _ h => List.mem_cons_of_mem _ (List.mem_append_left _ (List.mem_append_left _ (List.mem_append_right _ h)))) (by decide +kernel))
set_option maxRecDepth 20000 in
theorem gX6_take_X6_needIndex : GoodIn wsX6_take (va_wsS RX6 208 yX6_needIndex wsX6_needIndex) := goodIn_app (goodIn_of _ (by decide +kernel)) ggX6_take_X6_needIndex
set_option maxRecDepth 20000 in
theorem ggX6_take_X0_remember : GoodIn wsX6_take wsX0_remember := goodIn_r _ [28, 29, 30, 31, 32, 33, 34, 35, 36, 37, 38, 39, 40, 41, 42, 43, 44, 45, 46, 47, 48, 49, 50, 51, 52, 53, 54, 55, 56, 57, 58, 59, 60, 61, 62, 63, 64, 65, 66, 67, 68, 128, 129, 130, 120, 121, 122, 123, 124, 125, 126, 127, 88, 89, 90, 91, 92, 93, 94, 95, 96, 97] (by decide +kernel) (by decide +kernel)
set_option maxRecDepth 20000 in
theorem gX6_take_X0_remember : GoodIn wsX6_take (wsV RX6 378 RX0 yX0_remember wsX0_remember) := goodIn_app (goodIn_of _ (by decide +kernel)) ggX6_take_X0_remember
set_option maxRecDepth 20000 in
theorem ggX6_take_X5_movePieceOut : GoodIn wsX6_take wsX5_movePieceOut := goodIn_ca (goodIn_r _ [72, 42, 73, 74, 75, 56, 76, 63, 64, 77, 65, 78, 79, 80, 81, 62, 82, 83, 84, 85, 86, 87, 120, 121, 122, 123, 124, 125, 126, 127, 88, 89, 90, 91, 92, 93, 94, 95, 96, 97, 109, 110, 111, 112, 113, 114, 115, 116, 117, 118, 119] (by decide +kernel) (by decide +kernel)) (goodIn_sub (fun _ h => List.mem_cons_of_mem _ (List.mem_append_right _ h)) (by decide +kernel))
set_option maxRecDepth 20000 in
theorem gX6_take_X5_movePieceOut : GoodIn wsX6_take (wsV RX6 393 RX5 yX5_movePieceOut wsX5_movePieceOut) := goodIn_app (goodIn_of _ (by decide +kernel)) ggX6_take_X5_movePieceOut
theorem dX6_take_0 : decode cX6_take 0 = .ok (.aload_n 0, 1) := by decide +kernel
theorem dX6_take_1 : decode cX6_take 1 = .ok (.iload_n 1, 1) := by decide +kernel
theorem dX6_take_2 : decode cX6_take 2 = .ok (.invokevirtual 172, 3) := by decide +kernel
theorem dX6_take_5 : decode cX6_take 5 = .ok (.astore_n 3, 1) := by decide +kernel
theorem dX6_take_6 : decode cX6_take 6 = .ok (.iload_n 2, 1) := by decide +kernel
theorem dX6_take_7 : decode cX6_take 7 = .ok (.aload_n 3, 1) := by decide +kernel
theorem dX6_take_8 : decode cX6_take 8 = .ok (.getfield 181, 3) := by decide +kernel
theorem dX6_take_11 : decode cX6_take 11 = .ok (.invokestatic 208, 3) := by decide +kernel
theorem dX6_take_14 : decode cX6_take 14 = .ok (.aload_n 0, 1) := by decide +kernel
theorem dX6_take_15 : decode cX6_take 15 = .ok (.getfield 26, 3) := by decide +kernel
theorem dX6_take_18 : decode cX6_take 18 = .ok (.aload_n 0, 1) := by decide +kernel
theorem dX6_take_19 : decode cX6_take 19 = .ok (.getfield 33, 3) := by decide +kernel
theorem dX6_take_22 : decode cX6_take 22 = .ok (.invokevirtual 378, 3) := by decide +kernel
theorem dX6_take_25 : decode cX6_take 25 = .ok (.aload_n 0, 1) := by decide +kernel
theorem dX6_take_26 : decode cX6_take 26 = .ok (.getfield 33, 3) := by decide +kernel
theorem dX6_take_29 : decode cX6_take 29 = .ok (.aload_n 0, 1) := by decide +kernel
theorem dX6_take_30 : decode cX6_take 30 = .ok (.getfield 58, 3) := by decide +kernel
theorem dX6_take_33 : decode cX6_take 33 = .ok (.aload_n 3, 1) := by decide +kernel
theorem dX6_take_34 : decode cX6_take 34 = .ok (.iload_n 2, 1) := by decide +kernel
theorem dX6_take_35 : decode cX6_take 35 = .ok (.invokevirtual 393, 3) := by decide +kernel
theorem dX6_take_38 : decode cX6_take 38 = .ok (.ireturn, 1) := by decide +kernel
set_option maxRecDepth 20000 in
theorem ggX6_quoin_X6_needRow : GoodIn wsX6_quoin wsX6_needRow := goodIn_ca (goodIn_ca (goodIn_r _ [12, 13, 14, 5, 15, 3, 16, 17, 18, 19, 11, 20, 21, 22, 23, 95, 96, 97, 98, 99, 100, 101, 102, 103, 104, 105, 114, 115, 116, 117, 118, 119, 120, 121, 122, 123, 124, 106, 107, 108, 109, 110, 111, 112, 113] (by decide +kernel) (by decide +kernel)) (goodIn_sub (fun _ h => List.mem_cons_of_mem _ (List.mem_append_left _ (List.mem_append_right _ h))) (by decide +kernel))) (goodIn_sub (fun _ h => List.mem_cons_of_mem _ (List.mem_append_right _ h)) (by decide +kernel))
set_option maxRecDepth 20000 in
theorem gX6_quoin_X6_needRow : GoodIn wsX6_quoin (wsV RX6 172 RX6 yX6_needRow wsX6_needRow) := goodIn_app (goodIn_of _ (by decide +kernel)) ggX6_quoin_X6_needRow
set_option maxRecDepth 20000 in
theorem ggX6_quoin_X3_hasQuoin : GoodIn wsX6_quoin wsX3_hasQuoin := goodIn_r _ [28, 29, 125, 126, 127, 128, 129, 130, 131, 132, 133, 134] (by decide +kernel) (by decide +kernel)
set_option maxRecDepth 20000 in
theorem gX6_quoin_X3_hasQuoin : GoodIn wsX6_quoin (wsV RX6 199 RX3 yX3_hasQuoin wsX3_hasQuoin) := goodIn_app (goodIn_of _ (by decide +kernel)) ggX6_quoin_X3_hasQuoin
set_option maxRecDepth 20000 in
theorem ggX6_quoin_X3_gapIn : GoodIn wsX6_quoin wsX3_gapIn := goodIn_r _ [33, 34, 29, 35, 36, 37, 38, 27, 39, 40, 41, 42, 43, 25, 26, 28, 114, 115, 116, 117, 118, 119, 120, 121, 122, 123, 124, 125, 126, 127, 128, 129, 130, 131, 132, 133, 134] (by decide +kernel) (by decide +kernel)
set_option maxRecDepth 20000 in
theorem gX6_quoin_X3_gapIn : GoodIn wsX6_quoin (wsV RX6 184 RX3 yX3_gapIn wsX3_gapIn) := goodIn_app (goodIn_of _ (by decide +kernel)) ggX6_quoin_X3_gapIn
set_option maxRecDepth 20000 in
theorem ggX6_quoin_X0_remember : GoodIn wsX6_quoin wsX0_remember := goodIn_r _ [48, 49, 50, 51, 52, 53, 54, 55, 56, 57, 58, 59, 60, 61, 62, 63, 64, 65, 66, 67, 68, 69, 70, 71, 72, 73, 74, 75, 27, 76, 77, 78, 79, 41, 80, 81, 42, 82, 29, 35, 83, 135, 136, 137, 106, 107, 108, 109, 110, 111, 112, 113, 125, 126, 127, 128, 129, 130, 131, 132, 133, 134] (by decide +kernel) (by decide +kernel)
set_option maxRecDepth 20000 in
theorem gX6_quoin_X0_remember : GoodIn wsX6_quoin (wsV RX6 378 RX0 yX0_remember wsX0_remember) := goodIn_app (goodIn_of _ (by decide +kernel)) ggX6_quoin_X0_remember
set_option maxRecDepth 20000 in
theorem ggX6_quoin_X5_setQuoin : GoodIn wsX6_quoin wsX5_setQuoin := goodIn_r _ [87, 67, 88, 89, 90, 25, 26, 27, 28, 29, 106, 107, 108, 109, 110, 111, 112, 113, 125, 126, 127, 128, 129, 130, 131, 132, 133, 134] (by decide +kernel) (by decide +kernel)
set_option maxRecDepth 20000 in
theorem gX6_quoin_X5_setQuoin : GoodIn wsX6_quoin (wsV RX6 401 RX5 yX5_setQuoin wsX5_setQuoin) := goodIn_app (goodIn_of _ (by decide +kernel)) ggX6_quoin_X5_setQuoin
set_option maxRecDepth 20000 in
theorem ggX6_quoin_X5_removeQuoin : GoodIn wsX6_quoin wsX5_removeQuoin := goodIn_r _ [94, 67, 88, 89, 90, 25, 26, 27, 28, 29, 106, 107, 108, 109, 110, 111, 112, 113, 125, 126, 127, 128, 129, 130, 131, 132, 133, 134] (by decide +kernel) (by decide +kernel)
set_option maxRecDepth 20000 in
theorem gX6_quoin_X5_removeQuoin : GoodIn wsX6_quoin (wsV RX6 405 RX5 yX5_removeQuoin wsX5_removeQuoin) := goodIn_app (goodIn_of _ (by decide +kernel)) ggX6_quoin_X5_removeQuoin
theorem dX6_quoin_0 : decode cX6_quoin 0 = .ok (.aload_n 0, 1) := by decide +kernel
theorem dX6_quoin_1 : decode cX6_quoin 1 = .ok (.iload_n 1, 1) := by decide +kernel
theorem dX6_quoin_2 : decode cX6_quoin 2 = .ok (.invokevirtual 172, 3) := by decide +kernel
theorem dX6_quoin_5 : decode cX6_quoin 5 = .ok (.astore_n 3, 1) := by decide +kernel
theorem dX6_quoin_6 : decode cX6_quoin 6 = .ok (.aload_n 3, 1) := by decide +kernel
theorem dX6_quoin_7 : decode cX6_quoin 7 = .ok (.invokevirtual 199, 3) := by decide +kernel
theorem dX6_quoin_10 : decode cX6_quoin 10 = .ok (.iload_n 2, 1) := by decide +kernel
theorem dX6_quoin_11 : decode cX6_quoin 11 = .ok (.if_icmp .ne 14, 3) := by decide +kernel
theorem dX6_quoin_14 : decode cX6_quoin 14 = .ok (.new 84, 3) := by decide +kernel
theorem dX6_quoin_17 : decode cX6_quoin 17 = .ok (.dup, 1) := by decide +kernel
theorem dX6_quoin_18 : decode cX6_quoin 18 = .ok (.ldc_w 397, 3) := by decide +kernel
theorem dX6_quoin_21 : decode cX6_quoin 21 = .ok (.invokespecial 88, 3) := by decide +kernel
theorem dX6_quoin_24 : decode cX6_quoin 24 = .ok (.athrow, 1) := by decide +kernel
theorem dX6_quoin_25 : decode cX6_quoin 25 = .ok (.iload_n 2, 1) := by decide +kernel
theorem dX6_quoin_26 : decode cX6_quoin 26 = .ok (.ifCond .eq 42, 3) := by decide +kernel
theorem dX6_quoin_29 : decode cX6_quoin 29 = .ok (.aload_n 0, 1) := by decide +kernel
theorem dX6_quoin_30 : decode cX6_quoin 30 = .ok (.getfield 33, 3) := by decide +kernel
theorem dX6_quoin_33 : decode cX6_quoin 33 = .ok (.getfield 118, 3) := by decide +kernel
theorem dX6_quoin_36 : decode cX6_quoin 36 = .ok (.ifCond .eq 21, 3) := by decide +kernel
theorem dX6_quoin_39 : decode cX6_quoin 39 = .ok (.aload_n 0, 1) := by decide +kernel
theorem dX6_quoin_40 : decode cX6_quoin 40 = .ok (.getfield 58, 3) := by decide +kernel
theorem dX6_quoin_43 : decode cX6_quoin 43 = .ok (.getfield 155, 3) := by decide +kernel
theorem dX6_quoin_46 : decode cX6_quoin 46 = .ok (.aload_n 3, 1) := by decide +kernel
theorem dX6_quoin_47 : decode cX6_quoin 47 = .ok (.aload_n 0, 1) := by decide +kernel
theorem dX6_quoin_48 : decode cX6_quoin 48 = .ok (.getfield 58, 3) := by decide +kernel
theorem dX6_quoin_51 : decode cX6_quoin 51 = .ok (.invokevirtual 184, 3) := by decide +kernel
theorem dX6_quoin_54 : decode cX6_quoin 54 = .ok (.if_icmp .le 14, 3) := by decide +kernel
theorem dX6_quoin_57 : decode cX6_quoin 57 = .ok (.new 84, 3) := by decide +kernel
theorem dX6_quoin_60 : decode cX6_quoin 60 = .ok (.dup, 1) := by decide +kernel
theorem dX6_quoin_61 : decode cX6_quoin 61 = .ok (.ldc_w 399, 3) := by decide +kernel
theorem dX6_quoin_64 : decode cX6_quoin 64 = .ok (.invokespecial 88, 3) := by decide +kernel
theorem dX6_quoin_67 : decode cX6_quoin 67 = .ok (.athrow, 1) := by decide +kernel
theorem dX6_quoin_68 : decode cX6_quoin 68 = .ok (.aload_n 0, 1) := by decide +kernel
theorem dX6_quoin_69 : decode cX6_quoin 69 = .ok (.getfield 26, 3) := by decide +kernel
theorem dX6_quoin_72 : decode cX6_quoin 72 = .ok (.aload_n 0, 1) := by decide +kernel
theorem dX6_quoin_73 : decode cX6_quoin 73 = .ok (.getfield 33, 3) := by decide +kernel
theorem dX6_quoin_76 : decode cX6_quoin 76 = .ok (.invokevirtual 378, 3) := by decide +kernel
theorem dX6_quoin_79 : decode cX6_quoin 79 = .ok (.iload_n 2, 1) := by decide +kernel
theorem dX6_quoin_80 : decode cX6_quoin 80 = .ok (.ifCond .eq 15, 3) := by decide +kernel
theorem dX6_quoin_83 : decode cX6_quoin 83 = .ok (.aload_n 0, 1) := by decide +kernel
theorem dX6_quoin_84 : decode cX6_quoin 84 = .ok (.getfield 33, 3) := by decide +kernel
theorem dX6_quoin_87 : decode cX6_quoin 87 = .ok (.aload_n 3, 1) := by decide +kernel
theorem dX6_quoin_88 : decode cX6_quoin 88 = .ok (.iconst 0, 1) := by decide +kernel
theorem dX6_quoin_89 : decode cX6_quoin 89 = .ok (.invokevirtual 401, 3) := by decide +kernel
theorem dX6_quoin_92 : decode cX6_quoin 92 = .ok (.goto 11, 3) := by decide +kernel
theorem dX6_quoin_95 : decode cX6_quoin 95 = .ok (.aload_n 0, 1) := by decide +kernel
theorem dX6_quoin_96 : decode cX6_quoin 96 = .ok (.getfield 33, 3) := by decide +kernel
theorem dX6_quoin_99 : decode cX6_quoin 99 = .ok (.aload_n 3, 1) := by decide +kernel
theorem dX6_quoin_100 : decode cX6_quoin 100 = .ok (.invokevirtual 405, 3) := by decide +kernel
theorem dX6_quoin_103 : decode cX6_quoin 103 = .ok (.aload_n 3, 1) := by decide +kernel
theorem dX6_quoin_104 : decode cX6_quoin 104 = .ok (.aload_n 0, 1) := by decide +kernel
theorem dX6_quoin_105 : decode cX6_quoin 105 = .ok (.getfield 58, 3) := by decide +kernel
theorem dX6_quoin_108 : decode cX6_quoin 108 = .ok (.invokevirtual 184, 3) := by decide +kernel
theorem dX6_quoin_111 : decode cX6_quoin 111 = .ok (.ireturn, 1) := by decide +kernel
set_option maxRecDepth 20000 in
theorem ggX6_open_X6_needRow : GoodIn wsX6_open wsX6_needRow := goodIn_ca (goodIn_ca (goodIn_r _ [12, 13, 14, 3, 15, 7, 16, 17, 18, 19, 11, 20, 21, 22, 23, 92, 93, 94, 95, 96, 97, 98, 99, 100, 101, 102, 103, 104, 105, 106, 107, 108, 109, 110, 111, 112, 113, 114, 115, 116, 117, 118, 119, 120, 121] (by decide +kernel) (by decide +kernel)) (goodIn_sub (fun _ h => List.mem_cons_of_mem _ (List.mem_append_left _ (List.mem_append_right _ h))) (by decide +kernel))) (goodIn_sub (fun _ h => List.mem_cons_of_mem _ (List.mem_append_right _ h)) (by decide +kernel))
set_option maxRecDepth 20000 in
theorem gX6_open_X6_needRow : GoodIn wsX6_open (wsV RX6 172 RX6 yX6_needRow wsX6_needRow) := goodIn_app (goodIn_of _ (by decide +kernel)) ggX6_open_X6_needRow
set_option maxRecDepth 20000 in
theorem ggX6_open_X3_hasQuoin : GoodIn wsX6_open wsX3_hasQuoin := goodIn_r _ [28, 29, 122, 123, 124, 125, 126, 127, 128, 129, 130, 131] (by decide +kernel) (by decide +kernel)
set_option maxRecDepth 20000 in
theorem gX6_open_X3_hasQuoin : GoodIn wsX6_open (wsV RX6 199 RX3 yX3_hasQuoin wsX3_hasQuoin) := goodIn_app (goodIn_of _ (by decide +kernel)) ggX6_open_X3_hasQuoin
set_option maxRecDepth 20000 in
theorem ggX6_open_X3_roomIn : GoodIn wsX6_open wsX3_roomIn := goodIn_r _ [33, 34, 35, 36, 103, 104, 105, 106, 107, 108, 109, 110, 111, 112, 113, 122, 123, 124, 125, 126, 127, 128, 129, 130, 131] (by decide +kernel) (by decide +kernel)
set_option maxRecDepth 20000 in
theorem gX6_open_X3_roomIn : GoodIn wsX6_open (wsV RX6 281 RX3 yX3_roomIn wsX3_roomIn) := goodIn_app (goodIn_of _ (by decide +kernel)) ggX6_open_X3_roomIn
set_option maxRecDepth 20000 in
theorem ggX6_open_X0_remember : GoodIn wsX6_open wsX0_remember := goodIn_r _ [41, 42, 43, 44, 45, 46, 47, 48, 49, 50, 51, 52, 53, 54, 55, 56, 57, 58, 59, 60, 61, 62, 63, 64, 65, 66, 67, 68, 27, 69, 70, 71, 72, 35, 73, 74, 36, 75, 29, 76, 77, 132, 133, 134, 114, 115, 116, 117, 118, 119, 120, 121, 122, 123, 124, 125, 126, 127, 128, 129, 130, 131] (by decide +kernel) (by decide +kernel)
set_option maxRecDepth 20000 in
theorem gX6_open_X0_remember : GoodIn wsX6_open (wsV RX6 378 RX0 yX0_remember wsX0_remember) := goodIn_app (goodIn_of _ (by decide +kernel)) ggX6_open_X0_remember
set_option maxRecDepth 20000 in
theorem ggX6_open_X5_setQuoin : GoodIn wsX6_open wsX5_setQuoin := goodIn_r _ [81, 60, 82, 83, 84, 25, 26, 27, 28, 29, 114, 115, 116, 117, 118, 119, 120, 121, 122, 123, 124, 125, 126, 127, 128, 129, 130, 131] (by decide +kernel) (by decide +kernel)
set_option maxRecDepth 20000 in
theorem gX6_open_X5_setQuoin : GoodIn wsX6_open (wsV RX6 401 RX5 yX5_setQuoin wsX5_setQuoin) := goodIn_app (goodIn_of _ (by decide +kernel)) ggX6_open_X5_setQuoin
set_option maxRecDepth 20000 in
theorem ggX6_open_X3_gapIn : GoodIn wsX6_open wsX3_gapIn := goodIn_r _ [88, 89, 29, 76, 90, 31, 32, 27, 33, 34, 35, 36, 91, 25, 26, 28, 103, 104, 105, 106, 107, 108, 109, 110, 111, 112, 113, 122, 123, 124, 125, 126, 127, 128, 129, 130, 131] (by decide +kernel) (by decide +kernel)
set_option maxRecDepth 20000 in
theorem gX6_open_X3_gapIn : GoodIn wsX6_open (wsV RX6 184 RX3 yX3_gapIn wsX3_gapIn) := goodIn_app (goodIn_of _ (by decide +kernel)) ggX6_open_X3_gapIn
theorem dX6_open_0 : decode cX6_open 0 = .ok (.aload_n 0, 1) := by decide +kernel
theorem dX6_open_1 : decode cX6_open 1 = .ok (.iload_n 1, 1) := by decide +kernel
theorem dX6_open_2 : decode cX6_open 2 = .ok (.invokevirtual 172, 3) := by decide +kernel
theorem dX6_open_5 : decode cX6_open 5 = .ok (.astore_n 3, 1) := by decide +kernel
theorem dX6_open_6 : decode cX6_open 6 = .ok (.aload_n 3, 1) := by decide +kernel
theorem dX6_open_7 : decode cX6_open 7 = .ok (.invokevirtual 199, 3) := by decide +kernel
theorem dX6_open_10 : decode cX6_open 10 = .ok (.ifCond .eq 18, 3) := by decide +kernel
theorem dX6_open_13 : decode cX6_open 13 = .ok (.iload_n 2, 1) := by decide +kernel
theorem dX6_open_14 : decode cX6_open 14 = .ok (.ifCond .lt 14, 3) := by decide +kernel
theorem dX6_open_17 : decode cX6_open 17 = .ok (.iload_n 2, 1) := by decide +kernel
theorem dX6_open_18 : decode cX6_open 18 = .ok (.aload_n 0, 1) := by decide +kernel
theorem dX6_open_19 : decode cX6_open 19 = .ok (.getfield 58, 3) := by decide +kernel
theorem dX6_open_22 : decode cX6_open 22 = .ok (.getfield 158, 3) := by decide +kernel
theorem dX6_open_25 : decode cX6_open 25 = .ok (.if_icmp .le 14, 3) := by decide +kernel
theorem dX6_open_28 : decode cX6_open 28 = .ok (.new 84, 3) := by decide +kernel
theorem dX6_open_31 : decode cX6_open 31 = .ok (.dup, 1) := by decide +kernel
theorem dX6_open_32 : decode cX6_open 32 = .ok (.ldc_w 409, 3) := by decide +kernel
theorem dX6_open_35 : decode cX6_open 35 = .ok (.invokespecial 88, 3) := by decide +kernel
theorem dX6_open_38 : decode cX6_open 38 = .ok (.athrow, 1) := by decide +kernel
theorem dX6_open_39 : decode cX6_open 39 = .ok (.aload_n 0, 1) := by decide +kernel
theorem dX6_open_40 : decode cX6_open 40 = .ok (.getfield 58, 3) := by decide +kernel
theorem dX6_open_43 : decode cX6_open 43 = .ok (.getfield 155, 3) := by decide +kernel
theorem dX6_open_46 : decode cX6_open 46 = .ok (.iload_n 2, 1) := by decide +kernel
theorem dX6_open_47 : decode cX6_open 47 = .ok (.iadd, 1) := by decide +kernel
theorem dX6_open_48 : decode cX6_open 48 = .ok (.aload_n 3, 1) := by decide +kernel
theorem dX6_open_49 : decode cX6_open 49 = .ok (.aload_n 0, 1) := by decide +kernel
theorem dX6_open_50 : decode cX6_open 50 = .ok (.getfield 58, 3) := by decide +kernel
theorem dX6_open_53 : decode cX6_open 53 = .ok (.invokevirtual 281, 3) := by decide +kernel
theorem dX6_open_56 : decode cX6_open 56 = .ok (.if_icmp .le 14, 3) := by decide +kernel
theorem dX6_open_59 : decode cX6_open 59 = .ok (.new 84, 3) := by decide +kernel
theorem dX6_open_62 : decode cX6_open 62 = .ok (.dup, 1) := by decide +kernel
theorem dX6_open_63 : decode cX6_open 63 = .ok (.ldc_w 411, 3) := by decide +kernel
theorem dX6_open_66 : decode cX6_open 66 = .ok (.invokespecial 88, 3) := by decide +kernel
theorem dX6_open_69 : decode cX6_open 69 = .ok (.athrow, 1) := by decide +kernel
theorem dX6_open_70 : decode cX6_open 70 = .ok (.aload_n 0, 1) := by decide +kernel
