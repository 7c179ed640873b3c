theorem dX7_longestLeft_4 : decode cX7_longestLeft 4 = .ok (.ifCond .eq 5, 3) := by decide +kernel
theorem dX7_longestLeft_7 : decode cX7_longestLeft 7 = .ok (.iconst 0, 1) := by decide +kernel
theorem dX7_longestLeft_8 : decode cX7_longestLeft 8 = .ok (.ireturn, 1) := by decide +kernel
theorem dX7_longestLeft_9 : decode cX7_longestLeft 9 = .ok (.iconst (-1), 1) := by decide +kernel
theorem dX7_longestLeft_10 : decode cX7_longestLeft 10 = .ok (.istore_n 1, 1) := by decide +kernel
theorem dX7_longestLeft_11 : decode cX7_longestLeft 11 = .ok (.iconst 0, 1) := by decide +kernel
theorem dX7_longestLeft_12 : decode cX7_longestLeft 12 = .ok (.istore_n 2, 1) := by decide +kernel
theorem dX7_longestLeft_13 : decode cX7_longestLeft 13 = .ok (.iload_n 2, 1) := by decide +kernel
theorem dX7_longestLeft_14 : decode cX7_longestLeft 14 = .ok (.aload_n 0, 1) := by decide +kernel
theorem dX7_longestLeft_15 : decode cX7_longestLeft 15 = .ok (.getfield 172, 3) := by decide +kernel
theorem dX7_longestLeft_18 : decode cX7_longestLeft 18 = .ok (.if_icmp .ge 37, 3) := by decide +kernel
theorem dX7_longestLeft_21 : decode cX7_longestLeft 21 = .ok (.aload_n 0, 1) := by decide +kernel
theorem dX7_longestLeft_22 : decode cX7_longestLeft 22 = .ok (.getfield 17, 3) := by decide +kernel
theorem dX7_longestLeft_25 : decode cX7_longestLeft 25 = .ok (.bipush 6, 2) := by decide +kernel
theorem dX7_longestLeft_27 : decode cX7_longestLeft 27 = .ok (.iload_n 2, 1) := by decide +kernel
theorem dX7_longestLeft_28 : decode cX7_longestLeft 28 = .ok (.iadd, 1) := by decide +kernel
theorem dX7_longestLeft_29 : decode cX7_longestLeft 29 = .ok (.iaload, 1) := by decide +kernel
theorem dX7_longestLeft_30 : decode cX7_longestLeft 30 = .ok (.ifCond .le 19, 3) := by decide +kernel
theorem dX7_longestLeft_33 : decode cX7_longestLeft 33 = .ok (.iload_n 1, 1) := by decide +kernel
theorem dX7_longestLeft_34 : decode cX7_longestLeft 34 = .ok (.iconst (-1), 1) := by decide +kernel
theorem dX7_longestLeft_35 : decode cX7_longestLeft 35 = .ok (.if_icmp .eq 12, 3) := by decide +kernel
theorem dX7_longestLeft_38 : decode cX7_longestLeft 38 = .ok (.aload_n 0, 1) := by decide +kernel
theorem dX7_longestLeft_39 : decode cX7_longestLeft 39 = .ok (.iload_n 2, 1) := by decide +kernel
theorem dX7_longestLeft_40 : decode cX7_longestLeft 40 = .ok (.iload_n 1, 1) := by decide +kernel
theorem dX7_longestLeft_41 : decode cX7_longestLeft 41 = .ok (.invokevirtual 273, 3) := by decide +kernel
theorem dX7_longestLeft_44 : decode cX7_longestLeft 44 = .ok (.ifCond .eq 5, 3) := by decide +kernel
theorem dX7_longestLeft_47 : decode cX7_longestLeft 47 = .ok (.iload_n 2, 1) := by decide +kernel
theorem dX7_longestLeft_48 : decode cX7_longestLeft 48 = .ok (.istore_n 1, 1) := by decide +kernel
theorem dX7_longestLeft_49 : decode cX7_longestLeft 49 = .ok (.iinc 2 1, 3) := by decide +kernel
theorem dX7_longestLeft_52 : decode cX7_longestLeft 52 = .ok (.goto (-39), 3) := by decide +kernel
theorem dX7_longestLeft_55 : decode cX7_longestLeft 55 = .ok (.iload_n 1, 1) := by decide +kernel
theorem dX7_longestLeft_56 : decode cX7_longestLeft 56 = .ok (.ireturn, 1) := by decide +kernel
set_option maxRecDepth 20000 in
theorem ggX7_lengthLeft_X7_notLoaded : GoodIn wsX7_lengthLeft wsX7_notLoaded := goodIn_r _ [5, 6, 7, 8, 9, 10, 4, 11, 19, 20, 21, 22, 23, 24, 25, 26, 27, 28, 29, 30, 31, 32, 33, 34, 35, 36, 37, 38, 39, 40, 41, 42, 43, 44, 45, 46, 47, 48, 49, 50, 51, 52, 53, 54, 55, 56, 57, 58, 59] (by decide +kernel) (by decide +kernel)
set_option maxRecDepth 20000 in
theorem gX7_lengthLeft_X7_notLoaded : GoodIn wsX7_lengthLeft (wsV RX7 320 RX7 yX7_notLoaded wsX7_notLoaded) := goodIn_app (goodIn_of _ (by decide +kernel)) ggX7_lengthLeft_X7_notLoaded
set_option maxRecDepth 20000 in
theorem ggX7_lengthLeft_X7_leftAll : GoodIn wsX7_lengthLeft wsX7_leftAll := goodIn_ca (goodIn_r _ [15, 16, 17, 18, 19, 20, 21, 22, 23, 24, 25, 26, 27, 28, 29, 30, 31, 32, 33, 34, 35, 36, 37, 38, 39, 40, 41, 42, 43, 44, 45, 46, 47, 48, 49, 50, 51, 52, 53, 54, 55, 56, 57, 58, 59] (by decide +kernel) (by decide +kernel)) (goodIn_sub (fun _ h => List.mem_cons_of_mem _ (List.mem_append_right _ h)) (by decide +kernel))
set_option maxRecDepth 20000 in
theorem gX7_lengthLeft_X7_leftAll : GoodIn wsX7_lengthLeft (wsV RX7 329 RX7 yX7_leftAll wsX7_leftAll) := goodIn_app (goodIn_of _ (by decide +kernel)) ggX7_lengthLeft_X7_leftAll
theorem dX7_lengthLeft_0 : decode cX7_lengthLeft 0 = .ok (.aload_n 0, 1) := by decide +kernel
theorem dX7_lengthLeft_1 : decode cX7_lengthLeft 1 = .ok (.invokevirtual 320, 3) := by decide +kernel
theorem dX7_lengthLeft_4 : decode cX7_lengthLeft 4 = .ok (.ifCond .eq 7, 3) := by decide +kernel
theorem dX7_lengthLeft_7 : decode cX7_lengthLeft 7 = .ok (.iconst 0, 1) := by decide +kernel
theorem dX7_lengthLeft_8 : decode cX7_lengthLeft 8 = .ok (.goto 8, 3) := by decide +kernel
theorem dX7_lengthLeft_11 : decode cX7_lengthLeft 11 = .ok (.aload_n 0, 1) := by decide +kernel
theorem dX7_lengthLeft_12 : decode cX7_lengthLeft 12 = .ok (.iconst 1, 1) := by decide +kernel
theorem dX7_lengthLeft_13 : decode cX7_lengthLeft 13 = .ok (.invokevirtual 329, 3) := by decide +kernel
theorem dX7_lengthLeft_16 : decode cX7_lengthLeft 16 = .ok (.ireturn, 1) := by decide +kernel
set_option maxRecDepth 20000 in
theorem ggX7_meanGap_X7_notLoaded : GoodIn wsX7_meanGap wsX7_notLoaded := goodIn_r _ [6, 7, 8, 9, 10, 11, 5, 12, 41, 42, 43, 44, 45, 46, 47, 48, 49, 50, 51, 52, 53, 54, 55, 56, 57, 58, 59, 60, 61, 62, 63, 64, 65, 66, 67, 68, 69, 70, 71, 72, 73, 74, 75, 76, 77, 78, 79, 80, 81] (by decide +kernel) (by decide +kernel)
set_option maxRecDepth 20000 in
theorem gX7_meanGap_X7_notLoaded : GoodIn wsX7_meanGap (wsV RX7 320 RX7 yX7_notLoaded wsX7_notLoaded) := goodIn_app (goodIn_of _ (by decide +kernel)) ggX7_meanGap_X7_notLoaded
set_option maxRecDepth 20000 in
theorem ggX7_meanGap_X7_gap : GoodIn wsX7_meanGap wsX7_gap := goodIn_ca (goodIn_r _ [16, 17, 18, 19, 20, 5, 21, 22, 23, 24, 25, 26, 27, 28, 29, 30, 31, 32, 33, 34, 35, 36, 37, 38, 39, 40, 41, 42, 43, 44, 45, 46, 47, 48, 49, 50, 51, 52, 53, 54, 55, 56, 57, 58, 59, 60, 61, 62, 63, 64, 65, 66, 67, 68, 69, 70, 71, 72, 73, 74, 75, 76, 77, 78, 79, 80, 81] (by decide +kernel) (by decide +kernel)) (goodIn_sub (fun _ h => List.mem_cons_of_mem _ (List.mem_append_right _ h)) (by decide +kernel))
set_option maxRecDepth 20000 in
theorem gX7_meanGap_X7_gap : GoodIn wsX7_meanGap (wsV RX7 192 RX7 yX7_gap wsX7_gap) := goodIn_app (goodIn_of _ (by decide +kernel)) ggX7_meanGap_X7_gap
theorem dX7_meanGap_0 : decode cX7_meanGap 0 = .ok (.aload_n 0, 1) := by decide +kernel
theorem dX7_meanGap_1 : decode cX7_meanGap 1 = .ok (.invokevirtual 320, 3) := by decide +kernel
theorem dX7_meanGap_4 : decode cX7_meanGap 4 = .ok (.ifCond .eq 5, 3) := by decide +kernel
theorem dX7_meanGap_7 : decode cX7_meanGap 7 = .ok (.dconst 0, 1) := by decide +kernel
theorem dX7_meanGap_8 : decode cX7_meanGap 8 = .ok (.dreturn, 1) := by decide +kernel
theorem dX7_meanGap_9 : decode cX7_meanGap 9 = .ok (.iconst 0, 1) := by decide +kernel
theorem dX7_meanGap_10 : decode cX7_meanGap 10 = .ok (.istore_n 1, 1) := by decide +kernel
theorem dX7_meanGap_11 : decode cX7_meanGap 11 = .ok (.iconst 0, 1) := by decide +kernel
theorem dX7_meanGap_12 : decode cX7_meanGap 12 = .ok (.istore_n 2, 1) := by decide +kernel
theorem dX7_meanGap_13 : decode cX7_meanGap 13 = .ok (.iload_n 2, 1) := by decide +kernel
theorem dX7_meanGap_14 : decode cX7_meanGap 14 = .ok (.aload_n 0, 1) := by decide +kernel
theorem dX7_meanGap_15 : decode cX7_meanGap 15 = .ok (.getfield 154, 3) := by decide +kernel
theorem dX7_meanGap_18 : decode cX7_meanGap 18 = .ok (.if_icmp .ge 17, 3) := by decide +kernel
theorem dX7_meanGap_21 : decode cX7_meanGap 21 = .ok (.iload_n 1, 1) := by decide +kernel
theorem dX7_meanGap_22 : decode cX7_meanGap 22 = .ok (.aload_n 0, 1) := by decide +kernel
theorem dX7_meanGap_23 : decode cX7_meanGap 23 = .ok (.iload_n 2, 1) := by decide +kernel
theorem dX7_meanGap_24 : decode cX7_meanGap 24 = .ok (.invokevirtual 192, 3) := by decide +kernel
theorem dX7_meanGap_27 : decode cX7_meanGap 27 = .ok (.iadd, 1) := by decide +kernel
theorem dX7_meanGap_28 : decode cX7_meanGap 28 = .ok (.istore_n 1, 1) := by decide +kernel
theorem dX7_meanGap_29 : decode cX7_meanGap 29 = .ok (.iinc 2 1, 3) := by decide +kernel
theorem dX7_meanGap_32 : decode cX7_meanGap 32 = .ok (.goto (-19), 3) := by decide +kernel
theorem dX7_meanGap_35 : decode cX7_meanGap 35 = .ok (.iload_n 1, 1) := by decide +kernel
theorem dX7_meanGap_36 : decode cX7_meanGap 36 = .ok (.i2d, 1) := by decide +kernel
theorem dX7_meanGap_37 : decode cX7_meanGap 37 = .ok (.aload_n 0, 1) := by decide +kernel
theorem dX7_meanGap_38 : decode cX7_meanGap 38 = .ok (.getfield 154, 3) := by decide +kernel
theorem dX7_meanGap_41 : decode cX7_meanGap 41 = .ok (.i2d, 1) := by decide +kernel
theorem dX7_meanGap_42 : decode cX7_meanGap 42 = .ok (.ddiv, 1) := by decide +kernel
theorem dX7_meanGap_43 : decode cX7_meanGap 43 = .ok (.dreturn, 1) := by decide +kernel
set_option maxRecDepth 20000 in
theorem ggX7_woodShare_X7_notLoaded : GoodIn wsX7_woodShare wsX7_notLoaded := goodIn_r _ [6, 7, 8, 9, 10, 11, 5, 12, 30, 31, 32, 33, 34, 35, 36, 37, 38, 39, 40, 41, 42, 43, 44, 45, 46, 47, 48, 49, 50, 51, 52, 53, 54, 55, 56, 57, 58, 59, 60, 61, 62, 63, 64, 65, 66, 67, 68, 69, 70] (by decide +kernel) (by decide +kernel)
set_option maxRecDepth 20000 in
theorem gX7_woodShare_X7_notLoaded : GoodIn wsX7_woodShare (wsV RX7 320 RX7 yX7_notLoaded wsX7_notLoaded) := goodIn_app (goodIn_of _ (by decide +kernel)) ggX7_woodShare_X7_notLoaded
set_option maxRecDepth 20000 in
theorem ggX7_woodShare_X7_sumOver : GoodIn wsX7_woodShare wsX7_sumOver := goodIn_ca (goodIn_r _ [16, 1, 17, 18, 19, 5, 20, 21, 30, 31, 32, 33, 34, 35, 36, 37, 38, 39, 40, 41, 42, 43, 44, 45, 46, 47, 48, 49, 50, 51, 52, 53, 54, 55, 56, 57, 58, 59, 60, 61, 62, 63, 64, 65, 66, 67, 68, 69, 70] (by decide +kernel) (by decide +kernel)) (goodIn_sub (fun _ h => List.mem_cons_of_mem _ (List.mem_append_right _ h)) (by decide +kernel))
set_option maxRecDepth 20000 in
theorem gX7_woodShare_X7_sumOver : GoodIn wsX7_woodShare (wsV RX7 323 RX7 yX7_sumOver wsX7_sumOver) := goodIn_app (goodIn_of _ (by decide +kernel)) ggX7_woodShare_X7_sumOver
set_option maxRecDepth 20000 in
theorem ggX7_woodShare_X7_woodIn : GoodIn wsX7_woodShare wsX7_woodIn := goodIn_ca (goodIn_r _ [25, 26, 17, 18, 19, 5, 20, 21, 27, 28, 29, 30, 31, 32, 33, 34, 35, 36, 37, 38, 39, 40, 41, 42, 43, 44, 45, 46, 47, 48, 49, 50, 51, 52, 53, 54, 55, 56, 57, 58, 59, 60, 61, 62, 63, 64, 65, 66, 67, 68, 69, 70] (by decide +kernel) (by decide +kernel)) (goodIn_sub (fun _ h => List.mem_cons_of_mem _ (List.mem_append_right _ h)) (by decide +kernel))
set_option maxRecDepth 20000 in
theorem gX7_woodShare_X7_woodIn : GoodIn wsX7_woodShare (wsV RX7 270 RX7 yX7_woodIn wsX7_woodIn) := goodIn_app (goodIn_of _ (by decide +kernel)) ggX7_woodShare_X7_woodIn
theorem dX7_woodShare_0 : decode cX7_woodShare 0 = .ok (.aload_n 0, 1) := by decide +kernel
theorem dX7_woodShare_1 : decode cX7_woodShare 1 = .ok (.invokevirtual 320, 3) := by decide +kernel
theorem dX7_woodShare_4 : decode cX7_woodShare 4 = .ok (.ifCond .ne 11, 3) := by decide +kernel
theorem dX7_woodShare_7 : decode cX7_woodShare 7 = .ok (.aload_n 0, 1) := by decide +kernel
theorem dX7_woodShare_8 : decode cX7_woodShare 8 = .ok (.iconst 1, 1) := by decide +kernel
theorem dX7_woodShare_9 : decode cX7_woodShare 9 = .ok (.invokevirtual 323, 3) := by decide +kernel
theorem dX7_woodShare_12 : decode cX7_woodShare 12 = .ok (.ifCond .ne 5, 3) := by decide +kernel
theorem dX7_woodShare_15 : decode cX7_woodShare 15 = .ok (.fconst 0, 1) := by decide +kernel
theorem dX7_woodShare_16 : decode cX7_woodShare 16 = .ok (.freturn, 1) := by decide +kernel
theorem dX7_woodShare_17 : decode cX7_woodShare 17 = .ok (.iconst 0, 1) := by decide +kernel
theorem dX7_woodShare_18 : decode cX7_woodShare 18 = .ok (.istore_n 1, 1) := by decide +kernel
theorem dX7_woodShare_19 : decode cX7_woodShare 19 = .ok (.iconst 0, 1) := by decide +kernel
theorem dX7_woodShare_20 : decode cX7_woodShare 20 = .ok (.istore_n 2, 1) := by decide +kernel
theorem dX7_woodShare_21 : decode cX7_woodShare 21 = .ok (.iload_n 2, 1) := by decide +kernel
theorem dX7_woodShare_22 : decode cX7_woodShare 22 = .ok (.aload_n 0, 1) := by decide +kernel
theorem dX7_woodShare_23 : decode cX7_woodShare 23 = .ok (.getfield 154, 3) := by decide +kernel
theorem dX7_woodShare_26 : decode cX7_woodShare 26 = .ok (.if_icmp .ge 17, 3) := by decide +kernel
theorem dX7_woodShare_29 : decode cX7_woodShare 29 = .ok (.iload_n 1, 1) := by decide +kernel
theorem dX7_woodShare_30 : decode cX7_woodShare 30 = .ok (.aload_n 0, 1) := by decide +kernel
theorem dX7_woodShare_31 : decode cX7_woodShare 31 = .ok (.iload_n 2, 1) := by decide +kernel
theorem dX7_woodShare_32 : decode cX7_woodShare 32 = .ok (.invokevirtual 270, 3) := by decide +kernel
theorem dX7_woodShare_35 : decode cX7_woodShare 35 = .ok (.iadd, 1) := by decide +kernel
theorem dX7_woodShare_36 : decode cX7_woodShare 36 = .ok (.istore_n 1, 1) := by decide +kernel
theorem dX7_woodShare_37 : decode cX7_woodShare 37 = .ok (.iinc 2 1, 3) := by decide +kernel
theorem dX7_woodShare_40 : decode cX7_woodShare 40 = .ok (.goto (-19), 3) := by decide +kernel
theorem dX7_woodShare_43 : decode cX7_woodShare 43 = .ok (.iload_n 1, 1) := by decide +kernel
theorem dX7_woodShare_44 : decode cX7_woodShare 44 = .ok (.i2f, 1) := by decide +kernel
theorem dX7_woodShare_45 : decode cX7_woodShare 45 = .ok (.aload_n 0, 1) := by decide +kernel
theorem dX7_woodShare_46 : decode cX7_woodShare 46 = .ok (.iconst 1, 1) := by decide +kernel
theorem dX7_woodShare_47 : decode cX7_woodShare 47 = .ok (.invokevirtual 323, 3) := by decide +kernel
theorem dX7_woodShare_50 : decode cX7_woodShare 50 = .ok (.i2f, 1) := by decide +kernel
theorem dX7_woodShare_51 : decode cX7_woodShare 51 = .ok (.fdiv, 1) := by decide +kernel
theorem dX7_woodShare_52 : decode cX7_woodShare 52 = .ok (.freturn, 1) := by decide +kernel
set_option maxRecDepth 20000 in
theorem ggX7_goodShare_X7_notLoaded : GoodIn wsX7_goodShare wsX7_notLoaded := goodIn_r _ [6, 7, 8, 9, 10, 11, 5, 12, 13, 14, 15, 16, 17, 18, 19, 20, 21, 22, 23, 24, 25, 26, 27, 28, 29, 30, 31, 32, 33, 34, 35, 36, 37, 38, 39, 40, 41, 42, 43, 44, 45, 46, 47, 48, 49, 50, 51, 52, 53] (by decide +kernel) (by decide +kernel)
set_option maxRecDepth 20000 in
theorem gX7_goodShare_X7_notLoaded : GoodIn wsX7_goodShare (wsV RX7 320 RX7 yX7_notLoaded wsX7_notLoaded) := goodIn_app (goodIn_of _ (by decide +kernel)) ggX7_goodShare_X7_notLoaded
theorem dX7_goodShare_0 : decode cX7_goodShare 0 = .ok (.aload_n 0, 1) := by decide +kernel
theorem dX7_goodShare_1 : decode cX7_goodShare 1 = .ok (.invokevirtual 320, 3) := by decide +kernel
theorem dX7_goodShare_4 : decode cX7_goodShare 4 = .ok (.ifCond .ne 12, 3) := by decide +kernel
theorem dX7_goodShare_7 : decode cX7_goodShare 7 = .ok (.aload_n 0, 1) := by decide +kernel
theorem dX7_goodShare_8 : decode cX7_goodShare 8 = .ok (.getfield 17, 3) := by decide +kernel
theorem dX7_goodShare_11 : decode cX7_goodShare 11 = .ok (.iconst 1, 1) := by decide +kernel
theorem dX7_goodShare_12 : decode cX7_goodShare 12 = .ok (.iaload, 1) := by decide +kernel
theorem dX7_goodShare_13 : decode cX7_goodShare 13 = .ok (.ifCond .ne 7, 3) := by decide +kernel
theorem dX7_goodShare_16 : decode cX7_goodShare 16 = .ok (.fconst 0, 1) := by decide +kernel
theorem dX7_goodShare_17 : decode cX7_goodShare 17 = .ok (.goto 18, 3) := by decide +kernel
theorem dX7_goodShare_20 : decode cX7_goodShare 20 = .ok (.aload_n 0, 1) := by decide +kernel
theorem dX7_goodShare_21 : decode cX7_goodShare 21 = .ok (.getfield 17, 3) := by decide +kernel
theorem dX7_goodShare_24 : decode cX7_goodShare 24 = .ok (.iconst 2, 1) := by decide +kernel
theorem dX7_goodShare_25 : decode cX7_goodShare 25 = .ok (.iaload, 1) := by decide +kernel
theorem dX7_goodShare_26 : decode cX7_goodShare 26 = .ok (.i2f, 1) := by decide +kernel
theorem dX7_goodShare_27 : decode cX7_goodShare 27 = .ok (.aload_n 0, 1) := by decide +kernel
theorem dX7_goodShare_28 : decode cX7_goodShare 28 = .ok (.getfield 17, 3) := by decide +kernel
theorem dX7_goodShare_31 : decode cX7_goodShare 31 = .ok (.iconst 1, 1) := by decide +kernel
theorem dX7_goodShare_32 : decode cX7_goodShare 32 = .ok (.iaload, 1) := by decide +kernel
theorem dX7_goodShare_33 : decode cX7_goodShare 33 = .ok (.i2f, 1) := by decide +kernel
theorem dX7_goodShare_34 : decode cX7_goodShare 34 = .ok (.fdiv, 1) := by decide +kernel
theorem dX7_goodShare_35 : decode cX7_goodShare 35 = .ok (.freturn, 1) := by decide +kernel
set_option maxRecDepth 20000 in
theorem ggX7_choice_X7_noRow : GoodIn wsX7_choice wsX7_noRow := goodIn_r _ [6, 7, 8, 9, 5, 10, 11, 12, 13, 14, 15, 16, 17, 18, 19, 20, 21, 22, 23, 24, 116, 117, 118, 119, 120, 121, 122, 123, 124, 125, 126, 127, 128, 129, 130, 131, 132, 133, 134, 135, 136, 137, 138, 139, 140, 141, 142, 143, 144, 145, 146, 147, 148, 149, 150, 151, 152, 153, 154, 155, 156] (by decide +kernel) (by decide +kernel)
set_option maxRecDepth 20000 in
theorem gX7_choice_X7_noRow : GoodIn wsX7_choice (wsV RX7 335 RX7 yX7_noRow wsX7_noRow) := goodIn_app (goodIn_of _ (by decide +kernel)) ggX7_choice_X7_noRow
set_option maxRecDepth 20000 in
theorem ggX7_choice_X7_in : GoodIn wsX7_choice wsX7_in := goodIn_r _ [24] (by decide +kernel) (by decide +kernel)
set_option maxRecDepth 20000 in
theorem gX7_choice_X7_in : GoodIn wsX7_choice (va_wsS RX7 143 yX7_in wsX7_in) := goodIn_app (goodIn_of _ (by decide +kernel)) ggX7_choice_X7_in
set_option maxRecDepth 20000 in
theorem ggX7_choice_X7_refuse : GoodIn wsX7_choice wsX7_refuse := goodIn_r _ [16, 11, 116, 117, 118, 119, 120, 121, 122, 123, 124, 125, 126, 127, 128, 129, 130, 131, 132, 133, 134, 135, 136, 137, 138, 139, 140, 141, 142, 143, 144, 145, 146, 147, 148, 149, 150, 151, 152, 153, 154, 155, 156] (by decide +kernel) (by decide +kernel)
set_option maxRecDepth 20000 in
theorem gX7_choice_X7_refuse : GoodIn wsX7_choice (wsV RX7 74 RX7 yX7_refuse wsX7_refuse) := goodIn_app (goodIn_of _ (by decide +kernel)) ggX7_choice_X7_refuse
set_option maxRecDepth 20000 in
theorem ggX7_choice_X7_chooses : GoodIn wsX7_choice wsX7_chooses := goodIn_ca (goodIn_r _ [28, 29, 1, 30, 31, 32, 33, 34, 5, 35, 36, 37, 38, 39, 40, 41, 42, 43, 44, 45, 46, 47, 48, 49, 50, 51, 52, 53, 54, 55, 56, 57, 58, 59, 60, 61, 62, 63, 64, 65, 66, 67, 68, 69, 70, 71, 72, 73, 74, 75, 76, 77, 78, 79, 80, 81, 82, 83, 84, 85, 86, 87, 88, 89, 90, 91, 92, 93, 94, 95, 96, 97, 98, 99, 100, 101, 102, 103, 104, 105, 106, 107, 116, 117, 118, 119, 120, 121, 122, 123, 124, 125, 126, 127, 128, 129, 130, 131, 132, 133, 134, 135, 136, 137, 138, 139, 140, 141, 142, 143, 144, 145, 146, 147, 148, 149, 150, 151, 152, 153, 154, 155, 156] (by decide +kernel) (by decide +kernel)) (goodIn_sub (fun _ h => List.mem_cons_of_mem _ (List.mem_append_right _ h)) (by decide +kernel))
set_option maxRecDepth 20000 in
theorem gX7_choice_X7_chooses : GoodIn wsX7_choice (wsV RX7 311 RX7 yX7_chooses wsX7_chooses) := goodIn_app (goodIn_of _ (by decide +kernel)) ggX7_choice_X7_chooses
set_option maxRecDepth 20000 in
theorem ggX7_choice_X7_chosenMany : GoodIn wsX7_choice wsX7_chosenMany := goodIn_ca (goodIn_r _ [111, 68, 78, 107, 116, 117, 118, 119, 120, 121, 122, 123, 124, 125, 126, 127, 128, 129, 130, 131, 132, 133, 134, 135, 136, 137, 138, 139, 140, 141, 142, 143, 144, 145, 146, 147, 148, 149, 150, 151, 152, 153, 154, 155, 156] (by decide +kernel) (by decide +kernel)) (goodIn_sub (fun _ h => List.mem_cons_of_mem _ (List.mem_append_right _ h)) (by decide +kernel))
set_option maxRecDepth 20000 in
theorem gX7_choice_X7_chosenMany : GoodIn wsX7_choice (wsV RX7 344 RX7 yX7_chosenMany wsX7_chosenMany) := goodIn_app (goodIn_of _ (by decide +kernel)) ggX7_choice_X7_chosenMany
set_option maxRecDepth 20000 in
theorem ggX7_choice_X7_chosenLong : GoodIn wsX7_choice wsX7_chosenLong := goodIn_ca (goodIn_r _ [115, 68, 107, 45, 116, 117, 118, 119, 120, 121, 122, 123, 124, 125, 126, 127, 128, 129, 130, 131, 132, 133, 134, 135, 136, 137, 138, 139, 140, 141, 142, 143, 144, 145, 146, 147, 148, 149, 150, 151, 152, 153, 154, 155, 156] (by decide +kernel) (by decide +kernel)) (goodIn_sub (fun _ h => List.mem_cons_of_mem _ (List.mem_append_right _ h)) (by decide +kernel))
set_option maxRecDepth 20000 in
theorem gX7_choice_X7_chosenLong : GoodIn wsX7_choice (wsV RX7 347 RX7 yX7_chosenLong wsX7_chosenLong) := goodIn_app (goodIn_of _ (by decide +kernel)) ggX7_choice_X7_chosenLong
theorem dX7_choice_0 : decode cX7_choice 0 = .ok (.aload_n 0, 1) := by decide +kernel
theorem dX7_choice_1 : decode cX7_choice 1 = .ok (.iload_n 1, 1) := by decide +kernel
theorem dX7_choice_2 : decode cX7_choice 2 = .ok (.invokevirtual 335, 3) := by decide +kernel
theorem dX7_choice_5 : decode cX7_choice 5 = .ok (.ifCond .ne 25, 3) := by decide +kernel
theorem dX7_choice_8 : decode cX7_choice 8 = .ok (.aload_n 0, 1) := by decide +kernel
theorem dX7_choice_9 : decode cX7_choice 9 = .ok (.iload_n 2, 1) := by decide +kernel
theorem dX7_choice_10 : decode cX7_choice 10 = .ok (.iconst 0, 1) := by decide +kernel
theorem dX7_choice_11 : decode cX7_choice 11 = .ok (.iconst 3, 1) := by decide +kernel
theorem dX7_choice_12 : decode cX7_choice 12 = .ok (.invokestatic 143, 3) := by decide +kernel
theorem dX7_choice_15 : decode cX7_choice 15 = .ok (.ifCond .ne 7, 3) := by decide +kernel
theorem dX7_choice_18 : decode cX7_choice 18 = .ok (.iconst 1, 1) := by decide +kernel
theorem dX7_choice_19 : decode cX7_choice 19 = .ok (.goto 4, 3) := by decide +kernel
theorem dX7_choice_22 : decode cX7_choice 22 = .ok (.iconst 0, 1) := by decide +kernel
theorem dX7_choice_23 : decode cX7_choice 23 = .ok (.iconst 3, 1) := by decide +kernel
theorem dX7_choice_24 : decode cX7_choice 24 = .ok (.invokevirtual 74, 3) := by decide +kernel
theorem dX7_choice_27 : decode cX7_choice 27 = .ok (.ifCond .eq 5, 3) := by decide +kernel
theorem dX7_choice_30 : decode cX7_choice 30 = .ok (.iconst 0, 1) := by decide +kernel
theorem dX7_choice_31 : decode cX7_choice 31 = .ok (.ireturn, 1) := by decide +kernel
theorem dX7_choice_32 : decode cX7_choice 32 = .ok (.aload_n 0, 1) := by decide +kernel
theorem dX7_choice_33 : decode cX7_choice 33 = .ok (.iload_n 1, 1) := by decide +kernel
theorem dX7_choice_34 : decode cX7_choice 34 = .ok (.invokevirtual 311, 3) := by decide +kernel
theorem dX7_choice_37 : decode cX7_choice 37 = .ok (.ifCond .ne 5, 3) := by decide +kernel
theorem dX7_choice_40 : decode cX7_choice 40 = .ok (.iconst (-1), 1) := by decide +kernel
theorem dX7_choice_41 : decode cX7_choice 41 = .ok (.ireturn, 1) := by decide +kernel
theorem dX7_choice_42 : decode cX7_choice 42 = .ok (.iload_n 2, 1) := by decide +kernel
theorem dX7_choice_43 : decode cX7_choice 43 = .ok (.ifCond .ne 11, 3) := by decide +kernel
theorem dX7_choice_46 : decode cX7_choice 46 = .ok (.aload_n 0, 1) := by decide +kernel
theorem dX7_choice_47 : decode cX7_choice 47 = .ok (.iconst 0, 1) := by decide +kernel
theorem dX7_choice_48 : decode cX7_choice 48 = .ok (.invokevirtual 344, 3) := by decide +kernel
theorem dX7_choice_51 : decode cX7_choice 51 = .ok (.goto 32, 3) := by decide +kernel
theorem dX7_choice_54 : decode cX7_choice 54 = .ok (.iload_n 2, 1) := by decide +kernel
theorem dX7_choice_55 : decode cX7_choice 55 = .ok (.iconst 1, 1) := by decide +kernel
theorem dX7_choice_56 : decode cX7_choice 56 = .ok (.if_icmp .ne 10, 3) := by decide +kernel
theorem dX7_choice_59 : decode cX7_choice 59 = .ok (.aload_n 0, 1) := by decide +kernel
theorem dX7_choice_60 : decode cX7_choice 60 = .ok (.getfield 298, 3) := by decide +kernel
theorem dX7_choice_63 : decode cX7_choice 63 = .ok (.goto 20, 3) := by decide +kernel
theorem dX7_choice_66 : decode cX7_choice 66 = .ok (.iload_n 2, 1) := by decide +kernel
theorem dX7_choice_67 : decode cX7_choice 67 = .ok (.iconst 2, 1) := by decide +kernel
theorem dX7_choice_68 : decode cX7_choice 68 = .ok (.if_icmp .ne 10, 3) := by decide +kernel
theorem dX7_choice_71 : decode cX7_choice 71 = .ok (.aload_n 0, 1) := by decide +kernel
theorem dX7_choice_72 : decode cX7_choice 72 = .ok (.invokevirtual 347, 3) := by decide +kernel
theorem dX7_choice_75 : decode cX7_choice 75 = .ok (.goto 8, 3) := by decide +kernel
theorem dX7_choice_78 : decode cX7_choice 78 = .ok (.aload_n 0, 1) := by decide +kernel
theorem dX7_choice_79 : decode cX7_choice 79 = .ok (.iconst 1, 1) := by decide +kernel
theorem dX7_choice_80 : decode cX7_choice 80 = .ok (.invokevirtual 344, 3) := by decide +kernel
theorem dX7_choice_83 : decode cX7_choice 83 = .ok (.ireturn, 1) := by decide +kernel
set_option maxRecDepth 20000 in
theorem ggX7_chosen_X7_noRow : GoodIn wsX7_chosen wsX7_noRow := goodIn_r _ [6, 7, 8, 9, 5, 10, 11, 12, 13, 14, 15, 16, 17, 18, 19, 20, 21, 22, 23, 24, 112, 113, 114, 115, 116, 117, 118, 119, 120, 121, 122, 123, 124, 125, 126, 127, 128, 129, 130, 131, 132, 133, 134, 135, 136, 137, 138, 139, 140, 141, 142, 143, 144, 145, 146, 147, 148, 149, 150, 151, 152] (by decide +kernel) (by decide +kernel)
set_option maxRecDepth 20000 in
theorem gX7_chosen_X7_noRow : GoodIn wsX7_chosen (wsV RX7 335 RX7 yX7_noRow wsX7_noRow) := goodIn_app (goodIn_of _ (by decide +kernel)) ggX7_chosen_X7_noRow
set_option maxRecDepth 20000 in
theorem ggX7_chosen_X7_isKind : GoodIn wsX7_chosen wsX7_isKind := goodIn_r _ [28, 29, 22, 23, 5, 24, 112, 113, 114, 115, 116, 117, 118, 119, 120, 121, 122, 123, 124, 125, 126, 127, 128, 129, 130, 131, 132, 133, 134, 135, 136, 137, 138, 139, 140, 141, 142, 143, 144, 145, 146, 147, 148, 149, 150, 151, 152] (by decide +kernel) (by decide +kernel)
set_option maxRecDepth 20000 in
theorem gX7_chosen_X7_isKind : GoodIn wsX7_chosen (wsV RX7 338 RX7 yX7_isKind wsX7_isKind) := goodIn_app (goodIn_of _ (by decide +kernel)) ggX7_chosen_X7_isKind
set_option maxRecDepth 20000 in
theorem ggX7_chosen_X7_refuse : GoodIn wsX7_chosen wsX7_refuse := goodIn_r _ [16, 11, 112, 113, 114, 115, 116, 117, 118, 119, 120, 121, 122, 123, 124, 125, 126, 127, 128, 129, 130, 131, 132, 133, 134, 135, 136, 137, 138, 139, 140, 141, 142, 143, 144, 145, 146, 147, 148, 149, 150, 151, 152] (by decide +kernel) (by decide +kernel)
set_option maxRecDepth 20000 in
theorem gX7_chosen_X7_refuse : GoodIn wsX7_chosen (wsV RX7 74 RX7 yX7_refuse wsX7_refuse) := goodIn_app (goodIn_of _ (by decide +kernel)) ggX7_chosen_X7_refuse
set_option maxRecDepth 20000 in
theorem ggX7_chosen_X7_chooses : GoodIn wsX7_chosen wsX7_chooses := goodIn_ca (goodIn_r _ [33, 34, 35, 36, 37, 38, 39, 40, 5, 41, 42, 43, 44, 45, 46, 47, 48, 49, 50, 51, 52, 53, 54, 55, 56, 57, 58, 59, 60, 61, 62, 63, 64, 65, 66, 67, 68, 69, 70, 71, 72, 73, 29, 74, 75, 76, 77, 78, 79, 80, 81, 82, 83, 84, 85, 86, 87, 88, 89, 90, 91, 92, 93, 94, 95, 96, 97, 98, 99, 100, 101, 102, 103, 104, 105, 106, 107, 108, 109, 110, 111, 1, 112, 113, 114, 115, 116, 117, 118, 119, 120, 121, 122, 123, 124, 125, 126, 127, 128, 129, 130, 131, 132, 133, 134, 135, 136, 137, 138, 139, 140, 141, 142, 143, 144, 145, 146, 147, 148, 149, 150, 151, 152] (by decide +kernel) (by decide +kernel)) (goodIn_sub (fun _ h => List.mem_cons_of_mem _ (List.mem_append_right _ h)) (by decide +kernel))
set_option maxRecDepth 20000 in
theorem gX7_chosen_X7_chooses : GoodIn wsX7_chosen (wsV RX7 311 RX7 yX7_chooses wsX7_chooses) := goodIn_app (goodIn_of _ (by decide +kernel)) ggX7_chosen_X7_chooses
theorem dX7_chosen_0 : decode cX7_chosen 0 = .ok (.aload_n 0, 1) := by decide +kernel
theorem dX7_chosen_1 : decode cX7_chosen 1 = .ok (.iload_n 1, 1) := by decide +kernel
theorem dX7_chosen_2 : decode cX7_chosen 2 = .ok (.invokevirtual 335, 3) := by decide +kernel
theorem dX7_chosen_5 : decode cX7_chosen 5 = .ok (.ifCond .ne 24, 3) := by decide +kernel
theorem dX7_chosen_8 : decode cX7_chosen 8 = .ok (.aload_n 0, 1) := by decide +kernel
theorem dX7_chosen_9 : decode cX7_chosen 9 = .ok (.aload_n 0, 1) := by decide +kernel
theorem dX7_chosen_10 : decode cX7_chosen 10 = .ok (.iload_n 2, 1) := by decide +kernel
theorem dX7_chosen_11 : decode cX7_chosen 11 = .ok (.invokevirtual 338, 3) := by decide +kernel
theorem dX7_chosen_14 : decode cX7_chosen 14 = .ok (.ifCond .ne 7, 3) := by decide +kernel
theorem dX7_chosen_17 : decode cX7_chosen 17 = .ok (.iconst 1, 1) := by decide +kernel
theorem dX7_chosen_18 : decode cX7_chosen 18 = .ok (.goto 4, 3) := by decide +kernel
theorem dX7_chosen_21 : decode cX7_chosen 21 = .ok (.iconst 0, 1) := by decide +kernel
theorem dX7_chosen_22 : decode cX7_chosen 22 = .ok (.iconst 2, 1) := by decide +kernel
theorem dX7_chosen_23 : decode cX7_chosen 23 = .ok (.invokevirtual 74, 3) := by decide +kernel
theorem dX7_chosen_26 : decode cX7_chosen 26 = .ok (.ifCond .eq 5, 3) := by decide +kernel
theorem dX7_chosen_29 : decode cX7_chosen 29 = .ok (.iconst 0, 1) := by decide +kernel
theorem dX7_chosen_30 : decode cX7_chosen 30 = .ok (.ireturn, 1) := by decide +kernel
theorem dX7_chosen_31 : decode cX7_chosen 31 = .ok (.aload_n 0, 1) := by decide +kernel
theorem dX7_chosen_32 : decode cX7_chosen 32 = .ok (.iload_n 1, 1) := by decide +kernel
theorem dX7_chosen_33 : decode cX7_chosen 33 = .ok (.invokevirtual 311, 3) := by decide +kernel
theorem dX7_chosen_36 : decode cX7_chosen 36 = .ok (.ifCond .eq 12, 3) := by decide +kernel
theorem dX7_chosen_39 : decode cX7_chosen 39 = .ok (.aload_n 0, 1) := by decide +kernel
theorem dX7_chosen_40 : decode cX7_chosen 40 = .ok (.getfield 55, 3) := by decide +kernel
theorem dX7_chosen_43 : decode cX7_chosen 43 = .ok (.iload_n 2, 1) := by decide +kernel
theorem dX7_chosen_44 : decode cX7_chosen 44 = .ok (.iaload, 1) := by decide +kernel
theorem dX7_chosen_45 : decode cX7_chosen 45 = .ok (.goto 4, 3) := by decide +kernel
theorem dX7_chosen_48 : decode cX7_chosen 48 = .ok (.iconst (-1), 1) := by decide +kernel
theorem dX7_chosen_49 : decode cX7_chosen 49 = .ok (.ireturn, 1) := by decide +kernel
set_option maxRecDepth 20000 in
theorem ggX7_ways_X7_noRow : GoodIn wsX7_ways wsX7_noRow := goodIn_r _ [8, 9, 10, 11, 7, 12, 13, 14, 15, 16, 17, 18, 19, 20, 21, 22, 23, 24, 25, 26, 80, 81, 82, 83, 84, 85, 86, 87, 88, 89, 90, 91, 92, 93, 94, 95, 96, 97, 98, 99, 100, 101, 102, 103, 104, 105, 106, 107, 108, 109, 110, 111, 112, 113, 114, 115, 116, 117, 118, 119, 120] (by decide +kernel) (by decide +kernel)
set_option maxRecDepth 20000 in
theorem gX7_ways_X7_noRow : GoodIn wsX7_ways (wsV RX7 335 RX7 yX7_noRow wsX7_noRow) := goodIn_app (goodIn_of _ (by decide +kernel)) ggX7_ways_X7_noRow
set_option maxRecDepth 20000 in
theorem ggX7_ways_X7_need : GoodIn wsX7_ways wsX7_need := goodIn_ca (goodIn_r _ [30, 31, 32, 33, 7, 34, 35, 36, 37, 38, 39, 40, 41, 42, 43, 44, 45, 46, 47, 48, 49, 50, 51, 52, 53, 54, 55, 56, 57, 58, 80, 81, 82, 83, 84, 85, 86, 87, 88, 89, 90, 91, 92, 93, 94, 95, 96, 97, 98, 99, 100, 101, 102, 103, 104, 105, 106, 107, 108, 109, 110, 111, 112, 113, 114, 115, 116, 117, 118, 119, 120] (by decide +kernel) (by decide +kernel)) (goodIn_sub (fun _ h => List.mem_cons_of_mem _ (List.mem_append_right _ h)) (by decide +kernel))
set_option maxRecDepth 20000 in
theorem gX7_ways_X7_need : GoodIn wsX7_ways (wsV RX7 292 RX7 yX7_need wsX7_need) := goodIn_app (goodIn_of _ (by decide +kernel)) ggX7_ways_X7_need
set_option maxRecDepth 20000 in
theorem ggX7_ways_X7_laysWays : GoodIn wsX7_ways wsX7_laysWays := goodIn_ca (goodIn_r _ [62, 2, 63, 40, 3, 64, 65, 7, 66, 67, 68, 69, 70, 49, 71, 80, 81, 82, 83, 84, 85, 86, 87, 88, 89, 90, 91, 92, 93, 94, 95, 96, 97, 98, 99, 100, 101, 102, 103, 104, 105, 106, 107, 108, 109, 110, 111, 112, 113, 114, 115, 116, 117, 118, 119, 120] (by decide +kernel) (by decide +kernel)) (goodIn_sub (fun _ h => List.mem_cons_of_mem _ (List.mem_append_right _ h)) (by decide +kernel))
set_option maxRecDepth 20000 in
theorem gX7_ways_X7_laysWays : GoodIn wsX7_ways (wsV RX7 350 RX7 yX7_laysWays wsX7_laysWays) := goodIn_app (goodIn_of _ (by decide +kernel)) ggX7_ways_X7_laysWays
set_option maxRecDepth 20000 in
theorem ggX7_ways_X7_canOpen : GoodIn wsX7_ways wsX7_canOpen := goodIn_ca (goodIn_r _ [75, 49, 55, 56, 57, 7, 58, 45, 46, 47, 48, 80, 81, 82, 83, 84, 85, 86, 87, 88, 89, 90, 91, 92, 93, 94, 95, 96, 97, 98, 99, 100, 101, 102, 103, 104, 105, 106, 107, 108, 109, 110, 111, 112, 113, 114, 115, 116, 117, 118, 119, 120] (by decide +kernel) (by decide +kernel)) (goodIn_sub (fun _ h => List.mem_cons_of_mem _ (List.mem_append_right _ h)) (by decide +kernel))
set_option maxRecDepth 20000 in
theorem gX7_ways_X7_canOpen : GoodIn wsX7_ways (wsV RX7 301 RX7 yX7_canOpen wsX7_canOpen) := goodIn_app (goodIn_of _ (by decide +kernel)) ggX7_ways_X7_canOpen
set_option maxRecDepth 20000 in
theorem ggX7_ways_X7_sumFor : GoodIn wsX7_ways wsX7_sumFor := goodIn_ca (goodIn_r _ [79, 54, 27, 28, 29, 7, 30, 31, 32, 33, 34, 35, 36, 37, 38, 39, 40, 41, 42, 43, 44, 45, 46, 47, 48, 49, 50, 51, 52, 53, 55, 56, 57, 58, 80, 81, 82, 83, 84, 85, 86, 87, 88, 89, 90, 91, 92, 93, 94, 95, 96, 97, 98, 99, 100, 101, 102, 103, 104, 105, 106, 107, 108, 109, 110, 111, 112, 113, 114, 115, 116, 117, 118, 119, 120] (by decide +kernel) (by decide +kernel)) (goodIn_sub (fun _ h => List.mem_cons_of_mem _ (List.mem_append_right _ h)) (by decide +kernel))
set_option maxRecDepth 20000 in
theorem gX7_ways_X7_sumFor : GoodIn wsX7_ways (wsV RX7 304 RX7 yX7_sumFor wsX7_sumFor) := goodIn_app (goodIn_of _ (by decide +kernel)) ggX7_ways_X7_sumFor
theorem dX7_ways_0 : decode cX7_ways 0 = .ok (.aload_n 0, 1) := by decide +kernel
theorem dX7_ways_1 : decode cX7_ways 1 = .ok (.iload_n 1, 1) := by decide +kernel
theorem dX7_ways_2 : decode cX7_ways 2 = .ok (.invokevirtual 335, 3) := by decide +kernel
theorem dX7_ways_5 : decode cX7_ways 5 = .ok (.ifCond .eq 5, 3) := by decide +kernel
theorem dX7_ways_8 : decode cX7_ways 8 = .ok (.iconst 0, 1) := by decide +kernel
theorem dX7_ways_9 : decode cX7_ways 9 = .ok (.ireturn, 1) := by decide +kernel
theorem dX7_ways_10 : decode cX7_ways 10 = .ok (.aload_n 0, 1) := by decide +kernel
theorem dX7_ways_11 : decode cX7_ways 11 = .ok (.aload_n 0, 1) := by decide +kernel
theorem dX7_ways_12 : decode cX7_ways 12 = .ok (.iload_n 1, 1) := by decide +kernel
theorem dX7_ways_13 : decode cX7_ways 13 = .ok (.invokevirtual 292, 3) := by decide +kernel
theorem dX7_ways_16 : decode cX7_ways 16 = .ok (.invokevirtual 350, 3) := by decide +kernel
theorem dX7_ways_19 : decode cX7_ways 19 = .ok (.aload_n 0, 1) := by decide +kernel
theorem dX7_ways_20 : decode cX7_ways 20 = .ok (.iload_n 1, 1) := by decide +kernel
theorem dX7_ways_21 : decode cX7_ways 21 = .ok (.invokevirtual 301, 3) := by decide +kernel
theorem dX7_ways_24 : decode cX7_ways 24 = .ok (.ifCond .eq 7, 3) := by decide +kernel
theorem dX7_ways_27 : decode cX7_ways 27 = .ok (.iconst 0, 1) := by decide +kernel
theorem dX7_ways_28 : decode cX7_ways 28 = .ok (.goto 4, 3) := by decide +kernel
theorem dX7_ways_31 : decode cX7_ways 31 = .ok (.iconst (-1), 1) := by decide +kernel
theorem dX7_ways_32 : decode cX7_ways 32 = .ok (.istore_n 2, 1) := by decide +kernel
theorem dX7_ways_33 : decode cX7_ways 33 = .ok (.aload_n 0, 1) := by decide +kernel
theorem dX7_ways_34 : decode cX7_ways 34 = .ok (.iload_n 1, 1) := by decide +kernel
theorem dX7_ways_35 : decode cX7_ways 35 = .ok (.invokevirtual 301, 3) := by decide +kernel
theorem dX7_ways_38 : decode cX7_ways 38 = .ok (.ifCond .eq 10, 3) := by decide +kernel
theorem dX7_ways_41 : decode cX7_ways 41 = .ok (.aload_n 0, 1) := by decide +kernel
theorem dX7_ways_42 : decode cX7_ways 42 = .ok (.getfield 160, 3) := by decide +kernel
theorem dX7_ways_45 : decode cX7_ways 45 = .ok (.goto 4, 3) := by decide +kernel
theorem dX7_ways_48 : decode cX7_ways 48 = .ok (.iconst (-1), 1) := by decide +kernel
theorem dX7_ways_49 : decode cX7_ways 49 = .ok (.istore_n 3, 1) := by decide +kernel
theorem dX7_ways_50 : decode cX7_ways 50 = .ok (.iconst 0, 1) := by decide +kernel
theorem dX7_ways_51 : decode cX7_ways 51 = .ok (.istore 4, 2) := by decide +kernel
theorem dX7_ways_53 : decode cX7_ways 53 = .ok (.iload_n 2, 1) := by decide +kernel
theorem dX7_ways_54 : decode cX7_ways 54 = .ok (.istore 5, 2) := by decide +kernel
theorem dX7_ways_56 : decode cX7_ways 56 = .ok (.iload 5, 2) := by decide +kernel
theorem dX7_ways_58 : decode cX7_ways 58 = .ok (.iload_n 3, 1) := by decide +kernel
theorem dX7_ways_59 : decode cX7_ways 59 = .ok (.if_icmp .gt 44, 3) := by decide +kernel
theorem dX7_ways_62 : decode cX7_ways 62 = .ok (.aload_n 0, 1) := by decide +kernel
theorem dX7_ways_63 : decode cX7_ways 63 = .ok (.iload_n 1, 1) := by decide +kernel
theorem dX7_ways_64 : decode cX7_ways 64 = .ok (.iload 5, 2) := by decide +kernel
theorem dX7_ways_66 : decode cX7_ways 66 = .ok (.invokevirtual 304, 3) := by decide +kernel
theorem dX7_ways_69 : decode cX7_ways 69 = .ok (.istore 6, 2) := by decide +kernel
theorem dX7_ways_71 : decode cX7_ways 71 = .ok (.iload 6, 2) := by decide +kernel
theorem dX7_ways_73 : decode cX7_ways 73 = .ok (.ifCond .ge 8, 3) := by decide +kernel
theorem dX7_ways_76 : decode cX7_ways 76 = .ok (.iload 4, 2) := by decide +kernel
theorem dX7_ways_78 : decode cX7_ways 78 = .ok (.goto 17, 3) := by decide +kernel
theorem dX7_ways_81 : decode cX7_ways 81 = .ok (.iload 4, 2) := by decide +kernel
theorem dX7_ways_83 : decode cX7_ways 83 = .ok (.aload_n 0, 1) := by decide +kernel
theorem dX7_ways_84 : decode cX7_ways 84 = .ok (.getfield 61, 3) := by decide +kernel
theorem dX7_ways_87 : decode cX7_ways 87 = .ok (.iload 6, 2) := by decide +kernel
theorem dX7_ways_89 : decode cX7_ways 89 = .ok (.iaload, 1) := by decide +kernel
theorem dX7_ways_90 : decode cX7_ways 90 = .ok (.iadd, 1) := by decide +kernel
theorem dX7_ways_91 : decode cX7_ways 91 = .ok (.ldc_w 310, 3) := by decide +kernel
theorem dX7_ways_94 : decode cX7_ways 94 = .ok (.irem, 1) := by decide +kernel
theorem dX7_ways_95 : decode cX7_ways 95 = .ok (.istore 4, 2) := by decide +kernel
theorem dX7_ways_97 : decode cX7_ways 97 = .ok (.iinc 5 1, 3) := by decide +kernel
theorem dX7_ways_100 : decode cX7_ways 100 = .ok (.goto (-44), 3) := by decide +kernel
theorem dX7_ways_103 : decode cX7_ways 103 = .ok (.iload 4, 2) := by decide +kernel
theorem dX7_ways_105 : decode cX7_ways 105 = .ok (.ireturn, 1) := by decide +kernel
set_option maxRecDepth 20000 in
theorem ggX7_nearest_X7_noRow : GoodIn wsX7_nearest wsX7_noRow := goodIn_r _ [12, 13, 14, 15, 11, 16, 17, 18, 19, 20, 21, 22, 23, 24, 25, 26, 27, 28, 29, 30, 94, 95, 96, 97, 98, 99, 100, 101, 102, 103, 104, 105, 106, 107, 108, 109, 110, 111, 112, 113, 114, 115, 116, 117, 118, 119, 120, 121, 122, 123, 124, 125, 126, 127, 128, 129, 130, 131, 132, 133, 134] (by decide +kernel) (by decide +kernel)
set_option maxRecDepth 20000 in
theorem gX7_nearest_X7_noRow : GoodIn wsX7_nearest (wsV RX7 335 RX7 yX7_noRow wsX7_noRow) := goodIn_app (goodIn_of _ (by decide +kernel)) ggX7_nearest_X7_noRow
set_option maxRecDepth 20000 in
theorem ggX7_nearest_X7_need : GoodIn wsX7_nearest wsX7_need := goodIn_ca (goodIn_r _ [34, 35, 36, 37, 11, 38, 39, 40, 41, 42, 43, 44, 45, 46, 47, 48, 49, 50, 51, 52, 53, 54, 55, 56, 57, 58, 59, 60, 61, 62, 94, 95, 96, 97, 98, 99, 100, 101, 102, 103, 104, 105, 106, 107, 108, 109, 110, 111, 112, 113, 114, 115, 116, 117, 118, 119, 120, 121, 122, 123, 124, 125, 126, 127, 128, 129, 130, 131, 132, 133, 134] (by decide +kernel) (by decide +kernel)) (goodIn_sub (fun _ h => List.mem_cons_of_mem _ (List.mem_append_right _ h)) (by decide +kernel))
set_option maxRecDepth 20000 in
theorem gX7_nearest_X7_need : GoodIn wsX7_nearest (wsV RX7 292 RX7 yX7_need wsX7_need) := goodIn_app (goodIn_of _ (by decide +kernel)) ggX7_nearest_X7_need
set_option maxRecDepth 20000 in
theorem ggX7_nearest_X7_laysFewest : GoodIn wsX7_nearest wsX7_laysFewest := goodIn_ca (goodIn_r _ [66, 3, 67, 2, 68, 69, 70, 11, 71, 72, 73, 74, 75, 76, 44, 77, 78, 79, 80, 81, 82, 83, 84, 4, 5, 6, 7, 85, 86, 87, 88, 53, 89, 94, 95, 96, 97, 98, 99, 100, 101, 102, 103, 104, 105, 106, 107, 108, 109, 110, 111, 112, 113, 114, 115, 116, 117, 118, 119, 120, 121, 122, 123, 124, 125, 126, 127, 128, 129, 130, 131, 132, 133, 134] (by decide +kernel) (by decide +kernel)) (goodIn_sub (fun _ h => List.mem_cons_of_mem _ (List.mem_append_right _ h)) (by decide +kernel))
set_option maxRecDepth 20000 in
theorem gX7_nearest_X7_laysFewest : GoodIn wsX7_nearest (wsV RX7 295 RX7 yX7_laysFewest wsX7_laysFewest) := goodIn_app (goodIn_of _ (by decide +kernel)) ggX7_nearest_X7_laysFewest
set_option maxRecDepth 20000 in
theorem ggX7_nearest_X7_hasQuoin : GoodIn wsX7_nearest wsX7_hasQuoin := goodIn_ca (goodIn_r _ [62, 49, 50, 51, 11, 52, 53, 94, 95, 96, 97, 98, 99, 100, 101, 102, 103, 104, 105, 106, 107, 108, 109, 110, 111, 112, 113, 114, 115, 116, 117, 118, 119, 120, 121, 122, 123, 124, 125, 126, 127, 128, 129, 130, 131, 132, 133, 134] (by decide +kernel) (by decide +kernel)) (goodIn_sub (fun _ h => List.mem_cons_of_mem _ (List.mem_append_right _ h)) (by decide +kernel))
set_option maxRecDepth 20000 in
theorem gX7_nearest_X7_hasQuoin : GoodIn wsX7_nearest (wsV RX7 238 RX7 yX7_hasQuoin wsX7_hasQuoin) := goodIn_app (goodIn_of _ (by decide +kernel)) ggX7_nearest_X7_hasQuoin
set_option maxRecDepth 20000 in
theorem ggX7_nearest_X7_sumFor : GoodIn wsX7_nearest wsX7_sumFor := goodIn_ca (goodIn_r _ [93, 58, 31, 32, 33, 11, 34, 35, 36, 37, 38, 39, 40, 41, 42, 43, 44, 45, 46, 47, 48, 49, 50, 51, 52, 53, 54, 55, 56, 57, 59, 60, 61, 62, 94, 95, 96, 97, 98, 99, 100, 101, 102, 103, 104, 105, 106, 107, 108, 109, 110, 111, 112, 113, 114, 115, 116, 117, 118, 119, 120, 121, 122, 123, 124, 125, 126, 127, 128, 129, 130, 131, 132, 133, 134] (by decide +kernel) (by decide +kernel)) (goodIn_sub (fun _ h => List.mem_cons_of_mem _ (List.mem_append_right _ h)) (by decide +kernel))
set_option maxRecDepth 20000 in
theorem gX7_nearest_X7_sumFor : GoodIn wsX7_nearest (wsV RX7 304 RX7 yX7_sumFor wsX7_sumFor) := goodIn_app (goodIn_of _ (by decide +kernel)) ggX7_nearest_X7_sumFor
theorem dX7_nearest_0 : decode cX7_nearest 0 = .ok (.aload_n 0, 1) := by decide +kernel
theorem dX7_nearest_1 : decode cX7_nearest 1 = .ok (.iload_n 1, 1) := by decide +kernel
theorem dX7_nearest_2 : decode cX7_nearest 2 = .ok (.invokevirtual 335, 3) := by decide +kernel
theorem dX7_nearest_5 : decode cX7_nearest 5 = .ok (.ifCond .eq 5, 3) := by decide +kernel
theorem dX7_nearest_8 : decode cX7_nearest 8 = .ok (.iconst 0, 1) := by decide +kernel
theorem dX7_nearest_9 : decode cX7_nearest 9 = .ok (.ireturn, 1) := by decide +kernel
theorem dX7_nearest_10 : decode cX7_nearest 10 = .ok (.aload_n 0, 1) := by decide +kernel
theorem dX7_nearest_11 : decode cX7_nearest 11 = .ok (.iload_n 1, 1) := by decide +kernel
theorem dX7_nearest_12 : decode cX7_nearest 12 = .ok (.invokevirtual 292, 3) := by decide +kernel
theorem dX7_nearest_15 : decode cX7_nearest 15 = .ok (.istore_n 2, 1) := by decide +kernel
theorem dX7_nearest_16 : decode cX7_nearest 16 = .ok (.aload_n 0, 1) := by decide +kernel
theorem dX7_nearest_17 : decode cX7_nearest 17 = .ok (.iload_n 2, 1) := by decide +kernel
theorem dX7_nearest_18 : decode cX7_nearest 18 = .ok (.invokevirtual 295, 3) := by decide +kernel
theorem dX7_nearest_21 : decode cX7_nearest 21 = .ok (.aload_n 0, 1) := by decide +kernel
theorem dX7_nearest_22 : decode cX7_nearest 22 = .ok (.iload_n 1, 1) := by decide +kernel
theorem dX7_nearest_23 : decode cX7_nearest 23 = .ok (.invokevirtual 238, 3) := by decide +kernel
theorem dX7_nearest_26 : decode cX7_nearest 26 = .ok (.ifCond .eq 7, 3) := by decide +kernel
theorem dX7_nearest_29 : decode cX7_nearest 29 = .ok (.iconst 0, 1) := by decide +kernel
theorem dX7_nearest_30 : decode cX7_nearest 30 = .ok (.goto 4, 3) := by decide +kernel
theorem dX7_nearest_33 : decode cX7_nearest 33 = .ok (.iconst (-1), 1) := by decide +kernel
theorem dX7_nearest_34 : decode cX7_nearest 34 = .ok (.istore_n 3, 1) := by decide +kernel
theorem dX7_nearest_35 : decode cX7_nearest 35 = .ok (.aload_n 0, 1) := by decide +kernel
theorem dX7_nearest_36 : decode cX7_nearest 36 = .ok (.iload_n 1, 1) := by decide +kernel
theorem dX7_nearest_37 : decode cX7_nearest 37 = .ok (.invokevirtual 238, 3) := by decide +kernel
theorem dX7_nearest_40 : decode cX7_nearest 40 = .ok (.ifCond .eq 10, 3) := by decide +kernel
theorem dX7_nearest_43 : decode cX7_nearest 43 = .ok (.aload_n 0, 1) := by decide +kernel
theorem dX7_nearest_44 : decode cX7_nearest 44 = .ok (.getfield 160, 3) := by decide +kernel
theorem dX7_nearest_47 : decode cX7_nearest 47 = .ok (.goto 4, 3) := by decide +kernel
theorem dX7_nearest_50 : decode cX7_nearest 50 = .ok (.iconst (-1), 1) := by decide +kernel
theorem dX7_nearest_51 : decode cX7_nearest 51 = .ok (.istore 4, 2) := by decide +kernel
theorem dX7_nearest_53 : decode cX7_nearest 53 = .ok (.ldc_w 280, 3) := by decide +kernel
theorem dX7_nearest_56 : decode cX7_nearest 56 = .ok (.istore 5, 2) := by decide +kernel
theorem dX7_nearest_58 : decode cX7_nearest 58 = .ok (.iload_n 3, 1) := by decide +kernel
theorem dX7_nearest_59 : decode cX7_nearest 59 = .ok (.istore 6, 2) := by decide +kernel
theorem dX7_nearest_61 : decode cX7_nearest 61 = .ok (.iload 6, 2) := by decide +kernel
theorem dX7_nearest_63 : decode cX7_nearest 63 = .ok (.iload 4, 2) := by decide +kernel
theorem dX7_nearest_65 : decode cX7_nearest 65 = .ok (.if_icmp .gt 64, 3) := by decide +kernel
theorem dX7_nearest_68 : decode cX7_nearest 68 = .ok (.aload_n 0, 1) := by decide +kernel
theorem dX7_nearest_69 : decode cX7_nearest 69 = .ok (.iload_n 1, 1) := by decide +kernel
theorem dX7_nearest_70 : decode cX7_nearest 70 = .ok (.iload 6, 2) := by decide +kernel
theorem dX7_nearest_72 : decode cX7_nearest 72 = .ok (.invokevirtual 304, 3) := by decide +kernel
theorem dX7_nearest_75 : decode cX7_nearest 75 = .ok (.istore 7, 2) := by decide +kernel
theorem dX7_nearest_77 : decode cX7_nearest 77 = .ok (.iconst 0, 1) := by decide +kernel
theorem dX7_nearest_78 : decode cX7_nearest 78 = .ok (.istore 8, 2) := by decide +kernel
theorem dX7_nearest_80 : decode cX7_nearest 80 = .ok (.iload 8, 2) := by decide +kernel
theorem dX7_nearest_82 : decode cX7_nearest 82 = .ok (.iload 7, 2) := by decide +kernel
theorem dX7_nearest_84 : decode cX7_nearest 84 = .ok (.if_icmp .gt 39, 3) := by decide +kernel
theorem dX7_nearest_87 : decode cX7_nearest 87 = .ok (.aload_n 0, 1) := by decide +kernel
theorem dX7_nearest_88 : decode cX7_nearest 88 = .ok (.getfield 52, 3) := by decide +kernel
theorem dX7_nearest_91 : decode cX7_nearest 91 = .ok (.iload 8, 2) := by decide +kernel
theorem dX7_nearest_93 : decode cX7_nearest 93 = .ok (.iaload, 1) := by decide +kernel
theorem dX7_nearest_94 : decode cX7_nearest 94 = .ok (.ldc_w 280, 3) := by decide +kernel
theorem dX7_nearest_97 : decode cX7_nearest 97 = .ok (.if_icmp .ge 16, 3) := by decide +kernel
theorem dX7_nearest_100 : decode cX7_nearest 100 = .ok (.iload 5, 2) := by decide +kernel
theorem dX7_nearest_102 : decode cX7_nearest 102 = .ok (.iload 7, 2) := by decide +kernel
theorem dX7_nearest_104 : decode cX7_nearest 104 = .ok (.iload 8, 2) := by decide +kernel
theorem dX7_nearest_106 : decode cX7_nearest 106 = .ok (.isub, 1) := by decide +kernel
theorem dX7_nearest_107 : decode cX7_nearest 107 = .ok (.invokestatic 287, 3) := by decide +kernel
theorem dX7_nearest_110 : decode cX7_nearest 110 = .ok (.goto 5, 3) := by decide +kernel
theorem dX7_nearest_113 : decode cX7_nearest 113 = .ok (.iload 5, 2) := by decide +kernel
theorem dX7_nearest_115 : decode cX7_nearest 115 = .ok (.istore 5, 2) := by decide +kernel
theorem dX7_nearest_117 : decode cX7_nearest 117 = .ok (.iinc 8 1, 3) := by decide +kernel
theorem dX7_nearest_120 : decode cX7_nearest 120 = .ok (.goto (-40), 3) := by decide +kernel
theorem dX7_nearest_123 : decode cX7_nearest 123 = .ok (.iinc 6 1, 3) := by decide +kernel
theorem dX7_nearest_126 : decode cX7_nearest 126 = .ok (.goto (-65), 3) := by decide +kernel
theorem dX7_nearest_129 : decode cX7_nearest 129 = .ok (.iload 5, 2) := by decide +kernel
theorem dX7_nearest_131 : decode cX7_nearest 131 = .ok (.ireturn, 1) := by decide +kernel
theorem dX7_putsAside_0 : decode cX7_putsAside 0 = .ok (.iconst 0, 1) := by decide +kernel
theorem dX7_putsAside_1 : decode cX7_putsAside 1 = .ok (.istore_n 1, 1) := by decide +kernel
theorem dX7_putsAside_2 : decode cX7_putsAside 2 = .ok (.iload_n 1, 1) := by decide +kernel
theorem dX7_putsAside_3 : decode cX7_putsAside 3 = .ok (.sipush 4112, 3) := by decide +kernel
theorem dX7_putsAside_6 : decode cX7_putsAside 6 = .ok (.if_icmp .ge 21, 3) := by decide +kernel
theorem dX7_putsAside_9 : decode cX7_putsAside 9 = .ok (.aload_n 0, 1) := by decide +kernel
theorem dX7_putsAside_10 : decode cX7_putsAside 10 = .ok (.getfield 20, 3) := by decide +kernel
theorem dX7_putsAside_13 : decode cX7_putsAside 13 = .ok (.iload_n 1, 1) := by decide +kernel
theorem dX7_putsAside_14 : decode cX7_putsAside 14 = .ok (.aload_n 0, 1) := by decide +kernel
theorem dX7_putsAside_15 : decode cX7_putsAside 15 = .ok (.getfield 17, 3) := by decide +kernel
theorem dX7_putsAside_18 : decode cX7_putsAside 18 = .ok (.iload_n 1, 1) := by decide +kernel
theorem dX7_putsAside_19 : decode cX7_putsAside 19 = .ok (.iaload, 1) := by decide +kernel
theorem dX7_putsAside_20 : decode cX7_putsAside 20 = .ok (.iastore, 1) := by decide +kernel
theorem dX7_putsAside_21 : decode cX7_putsAside 21 = .ok (.iinc 1 1, 3) := by decide +kernel
theorem dX7_putsAside_24 : decode cX7_putsAside 24 = .ok (.goto (-22), 3) := by decide +kernel
theorem dX7_putsAside_27 : decode cX7_putsAside 27 = .ok (.return_, 1) := by decide +kernel
theorem dX7_fetchesBack_0 : decode cX7_fetchesBack 0 = .ok (.iconst 0, 1) := by decide +kernel
theorem dX7_fetchesBack_1 : decode cX7_fetchesBack 1 = .ok (.istore_n 2, 1) := by decide +kernel
theorem dX7_fetchesBack_2 : decode cX7_fetchesBack 2 = .ok (.iload_n 2, 1) := by decide +kernel
theorem dX7_fetchesBack_3 : decode cX7_fetchesBack 3 = .ok (.sipush 4112, 3) := by decide +kernel
theorem dX7_fetchesBack_6 : decode cX7_fetchesBack 6 = .ok (.if_icmp .ge 21, 3) := by decide +kernel
theorem dX7_fetchesBack_9 : decode cX7_fetchesBack 9 = .ok (.aload_n 0, 1) := by decide +kernel
theorem dX7_fetchesBack_10 : decode cX7_fetchesBack 10 = .ok (.getfield 17, 3) := by decide +kernel
theorem dX7_fetchesBack_13 : decode cX7_fetchesBack 13 = .ok (.iload_n 2, 1) := by decide +kernel
theorem dX7_fetchesBack_14 : decode cX7_fetchesBack 14 = .ok (.aload_n 0, 1) := by decide +kernel
theorem dX7_fetchesBack_15 : decode cX7_fetchesBack 15 = .ok (.getfield 20, 3) := by decide +kernel
theorem dX7_fetchesBack_18 : decode cX7_fetchesBack 18 = .ok (.iload_n 2, 1) := by decide +kernel
theorem dX7_fetchesBack_19 : decode cX7_fetchesBack 19 = .ok (.iaload, 1) := by decide +kernel
theorem dX7_fetchesBack_20 : decode cX7_fetchesBack 20 = .ok (.iastore, 1) := by decide +kernel
theorem dX7_fetchesBack_21 : decode cX7_fetchesBack 21 = .ok (.iinc 2 1, 3) := by decide +kernel
theorem dX7_fetchesBack_24 : decode cX7_fetchesBack 24 = .ok (.goto (-22), 3) := by decide +kernel
theorem dX7_fetchesBack_27 : decode cX7_fetchesBack 27 = .ok (.iload_n 1, 1) := by decide +kernel
theorem dX7_fetchesBack_28 : decode cX7_fetchesBack 28 = .ok (.ireturn, 1) := by decide +kernel
set_option maxRecDepth 20000 in
theorem ggX7_freshChoice_X7_noRow : GoodIn wsX7_freshChoice wsX7_noRow := goodIn_r _ [5, 6, 7, 8, 4, 9, 10, 11, 12, 13, 14, 15, 16, 17, 18, 19, 20, 21, 22, 23, 133, 134, 135, 136, 137, 138, 139, 140, 141, 142, 143, 144, 145, 146, 147, 148, 149, 150, 151, 152, 153, 154, 155, 156, 157, 158, 159, 160, 161, 162, 163, 164, 165, 166, 167, 168, 169, 170, 171, 172, 173] (by decide +kernel) (by decide +kernel)
set_option maxRecDepth 20000 in
theorem gX7_freshChoice_X7_noRow : GoodIn wsX7_freshChoice (wsV RX7 335 RX7 yX7_noRow wsX7_noRow) := goodIn_app (goodIn_of _ (by decide +kernel)) ggX7_freshChoice_X7_noRow
set_option maxRecDepth 20000 in
theorem ggX7_freshChoice_X7_putsAside : GoodIn wsX7_freshChoice wsX7_putsAside := goodIn_ca (goodIn_r _ [27, 28, 29, 133, 134, 135, 136, 137, 138, 139, 140, 141, 142, 143, 144, 145, 146, 147, 148, 149, 150, 151, 152, 153, 154, 155, 156, 157, 158, 159, 160, 161, 162, 163, 164, 165, 166, 167, 168, 169, 170, 171, 172, 173] (by decide +kernel) (by decide +kernel)) (goodIn_sub (fun _ h => List.mem_cons_of_mem _ (List.mem_append_right _ h)) (by decide +kernel))
set_option maxRecDepth 20000 in
theorem gX7_freshChoice_X7_putsAside : GoodIn wsX7_freshChoice (wsV RX7 353 RX7 yX7_putsAside wsX7_putsAside) := goodIn_app (goodIn_of _ (by decide +kernel)) ggX7_freshChoice_X7_putsAside
set_option maxRecDepth 20000 in
theorem ggX7_freshChoice_X7_empties : GoodIn wsX7_freshChoice wsX7_empties := goodIn_ca (goodIn_r _ [33, 29, 34, 35, 36, 4, 37, 38, 39, 40, 41, 42, 43, 44, 45, 46, 47, 48, 49, 133, 134, 135, 136, 137, 138, 139, 140, 141, 142, 143, 144, 145, 146, 147, 148, 149, 150, 151, 152, 153, 154, 155, 156, 157, 158, 159, 160, 161, 162, 163, 164, 165, 166, 167, 168, 169, 170, 171, 172, 173] (by decide +kernel) (by decide +kernel)) (goodIn_sub (fun _ h => List.mem_cons_of_mem _ (List.mem_append_right _ h)) (by decide +kernel))
set_option maxRecDepth 20000 in
theorem gX7_freshChoice_X7_empties : GoodIn wsX7_freshChoice (wsV RX7 260 RX7 yX7_empties wsX7_empties) := goodIn_app (goodIn_of _ (by decide +kernel)) ggX7_freshChoice_X7_empties
set_option maxRecDepth 20000 in
theorem ggX7_freshChoice_X7_chooses : GoodIn wsX7_freshChoice wsX7_chooses := goodIn_ca (goodIn_r _ [53, 54, 55, 56, 57, 58, 59, 60, 4, 61, 62, 63, 64, 65, 66, 67, 68, 69, 70, 71, 72, 73, 74, 75, 34, 35, 36, 37, 29, 76, 77, 78, 79, 80, 46, 47, 48, 49, 81, 82, 83, 84, 85, 86, 87, 88, 89, 90, 91, 92, 93, 94, 95, 96, 97, 98, 99, 100, 101, 102, 103, 104, 105, 106, 107, 108, 109, 110, 111, 112, 113, 114, 115, 116, 117, 118, 119, 120, 121, 122, 123, 124, 133, 134, 135, 136, 137, 138, 139, 140, 141, 142, 143, 144, 145, 146, 147, 148, 149, 150, 151, 152, 153, 154, 155, 156, 157, 158, 159, 160, 161, 162, 163, 164, 165, 166, 167, 168, 169, 170, 171, 172, 173] (by decide +kernel) (by decide +kernel)) (goodIn_sub (fun _ h => List.mem_cons_of_mem _ (List.mem_append_right _ h)) (by decide +kernel))
set_option maxRecDepth 20000 in
theorem gX7_freshChoice_X7_chooses : GoodIn wsX7_freshChoice (wsV RX7 311 RX7 yX7_chooses wsX7_chooses) := goodIn_app (goodIn_of _ (by decide +kernel)) ggX7_freshChoice_X7_chooses
set_option maxRecDepth 20000 in
theorem ggX7_freshChoice_X7_chosenMany : GoodIn wsX7_freshChoice wsX7_chosenMany := goodIn_ca (goodIn_r _ [128, 85, 95, 124, 133, 134, 135, 136, 137, 138, 139, 140, 141, 142, 143, 144, 145, 146, 147, 148, 149, 150, 151, 152, 153, 154, 155, 156, 157, 158, 159, 160, 161, 162, 163, 164, 165, 166, 167, 168, 169, 170, 171, 172, 173] (by decide +kernel) (by decide +kernel)) (goodIn_sub (fun _ h => List.mem_cons_of_mem _ (List.mem_append_right _ h)) (by decide +kernel))
set_option maxRecDepth 20000 in
theorem gX7_freshChoice_X7_chosenMany : GoodIn wsX7_freshChoice (wsV RX7 344 RX7 yX7_chosenMany wsX7_chosenMany) := goodIn_app (goodIn_of _ (by decide +kernel)) ggX7_freshChoice_X7_chosenMany
set_option maxRecDepth 20000 in
theorem ggX7_freshChoice_X7_fetchesBack : GoodIn wsX7_freshChoice wsX7_fetchesBack := goodIn_ca (goodIn_r _ [132, 29, 28, 133, 134, 135, 136, 137, 138, 139, 140, 141, 142, 143, 144, 145, 146, 147, 148, 149, 150, 151, 152, 153, 154, 155, 156, 157, 158, 159, 160, 161, 162, 163, 164, 165, 166, 167, 168, 169, 170, 171, 172, 173] (by decide +kernel) (by decide +kernel)) (goodIn_sub (fun _ h => List.mem_cons_of_mem _ (List.mem_append_right _ h)) (by decide +kernel))
set_option maxRecDepth 20000 in
theorem gX7_freshChoice_X7_fetchesBack : GoodIn wsX7_freshChoice (wsV RX7 356 RX7 yX7_fetchesBack wsX7_fetchesBack) := goodIn_app (goodIn_of _ (by decide +kernel)) ggX7_freshChoice_X7_fetchesBack
theorem dX7_freshChoice_0 : decode cX7_freshChoice 0 = .ok (.aload_n 0, 1) := by decide +kernel
theorem dX7_freshChoice_1 : decode cX7_freshChoice 1 = .ok (.iload_n 1, 1) := by decide +kernel
theorem dX7_freshChoice_2 : decode cX7_freshChoice 2 = .ok (.invokevirtual 335, 3) := by decide +kernel
theorem dX7_freshChoice_5 : decode cX7_freshChoice 5 = .ok (.ifCond .eq 5, 3) := by decide +kernel
theorem dX7_freshChoice_8 : decode cX7_freshChoice 8 = .ok (.iconst 0, 1) := by decide +kernel
theorem dX7_freshChoice_9 : decode cX7_freshChoice 9 = .ok (.ireturn, 1) := by decide +kernel
theorem dX7_freshChoice_10 : decode cX7_freshChoice 10 = .ok (.aload_n 0, 1) := by decide +kernel
theorem dX7_freshChoice_11 : decode cX7_freshChoice 11 = .ok (.invokevirtual 353, 3) := by decide +kernel
theorem dX7_freshChoice_14 : decode cX7_freshChoice 14 = .ok (.aload_n 0, 1) := by decide +kernel
theorem dX7_freshChoice_15 : decode cX7_freshChoice 15 = .ok (.iload_n 1, 1) := by decide +kernel
theorem dX7_freshChoice_16 : decode cX7_freshChoice 16 = .ok (.invokevirtual 260, 3) := by decide +kernel
theorem dX7_freshChoice_19 : decode cX7_freshChoice 19 = .ok (.istore_n 2, 1) := by decide +kernel
theorem dX7_freshChoice_20 : decode cX7_freshChoice 20 = .ok (.aload_n 0, 1) := by decide +kernel
theorem dX7_freshChoice_21 : decode cX7_freshChoice 21 = .ok (.iload_n 1, 1) := by decide +kernel
theorem dX7_freshChoice_22 : decode cX7_freshChoice 22 = .ok (.invokevirtual 311, 3) := by decide +kernel
theorem dX7_freshChoice_25 : decode cX7_freshChoice 25 = .ok (.istore_n 3, 1) := by decide +kernel
theorem dX7_freshChoice_26 : decode cX7_freshChoice 26 = .ok (.aload_n 0, 1) := by decide +kernel
theorem dX7_freshChoice_27 : decode cX7_freshChoice 27 = .ok (.iload_n 3, 1) := by decide +kernel
theorem dX7_freshChoice_28 : decode cX7_freshChoice 28 = .ok (.ifCond .eq 11, 3) := by decide +kernel
theorem dX7_freshChoice_31 : decode cX7_freshChoice 31 = .ok (.aload_n 0, 1) := by decide +kernel
theorem dX7_freshChoice_32 : decode cX7_freshChoice 32 = .ok (.iconst 0, 1) := by decide +kernel
theorem dX7_freshChoice_33 : decode cX7_freshChoice 33 = .ok (.invokevirtual 344, 3) := by decide +kernel
theorem dX7_freshChoice_36 : decode cX7_freshChoice 36 = .ok (.goto 4, 3) := by decide +kernel
theorem dX7_freshChoice_39 : decode cX7_freshChoice 39 = .ok (.iconst (-1), 1) := by decide +kernel
theorem dX7_freshChoice_40 : decode cX7_freshChoice 40 = .ok (.invokevirtual 356, 3) := by decide +kernel
theorem dX7_freshChoice_43 : decode cX7_freshChoice 43 = .ok (.ireturn, 1) := by decide +kernel
set_option maxRecDepth 20000 in
theorem ggX7_fillable_X7_notLoaded : GoodIn wsX7_fillable wsX7_notLoaded := goodIn_r _ [8, 9, 10, 11, 12, 13, 7, 14, 51, 52, 53, 54, 55, 56, 57, 58, 59, 60, 61, 62, 63, 64, 65, 66, 67, 68, 69, 70, 71, 72, 73, 74, 75, 76, 77, 78, 79, 80, 81, 82, 83, 84, 85, 86, 87, 88, 89, 90, 91] (by decide +kernel) (by decide +kernel)
set_option maxRecDepth 20000 in
theorem gX7_fillable_X7_notLoaded : GoodIn wsX7_fillable (wsV RX7 320 RX7 yX7_notLoaded wsX7_notLoaded) := goodIn_app (goodIn_of _ (by decide +kernel)) ggX7_fillable_X7_notLoaded
set_option maxRecDepth 20000 in
theorem ggX7_fillable_X7_in : GoodIn wsX7_fillable wsX7_in := goodIn_r _ [17] (by decide +kernel) (by decide +kernel)
set_option maxRecDepth 20000 in
theorem gX7_fillable_X7_in : GoodIn wsX7_fillable (va_wsS RX7 143 yX7_in wsX7_in) := goodIn_app (goodIn_of _ (by decide +kernel)) ggX7_fillable_X7_in
set_option maxRecDepth 20000 in
theorem ggX7_fillable_X7_refuse : GoodIn wsX7_fillable wsX7_refuse := goodIn_r _ [14, 9, 51, 52, 53, 54, 55, 56, 57, 58, 59, 60, 61, 62, 63, 64, 65, 66, 67, 68, 69, 70, 71, 72, 73, 74, 75, 76, 77, 78, 79, 80, 81, 82, 83, 84, 85, 86, 87, 88, 89, 90, 91] (by decide +kernel) (by decide +kernel)
set_option maxRecDepth 20000 in
theorem gX7_fillable_X7_refuse : GoodIn wsX7_fillable (wsV RX7 74 RX7 yX7_refuse wsX7_refuse) := goodIn_app (goodIn_of _ (by decide +kernel)) ggX7_fillable_X7_refuse
set_option maxRecDepth 20000 in
theorem ggX7_fillable_X7_laysFewest : GoodIn wsX7_fillable wsX7_laysFewest := goodIn_ca (goodIn_r _ [21, 2, 22, 3, 23, 24, 25, 7, 26, 27, 28, 29, 30, 31, 32, 33, 34, 35, 36, 37, 38, 39, 40, 41, 42, 43, 44, 45, 46, 47, 48, 49, 50, 51, 52, 53, 54, 55, 56, 57, 58, 59, 60, 61, 62, 63, 64, 65, 66, 67, 68, 69, 70, 71, 72, 73, 74, 75, 76, 77, 78, 79, 80, 81, 82, 83, 84, 85, 86, 87, 88, 89, 90, 91] (by decide +kernel) (by decide +kernel)) (goodIn_sub (fun _ h => List.mem_cons_of_mem _ (List.mem_append_right _ h)) (by decide +kernel))
set_option maxRecDepth 20000 in
theorem gX7_fillable_X7_laysFewest : GoodIn wsX7_fillable (wsV RX7 295 RX7 yX7_laysFewest wsX7_laysFewest) := goodIn_app (goodIn_of _ (by decide +kernel)) ggX7_fillable_X7_laysFewest
set_option maxRecDepth 20000 in
theorem ggX7_fillable_X7_flag : GoodIn wsX7_fillable wsX7_flag := goodIn_r _ [36] (by decide +kernel) (by decide +kernel)
set_option maxRecDepth 20000 in
theorem gX7_fillable_X7_flag : GoodIn wsX7_fillable (va_wsS RX7 250 yX7_flag wsX7_flag) := goodIn_app (goodIn_of _ (by decide +kernel)) ggX7_fillable_X7_flag
theorem dX7_fillable_0 : decode cX7_fillable 0 = .ok (.aload_n 0, 1) := by decide +kernel
theorem dX7_fillable_1 : decode cX7_fillable 1 = .ok (.invokevirtual 320, 3) := by decide +kernel
theorem dX7_fillable_4 : decode cX7_fillable 4 = .ok (.ifCond .ne 28, 3) := by decide +kernel
theorem dX7_fillable_7 : decode cX7_fillable 7 = .ok (.aload_n 0, 1) := by decide +kernel
theorem dX7_fillable_8 : decode cX7_fillable 8 = .ok (.iload_n 1, 1) := by decide +kernel
theorem dX7_fillable_9 : decode cX7_fillable 9 = .ok (.iconst 0, 1) := by decide +kernel
theorem dX7_fillable_10 : decode cX7_fillable 10 = .ok (.aload_n 0, 1) := by decide +kernel
theorem dX7_fillable_11 : decode cX7_fillable 11 = .ok (.getfield 151, 3) := by decide +kernel
theorem dX7_fillable_14 : decode cX7_fillable 14 = .ok (.invokestatic 143, 3) := by decide +kernel
theorem dX7_fillable_17 : decode cX7_fillable 17 = .ok (.ifCond .ne 7, 3) := by decide +kernel
theorem dX7_fillable_20 : decode cX7_fillable 20 = .ok (.iconst 1, 1) := by decide +kernel
theorem dX7_fillable_21 : decode cX7_fillable 21 = .ok (.goto 4, 3) := by decide +kernel
theorem dX7_fillable_24 : decode cX7_fillable 24 = .ok (.iconst 0, 1) := by decide +kernel
theorem dX7_fillable_25 : decode cX7_fillable 25 = .ok (.iconst 2, 1) := by decide +kernel
theorem dX7_fillable_26 : decode cX7_fillable 26 = .ok (.invokevirtual 74, 3) := by decide +kernel
theorem dX7_fillable_29 : decode cX7_fillable 29 = .ok (.ifCond .eq 5, 3) := by decide +kernel
theorem dX7_fillable_32 : decode cX7_fillable 32 = .ok (.iconst 0, 1) := by decide +kernel
theorem dX7_fillable_33 : decode cX7_fillable 33 = .ok (.ireturn, 1) := by decide +kernel
theorem dX7_fillable_34 : decode cX7_fillable 34 = .ok (.aload_n 0, 1) := by decide +kernel
theorem dX7_fillable_35 : decode cX7_fillable 35 = .ok (.iload_n 1, 1) := by decide +kernel
theorem dX7_fillable_36 : decode cX7_fillable 36 = .ok (.invokevirtual 295, 3) := by decide +kernel
theorem dX7_fillable_39 : decode cX7_fillable 39 = .ok (.iconst 0, 1) := by decide +kernel
theorem dX7_fillable_40 : decode cX7_fillable 40 = .ok (.istore_n 2, 1) := by decide +kernel
theorem dX7_fillable_41 : decode cX7_fillable 41 = .ok (.iconst 0, 1) := by decide +kernel
theorem dX7_fillable_42 : decode cX7_fillable 42 = .ok (.istore_n 3, 1) := by decide +kernel
theorem dX7_fillable_43 : decode cX7_fillable 43 = .ok (.iload_n 3, 1) := by decide +kernel
theorem dX7_fillable_44 : decode cX7_fillable 44 = .ok (.iload_n 1, 1) := by decide +kernel
theorem dX7_fillable_45 : decode cX7_fillable 45 = .ok (.if_icmp .gt 32, 3) := by decide +kernel
theorem dX7_fillable_48 : decode cX7_fillable 48 = .ok (.iload_n 2, 1) := by decide +kernel
theorem dX7_fillable_49 : decode cX7_fillable 49 = .ok (.aload_n 0, 1) := by decide +kernel
theorem dX7_fillable_50 : decode cX7_fillable 50 = .ok (.getfield 52, 3) := by decide +kernel
theorem dX7_fillable_53 : decode cX7_fillable 53 = .ok (.iload_n 3, 1) := by decide +kernel
theorem dX7_fillable_54 : decode cX7_fillable 54 = .ok (.iaload, 1) := by decide +kernel
theorem dX7_fillable_55 : decode cX7_fillable 55 = .ok (.ldc_w 280, 3) := by decide +kernel
theorem dX7_fillable_58 : decode cX7_fillable 58 = .ok (.if_icmp .ge 7, 3) := by decide +kernel
theorem dX7_fillable_61 : decode cX7_fillable 61 = .ok (.iconst 1, 1) := by decide +kernel
theorem dX7_fillable_62 : decode cX7_fillable 62 = .ok (.goto 4, 3) := by decide +kernel
theorem dX7_fillable_65 : decode cX7_fillable 65 = .ok (.iconst 0, 1) := by decide +kernel
theorem dX7_fillable_66 : decode cX7_fillable 66 = .ok (.invokestatic 250, 3) := by decide +kernel
theorem dX7_fillable_69 : decode cX7_fillable 69 = .ok (.iadd, 1) := by decide +kernel
theorem dX7_fillable_70 : decode cX7_fillable 70 = .ok (.istore_n 2, 1) := by decide +kernel
theorem dX7_fillable_71 : decode cX7_fillable 71 = .ok (.iinc 3 1, 3) := by decide +kernel
theorem dX7_fillable_74 : decode cX7_fillable 74 = .ok (.goto (-31), 3) := by decide +kernel
theorem dX7_fillable_77 : decode cX7_fillable 77 = .ok (.iload_n 2, 1) := by decide +kernel
theorem dX7_fillable_78 : decode cX7_fillable 78 = .ok (.ireturn, 1) := by decide +kernel
set_option maxRecDepth 20000 in
theorem ggX7_fewestIf_X7_of : GoodIn wsX7_fewestIf wsX7_of := goodIn_ca (goodIn_r _ [5, 6, 107, 108, 109, 110, 111, 112, 113, 114, 115, 116, 117, 118, 119, 120, 121, 122, 123, 124, 125, 126, 127, 128, 129, 130, 131, 132, 133, 134, 135, 136, 137, 138, 139, 140, 141, 142, 143, 144, 145, 146, 147] (by decide +kernel) (by decide +kernel)) (goodIn_sub (fun _ h => List.mem_cons_of_mem _ (List.mem_append_right _ h)) (by decide +kernel))
set_option maxRecDepth 20000 in
theorem gX7_fewestIf_X7_of : GoodIn wsX7_fewestIf (wsV RX7 189 RX7 yX7_of wsX7_of) := goodIn_app (goodIn_of _ (by decide +kernel)) ggX7_fewestIf_X7_of
set_option maxRecDepth 20000 in
theorem ggX7_fewestIf_X7_gap : GoodIn wsX7_fewestIf wsX7_gap := goodIn_ca (goodIn_r _ [10, 11, 12, 13, 14, 4, 15, 16, 17, 18, 19, 20, 1, 2, 3, 5, 6, 21, 22, 23, 24, 25, 26, 27, 28, 29, 107, 108, 109, 110, 111, 112, 113, 114, 115, 116, 117, 118, 119, 120, 121, 122, 123, 124, 125, 126, 127, 128, 129, 130, 131, 132, 133, 134, 135, 136, 137, 138, 139, 140, 141, 142, 143, 144, 145, 146, 147] (by decide +kernel) (by decide +kernel)) (goodIn_sub (fun _ h => List.mem_cons_of_mem _ (List.mem_append_right _ h)) (by decide +kernel))
set_option maxRecDepth 20000 in
theorem gX7_fewestIf_X7_gap : GoodIn wsX7_fewestIf (wsV RX7 192 RX7 yX7_gap wsX7_gap) := goodIn_app (goodIn_of _ (by decide +kernel)) ggX7_fewestIf_X7_gap
set_option maxRecDepth 20000 in
theorem ggX7_fewestIf_X7_putsAside : GoodIn wsX7_fewestIf wsX7_putsAside := goodIn_ca (goodIn_r _ [33, 34, 6, 107, 108, 109, 110, 111, 112, 113, 114, 115, 116, 117, 118, 119, 120, 121, 122, 123, 124, 125, 126, 127, 128, 129, 130, 131, 132, 133, 134, 135, 136, 137, 138, 139, 140, 141, 142, 143, 144, 145, 146, 147] (by decide +kernel) (by decide +kernel)) (goodIn_sub (fun _ h => List.mem_cons_of_mem _ (List.mem_append_right _ h)) (by decide +kernel))
set_option maxRecDepth 20000 in
theorem gX7_fewestIf_X7_putsAside : GoodIn wsX7_fewestIf (wsV RX7 353 RX7 yX7_putsAside wsX7_putsAside) := goodIn_app (goodIn_of _ (by decide +kernel)) ggX7_fewestIf_X7_putsAside
set_option maxRecDepth 20000 in
theorem ggX7_fewestIf_X7_adds : GoodIn wsX7_fewestIf wsX7_adds := goodIn_ca (goodIn_r _ [38, 1, 2, 3, 4, 5, 6, 39, 40, 41, 42, 107, 108, 109, 110, 111, 112, 113, 114, 115, 116, 117, 118, 119, 120, 121, 122, 123, 124, 125, 126, 127, 128, 129, 130, 131, 132, 133, 134, 135, 136, 137, 138, 139, 140, 141, 142, 143, 144, 145, 146, 147] (by decide +kernel) (by decide +kernel)) (goodIn_sub (fun _ h => List.mem_cons_of_mem _ (List.mem_append_right _ h)) (by decide +kernel))
set_option maxRecDepth 20000 in
theorem gX7_fewestIf_X7_adds : GoodIn wsX7_fewestIf (wsV RX7 195 RX7 yX7_adds wsX7_adds) := goodIn_app (goodIn_of _ (by decide +kernel)) ggX7_fewestIf_X7_adds
set_option maxRecDepth 20000 in
theorem ggX7_fewestIf_X7_chooses : GoodIn wsX7_fewestIf wsX7_chooses := goodIn_ca (goodIn_r _ [46, 47, 48, 49, 50, 51, 52, 53, 4, 54, 7, 8, 9, 10, 11, 12, 13, 14, 15, 16, 17, 18, 19, 20, 1, 2, 3, 5, 6, 21, 22, 23, 24, 25, 26, 27, 28, 29, 55, 56, 57, 58, 59, 60, 61, 62, 63, 64, 65, 66, 67, 68, 69, 70, 71, 72, 73, 74, 75, 76, 77, 78, 79, 80, 81, 82, 83, 84, 85, 86, 87, 88, 89, 90, 91, 92, 93, 94, 95, 96, 97, 98, 107, 108, 109, 110, 111, 112, 113, 114, 115, 116, 117, 118, 119, 120, 121, 122, 123, 124, 125, 126, 127, 128, 129, 130, 131, 132, 133, 134, 135, 136, 137, 138, 139, 140, 141, 142, 143, 144, 145, 146, 147] (by decide +kernel) (by decide +kernel)) (goodIn_sub (fun _ h => List.mem_cons_of_mem _ (List.mem_append_right _ h)) (by decide +kernel))
set_option maxRecDepth 20000 in
theorem gX7_fewestIf_X7_chooses : GoodIn wsX7_fewestIf (wsV RX7 311 RX7 yX7_chooses wsX7_chooses) := goodIn_app (goodIn_of _ (by decide +kernel)) ggX7_fewestIf_X7_chooses
set_option maxRecDepth 20000 in
theorem ggX7_fewestIf_X7_chosenMany : GoodIn wsX7_fewestIf wsX7_chosenMany := goodIn_ca (goodIn_r _ [102, 59, 69, 98, 107, 108, 109, 110, 111, 112, 113, 114, 115, 116, 117, 118, 119, 120, 121, 122, 123, 124, 125, 126, 127, 128, 129, 130, 131, 132, 133, 134, 135, 136, 137, 138, 139, 140, 141, 142, 143, 144, 145, 146, 147] (by decide +kernel) (by decide +kernel)) (goodIn_sub (fun _ h => List.mem_cons_of_mem _ (List.mem_append_right _ h)) (by decide +kernel))
set_option maxRecDepth 20000 in
theorem gX7_fewestIf_X7_chosenMany : GoodIn wsX7_fewestIf (wsV RX7 344 RX7 yX7_chosenMany wsX7_chosenMany) := goodIn_app (goodIn_of _ (by decide +kernel)) ggX7_fewestIf_X7_chosenMany
set_option maxRecDepth 20000 in
theorem ggX7_fewestIf_X7_fetchesBack : GoodIn wsX7_fewestIf wsX7_fetchesBack := goodIn_ca (goodIn_r _ [106, 6, 34, 107, 108, 109, 110, 111, 112, 113, 114, 115, 116, 117, 118, 119, 120, 121, 122, 123, 124, 125, 126, 127, 128, 129, 130, 131, 132, 133, 134, 135, 136, 137, 138, 139, 140, 141, 142, 143, 144, 145, 146, 147] (by decide +kernel) (by decide +kernel)) (goodIn_sub (fun _ h => List.mem_cons_of_mem _ (List.mem_append_right _ h)) (by decide +kernel))
set_option maxRecDepth 20000 in
theorem gX7_fewestIf_X7_fetchesBack : GoodIn wsX7_fewestIf (wsV RX7 356 RX7 yX7_fetchesBack wsX7_fetchesBack) := goodIn_app (goodIn_of _ (by decide +kernel)) ggX7_fewestIf_X7_fetchesBack
theorem dX7_fewestIf_0 : decode cX7_fewestIf 0 = .ok (.aload_n 0, 1) := by decide +kernel
theorem dX7_fewestIf_1 : decode cX7_fewestIf 1 = .ok (.iload_n 1, 1) := by decide +kernel
theorem dX7_fewestIf_2 : decode cX7_fewestIf 2 = .ok (.iconst 0, 1) := by decide +kernel
theorem dX7_fewestIf_3 : decode cX7_fewestIf 3 = .ok (.invokevirtual 189, 3) := by decide +kernel
theorem dX7_fewestIf_6 : decode cX7_fewestIf 6 = .ok (.bipush 6, 2) := by decide +kernel
theorem dX7_fewestIf_8 : decode cX7_fewestIf 8 = .ok (.if_icmp .eq 12, 3) := by decide +kernel
theorem dX7_fewestIf_11 : decode cX7_fewestIf 11 = .ok (.aload_n 0, 1) := by decide +kernel
theorem dX7_fewestIf_12 : decode cX7_fewestIf 12 = .ok (.iload_n 1, 1) := by decide +kernel
theorem dX7_fewestIf_13 : decode cX7_fewestIf 13 = .ok (.invokevirtual 192, 3) := by decide +kernel
theorem dX7_fewestIf_16 : decode cX7_fewestIf 16 = .ok (.iload_n 2, 1) := by decide +kernel
theorem dX7_fewestIf_17 : decode cX7_fewestIf 17 = .ok (.if_icmp .ge 5, 3) := by decide +kernel
theorem dX7_fewestIf_20 : decode cX7_fewestIf 20 = .ok (.iconst (-1), 1) := by decide +kernel
theorem dX7_fewestIf_21 : decode cX7_fewestIf 21 = .ok (.ireturn, 1) := by decide +kernel
theorem dX7_fewestIf_22 : decode cX7_fewestIf 22 = .ok (.aload_n 0, 1) := by decide +kernel
theorem dX7_fewestIf_23 : decode cX7_fewestIf 23 = .ok (.invokevirtual 353, 3) := by decide +kernel
theorem dX7_fewestIf_26 : decode cX7_fewestIf 26 = .ok (.aload_n 0, 1) := by decide +kernel
theorem dX7_fewestIf_27 : decode cX7_fewestIf 27 = .ok (.iload_n 1, 1) := by decide +kernel
theorem dX7_fewestIf_28 : decode cX7_fewestIf 28 = .ok (.iload_n 2, 1) := by decide +kernel
theorem dX7_fewestIf_29 : decode cX7_fewestIf 29 = .ok (.invokevirtual 195, 3) := by decide +kernel
theorem dX7_fewestIf_32 : decode cX7_fewestIf 32 = .ok (.aload_n 0, 1) := by decide +kernel
theorem dX7_fewestIf_33 : decode cX7_fewestIf 33 = .ok (.iload_n 1, 1) := by decide +kernel
theorem dX7_fewestIf_34 : decode cX7_fewestIf 34 = .ok (.invokevirtual 311, 3) := by decide +kernel
theorem dX7_fewestIf_37 : decode cX7_fewestIf 37 = .ok (.istore_n 3, 1) := by decide +kernel
theorem dX7_fewestIf_38 : decode cX7_fewestIf 38 = .ok (.aload_n 0, 1) := by decide +kernel
theorem dX7_fewestIf_39 : decode cX7_fewestIf 39 = .ok (.iload_n 3, 1) := by decide +kernel
theorem dX7_fewestIf_40 : decode cX7_fewestIf 40 = .ok (.ifCond .eq 11, 3) := by decide +kernel
theorem dX7_fewestIf_43 : decode cX7_fewestIf 43 = .ok (.aload_n 0, 1) := by decide +kernel
theorem dX7_fewestIf_44 : decode cX7_fewestIf 44 = .ok (.iconst 0, 1) := by decide +kernel
theorem dX7_fewestIf_45 : decode cX7_fewestIf 45 = .ok (.invokevirtual 344, 3) := by decide +kernel
theorem dX7_fewestIf_48 : decode cX7_fewestIf 48 = .ok (.goto 4, 3) := by decide +kernel
theorem dX7_fewestIf_51 : decode cX7_fewestIf 51 = .ok (.iconst (-1), 1) := by decide +kernel
theorem dX7_fewestIf_52 : decode cX7_fewestIf 52 = .ok (.invokevirtual 356, 3) := by decide +kernel
theorem dX7_fewestIf_55 : decode cX7_fewestIf 55 = .ok (.ireturn, 1) := by decide +kernel
set_option maxRecDepth 20000 in
theorem ggX7_fewestAt_X7_noRow : GoodIn wsX7_fewestAt wsX7_noRow := goodIn_r _ [5, 6, 7, 8, 4, 9, 10, 11, 12, 13, 14, 15, 16, 17, 18, 19, 20, 21, 22, 23, 133, 134, 135, 136, 137, 138, 139, 140, 141, 142, 143, 144, 145, 146, 147, 148, 149, 150, 151, 152, 153, 154, 155, 156, 157, 158, 159, 160, 161, 162, 163, 164, 165, 166, 167, 168, 169, 170, 171, 172, 173] (by decide +kernel) (by decide +kernel)
set_option maxRecDepth 20000 in
theorem gX7_fewestAt_X7_noRow : GoodIn wsX7_fewestAt (wsV RX7 335 RX7 yX7_noRow wsX7_noRow) := goodIn_app (goodIn_of _ (by decide +kernel)) ggX7_fewestAt_X7_noRow
set_option maxRecDepth 20000 in
theorem ggX7_fewestAt_X7_in : GoodIn wsX7_fewestAt wsX7_in := goodIn_r _ [23] (by decide +kernel) (by decide +kernel)
set_option maxRecDepth 20000 in
theorem gX7_fewestAt_X7_in : GoodIn wsX7_fewestAt (va_wsS RX7 143 yX7_in wsX7_in) := goodIn_app (goodIn_of _ (by decide +kernel)) ggX7_fewestAt_X7_in
set_option maxRecDepth 20000 in
theorem ggX7_fewestAt_X7_refuse : GoodIn wsX7_fewestAt wsX7_refuse := goodIn_r _ [15, 10, 133, 134, 135, 136, 137, 138, 139, 140, 141, 142, 143, 144, 145, 146, 147, 148, 149, 150, 151, 152, 153, 154, 155, 156, 157, 158, 159, 160, 161, 162, 163, 164, 165, 166, 167, 168, 169, 170, 171, 172, 173] (by decide +kernel) (by decide +kernel)
set_option maxRecDepth 20000 in
theorem gX7_fewestAt_X7_refuse : GoodIn wsX7_fewestAt (wsV RX7 74 RX7 yX7_refuse wsX7_refuse) := goodIn_app (goodIn_of _ (by decide +kernel)) ggX7_fewestAt_X7_refuse
set_option maxRecDepth 20000 in
theorem ggX7_fewestAt_X7_fewestIf : GoodIn wsX7_fewestAt wsX7_fewestIf := goodIn_ca (goodIn_r _ [27, 28, 29, 30, 4, 31, 32, 33, 34, 35, 36, 37, 38, 39, 40, 41, 42, 43, 44, 45, 46, 47, 48, 49, 50, 51, 52, 53, 54, 55, 56, 57, 58, 59, 60, 61, 62, 63, 64, 65, 66, 67, 68, 69, 70, 71, 72, 73, 74, 75, 76, 77, 78, 79, 80, 81, 82, 83, 84, 85, 86, 87, 88, 89, 90, 91, 92, 93, 94, 95, 96, 97, 98, 99, 100, 101, 102, 103, 104, 105, 106, 107, 108, 109, 110, 111, 112, 113, 114, 115, 116, 117, 118, 119, 120, 121, 122, 123, 124, 125, 126, 127, 128, 129, 130, 131, 132, 133, 134, 135, 136, 137, 138, 139, 140, 141, 142, 143, 144, 145, 146, 147, 148, 149, 150, 151, 152, 153, 154, 155, 156, 157, 158, 159, 160, 161, 162, 163, 164, 165, 166, 167, 168, 169, 170, 171, 172, 173] (by decide +kernel) (by decide +kernel)) (goodIn_sub (fun _ h => List.mem_cons_of_mem _ (List.mem_append_right _ h)) (by decide +kernel))
set_option maxRecDepth 20000 in
theorem gX7_fewestAt_X7_fewestIf : GoodIn wsX7_fewestAt (wsV RX7 359 RX7 yX7_fewestIf wsX7_fewestIf) := goodIn_app (goodIn_of _ (by decide +kernel)) ggX7_fewestAt_X7_fewestIf
theorem dX7_fewestAt_0 : decode cX7_fewestAt 0 = .ok (.aload_n 0, 1) := by decide +kernel
theorem dX7_fewestAt_1 : decode cX7_fewestAt 1 = .ok (.iload_n 1, 1) := by decide +kernel
theorem dX7_fewestAt_2 : decode cX7_fewestAt 2 = .ok (.invokevirtual 335, 3) := by decide +kernel
theorem dX7_fewestAt_5 : decode cX7_fewestAt 5 = .ok (.ifCond .ne 27, 3) := by decide +kernel
theorem dX7_fewestAt_8 : decode cX7_fewestAt 8 = .ok (.aload_n 0, 1) := by decide +kernel
theorem dX7_fewestAt_9 : decode cX7_fewestAt 9 = .ok (.iload_n 2, 1) := by decide +kernel
theorem dX7_fewestAt_10 : decode cX7_fewestAt 10 = .ok (.iconst 1, 1) := by decide +kernel
theorem dX7_fewestAt_11 : decode cX7_fewestAt 11 = .ok (.sipush 200, 3) := by decide +kernel
theorem dX7_fewestAt_14 : decode cX7_fewestAt 14 = .ok (.invokestatic 143, 3) := by decide +kernel
theorem dX7_fewestAt_17 : decode cX7_fewestAt 17 = .ok (.ifCond .ne 7, 3) := by decide +kernel
theorem dX7_fewestAt_20 : decode cX7_fewestAt 20 = .ok (.iconst 1, 1) := by decide +kernel
theorem dX7_fewestAt_21 : decode cX7_fewestAt 21 = .ok (.goto 4, 3) := by decide +kernel
theorem dX7_fewestAt_24 : decode cX7_fewestAt 24 = .ok (.iconst 0, 1) := by decide +kernel
theorem dX7_fewestAt_25 : decode cX7_fewestAt 25 = .ok (.iconst 3, 1) := by decide +kernel
theorem dX7_fewestAt_26 : decode cX7_fewestAt 26 = .ok (.invokevirtual 74, 3) := by decide +kernel
theorem dX7_fewestAt_29 : decode cX7_fewestAt 29 = .ok (.ifCond .eq 7, 3) := by decide +kernel
theorem dX7_fewestAt_32 : decode cX7_fewestAt 32 = .ok (.iconst 0, 1) := by decide +kernel
theorem dX7_fewestAt_33 : decode cX7_fewestAt 33 = .ok (.goto 9, 3) := by decide +kernel
theorem dX7_fewestAt_36 : decode cX7_fewestAt 36 = .ok (.aload_n 0, 1) := by decide +kernel
theorem dX7_fewestAt_37 : decode cX7_fewestAt 37 = .ok (.iload_n 1, 1) := by decide +kernel
theorem dX7_fewestAt_38 : decode cX7_fewestAt 38 = .ok (.iload_n 2, 1) := by decide +kernel
theorem dX7_fewestAt_39 : decode cX7_fewestAt 39 = .ok (.invokevirtual 359, 3) := by decide +kernel
theorem dX7_fewestAt_42 : decode cX7_fewestAt 42 = .ok (.ireturn, 1) := by decide +kernel
set_option maxRecDepth 20000 in
theorem ggX7_rowFor_X7_notLoaded : GoodIn wsX7_rowFor wsX7_notLoaded := goodIn_r _ [7, 8, 9, 10, 11, 12, 6, 13, 125, 126, 127, 128, 129, 130, 131, 132, 133, 134, 135, 136, 137, 138, 139, 140, 141, 142, 143, 144, 145, 146, 147, 148, 149, 150, 151, 152, 153, 154, 155, 156, 157, 158, 159, 160, 161, 162, 163, 164, 165] (by decide +kernel) (by decide +kernel)
set_option maxRecDepth 20000 in
theorem gX7_rowFor_X7_notLoaded : GoodIn wsX7_rowFor (wsV RX7 320 RX7 yX7_notLoaded wsX7_notLoaded) := goodIn_app (goodIn_of _ (by decide +kernel)) ggX7_rowFor_X7_notLoaded
set_option maxRecDepth 20000 in
theorem ggX7_rowFor_X7_in : GoodIn wsX7_rowFor wsX7_in := goodIn_r _ [16] (by decide +kernel) (by decide +kernel)
set_option maxRecDepth 20000 in
theorem gX7_rowFor_X7_in : GoodIn wsX7_rowFor (va_wsS RX7 143 yX7_in wsX7_in) := goodIn_app (goodIn_of _ (by decide +kernel)) ggX7_rowFor_X7_in
set_option maxRecDepth 20000 in
theorem ggX7_rowFor_X7_refuse : GoodIn wsX7_rowFor wsX7_refuse := goodIn_r _ [13, 8, 125, 126, 127, 128, 129, 130, 131, 132, 133, 134, 135, 136, 137, 138, 139, 140, 141, 142, 143, 144, 145, 146, 147, 148, 149, 150, 151, 152, 153, 154, 155, 156, 157, 158, 159, 160, 161, 162, 163, 164, 165] (by decide +kernel) (by decide +kernel)
set_option maxRecDepth 20000 in
theorem gX7_rowFor_X7_refuse : GoodIn wsX7_rowFor (wsV RX7 74 RX7 yX7_refuse wsX7_refuse) := goodIn_app (goodIn_of _ (by decide +kernel)) ggX7_rowFor_X7_refuse
set_option maxRecDepth 20000 in
theorem ggX7_rowFor_X7_fewestIf : GoodIn wsX7_rowFor wsX7_fewestIf := goodIn_ca (goodIn_r _ [20, 21, 22, 23, 6, 24, 25, 26, 27, 28, 29, 30, 31, 32, 33, 34, 35, 36, 37, 38, 39, 40, 41, 42, 43, 44, 45, 46, 47, 48, 49, 50, 51, 52, 53, 54, 55, 56, 57, 58, 59, 60, 61, 62, 63, 64, 65, 1, 66, 67, 68, 69, 70, 71, 72, 73, 74, 75, 76, 77, 78, 79, 80, 81, 82, 83, 84, 85, 86, 87, 88, 89, 90, 91, 92, 93, 94, 95, 96, 97, 98, 99, 100, 101, 102, 103, 104, 105, 106, 107, 108, 109, 110, 111, 112, 113, 114, 115, 116, 117, 118, 119, 120, 121, 122, 123, 124, 125, 126, 127, 128, 129, 130, 131, 132, 133, 134, 135, 136, 137, 138, 139, 140, 141, 142, 143, 144, 145, 146, 147, 148, 149, 150, 151, 152, 153, 154, 155, 156, 157, 158, 159, 160, 161, 162, 163, 164, 165] (by decide +kernel) (by decide +kernel)) (goodIn_sub (fun _ h => List.mem_cons_of_mem _ (List.mem_append_right _ h)) (by decide +kernel))
set_option maxRecDepth 20000 in
theorem gX7_rowFor_X7_fewestIf : GoodIn wsX7_rowFor (wsV RX7 359 RX7 yX7_fewestIf wsX7_fewestIf) := goodIn_app (goodIn_of _ (by decide +kernel)) ggX7_rowFor_X7_fewestIf
theorem dX7_rowFor_0 : decode cX7_rowFor 0 = .ok (.aload_n 0, 1) := by decide +kernel
theorem dX7_rowFor_1 : decode cX7_rowFor 1 = .ok (.invokevirtual 320, 3) := by decide +kernel
theorem dX7_rowFor_4 : decode cX7_rowFor 4 = .ok (.ifCond .ne 27, 3) := by decide +kernel
theorem dX7_rowFor_7 : decode cX7_rowFor 7 = .ok (.aload_n 0, 1) := by decide +kernel
theorem dX7_rowFor_8 : decode cX7_rowFor 8 = .ok (.iload_n 1, 1) := by decide +kernel
theorem dX7_rowFor_9 : decode cX7_rowFor 9 = .ok (.iconst 1, 1) := by decide +kernel
theorem dX7_rowFor_10 : decode cX7_rowFor 10 = .ok (.sipush 200, 3) := by decide +kernel
theorem dX7_rowFor_13 : decode cX7_rowFor 13 = .ok (.invokestatic 143, 3) := by decide +kernel
theorem dX7_rowFor_16 : decode cX7_rowFor 16 = .ok (.ifCond .ne 7, 3) := by decide +kernel
theorem dX7_rowFor_19 : decode cX7_rowFor 19 = .ok (.iconst 1, 1) := by decide +kernel
theorem dX7_rowFor_20 : decode cX7_rowFor 20 = .ok (.goto 4, 3) := by decide +kernel
theorem dX7_rowFor_23 : decode cX7_rowFor 23 = .ok (.iconst 0, 1) := by decide +kernel
theorem dX7_rowFor_24 : decode cX7_rowFor 24 = .ok (.iconst 2, 1) := by decide +kernel
theorem dX7_rowFor_25 : decode cX7_rowFor 25 = .ok (.invokevirtual 74, 3) := by decide +kernel
theorem dX7_rowFor_28 : decode cX7_rowFor 28 = .ok (.ifCond .eq 5, 3) := by decide +kernel
theorem dX7_rowFor_31 : decode cX7_rowFor 31 = .ok (.iconst 0, 1) := by decide +kernel
theorem dX7_rowFor_32 : decode cX7_rowFor 32 = .ok (.ireturn, 1) := by decide +kernel
theorem dX7_rowFor_33 : decode cX7_rowFor 33 = .ok (.iconst (-1), 1) := by decide +kernel
theorem dX7_rowFor_34 : decode cX7_rowFor 34 = .ok (.istore_n 2, 1) := by decide +kernel
theorem dX7_rowFor_35 : decode cX7_rowFor 35 = .ok (.ldc_w 280, 3) := by decide +kernel
theorem dX7_rowFor_38 : decode cX7_rowFor 38 = .ok (.istore_n 3, 1) := by decide +kernel
theorem dX7_rowFor_39 : decode cX7_rowFor 39 = .ok (.iconst 0, 1) := by decide +kernel
theorem dX7_rowFor_40 : decode cX7_rowFor 40 = .ok (.istore 4, 2) := by decide +kernel
theorem dX7_rowFor_42 : decode cX7_rowFor 42 = .ok (.iload 4, 2) := by decide +kernel
theorem dX7_rowFor_44 : decode cX7_rowFor 44 = .ok (.aload_n 0, 1) := by decide +kernel
theorem dX7_rowFor_45 : decode cX7_rowFor 45 = .ok (.getfield 154, 3) := by decide +kernel
theorem dX7_rowFor_48 : decode cX7_rowFor 48 = .ok (.if_icmp .ge 36, 3) := by decide +kernel
theorem dX7_rowFor_51 : decode cX7_rowFor 51 = .ok (.aload_n 0, 1) := by decide +kernel
theorem dX7_rowFor_52 : decode cX7_rowFor 52 = .ok (.iload 4, 2) := by decide +kernel
theorem dX7_rowFor_54 : decode cX7_rowFor 54 = .ok (.iload_n 1, 1) := by decide +kernel
theorem dX7_rowFor_55 : decode cX7_rowFor 55 = .ok (.invokevirtual 359, 3) := by decide +kernel
theorem dX7_rowFor_58 : decode cX7_rowFor 58 = .ok (.istore 5, 2) := by decide +kernel
theorem dX7_rowFor_60 : decode cX7_rowFor 60 = .ok (.iload 5, 2) := by decide +kernel
theorem dX7_rowFor_62 : decode cX7_rowFor 62 = .ok (.iconst (-1), 1) := by decide +kernel
theorem dX7_rowFor_63 : decode cX7_rowFor 63 = .ok (.if_icmp .eq 15, 3) := by decide +kernel
theorem dX7_rowFor_66 : decode cX7_rowFor 66 = .ok (.iload 5, 2) := by decide +kernel
theorem dX7_rowFor_68 : decode cX7_rowFor 68 = .ok (.iload_n 3, 1) := by decide +kernel
theorem dX7_rowFor_69 : decode cX7_rowFor 69 = .ok (.if_icmp .ge 9, 3) := by decide +kernel
theorem dX7_rowFor_72 : decode cX7_rowFor 72 = .ok (.iload 4, 2) := by decide +kernel
theorem dX7_rowFor_74 : decode cX7_rowFor 74 = .ok (.istore_n 2, 1) := by decide +kernel
theorem dX7_rowFor_75 : decode cX7_rowFor 75 = .ok (.iload 5, 2) := by decide +kernel
theorem dX7_rowFor_77 : decode cX7_rowFor 77 = .ok (.istore_n 3, 1) := by decide +kernel
theorem dX7_rowFor_78 : decode cX7_rowFor 78 = .ok (.iinc 4 1, 3) := by decide +kernel
theorem dX7_rowFor_81 : decode cX7_rowFor 81 = .ok (.goto (-39), 3) := by decide +kernel
theorem dX7_rowFor_84 : decode cX7_rowFor 84 = .ok (.iload_n 2, 1) := by decide +kernel
theorem dX7_rowFor_85 : decode cX7_rowFor 85 = .ok (.ireturn, 1) := by decide +kernel
set_option maxRecDepth 20000 in
theorem ggX7_missing_X7_noRow : GoodIn wsX7_missing wsX7_noRow := goodIn_r _ [7, 8, 9, 10, 6, 11, 12, 13, 14, 15, 16, 17, 18, 19, 20, 21, 22, 23, 24, 25, 108, 109, 110, 111, 112, 113, 114, 115, 116, 117, 118, 119, 120, 121, 122, 123, 124, 125, 126, 127, 128, 129, 130, 131, 132, 133, 134, 135, 136, 137, 138, 139, 140, 141, 142, 143, 144, 145, 146, 147, 148] (by decide +kernel) (by decide +kernel)
set_option maxRecDepth 20000 in
theorem gX7_missing_X7_noRow : GoodIn wsX7_missing (wsV RX7 335 RX7 yX7_noRow wsX7_noRow) := goodIn_app (goodIn_of _ (by decide +kernel)) ggX7_missing_X7_noRow
set_option maxRecDepth 20000 in
theorem ggX7_missing_X7_chooses : GoodIn wsX7_missing wsX7_chooses := goodIn_ca (goodIn_r _ [29, 30, 31, 32, 33, 34, 35, 36, 6, 37, 38, 39, 40, 41, 42, 43, 44, 45, 46, 47, 48, 49, 50, 51, 52, 53, 54, 55, 56, 57, 58, 59, 60, 61, 62, 63, 64, 65, 66, 67, 68, 69, 1, 70, 71, 72, 73, 74, 75, 76, 77, 78, 79, 80, 81, 82, 83, 84, 85, 86, 87, 88, 89, 90, 91, 92, 93, 94, 2, 95, 96, 97, 98, 99, 100, 101, 102, 103, 104, 105, 106, 107, 108, 109, 110, 111, 112, 113, 114, 115, 116, 117, 118, 119, 120, 121, 122, 123, 124, 125, 126, 127, 128, 129, 130, 131, 132, 133, 134, 135, 136, 137, 138, 139, 140, 141, 142, 143, 144, 145, 146, 147, 148] (by decide +kernel) (by decide +kernel)) (goodIn_sub (fun _ h => List.mem_cons_of_mem _ (List.mem_append_right _ h)) (by decide +kernel))
set_option maxRecDepth 20000 in
theorem gX7_missing_X7_chooses : GoodIn wsX7_missing (wsV RX7 311 RX7 yX7_chooses wsX7_chooses) := goodIn_app (goodIn_of _ (by decide +kernel)) ggX7_missing_X7_chooses
set_option maxRecDepth 20000 in
theorem ggX7_missing_X7_isAhead : GoodIn wsX7_missing wsX7_isAhead := goodIn_ca (goodIn_r _ [78, 47, 79, 108, 109, 110, 111, 112, 113, 114, 115, 116, 117, 118, 119, 120, 121, 122, 123, 124, 125, 126, 127, 128, 129, 130, 131, 132, 133, 134, 135, 136, 137, 138, 139, 140, 141, 142, 143, 144, 145, 146, 147, 148] (by decide +kernel) (by decide +kernel)) (goodIn_sub (fun _ h => List.mem_cons_of_mem _ (List.mem_append_right _ h)) (by decide +kernel))
set_option maxRecDepth 20000 in
theorem gX7_missing_X7_isAhead : GoodIn wsX7_missing (wsV RX7 273 RX7 yX7_isAhead wsX7_isAhead) := goodIn_app (goodIn_of _ (by decide +kernel)) ggX7_missing_X7_isAhead
theorem dX7_missing_0 : decode cX7_missing 0 = .ok (.aload_n 0, 1) := by decide +kernel
theorem dX7_missing_1 : decode cX7_missing 1 = .ok (.iload_n 1, 1) := by decide +kernel
theorem dX7_missing_2 : decode cX7_missing 2 = .ok (.invokevirtual 335, 3) := by decide +kernel
theorem dX7_missing_5 : decode cX7_missing 5 = .ok (.ifCond .eq 5, 3) := by decide +kernel
theorem dX7_missing_8 : decode cX7_missing 8 = .ok (.iconst 0, 1) := by decide +kernel
theorem dX7_missing_9 : decode cX7_missing 9 = .ok (.ireturn, 1) := by decide +kernel
theorem dX7_missing_10 : decode cX7_missing 10 = .ok (.aload_n 0, 1) := by decide +kernel
theorem dX7_missing_11 : decode cX7_missing 11 = .ok (.iload_n 1, 1) := by decide +kernel
theorem dX7_missing_12 : decode cX7_missing 12 = .ok (.invokevirtual 311, 3) := by decide +kernel
theorem dX7_missing_15 : decode cX7_missing 15 = .ok (.ifCond .eq 5, 3) := by decide +kernel
theorem dX7_missing_18 : decode cX7_missing 18 = .ok (.iconst (-1), 1) := by decide +kernel
theorem dX7_missing_19 : decode cX7_missing 19 = .ok (.ireturn, 1) := by decide +kernel
theorem dX7_missing_20 : decode cX7_missing 20 = .ok (.iconst (-1), 1) := by decide +kernel
theorem dX7_missing_21 : decode cX7_missing 21 = .ok (.istore_n 2, 1) := by decide +kernel
theorem dX7_missing_22 : decode cX7_missing 22 = .ok (.iconst 0, 1) := by decide +kernel
theorem dX7_missing_23 : decode cX7_missing 23 = .ok (.istore_n 3, 1) := by decide +kernel
theorem dX7_missing_24 : decode cX7_missing 24 = .ok (.iload_n 3, 1) := by decide +kernel
theorem dX7_missing_25 : decode cX7_missing 25 = .ok (.aload_n 0, 1) := by decide +kernel
theorem dX7_missing_26 : decode cX7_missing 26 = .ok (.getfield 172, 3) := by decide +kernel
theorem dX7_missing_29 : decode cX7_missing 29 = .ok (.if_icmp .ge 47, 3) := by decide +kernel
theorem dX7_missing_32 : decode cX7_missing 32 = .ok (.aload_n 0, 1) := by decide +kernel
theorem dX7_missing_33 : decode cX7_missing 33 = .ok (.iload_n 3, 1) := by decide +kernel
theorem dX7_missing_34 : decode cX7_missing 34 = .ok (.putfield 58, 3) := by decide +kernel
theorem dX7_missing_37 : decode cX7_missing 37 = .ok (.aload_n 0, 1) := by decide +kernel
theorem dX7_missing_38 : decode cX7_missing 38 = .ok (.iload_n 1, 1) := by decide +kernel
theorem dX7_missing_39 : decode cX7_missing 39 = .ok (.invokevirtual 311, 3) := by decide +kernel
theorem dX7_missing_42 : decode cX7_missing 42 = .ok (.istore 4, 2) := by decide +kernel
theorem dX7_missing_44 : decode cX7_missing 44 = .ok (.aload_n 0, 1) := by decide +kernel
theorem dX7_missing_45 : decode cX7_missing 45 = .ok (.iconst (-1), 1) := by decide +kernel
theorem dX7_missing_46 : decode cX7_missing 46 = .ok (.putfield 58, 3) := by decide +kernel
theorem dX7_missing_49 : decode cX7_missing 49 = .ok (.iload 4, 2) := by decide +kernel
theorem dX7_missing_51 : decode cX7_missing 51 = .ok (.ifCond .eq 19, 3) := by decide +kernel
theorem dX7_missing_54 : decode cX7_missing 54 = .ok (.iload_n 2, 1) := by decide +kernel
theorem dX7_missing_55 : decode cX7_missing 55 = .ok (.iconst (-1), 1) := by decide +kernel
theorem dX7_missing_56 : decode cX7_missing 56 = .ok (.if_icmp .eq 12, 3) := by decide +kernel
theorem dX7_missing_59 : decode cX7_missing 59 = .ok (.aload_n 0, 1) := by decide +kernel
theorem dX7_missing_60 : decode cX7_missing 60 = .ok (.iload_n 3, 1) := by decide +kernel
theorem dX7_missing_61 : decode cX7_missing 61 = .ok (.iload_n 2, 1) := by decide +kernel
theorem dX7_missing_62 : decode cX7_missing 62 = .ok (.invokevirtual 273, 3) := by decide +kernel
theorem dX7_missing_65 : decode cX7_missing 65 = .ok (.ifCond .eq 5, 3) := by decide +kernel
theorem dX7_missing_68 : decode cX7_missing 68 = .ok (.iload_n 3, 1) := by decide +kernel
theorem dX7_missing_69 : decode cX7_missing 69 = .ok (.istore_n 2, 1) := by decide +kernel
theorem dX7_missing_70 : decode cX7_missing 70 = .ok (.iinc 3 1, 3) := by decide +kernel
theorem dX7_missing_73 : decode cX7_missing 73 = .ok (.goto (-49), 3) := by decide +kernel
theorem dX7_missing_76 : decode cX7_missing 76 = .ok (.iload_n 2, 1) := by decide +kernel
theorem dX7_missing_77 : decode cX7_missing 77 = .ok (.ireturn, 1) := by decide +kernel
set_option maxRecDepth 20000 in
theorem ggX7_fallsIn_X7_noRow : GoodIn wsX7_fallsIn wsX7_noRow := goodIn_r _ [5, 6, 7, 8, 4, 9, 10, 11, 12, 13, 14, 15, 16, 17, 18, 19, 20, 21, 22, 23, 104, 105, 106, 107, 108, 109, 110, 111, 112, 113, 114, 115, 116, 117, 118, 119, 120, 121, 122, 123, 124, 125, 126, 127, 128, 129, 130, 131, 132, 133, 134, 135, 136, 137, 138, 139, 140, 141, 142, 143, 144] (by decide +kernel) (by decide +kernel)
set_option maxRecDepth 20000 in
theorem gX7_fallsIn_X7_noRow : GoodIn wsX7_fallsIn (wsV RX7 335 RX7 yX7_noRow wsX7_noRow) := goodIn_app (goodIn_of _ (by decide +kernel)) ggX7_fallsIn_X7_noRow
set_option maxRecDepth 20000 in
theorem ggX7_fallsIn_X7_putsAside : GoodIn wsX7_fallsIn wsX7_putsAside := goodIn_ca (goodIn_r _ [27, 28, 29, 104, 105, 106, 107, 108, 109, 110, 111, 112, 113, 114, 115, 116, 117, 118, 119, 120, 121, 122, 123, 124, 125, 126, 127, 128, 129, 130, 131, 132, 133, 134, 135, 136, 137, 138, 139, 140, 141, 142, 143, 144] (by decide +kernel) (by decide +kernel)) (goodIn_sub (fun _ h => List.mem_cons_of_mem _ (List.mem_append_right _ h)) (by decide +kernel))
set_option maxRecDepth 20000 in
theorem gX7_fallsIn_X7_putsAside : GoodIn wsX7_fallsIn (wsV RX7 353 RX7 yX7_putsAside wsX7_putsAside) := goodIn_app (goodIn_of _ (by decide +kernel)) ggX7_fallsIn_X7_putsAside
set_option maxRecDepth 20000 in
theorem ggX7_fallsIn_X7_passes : GoodIn wsX7_fallsIn wsX7_passes := goodIn_ca (goodIn_r _ [33, 20, 34, 29, 35, 36, 37, 4, 38, 39, 40, 41, 42, 43, 44, 45, 46, 47, 48, 49, 50, 51, 52, 53, 54, 55, 56, 57, 58, 59, 60, 61, 62, 63, 64, 65, 66, 67, 68, 69, 70, 71, 72, 73, 74, 75, 76, 77, 78, 79, 80, 81, 82, 83, 84, 85, 86, 87, 88, 89, 90, 104, 105, 106, 107, 108, 109, 110, 111, 112, 113, 114, 115, 116, 117, 118, 119, 120, 121, 122, 123, 124, 125, 126, 127, 128, 129, 130, 131, 132, 133, 134, 135, 136, 137, 138, 139, 140, 141, 142, 143, 144] (by decide +kernel) (by decide +kernel)) (goodIn_sub (fun _ h => List.mem_cons_of_mem _ (List.mem_append_right _ h)) (by decide +kernel))
set_option maxRecDepth 20000 in
theorem gX7_fallsIn_X7_passes : GoodIn wsX7_fallsIn (wsV RX7 362 RX7 yX7_passes wsX7_passes) := goodIn_app (goodIn_of _ (by decide +kernel)) ggX7_fallsIn_X7_passes
set_option maxRecDepth 20000 in
theorem ggX7_fallsIn_X7_prints : GoodIn wsX7_fallsIn wsX7_prints := goodIn_ca (goodIn_r _ [94, 20, 95, 29, 35, 36, 37, 4, 38, 47, 48, 49, 50, 51, 52, 53, 54, 55, 56, 57, 58, 59, 60, 61, 62, 63, 64, 65, 66, 67, 68, 69, 70, 71, 72, 73, 74, 75, 76, 77, 78, 79, 80, 81, 82, 83, 84, 85, 86, 87, 88, 89, 90, 96, 97, 98, 99, 44, 45, 46, 104, 105, 106, 107, 108, 109, 110, 111, 112, 113, 114, 115, 116, 117, 118, 119, 120, 121, 122, 123, 124, 125, 126, 127, 128, 129, 130, 131, 132, 133, 134, 135, 136, 137, 138, 139, 140, 141, 142, 143, 144] (by decide +kernel) (by decide +kernel)) (goodIn_sub (fun _ h => List.mem_cons_of_mem _ (List.mem_append_right _ h)) (by decide +kernel))
set_option maxRecDepth 20000 in
theorem gX7_fallsIn_X7_prints : GoodIn wsX7_fallsIn (wsV RX7 365 RX7 yX7_prints wsX7_prints) := goodIn_app (goodIn_of _ (by decide +kernel)) ggX7_fallsIn_X7_prints
set_option maxRecDepth 20000 in
theorem ggX7_fallsIn_X7_fetchesBack : GoodIn wsX7_fallsIn wsX7_fetchesBack := goodIn_ca (goodIn_r _ [103, 29, 28, 104, 105, 106, 107, 108, 109, 110, 111, 112, 113, 114, 115, 116, 117, 118, 119, 120, 121, 122, 123, 124, 125, 126, 127, 128, 129, 130, 131, 132, 133, 134, 135, 136, 137, 138, 139, 140, 141, 142, 143, 144] (by decide +kernel) (by decide +kernel)) (goodIn_sub (fun _ h => List.mem_cons_of_mem _ (List.mem_append_right _ h)) (by decide +kernel))
set_option maxRecDepth 20000 in
theorem gX7_fallsIn_X7_fetchesBack : GoodIn wsX7_fallsIn (wsV RX7 356 RX7 yX7_fetchesBack wsX7_fetchesBack) := goodIn_app (goodIn_of _ (by decide +kernel)) ggX7_fallsIn_X7_fetchesBack
theorem dX7_fallsIn_0 : decode cX7_fallsIn 0 = .ok (.aload_n 0, 1) := by decide +kernel
theorem dX7_fallsIn_1 : decode cX7_fallsIn 1 = .ok (.iload_n 1, 1) := by decide +kernel
theorem dX7_fallsIn_2 : decode cX7_fallsIn 2 = .ok (.invokevirtual 335, 3) := by decide +kernel
theorem dX7_fallsIn_5 : decode cX7_fallsIn 5 = .ok (.ifCond .eq 5, 3) := by decide +kernel
theorem dX7_fallsIn_8 : decode cX7_fallsIn 8 = .ok (.iconst 0, 1) := by decide +kernel
theorem dX7_fallsIn_9 : decode cX7_fallsIn 9 = .ok (.ireturn, 1) := by decide +kernel
theorem dX7_fallsIn_10 : decode cX7_fallsIn 10 = .ok (.aload_n 0, 1) := by decide +kernel
theorem dX7_fallsIn_11 : decode cX7_fallsIn 11 = .ok (.invokevirtual 353, 3) := by decide +kernel
theorem dX7_fallsIn_14 : decode cX7_fallsIn 14 = .ok (.iconst 1, 1) := by decide +kernel
theorem dX7_fallsIn_15 : decode cX7_fallsIn 15 = .ok (.istore_n 3, 1) := by decide +kernel
theorem dX7_fallsIn_16 : decode cX7_fallsIn 16 = .ok (.iload_n 3, 1) := by decide +kernel
theorem dX7_fallsIn_17 : decode cX7_fallsIn 17 = .ok (.sipush 200, 3) := by decide +kernel
theorem dX7_fallsIn_20 : decode cX7_fallsIn 20 = .ok (.if_icmp .gt 31, 3) := by decide +kernel
theorem dX7_fallsIn_23 : decode cX7_fallsIn 23 = .ok (.iload_n 2, 1) := by decide +kernel
theorem dX7_fallsIn_24 : decode cX7_fallsIn 24 = .ok (.ifCond .eq 10, 3) := by decide +kernel
theorem dX7_fallsIn_27 : decode cX7_fallsIn 27 = .ok (.aload_n 0, 1) := by decide +kernel
theorem dX7_fallsIn_28 : decode cX7_fallsIn 28 = .ok (.invokevirtual 362, 3) := by decide +kernel
theorem dX7_fallsIn_31 : decode cX7_fallsIn 31 = .ok (.goto 7, 3) := by decide +kernel
theorem dX7_fallsIn_34 : decode cX7_fallsIn 34 = .ok (.aload_n 0, 1) := by decide +kernel
theorem dX7_fallsIn_35 : decode cX7_fallsIn 35 = .ok (.invokevirtual 365, 3) := by decide +kernel
theorem dX7_fallsIn_38 : decode cX7_fallsIn 38 = .ok (.iload_n 1, 1) := by decide +kernel
theorem dX7_fallsIn_39 : decode cX7_fallsIn 39 = .ok (.ishr, 1) := by decide +kernel
theorem dX7_fallsIn_40 : decode cX7_fallsIn 40 = .ok (.iconst 1, 1) := by decide +kernel
theorem dX7_fallsIn_41 : decode cX7_fallsIn 41 = .ok (.iand, 1) := by decide +kernel
theorem dX7_fallsIn_42 : decode cX7_fallsIn 42 = .ok (.ifCond .ne 9, 3) := by decide +kernel
theorem dX7_fallsIn_45 : decode cX7_fallsIn 45 = .ok (.iinc 3 1, 3) := by decide +kernel
theorem dX7_fallsIn_48 : decode cX7_fallsIn 48 = .ok (.goto (-32), 3) := by decide +kernel
theorem dX7_fallsIn_51 : decode cX7_fallsIn 51 = .ok (.aload_n 0, 1) := by decide +kernel
theorem dX7_fallsIn_52 : decode cX7_fallsIn 52 = .ok (.iload_n 3, 1) := by decide +kernel
theorem dX7_fallsIn_53 : decode cX7_fallsIn 53 = .ok (.sipush 200, 3) := by decide +kernel
theorem dX7_fallsIn_56 : decode cX7_fallsIn 56 = .ok (.if_icmp .gt 7, 3) := by decide +kernel
theorem dX7_fallsIn_59 : decode cX7_fallsIn 59 = .ok (.iload_n 3, 1) := by decide +kernel
theorem dX7_fallsIn_60 : decode cX7_fallsIn 60 = .ok (.goto 4, 3) := by decide +kernel
theorem dX7_fallsIn_63 : decode cX7_fallsIn 63 = .ok (.iconst (-1), 1) := by decide +kernel
theorem dX7_fallsIn_64 : decode cX7_fallsIn 64 = .ok (.invokevirtual 356, 3) := by decide +kernel
theorem dX7_fallsIn_67 : decode cX7_fallsIn 67 = .ok (.ireturn, 1) := by decide +kernel
set_option maxRecDepth 20000 in
theorem ggX7_goodIn_X7_notLoaded : GoodIn wsX7_goodIn wsX7_notLoaded := goodIn_r _ [6, 7, 8, 9, 10, 11, 5, 12, 86, 87, 88, 89, 90, 91, 92, 93, 94, 95, 96, 97, 98, 99, 100, 101, 102, 103, 104, 105, 106, 107, 108, 109, 110, 111, 112, 113, 114, 115, 116, 117, 118, 119, 120, 121, 122, 123, 124, 125, 126] (by decide +kernel) (by decide +kernel)
set_option maxRecDepth 20000 in
theorem gX7_goodIn_X7_notLoaded : GoodIn wsX7_goodIn (wsV RX7 320 RX7 yX7_notLoaded wsX7_notLoaded) := goodIn_app (goodIn_of _ (by decide +kernel)) ggX7_goodIn_X7_notLoaded
set_option maxRecDepth 20000 in
theorem ggX7_goodIn_X7_in : GoodIn wsX7_goodIn wsX7_in := goodIn_r _ [15] (by decide +kernel) (by decide +kernel)
set_option maxRecDepth 20000 in
theorem gX7_goodIn_X7_in : GoodIn wsX7_goodIn (va_wsS RX7 143 yX7_in wsX7_in) := goodIn_app (goodIn_of _ (by decide +kernel)) ggX7_goodIn_X7_in
set_option maxRecDepth 20000 in
theorem ggX7_goodIn_X7_refuse : GoodIn wsX7_goodIn wsX7_refuse := goodIn_r _ [12, 7, 86, 87, 88, 89, 90, 91, 92, 93, 94, 95, 96, 97, 98, 99, 100, 101, 102, 103, 104, 105, 106, 107, 108, 109, 110, 111, 112, 113, 114, 115, 116, 117, 118, 119, 120, 121, 122, 123, 124, 125, 126] (by decide +kernel) (by decide +kernel)
set_option maxRecDepth 20000 in
theorem gX7_goodIn_X7_refuse : GoodIn wsX7_goodIn (wsV RX7 74 RX7 yX7_refuse wsX7_refuse) := goodIn_app (goodIn_of _ (by decide +kernel)) ggX7_goodIn_X7_refuse
set_option maxRecDepth 20000 in
theorem ggX7_goodIn_X7_putsAside : GoodIn wsX7_goodIn wsX7_putsAside := goodIn_ca (goodIn_r _ [19, 20, 1, 86, 87, 88, 89, 90, 91, 92, 93, 94, 95, 96, 97, 98, 99, 100, 101, 102, 103, 104, 105, 106, 107, 108, 109, 110, 111, 112, 113, 114, 115, 116, 117, 118, 119, 120, 121, 122, 123, 124, 125, 126] (by decide +kernel) (by decide +kernel)) (goodIn_sub (fun _ h => List.mem_cons_of_mem _ (List.mem_append_right _ h)) (by decide +kernel))
set_option maxRecDepth 20000 in
theorem gX7_goodIn_X7_putsAside : GoodIn wsX7_goodIn (wsV RX7 353 RX7 yX7_putsAside wsX7_putsAside) := goodIn_app (goodIn_of _ (by decide +kernel)) ggX7_goodIn_X7_putsAside
set_option maxRecDepth 20000 in
theorem ggX7_goodIn_X7_prints : GoodIn wsX7_goodIn wsX7_prints := goodIn_ca (goodIn_r _ [24, 25, 26, 1, 27, 28, 29, 5, 30, 31, 32, 33, 34, 35, 36, 37, 38, 39, 40, 41, 42, 43, 44, 45, 46, 47, 48, 49, 50, 51, 52, 53, 54, 55, 56, 57, 58, 59, 60, 61, 62, 63, 64, 65, 66, 67, 68, 69, 70, 71, 72, 73, 74, 75, 76, 77, 78, 79, 80, 81, 86, 87, 88, 89, 90, 91, 92, 93, 94, 95, 96, 97, 98, 99, 100, 101, 102, 103, 104, 105, 106, 107, 108, 109, 110, 111, 112, 113, 114, 115, 116, 117, 118, 119, 120, 121, 122, 123, 124, 125, 126] (by decide +kernel) (by decide +kernel)) (goodIn_sub (fun _ h => List.mem_cons_of_mem _ (List.mem_append_right _ h)) (by decide +kernel))
set_option maxRecDepth 20000 in
theorem gX7_goodIn_X7_prints : GoodIn wsX7_goodIn (wsV RX7 365 RX7 yX7_prints wsX7_prints) := goodIn_app (goodIn_of _ (by decide +kernel)) ggX7_goodIn_X7_prints
set_option maxRecDepth 20000 in
theorem ggX7_goodIn_X7_fetchesBack : GoodIn wsX7_goodIn wsX7_fetchesBack := goodIn_ca (goodIn_r _ [85, 1, 20, 86, 87, 88, 89, 90, 91, 92, 93, 94, 95, 96, 97, 98, 99, 100, 101, 102, 103, 104, 105, 106, 107, 108, 109, 110, 111, 112, 113, 114, 115, 116, 117, 118, 119, 120, 121, 122, 123, 124, 125, 126] (by decide +kernel) (by decide +kernel)) (goodIn_sub (fun _ h => List.mem_cons_of_mem _ (List.mem_append_right _ h)) (by decide +kernel))
set_option maxRecDepth 20000 in
theorem gX7_goodIn_X7_fetchesBack : GoodIn wsX7_goodIn (wsV RX7 356 RX7 yX7_fetchesBack wsX7_fetchesBack) := goodIn_app (goodIn_of _ (by decide +kernel)) ggX7_goodIn_X7_fetchesBack
theorem dX7_goodIn_0 : decode cX7_goodIn 0 = .ok (.aload_n 0, 1) := by decide +kernel
theorem dX7_goodIn_1 : decode cX7_goodIn 1 = .ok (.invokevirtual 320, 3) := by decide +kernel
theorem dX7_goodIn_4 : decode cX7_goodIn 4 = .ok (.ifCond .ne 27, 3) := by decide +kernel
theorem dX7_goodIn_7 : decode cX7_goodIn 7 = .ok (.aload_n 0, 1) := by decide +kernel
theorem dX7_goodIn_8 : decode cX7_goodIn 8 = .ok (.iload_n 1, 1) := by decide +kernel
theorem dX7_goodIn_9 : decode cX7_goodIn 9 = .ok (.iconst 0, 1) := by decide +kernel
theorem dX7_goodIn_10 : decode cX7_goodIn 10 = .ok (.sipush 200, 3) := by decide +kernel
theorem dX7_goodIn_13 : decode cX7_goodIn 13 = .ok (.invokestatic 143, 3) := by decide +kernel
theorem dX7_goodIn_16 : decode cX7_goodIn 16 = .ok (.ifCond .ne 7, 3) := by decide +kernel
theorem dX7_goodIn_19 : decode cX7_goodIn 19 = .ok (.iconst 1, 1) := by decide +kernel
theorem dX7_goodIn_20 : decode cX7_goodIn 20 = .ok (.goto 4, 3) := by decide +kernel
theorem dX7_goodIn_23 : decode cX7_goodIn 23 = .ok (.iconst 0, 1) := by decide +kernel
theorem dX7_goodIn_24 : decode cX7_goodIn 24 = .ok (.iconst 2, 1) := by decide +kernel
theorem dX7_goodIn_25 : decode cX7_goodIn 25 = .ok (.invokevirtual 74, 3) := by decide +kernel
theorem dX7_goodIn_28 : decode cX7_goodIn 28 = .ok (.ifCond .eq 5, 3) := by decide +kernel
theorem dX7_goodIn_31 : decode cX7_goodIn 31 = .ok (.iconst 0, 1) := by decide +kernel
theorem dX7_goodIn_32 : decode cX7_goodIn 32 = .ok (.ireturn, 1) := by decide +kernel
theorem dX7_goodIn_33 : decode cX7_goodIn 33 = .ok (.aload_n 0, 1) := by decide +kernel
theorem dX7_goodIn_34 : decode cX7_goodIn 34 = .ok (.invokevirtual 353, 3) := by decide +kernel
theorem dX7_goodIn_37 : decode cX7_goodIn 37 = .ok (.aload_n 0, 1) := by decide +kernel
theorem dX7_goodIn_38 : decode cX7_goodIn 38 = .ok (.getfield 17, 3) := by decide +kernel
theorem dX7_goodIn_41 : decode cX7_goodIn 41 = .ok (.iconst 2, 1) := by decide +kernel
theorem dX7_goodIn_42 : decode cX7_goodIn 42 = .ok (.iaload, 1) := by decide +kernel
theorem dX7_goodIn_43 : decode cX7_goodIn 43 = .ok (.istore_n 2, 1) := by decide +kernel
theorem dX7_goodIn_44 : decode cX7_goodIn 44 = .ok (.iconst 0, 1) := by decide +kernel
theorem dX7_goodIn_45 : decode cX7_goodIn 45 = .ok (.istore_n 3, 1) := by decide +kernel
theorem dX7_goodIn_46 : decode cX7_goodIn 46 = .ok (.iload_n 3, 1) := by decide +kernel
theorem dX7_goodIn_47 : decode cX7_goodIn 47 = .ok (.iload_n 1, 1) := by decide +kernel
theorem dX7_goodIn_48 : decode cX7_goodIn 48 = .ok (.if_icmp .ge 15, 3) := by decide +kernel
theorem dX7_goodIn_51 : decode cX7_goodIn 51 = .ok (.aload_n 0, 1) := by decide +kernel
theorem dX7_goodIn_52 : decode cX7_goodIn 52 = .ok (.invokevirtual 365, 3) := by decide +kernel
theorem dX7_goodIn_55 : decode cX7_goodIn 55 = .ok (.istore 4, 2) := by decide +kernel
theorem dX7_goodIn_57 : decode cX7_goodIn 57 = .ok (.iinc 3 1, 3) := by decide +kernel
theorem dX7_goodIn_60 : decode cX7_goodIn 60 = .ok (.goto (-14), 3) := by decide +kernel
theorem dX7_goodIn_63 : decode cX7_goodIn 63 = .ok (.aload_n 0, 1) := by decide +kernel
theorem dX7_goodIn_64 : decode cX7_goodIn 64 = .ok (.aload_n 0, 1) := by decide +kernel
theorem dX7_goodIn_65 : decode cX7_goodIn 65 = .ok (.getfield 17, 3) := by decide +kernel
theorem dX7_goodIn_68 : decode cX7_goodIn 68 = .ok (.iconst 2, 1) := by decide +kernel
theorem dX7_goodIn_69 : decode cX7_goodIn 69 = .ok (.iaload, 1) := by decide +kernel
theorem dX7_goodIn_70 : decode cX7_goodIn 70 = .ok (.iload_n 2, 1) := by decide +kernel
theorem dX7_goodIn_71 : decode cX7_goodIn 71 = .ok (.isub, 1) := by decide +kernel
theorem dX7_goodIn_72 : decode cX7_goodIn 72 = .ok (.invokevirtual 356, 3) := by decide +kernel
theorem dX7_goodIn_75 : decode cX7_goodIn 75 = .ok (.ireturn, 1) := by decide +kernel
set_option maxRecDepth 20000 in
theorem ggX7_lockable_X7_notLoaded : GoodIn wsX7_lockable wsX7_notLoaded := goodIn_r _ [6, 7, 8, 9, 10, 11, 5, 12, 97, 98, 99, 100, 101, 102, 103, 104, 105, 106, 107, 108, 109, 110, 111, 112, 113, 114, 115, 116, 117, 118, 119, 120, 121, 122, 123, 124, 125, 126, 127, 128, 129, 130, 131, 132, 133, 134, 135, 136, 137] (by decide +kernel) (by decide +kernel)
set_option maxRecDepth 20000 in
theorem gX7_lockable_X7_notLoaded : GoodIn wsX7_lockable (wsV RX7 320 RX7 yX7_notLoaded wsX7_notLoaded) := goodIn_app (goodIn_of _ (by decide +kernel)) ggX7_lockable_X7_notLoaded
set_option maxRecDepth 20000 in
theorem ggX7_lockable_X7_chooses : GoodIn wsX7_lockable wsX7_chooses := goodIn_ca (goodIn_r _ [16, 17, 18, 19, 20, 21, 22, 23, 5, 24, 25, 26, 27, 28, 29, 30, 31, 32, 33, 34, 35, 36, 37, 38, 39, 40, 41, 42, 43, 44, 45, 46, 47, 48, 49, 50, 51, 52, 53, 54, 55, 56, 57, 58, 59, 60, 61, 62, 63, 64, 65, 66, 67, 68, 69, 70, 71, 72, 73, 74, 75, 76, 77, 78, 79, 80, 81, 82, 83, 84, 85, 86, 87, 88, 89, 90, 91, 92, 93, 94, 95, 96, 97, 98, 99, 100, 101, 102, 103, 104, 105, 106, 107, 108, 109, 110, 111, 112, 113, 114, 115, 116, 117, 118, 119, 120, 121, 122, 123, 124, 125, 126, 127, 128, 129, 130, 131, 132, 133, 134, 135, 136, 137] (by decide +kernel) (by decide +kernel)) (goodIn_sub (fun _ h => List.mem_cons_of_mem _ (List.mem_append_right _ h)) (by decide +kernel))
set_option maxRecDepth 20000 in
theorem gX7_lockable_X7_chooses : GoodIn wsX7_lockable (wsV RX7 311 RX7 yX7_chooses wsX7_chooses) := goodIn_app (goodIn_of _ (by decide +kernel)) ggX7_lockable_X7_chooses
theorem dX7_lockable_0 : decode cX7_lockable 0 = .ok (.aload_n 0, 1) := by decide +kernel
theorem dX7_lockable_1 : decode cX7_lockable 1 = .ok (.invokevirtual 320, 3) := by decide +kernel
theorem dX7_lockable_4 : decode cX7_lockable 4 = .ok (.ifCond .eq 5, 3) := by decide +kernel
theorem dX7_lockable_7 : decode cX7_lockable 7 = .ok (.iconst 0, 1) := by decide +kernel
theorem dX7_lockable_8 : decode cX7_lockable 8 = .ok (.ireturn, 1) := by decide +kernel
theorem dX7_lockable_9 : decode cX7_lockable 9 = .ok (.iconst 0, 1) := by decide +kernel
theorem dX7_lockable_10 : decode cX7_lockable 10 = .ok (.istore_n 1, 1) := by decide +kernel
theorem dX7_lockable_11 : decode cX7_lockable 11 = .ok (.iconst 0, 1) := by decide +kernel
theorem dX7_lockable_12 : decode cX7_lockable 12 = .ok (.istore_n 2, 1) := by decide +kernel
theorem dX7_lockable_13 : decode cX7_lockable 13 = .ok (.iload_n 2, 1) := by decide +kernel
theorem dX7_lockable_14 : decode cX7_lockable 14 = .ok (.aload_n 0, 1) := by decide +kernel
theorem dX7_lockable_15 : decode cX7_lockable 15 = .ok (.getfield 154, 3) := by decide +kernel
theorem dX7_lockable_18 : decode cX7_lockable 18 = .ok (.if_icmp .ge 27, 3) := by decide +kernel
theorem dX7_lockable_21 : decode cX7_lockable 21 = .ok (.iload_n 1, 1) := by decide +kernel
theorem dX7_lockable_22 : decode cX7_lockable 22 = .ok (.aload_n 0, 1) := by decide +kernel
theorem dX7_lockable_23 : decode cX7_lockable 23 = .ok (.iload_n 2, 1) := by decide +kernel
theorem dX7_lockable_24 : decode cX7_lockable 24 = .ok (.invokevirtual 311, 3) := by decide +kernel
theorem dX7_lockable_27 : decode cX7_lockable 27 = .ok (.ifCond .eq 9, 3) := by decide +kernel
theorem dX7_lockable_30 : decode cX7_lockable 30 = .ok (.iconst 1, 1) := by decide +kernel
theorem dX7_lockable_31 : decode cX7_lockable 31 = .ok (.iload_n 2, 1) := by decide +kernel
theorem dX7_lockable_32 : decode cX7_lockable 32 = .ok (.ishl, 1) := by decide +kernel
theorem dX7_lockable_33 : decode cX7_lockable 33 = .ok (.goto 4, 3) := by decide +kernel
theorem dX7_lockable_36 : decode cX7_lockable 36 = .ok (.iconst 0, 1) := by decide +kernel
theorem dX7_lockable_37 : decode cX7_lockable 37 = .ok (.ior, 1) := by decide +kernel
theorem dX7_lockable_38 : decode cX7_lockable 38 = .ok (.istore_n 1, 1) := by decide +kernel
theorem dX7_lockable_39 : decode cX7_lockable 39 = .ok (.iinc 2 1, 3) := by decide +kernel
theorem dX7_lockable_42 : decode cX7_lockable 42 = .ok (.goto (-29), 3) := by decide +kernel
theorem dX7_lockable_45 : decode cX7_lockable 45 = .ok (.iload_n 1, 1) := by decide +kernel
theorem dX7_lockable_46 : decode cX7_lockable 46 = .ok (.ireturn, 1) := by decide +kernel
set_option maxRecDepth 20000 in
theorem ggX7_lockedAll_X7_notLoaded : GoodIn wsX7_lockedAll wsX7_notLoaded := goodIn_r _ [6, 7, 8, 9, 10, 11, 5, 12, 126, 127, 128, 129, 130, 131, 132, 133, 134, 135, 136, 137, 138, 139, 140, 141, 142, 143, 144, 145, 146, 147, 148, 149, 150, 151, 152, 153, 154, 155, 156, 157, 158, 159, 160, 161, 162, 163, 164, 165, 166] (by decide +kernel) (by decide +kernel)
set_option maxRecDepth 20000 in
theorem gX7_lockedAll_X7_notLoaded : GoodIn wsX7_lockedAll (wsV RX7 320 RX7 yX7_notLoaded wsX7_notLoaded) := goodIn_app (goodIn_of _ (by decide +kernel)) ggX7_lockedAll_X7_notLoaded
set_option maxRecDepth 20000 in
theorem ggX7_lockedAll_X7_putsAside : GoodIn wsX7_lockedAll wsX7_putsAside := goodIn_ca (goodIn_r _ [16, 17, 18, 126, 127, 128, 129, 130, 131, 132, 133, 134, 135, 136, 137, 138, 139, 140, 141, 142, 143, 144, 145, 146, 147, 148, 149, 150, 151, 152, 153, 154, 155, 156, 157, 158, 159, 160, 161, 162, 163, 164, 165, 166] (by decide +kernel) (by decide +kernel)) (goodIn_sub (fun _ h => List.mem_cons_of_mem _ (List.mem_append_right _ h)) (by decide +kernel))
set_option maxRecDepth 20000 in
theorem gX7_lockedAll_X7_putsAside : GoodIn wsX7_lockedAll (wsV RX7 353 RX7 yX7_putsAside wsX7_putsAside) := goodIn_app (goodIn_of _ (by decide +kernel)) ggX7_lockedAll_X7_putsAside
set_option maxRecDepth 20000 in
theorem ggX7_lockedAll_X7_locks : GoodIn wsX7_lockedAll wsX7_locks := goodIn_ca (goodIn_r _ [22, 23, 18, 24, 25, 26, 27, 28, 29, 5, 30, 31, 32, 33, 34, 35, 36, 37, 38, 39, 40, 41, 42, 43, 44, 45, 46, 47, 48, 49, 50, 51, 52, 53, 54, 55, 56, 57, 58, 59, 60, 61, 62, 63, 64, 65, 66, 67, 68, 69, 70, 71, 72, 73, 74, 75, 76, 77, 78, 79, 80, 81, 82, 83, 84, 85, 86, 87, 88, 89, 90, 91, 92, 93, 94, 95, 96, 97, 98, 99, 100, 101, 102, 103, 104, 105, 106, 107, 108, 109, 110, 111, 112, 113, 126, 127, 128, 129, 130, 131, 132, 133, 134, 135, 136, 137, 138, 139, 140, 141, 142, 143, 144, 145, 146, 147, 148, 149, 150, 151, 152, 153, 154, 155, 156, 157, 158, 159, 160, 161, 162, 163, 164, 165, 166] (by decide +kernel) (by decide +kernel)) (goodIn_sub (fun _ h => List.mem_cons_of_mem _ (List.mem_append_right _ h)) (by decide +kernel))
set_option maxRecDepth 20000 in
theorem gX7_lockedAll_X7_locks : GoodIn wsX7_lockedAll (wsV RX7 368 RX7 yX7_locks wsX7_locks) := goodIn_app (goodIn_of _ (by decide +kernel)) ggX7_lockedAll_X7_locks
set_option maxRecDepth 20000 in
theorem ggX7_lockedAll_X7_tightRows : GoodIn wsX7_lockedAll wsX7_tightRows := goodIn_ca (goodIn_r _ [117, 1, 118, 119, 120, 5, 121, 38, 39, 40, 41, 42, 43, 44, 45, 46, 47, 48, 49, 50, 51, 52, 53, 54, 55, 18, 56, 57, 58, 59, 60, 61, 62, 63, 64, 78, 79, 80, 126, 127, 128, 129, 130, 131, 132, 133, 134, 135, 136, 137, 138, 139, 140, 141, 142, 143, 144, 145, 146, 147, 148, 149, 150, 151, 152, 153, 154, 155, 156, 157, 158, 159, 160, 161, 162, 163, 164, 165, 166] (by decide +kernel) (by decide +kernel)) (goodIn_sub (fun _ h => List.mem_cons_of_mem _ (List.mem_append_right _ h)) (by decide +kernel))
set_option maxRecDepth 20000 in
theorem gX7_lockedAll_X7_tightRows : GoodIn wsX7_lockedAll (wsV RX7 326 RX7 yX7_tightRows wsX7_tightRows) := goodIn_app (goodIn_of _ (by decide +kernel)) ggX7_lockedAll_X7_tightRows
set_option maxRecDepth 20000 in
theorem ggX7_lockedAll_X7_fetchesBack : GoodIn wsX7_lockedAll wsX7_fetchesBack := goodIn_ca (goodIn_r _ [125, 18, 17, 126, 127, 128, 129, 130, 131, 132, 133, 134, 135, 136, 137, 138, 139, 140, 141, 142, 143, 144, 145, 146, 147, 148, 149, 150, 151, 152, 153, 154, 155, 156, 157, 158, 159, 160, 161, 162, 163, 164, 165, 166] (by decide +kernel) (by decide +kernel)) (goodIn_sub (fun _ h => List.mem_cons_of_mem _ (List.mem_append_right _ h)) (by decide +kernel))
set_option maxRecDepth 20000 in
theorem gX7_lockedAll_X7_fetchesBack : GoodIn wsX7_lockedAll (wsV RX7 356 RX7 yX7_fetchesBack wsX7_fetchesBack) := goodIn_app (goodIn_of _ (by decide +kernel)) ggX7_lockedAll_X7_fetchesBack
theorem dX7_lockedAll_0 : decode cX7_lockedAll 0 = .ok (.aload_n 0, 1) := by decide +kernel
theorem dX7_lockedAll_1 : decode cX7_lockedAll 1 = .ok (.invokevirtual 320, 3) := by decide +kernel
theorem dX7_lockedAll_4 : decode cX7_lockedAll 4 = .ok (.ifCond .eq 5, 3) := by decide +kernel
theorem dX7_lockedAll_7 : decode cX7_lockedAll 7 = .ok (.iconst 0, 1) := by decide +kernel
theorem dX7_lockedAll_8 : decode cX7_lockedAll 8 = .ok (.ireturn, 1) := by decide +kernel
theorem dX7_lockedAll_9 : decode cX7_lockedAll 9 = .ok (.aload_n 0, 1) := by decide +kernel
theorem dX7_lockedAll_10 : decode cX7_lockedAll 10 = .ok (.invokevirtual 353, 3) := by decide +kernel
theorem dX7_lockedAll_13 : decode cX7_lockedAll 13 = .ok (.iconst 0, 1) := by decide +kernel
theorem dX7_lockedAll_14 : decode cX7_lockedAll 14 = .ok (.istore_n 1, 1) := by decide +kernel
theorem dX7_lockedAll_15 : decode cX7_lockedAll 15 = .ok (.iload_n 1, 1) := by decide +kernel
theorem dX7_lockedAll_16 : decode cX7_lockedAll 16 = .ok (.aload_n 0, 1) := by decide +kernel
theorem dX7_lockedAll_17 : decode cX7_lockedAll 17 = .ok (.getfield 154, 3) := by decide +kernel
theorem dX7_lockedAll_20 : decode cX7_lockedAll 20 = .ok (.if_icmp .ge 15, 3) := by decide +kernel
theorem dX7_lockedAll_23 : decode cX7_lockedAll 23 = .ok (.aload_n 0, 1) := by decide +kernel
theorem dX7_lockedAll_24 : decode cX7_lockedAll 24 = .ok (.iload_n 1, 1) := by decide +kernel
theorem dX7_lockedAll_25 : decode cX7_lockedAll 25 = .ok (.invokevirtual 368, 3) := by decide +kernel
theorem dX7_lockedAll_28 : decode cX7_lockedAll 28 = .ok (.istore_n 2, 1) := by decide +kernel
theorem dX7_lockedAll_29 : decode cX7_lockedAll 29 = .ok (.iinc 1 1, 3) := by decide +kernel
theorem dX7_lockedAll_32 : decode cX7_lockedAll 32 = .ok (.goto (-17), 3) := by decide +kernel
theorem dX7_lockedAll_35 : decode cX7_lockedAll 35 = .ok (.aload_n 0, 1) := by decide +kernel
theorem dX7_lockedAll_36 : decode cX7_lockedAll 36 = .ok (.aload_n 0, 1) := by decide +kernel
theorem dX7_lockedAll_37 : decode cX7_lockedAll 37 = .ok (.invokevirtual 326, 3) := by decide +kernel
theorem dX7_lockedAll_40 : decode cX7_lockedAll 40 = .ok (.invokevirtual 356, 3) := by decide +kernel
theorem dX7_lockedAll_43 : decode cX7_lockedAll 43 = .ok (.ireturn, 1) := by decide +kernel
theorem dX7_says_0 : decode cX7_says 0 = .ok (.aload_n 0, 1) := by decide +kernel
theorem dX7_says_1 : decode cX7_says 1 = .ok (.getfield 64, 3) := by decide +kernel
theorem dX7_says_4 : decode cX7_says 4 = .ok (.aload_n 0, 1) := by decide +kernel
theorem dX7_says_5 : decode cX7_says 5 = .ok (.getfield 371, 3) := by decide +kernel
theorem dX7_says_8 : decode cX7_says 8 = .ok (.iload_n 1, 1) := by decide +kernel
theorem dX7_says_9 : decode cX7_says 9 = .ok (.iastore, 1) := by decide +kernel
theorem dX7_says_10 : decode cX7_says 10 = .ok (.aload_n 0, 1) := by decide +kernel
theorem dX7_says_11 : decode cX7_says 11 = .ok (.dup, 1) := by decide +kernel
theorem dX7_says_12 : decode cX7_says 12 = .ok (.getfield 371, 3) := by decide +kernel
theorem dX7_says_15 : decode cX7_says 15 = .ok (.iconst 1, 1) := by decide +kernel
theorem dX7_says_16 : decode cX7_says 16 = .ok (.iadd, 1) := by decide +kernel
theorem dX7_says_17 : decode cX7_says 17 = .ok (.putfield 371, 3) := by decide +kernel
theorem dX7_says_20 : decode cX7_says 20 = .ok (.return_, 1) := by decide +kernel
set_option maxRecDepth 20000 in
theorem ggX7_saysNumber_X7_says : GoodIn wsX7_saysNumber wsX7_says := goodIn_ca (goodIn_r _ [5, 6, 7, 8, 9, 10, 11, 12, 13, 14, 15, 16, 17, 18, 19, 20, 21, 22, 23, 24, 25, 26, 27, 28, 29, 30, 31, 32, 33, 34, 35, 36, 37, 38, 39, 40, 41, 42, 43, 44, 45, 46, 47, 48] (by decide +kernel) (by decide +kernel)) (goodIn_sub (fun _ h => List.mem_cons_of_mem _ (List.mem_append_right _ h)) (by decide +kernel))
set_option maxRecDepth 20000 in
theorem gX7_saysNumber_X7_says : GoodIn wsX7_saysNumber (wsV RX7 374 RX7 yX7_says wsX7_says) := goodIn_app (goodIn_of _ (by decide +kernel)) ggX7_saysNumber_X7_says
theorem dX7_saysNumber_0 : decode cX7_saysNumber 0 = .ok (.iconst 1, 1) := by decide +kernel
theorem dX7_saysNumber_1 : decode cX7_saysNumber 1 = .ok (.istore_n 2, 1) := by decide +kernel
theorem dX7_saysNumber_2 : decode cX7_saysNumber 2 = .ok (.iload_n 1, 1) := by decide +kernel
theorem dX7_saysNumber_3 : decode cX7_saysNumber 3 = .ok (.iload_n 2, 1) := by decide +kernel
theorem dX7_saysNumber_4 : decode cX7_saysNumber 4 = .ok (.idiv, 1) := by decide +kernel
theorem dX7_saysNumber_5 : decode cX7_saysNumber 5 = .ok (.bipush 10, 2) := by decide +kernel
theorem dX7_saysNumber_7 : decode cX7_saysNumber 7 = .ok (.if_icmp .lt 11, 3) := by decide +kernel
theorem dX7_saysNumber_10 : decode cX7_saysNumber 10 = .ok (.bipush 10, 2) := by decide +kernel
theorem dX7_saysNumber_12 : decode cX7_saysNumber 12 = .ok (.iload_n 2, 1) := by decide +kernel
theorem dX7_saysNumber_13 : decode cX7_saysNumber 13 = .ok (.imul, 1) := by decide +kernel
theorem dX7_saysNumber_14 : decode cX7_saysNumber 14 = .ok (.istore_n 2, 1) := by decide +kernel
theorem dX7_saysNumber_15 : decode cX7_saysNumber 15 = .ok (.goto (-13), 3) := by decide +kernel
theorem dX7_saysNumber_18 : decode cX7_saysNumber 18 = .ok (.iload_n 2, 1) := by decide +kernel
theorem dX7_saysNumber_19 : decode cX7_saysNumber 19 = .ok (.ifCond .le 24, 3) := by decide +kernel
theorem dX7_saysNumber_22 : decode cX7_saysNumber 22 = .ok (.aload_n 0, 1) := by decide +kernel
theorem dX7_saysNumber_23 : decode cX7_saysNumber 23 = .ok (.bipush 48, 2) := by decide +kernel
theorem dX7_saysNumber_25 : decode cX7_saysNumber 25 = .ok (.iload_n 1, 1) := by decide +kernel
theorem dX7_saysNumber_26 : decode cX7_saysNumber 26 = .ok (.iload_n 2, 1) := by decide +kernel
theorem dX7_saysNumber_27 : decode cX7_saysNumber 27 = .ok (.idiv, 1) := by decide +kernel
theorem dX7_saysNumber_28 : decode cX7_saysNumber 28 = .ok (.bipush 10, 2) := by decide +kernel
theorem dX7_saysNumber_30 : decode cX7_saysNumber 30 = .ok (.irem, 1) := by decide +kernel
theorem dX7_saysNumber_31 : decode cX7_saysNumber 31 = .ok (.iadd, 1) := by decide +kernel
theorem dX7_saysNumber_32 : decode cX7_saysNumber 32 = .ok (.invokevirtual 374, 3) := by decide +kernel
theorem dX7_saysNumber_35 : decode cX7_saysNumber 35 = .ok (.iload_n 2, 1) := by decide +kernel
theorem dX7_saysNumber_36 : decode cX7_saysNumber 36 = .ok (.bipush 10, 2) := by decide +kernel
theorem dX7_saysNumber_38 : decode cX7_saysNumber 38 = .ok (.idiv, 1) := by decide +kernel
theorem dX7_saysNumber_39 : decode cX7_saysNumber 39 = .ok (.istore_n 2, 1) := by decide +kernel
theorem dX7_saysNumber_40 : decode cX7_saysNumber 40 = .ok (.goto (-22), 3) := by decide +kernel
theorem dX7_saysNumber_43 : decode cX7_saysNumber 43 = .ok (.return_, 1) := by decide +kernel
set_option maxRecDepth 20000 in
theorem ggX7_saysBlank_X7_says : GoodIn wsX7_saysBlank wsX7_says := goodIn_ca (goodIn_r _ [6, 7, 1, 8, 9, 10, 11, 12, 13, 14, 15, 16, 17, 18, 19, 20, 21, 22, 23, 24, 25, 26, 27, 28, 29, 30, 31, 32, 33, 34, 35, 36, 37, 38, 39, 40, 41, 42, 43, 44, 45, 46, 47, 48] (by decide +kernel) (by decide +kernel)) (goodIn_sub (fun _ h => List.mem_cons_of_mem _ (List.mem_append_right _ h)) (by decide +kernel))
set_option maxRecDepth 20000 in
theorem gX7_saysBlank_X7_says : GoodIn wsX7_saysBlank (wsV RX7 374 RX7 yX7_says wsX7_says) := goodIn_app (goodIn_of _ (by decide +kernel)) ggX7_saysBlank_X7_says
theorem dX7_saysBlank_0 : decode cX7_saysBlank 0 = .ok (.aload_n 0, 1) := by decide +kernel
theorem dX7_saysBlank_1 : decode cX7_saysBlank 1 = .ok (.getfield 371, 3) := by decide +kernel
theorem dX7_saysBlank_4 : decode cX7_saysBlank 4 = .ok (.ifCond .le 9, 3) := by decide +kernel
theorem dX7_saysBlank_7 : decode cX7_saysBlank 7 = .ok (.aload_n 0, 1) := by decide +kernel
theorem dX7_saysBlank_8 : decode cX7_saysBlank 8 = .ok (.bipush 32, 2) := by decide +kernel
theorem dX7_saysBlank_10 : decode cX7_saysBlank 10 = .ok (.invokevirtual 374, 3) := by decide +kernel
theorem dX7_saysBlank_13 : decode cX7_saysBlank 13 = .ok (.return_, 1) := by decide +kernel
set_option maxRecDepth 20000 in
theorem ggX7_saysKind_X7_says : GoodIn wsX7_saysKind wsX7_says := goodIn_ca (goodIn_r _ [7, 8, 9, 14, 15, 16, 17, 18, 19, 20, 21, 22, 23, 24, 25, 26, 27, 28, 29, 30, 31, 32, 33, 34, 35, 36, 37, 38, 39, 40, 41, 42, 43, 44, 45, 46, 47, 48, 49, 50, 51, 52, 53, 54] (by decide +kernel) (by decide +kernel)) (goodIn_sub (fun _ h => List.mem_cons_of_mem _ (List.mem_append_right _ h)) (by decide +kernel))
set_option maxRecDepth 20000 in
theorem gX7_saysKind_X7_says : GoodIn wsX7_saysKind (wsV RX7 374 RX7 yX7_says wsX7_says) := goodIn_app (goodIn_of _ (by decide +kernel)) ggX7_saysKind_X7_says
set_option maxRecDepth 20000 in
theorem ggX7_saysKind_X7_saysNumber : GoodIn wsX7_saysKind wsX7_saysNumber := goodIn_ca (goodIn_r _ [13, 3, 4, 5, 6, 7, 8, 9, 14, 15, 16, 17, 18, 19, 20, 21, 22, 23, 24, 25, 26, 27, 28, 29, 30, 31, 32, 33, 34, 35, 36, 37, 38, 39, 40, 41, 42, 43, 44, 45, 46, 47, 48, 49, 50, 51, 52, 53, 54] (by decide +kernel) (by decide +kernel)) (goodIn_sub (fun _ h => List.mem_cons_of_mem _ (List.mem_append_right _ h)) (by decide +kernel))
set_option maxRecDepth 20000 in
theorem gX7_saysKind_X7_saysNumber : GoodIn wsX7_saysKind (wsV RX7 377 RX7 yX7_saysNumber wsX7_saysNumber) := goodIn_app (goodIn_of _ (by decide +kernel)) ggX7_saysKind_X7_saysNumber
theorem dX7_saysKind_0 : decode cX7_saysKind 0 = .ok (.aload_n 0, 1) := by decide +kernel
theorem dX7_saysKind_1 : decode cX7_saysKind 1 = .ok (.aload_n 0, 1) := by decide +kernel
theorem dX7_saysKind_2 : decode cX7_saysKind 2 = .ok (.getfield 7, 3) := by decide +kernel
theorem dX7_saysKind_5 : decode cX7_saysKind 5 = .ok (.iload_n 1, 1) := by decide +kernel
theorem dX7_saysKind_6 : decode cX7_saysKind 6 = .ok (.baload, 1) := by decide +kernel
theorem dX7_saysKind_7 : decode cX7_saysKind 7 = .ok (.ifCond .eq 8, 3) := by decide +kernel
theorem dX7_saysKind_10 : decode cX7_saysKind 10 = .ok (.bipush 109, 2) := by decide +kernel
theorem dX7_saysKind_12 : decode cX7_saysKind 12 = .ok (.goto 5, 3) := by decide +kernel
theorem dX7_saysKind_15 : decode cX7_saysKind 15 = .ok (.bipush 119, 2) := by decide +kernel
theorem dX7_saysKind_17 : decode cX7_saysKind 17 = .ok (.invokevirtual 374, 3) := by decide +kernel
theorem dX7_saysKind_20 : decode cX7_saysKind 20 = .ok (.aload_n 0, 1) := by decide +kernel
theorem dX7_saysKind_21 : decode cX7_saysKind 21 = .ok (.aload_n 0, 1) := by decide +kernel
theorem dX7_saysKind_22 : decode cX7_saysKind 22 = .ok (.getfield 13, 3) := by decide +kernel
theorem dX7_saysKind_25 : decode cX7_saysKind 25 = .ok (.iload_n 1, 1) := by decide +kernel
theorem dX7_saysKind_26 : decode cX7_saysKind 26 = .ok (.iaload, 1) := by decide +kernel
theorem dX7_saysKind_27 : decode cX7_saysKind 27 = .ok (.invokevirtual 377, 3) := by decide +kernel
theorem dX7_saysKind_30 : decode cX7_saysKind 30 = .ok (.return_, 1) := by decide +kernel
set_option maxRecDepth 20000 in
theorem ggX7_saysQuoin_X7_saysBlank : GoodIn wsX7_saysQuoin wsX7_saysBlank := goodIn_ca (goodIn_r _ [5, 6, 7, 8, 9, 4, 10, 11, 16, 17, 18, 19, 20, 21, 22, 23, 24, 25, 26, 27, 28, 29, 30, 31, 32, 33, 34, 35, 36, 37, 38, 39, 40, 41, 42, 43, 44, 45, 46, 47, 48, 49, 50, 51, 52, 53, 54, 55, 56] (by decide +kernel) (by decide +kernel)) (goodIn_sub (fun _ h => List.mem_cons_of_mem _ (List.mem_append_right _ h)) (by decide +kernel))
set_option maxRecDepth 20000 in
theorem gX7_saysQuoin_X7_saysBlank : GoodIn wsX7_saysQuoin (wsV RX7 380 RX7 yX7_saysBlank wsX7_saysBlank) := goodIn_app (goodIn_of _ (by decide +kernel)) ggX7_saysQuoin_X7_saysBlank
set_option maxRecDepth 20000 in
theorem ggX7_saysQuoin_X7_says : GoodIn wsX7_saysQuoin wsX7_says := goodIn_ca (goodIn_r _ [10, 11, 6, 16, 17, 18, 19, 20, 21, 22, 23, 24, 25, 26, 27, 28, 29, 30, 31, 32, 33, 34, 35, 36, 37, 38, 39, 40, 41, 42, 43, 44, 45, 46, 47, 48, 49, 50, 51, 52, 53, 54, 55, 56] (by decide +kernel) (by decide +kernel)) (goodIn_sub (fun _ h => List.mem_cons_of_mem _ (List.mem_append_right _ h)) (by decide +kernel))
set_option maxRecDepth 20000 in
theorem gX7_saysQuoin_X7_says : GoodIn wsX7_saysQuoin (wsV RX7 374 RX7 yX7_says wsX7_says) := goodIn_app (goodIn_of _ (by decide +kernel)) ggX7_saysQuoin_X7_says
set_option maxRecDepth 20000 in
theorem ggX7_saysQuoin_X7_saysNumber : GoodIn wsX7_saysQuoin wsX7_saysNumber := goodIn_ca (goodIn_r _ [15, 7, 8, 9, 4, 10, 11, 6, 16, 17, 18, 19, 20, 21, 22, 23, 24, 25, 26, 27, 28, 29, 30, 31, 32, 33, 34, 35, 36, 37, 38, 39, 40, 41, 42, 43, 44, 45, 46, 47, 48, 49, 50, 51, 52, 53, 54, 55, 56] (by decide +kernel) (by decide +kernel)) (goodIn_sub (fun _ h => List.mem_cons_of_mem _ (List.mem_append_right _ h)) (by decide +kernel))
set_option maxRecDepth 20000 in
theorem gX7_saysQuoin_X7_saysNumber : GoodIn wsX7_saysQuoin (wsV RX7 377 RX7 yX7_saysNumber wsX7_saysNumber) := goodIn_app (goodIn_of _ (by decide +kernel)) ggX7_saysQuoin_X7_saysNumber
theorem dX7_saysQuoin_0 : decode cX7_saysQuoin 0 = .ok (.iload_n 1, 1) := by decide +kernel
theorem dX7_saysQuoin_1 : decode cX7_saysQuoin 1 = .ok (.iconst (-1), 1) := by decide +kernel
theorem dX7_saysQuoin_2 : decode cX7_saysQuoin 2 = .ok (.if_icmp .eq 18, 3) := by decide +kernel
theorem dX7_saysQuoin_5 : decode cX7_saysQuoin 5 = .ok (.aload_n 0, 1) := by decide +kernel
theorem dX7_saysQuoin_6 : decode cX7_saysQuoin 6 = .ok (.invokevirtual 380, 3) := by decide +kernel
theorem dX7_saysQuoin_9 : decode cX7_saysQuoin 9 = .ok (.aload_n 0, 1) := by decide +kernel
theorem dX7_saysQuoin_10 : decode cX7_saysQuoin 10 = .ok (.bipush 113, 2) := by decide +kernel
theorem dX7_saysQuoin_12 : decode cX7_saysQuoin 12 = .ok (.invokevirtual 374, 3) := by decide +kernel
theorem dX7_saysQuoin_15 : decode cX7_saysQuoin 15 = .ok (.aload_n 0, 1) := by decide +kernel
theorem dX7_saysQuoin_16 : decode cX7_saysQuoin 16 = .ok (.iload_n 1, 1) := by decide +kernel
theorem dX7_saysQuoin_17 : decode cX7_saysQuoin 17 = .ok (.invokevirtual 377, 3) := by decide +kernel
theorem dX7_saysQuoin_20 : decode cX7_saysQuoin 20 = .ok (.return_, 1) := by decide +kernel
set_option maxRecDepth 20000 in
theorem ggX7_writeRow_X7_noRow : GoodIn wsX7_writeRow wsX7_noRow := goodIn_r _ [6, 7, 8, 9, 5, 10, 11, 12, 13, 14, 15, 16, 17, 18, 19, 20, 21, 22, 23, 24, 53, 54, 55, 56, 57, 58, 59, 60, 61, 62, 63, 64, 65, 66, 67, 68, 69, 70, 71, 72, 73, 74, 75, 76, 77, 78, 79, 80, 81, 82, 83, 84, 85, 86, 87, 88, 89, 90, 91, 92, 93] (by decide +kernel) (by decide +kernel)
set_option maxRecDepth 20000 in
theorem gX7_writeRow_X7_noRow : GoodIn wsX7_writeRow (wsV RX7 335 RX7 yX7_noRow wsX7_noRow) := goodIn_app (goodIn_of _ (by decide +kernel)) ggX7_writeRow_X7_noRow
set_option maxRecDepth 20000 in
theorem ggX7_writeRow_X7_of : GoodIn wsX7_writeRow wsX7_of := goodIn_ca (goodIn_r _ [28, 29, 53, 54, 55, 56, 57, 58, 59, 60, 61, 62, 63, 64, 65, 66, 67, 68, 69, 70, 71, 72, 73, 74, 75, 76, 77, 78, 79, 80, 81, 82, 83, 84, 85, 86, 87, 88, 89, 90, 91, 92, 93] (by decide +kernel) (by decide +kernel)) (goodIn_sub (fun _ h => List.mem_cons_of_mem _ (List.mem_append_right _ h)) (by decide +kernel))
set_option maxRecDepth 20000 in
theorem gX7_writeRow_X7_of : GoodIn wsX7_writeRow (wsV RX7 189 RX7 yX7_of wsX7_of) := goodIn_app (goodIn_of _ (by decide +kernel)) ggX7_writeRow_X7_of
set_option maxRecDepth 20000 in
theorem ggX7_writeRow_X7_saysBlank : GoodIn wsX7_writeRow wsX7_saysBlank := goodIn_ca (goodIn_r _ [33, 1, 34, 35, 36, 5, 37, 38, 53, 54, 55, 56, 57, 58, 59, 60, 61, 62, 63, 64, 65, 66, 67, 68, 69, 70, 71, 72, 73, 74, 75, 76, 77, 78, 79, 80, 81, 82, 83, 84, 85, 86, 87, 88, 89, 90, 91, 92, 93] (by decide +kernel) (by decide +kernel)) (goodIn_sub (fun _ h => List.mem_cons_of_mem _ (List.mem_append_right _ h)) (by decide +kernel))
set_option maxRecDepth 20000 in
theorem gX7_writeRow_X7_saysBlank : GoodIn wsX7_writeRow (wsV RX7 380 RX7 yX7_saysBlank wsX7_saysBlank) := goodIn_app (goodIn_of _ (by decide +kernel)) ggX7_writeRow_X7_saysBlank
set_option maxRecDepth 20000 in
theorem ggX7_writeRow_X7_says : GoodIn wsX7_writeRow wsX7_says := goodIn_ca (goodIn_r _ [37, 38, 1, 53, 54, 55, 56, 57, 58, 59, 60, 61, 62, 63, 64, 65, 66, 67, 68, 69, 70, 71, 72, 73, 74, 75, 76, 77, 78, 79, 80, 81, 82, 83, 84, 85, 86, 87, 88, 89, 90, 91, 92, 93] (by decide +kernel) (by decide +kernel)) (goodIn_sub (fun _ h => List.mem_cons_of_mem _ (List.mem_append_right _ h)) (by decide +kernel))
set_option maxRecDepth 20000 in
theorem gX7_writeRow_X7_says : GoodIn wsX7_writeRow (wsV RX7 374 RX7 yX7_says wsX7_says) := goodIn_app (goodIn_of _ (by decide +kernel)) ggX7_writeRow_X7_says
set_option maxRecDepth 20000 in
theorem ggX7_writeRow_X7_saysNumber : GoodIn wsX7_writeRow wsX7_saysNumber := goodIn_ca (goodIn_r _ [42, 34, 35, 36, 5, 37, 38, 1, 53, 54, 55, 56, 57, 58, 59, 60, 61, 62, 63, 64, 65, 66, 67, 68, 69, 70, 71, 72, 73, 74, 75, 76, 77, 78, 79, 80, 81, 82, 83, 84, 85, 86, 87, 88, 89, 90, 91, 92, 93] (by decide +kernel) (by decide +kernel)) (goodIn_sub (fun _ h => List.mem_cons_of_mem _ (List.mem_append_right _ h)) (by decide +kernel))
set_option maxRecDepth 20000 in
theorem gX7_writeRow_X7_saysNumber : GoodIn wsX7_writeRow (wsV RX7 377 RX7 yX7_saysNumber wsX7_saysNumber) := goodIn_app (goodIn_of _ (by decide +kernel)) ggX7_writeRow_X7_saysNumber
set_option maxRecDepth 20000 in
theorem ggX7_writeRow_X7_saysKind : GoodIn wsX7_writeRow wsX7_saysKind := goodIn_ca (goodIn_r _ [46, 47, 48, 34, 35, 36, 5, 37, 38, 1, 39, 40, 41, 42, 53, 54, 55, 56, 57, 58, 59, 60, 61, 62, 63, 64, 65, 66, 67, 68, 69, 70, 71, 72, 73, 74, 75, 76, 77, 78, 79, 80, 81, 82, 83, 84, 85, 86, 87, 88, 89, 90, 91, 92, 93] (by decide +kernel) (by decide +kernel)) (goodIn_sub (fun _ h => List.mem_cons_of_mem _ (List.mem_append_right _ h)) (by decide +kernel))
set_option maxRecDepth 20000 in
theorem gX7_writeRow_X7_saysKind : GoodIn wsX7_writeRow (wsV RX7 383 RX7 yX7_saysKind wsX7_saysKind) := goodIn_app (goodIn_of _ (by decide +kernel)) ggX7_writeRow_X7_saysKind
set_option maxRecDepth 20000 in
theorem ggX7_writeRow_X7_saysQuoin : GoodIn wsX7_writeRow wsX7_saysQuoin := goodIn_ca (goodIn_r _ [52, 30, 31, 32, 5, 33, 1, 34, 35, 36, 37, 38, 39, 40, 41, 42, 53, 54, 55, 56, 57, 58, 59, 60, 61, 62, 63, 64, 65, 66, 67, 68, 69, 70, 71, 72, 73, 74, 75, 76, 77, 78, 79, 80, 81, 82, 83, 84, 85, 86, 87, 88, 89, 90, 91, 92, 93] (by decide +kernel) (by decide +kernel)) (goodIn_sub (fun _ h => List.mem_cons_of_mem _ (List.mem_append_right _ h)) (by decide +kernel))
set_option maxRecDepth 20000 in
theorem gX7_writeRow_X7_saysQuoin : GoodIn wsX7_writeRow (wsV RX7 386 RX7 yX7_saysQuoin wsX7_saysQuoin) := goodIn_app (goodIn_of _ (by decide +kernel)) ggX7_writeRow_X7_saysQuoin
theorem dX7_writeRow_0 : decode cX7_writeRow 0 = .ok (.aload_n 0, 1) := by decide +kernel
theorem dX7_writeRow_1 : decode cX7_writeRow 1 = .ok (.iload_n 1, 1) := by decide +kernel
theorem dX7_writeRow_2 : decode cX7_writeRow 2 = .ok (.invokevirtual 335, 3) := by decide +kernel
theorem dX7_writeRow_5 : decode cX7_writeRow 5 = .ok (.ifCond .eq 5, 3) := by decide +kernel
theorem dX7_writeRow_8 : decode cX7_writeRow 8 = .ok (.iconst 0, 1) := by decide +kernel
theorem dX7_writeRow_9 : decode cX7_writeRow 9 = .ok (.ireturn, 1) := by decide +kernel
theorem dX7_writeRow_10 : decode cX7_writeRow 10 = .ok (.aload_n 0, 1) := by decide +kernel
theorem dX7_writeRow_11 : decode cX7_writeRow 11 = .ok (.iconst 0, 1) := by decide +kernel
theorem dX7_writeRow_12 : decode cX7_writeRow 12 = .ok (.putfield 371, 3) := by decide +kernel
theorem dX7_writeRow_15 : decode cX7_writeRow 15 = .ok (.iconst 0, 1) := by decide +kernel
theorem dX7_writeRow_16 : decode cX7_writeRow 16 = .ok (.istore_n 2, 1) := by decide +kernel
theorem dX7_writeRow_17 : decode cX7_writeRow 17 = .ok (.iload_n 2, 1) := by decide +kernel
theorem dX7_writeRow_18 : decode cX7_writeRow 18 = .ok (.aload_n 0, 1) := by decide +kernel
theorem dX7_writeRow_19 : decode cX7_writeRow 19 = .ok (.iload_n 1, 1) := by decide +kernel
theorem dX7_writeRow_20 : decode cX7_writeRow 20 = .ok (.iconst 0, 1) := by decide +kernel
theorem dX7_writeRow_21 : decode cX7_writeRow 21 = .ok (.invokevirtual 189, 3) := by decide +kernel
theorem dX7_writeRow_24 : decode cX7_writeRow 24 = .ok (.if_icmp .ge 37, 3) := by decide +kernel
theorem dX7_writeRow_27 : decode cX7_writeRow 27 = .ok (.aload_n 0, 1) := by decide +kernel
theorem dX7_writeRow_28 : decode cX7_writeRow 28 = .ok (.invokevirtual 380, 3) := by decide +kernel
theorem dX7_writeRow_31 : decode cX7_writeRow 31 = .ok (.aload_n 0, 1) := by decide +kernel
theorem dX7_writeRow_32 : decode cX7_writeRow 32 = .ok (.bipush 91, 2) := by decide +kernel
theorem dX7_writeRow_34 : decode cX7_writeRow 34 = .ok (.invokevirtual 374, 3) := by decide +kernel
theorem dX7_writeRow_37 : decode cX7_writeRow 37 = .ok (.aload_n 0, 1) := by decide +kernel
theorem dX7_writeRow_38 : decode cX7_writeRow 38 = .ok (.aload_n 0, 1) := by decide +kernel
theorem dX7_writeRow_39 : decode cX7_writeRow 39 = .ok (.iload_n 1, 1) := by decide +kernel
theorem dX7_writeRow_40 : decode cX7_writeRow 40 = .ok (.iconst 5, 1) := by decide +kernel
theorem dX7_writeRow_41 : decode cX7_writeRow 41 = .ok (.iload_n 2, 1) := by decide +kernel
theorem dX7_writeRow_42 : decode cX7_writeRow 42 = .ok (.iadd, 1) := by decide +kernel
theorem dX7_writeRow_43 : decode cX7_writeRow 43 = .ok (.invokevirtual 189, 3) := by decide +kernel
theorem dX7_writeRow_46 : decode cX7_writeRow 46 = .ok (.invokevirtual 377, 3) := by decide +kernel
theorem dX7_writeRow_49 : decode cX7_writeRow 49 = .ok (.aload_n 0, 1) := by decide +kernel
theorem dX7_writeRow_50 : decode cX7_writeRow 50 = .ok (.bipush 93, 2) := by decide +kernel
theorem dX7_writeRow_52 : decode cX7_writeRow 52 = .ok (.invokevirtual 374, 3) := by decide +kernel
theorem dX7_writeRow_55 : decode cX7_writeRow 55 = .ok (.iinc 2 1, 3) := by decide +kernel
theorem dX7_writeRow_58 : decode cX7_writeRow 58 = .ok (.goto (-41), 3) := by decide +kernel
theorem dX7_writeRow_61 : decode cX7_writeRow 61 = .ok (.iconst 0, 1) := by decide +kernel
theorem dX7_writeRow_62 : decode cX7_writeRow 62 = .ok (.istore_n 2, 1) := by decide +kernel
theorem dX7_writeRow_63 : decode cX7_writeRow 63 = .ok (.iload_n 2, 1) := by decide +kernel
theorem dX7_writeRow_64 : decode cX7_writeRow 64 = .ok (.aload_n 0, 1) := by decide +kernel
theorem dX7_writeRow_65 : decode cX7_writeRow 65 = .ok (.iload_n 1, 1) := by decide +kernel
theorem dX7_writeRow_66 : decode cX7_writeRow 66 = .ok (.iconst 1, 1) := by decide +kernel
theorem dX7_writeRow_67 : decode cX7_writeRow 67 = .ok (.invokevirtual 189, 3) := by decide +kernel
theorem dX7_writeRow_70 : decode cX7_writeRow 70 = .ok (.if_icmp .ge 26, 3) := by decide +kernel
theorem dX7_writeRow_73 : decode cX7_writeRow 73 = .ok (.aload_n 0, 1) := by decide +kernel
theorem dX7_writeRow_74 : decode cX7_writeRow 74 = .ok (.invokevirtual 380, 3) := by decide +kernel
theorem dX7_writeRow_77 : decode cX7_writeRow 77 = .ok (.aload_n 0, 1) := by decide +kernel
theorem dX7_writeRow_78 : decode cX7_writeRow 78 = .ok (.aload_n 0, 1) := by decide +kernel
theorem dX7_writeRow_79 : decode cX7_writeRow 79 = .ok (.iload_n 1, 1) := by decide +kernel
theorem dX7_writeRow_80 : decode cX7_writeRow 80 = .ok (.bipush 11, 2) := by decide +kernel
theorem dX7_writeRow_82 : decode cX7_writeRow 82 = .ok (.iload_n 2, 1) := by decide +kernel
theorem dX7_writeRow_83 : decode cX7_writeRow 83 = .ok (.iadd, 1) := by decide +kernel
theorem dX7_writeRow_84 : decode cX7_writeRow 84 = .ok (.invokevirtual 189, 3) := by decide +kernel
theorem dX7_writeRow_87 : decode cX7_writeRow 87 = .ok (.invokevirtual 383, 3) := by decide +kernel
theorem dX7_writeRow_90 : decode cX7_writeRow 90 = .ok (.iinc 2 1, 3) := by decide +kernel
theorem dX7_writeRow_93 : decode cX7_writeRow 93 = .ok (.goto (-30), 3) := by decide +kernel
theorem dX7_writeRow_96 : decode cX7_writeRow 96 = .ok (.aload_n 0, 1) := by decide +kernel
theorem dX7_writeRow_97 : decode cX7_writeRow 97 = .ok (.aload_n 0, 1) := by decide +kernel
theorem dX7_writeRow_98 : decode cX7_writeRow 98 = .ok (.iload_n 1, 1) := by decide +kernel
theorem dX7_writeRow_99 : decode cX7_writeRow 99 = .ok (.iconst 2, 1) := by decide +kernel
theorem dX7_writeRow_100 : decode cX7_writeRow 100 = .ok (.invokevirtual 189, 3) := by decide +kernel
theorem dX7_writeRow_103 : decode cX7_writeRow 103 = .ok (.invokevirtual 386, 3) := by decide +kernel
theorem dX7_writeRow_106 : decode cX7_writeRow 106 = .ok (.aload_n 0, 1) := by decide +kernel
theorem dX7_writeRow_107 : decode cX7_writeRow 107 = .ok (.getfield 371, 3) := by decide +kernel
theorem dX7_writeRow_110 : decode cX7_writeRow 110 = .ok (.ireturn, 1) := by decide +kernel
set_option maxRecDepth 20000 in
theorem ggX7_writeChoice_X7_noRow : GoodIn wsX7_writeChoice wsX7_noRow := goodIn_r _ [10, 11, 12, 13, 9, 14, 15, 16, 17, 18, 19, 20, 21, 22, 23, 24, 25, 26, 27, 28, 130, 131, 132, 133, 134, 135, 136, 137, 138, 139, 140, 141, 142, 143, 144, 145, 146, 147, 148, 149, 150, 151, 152, 153, 154, 155, 156, 157, 158, 159, 160, 161, 162, 163, 164, 165, 166, 167, 168, 169, 170] (by decide +kernel) (by decide +kernel)
set_option maxRecDepth 20000 in
theorem gX7_writeChoice_X7_noRow : GoodIn wsX7_writeChoice (wsV RX7 335 RX7 yX7_noRow wsX7_noRow) := goodIn_app (goodIn_of _ (by decide +kernel)) ggX7_writeChoice_X7_noRow
set_option maxRecDepth 20000 in
theorem ggX7_writeChoice_X7_chooses : GoodIn wsX7_writeChoice wsX7_chooses := goodIn_ca (goodIn_r _ [32, 33, 5, 34, 35, 36, 37, 38, 9, 39, 40, 41, 42, 43, 44, 45, 46, 47, 48, 49, 50, 51, 52, 53, 54, 55, 56, 57, 58, 59, 60, 61, 62, 63, 64, 65, 66, 67, 68, 69, 70, 71, 2, 72, 73, 74, 75, 4, 76, 77, 78, 79, 80, 81, 82, 83, 84, 85, 86, 87, 88, 89, 90, 91, 92, 93, 94, 95, 96, 97, 98, 99, 100, 101, 102, 103, 104, 105, 106, 107, 108, 3, 130, 131, 132, 133, 134, 135, 136, 137, 138, 139, 140, 141, 142, 143, 144, 145, 146, 147, 148, 149, 150, 151, 152, 153, 154, 155, 156, 157, 158, 159, 160, 161, 162, 163, 164, 165, 166, 167, 168, 169, 170] (by decide +kernel) (by decide +kernel)) (goodIn_sub (fun _ h => List.mem_cons_of_mem _ (List.mem_append_right _ h)) (by decide +kernel))
set_option maxRecDepth 20000 in
theorem gX7_writeChoice_X7_chooses : GoodIn wsX7_writeChoice (wsV RX7 311 RX7 yX7_chooses wsX7_chooses) := goodIn_app (goodIn_of _ (by decide +kernel)) ggX7_writeChoice_X7_chooses
set_option maxRecDepth 20000 in
theorem ggX7_writeChoice_X7_says : GoodIn wsX7_writeChoice wsX7_says := goodIn_ca (goodIn_r _ [112, 113, 1, 130, 131, 132, 133, 134, 135, 136, 137, 138, 139, 140, 141, 142, 143, 144, 145, 146, 147, 148, 149, 150, 151, 152, 153, 154, 155, 156, 157, 158, 159, 160, 161, 162, 163, 164, 165, 166, 167, 168, 169, 170] (by decide +kernel) (by decide +kernel)) (goodIn_sub (fun _ h => List.mem_cons_of_mem _ (List.mem_append_right _ h)) (by decide +kernel))
set_option maxRecDepth 20000 in
theorem gX7_writeChoice_X7_says : GoodIn wsX7_writeChoice (wsV RX7 374 RX7 yX7_says wsX7_says) := goodIn_app (goodIn_of _ (by decide +kernel)) ggX7_writeChoice_X7_says
set_option maxRecDepth 20000 in
theorem ggX7_writeChoice_X7_saysBlank : GoodIn wsX7_writeChoice wsX7_saysBlank := goodIn_ca (goodIn_r _ [117, 1, 109, 110, 111, 9, 112, 113, 130, 131, 132, 133, 134, 135, 136, 137, 138, 139, 140, 141, 142, 143, 144, 145, 146, 147, 148, 149, 150, 151, 152, 153, 154, 155, 156, 157, 158, 159, 160, 161, 162, 163, 164, 165, 166, 167, 168, 169, 170] (by decide +kernel) (by decide +kernel)) (goodIn_sub (fun _ h => List.mem_cons_of_mem _ (List.mem_append_right _ h)) (by decide +kernel))
set_option maxRecDepth 20000 in
theorem gX7_writeChoice_X7_saysBlank : GoodIn wsX7_writeChoice (wsV RX7 380 RX7 yX7_saysBlank wsX7_saysBlank) := goodIn_app (goodIn_of _ (by decide +kernel)) ggX7_writeChoice_X7_saysBlank
set_option maxRecDepth 20000 in
theorem ggX7_writeChoice_X7_saysNumber : GoodIn wsX7_writeChoice wsX7_saysNumber := goodIn_ca (goodIn_r _ [121, 109, 110, 111, 9, 112, 113, 1, 130, 131, 132, 133, 134, 135, 136, 137, 138, 139, 140, 141, 142, 143, 144, 145, 146, 147, 148, 149, 150, 151, 152, 153, 154, 155, 156, 157, 158, 159, 160, 161, 162, 163, 164, 165, 166, 167, 168, 169, 170] (by decide +kernel) (by decide +kernel)) (goodIn_sub (fun _ h => List.mem_cons_of_mem _ (List.mem_append_right _ h)) (by decide +kernel))
set_option maxRecDepth 20000 in
theorem gX7_writeChoice_X7_saysNumber : GoodIn wsX7_writeChoice (wsV RX7 377 RX7 yX7_saysNumber wsX7_saysNumber) := goodIn_app (goodIn_of _ (by decide +kernel)) ggX7_writeChoice_X7_saysNumber
set_option maxRecDepth 20000 in
theorem ggX7_writeChoice_X7_saysKind : GoodIn wsX7_writeChoice wsX7_saysKind := goodIn_ca (goodIn_r _ [125, 80, 49, 109, 110, 111, 9, 112, 113, 1, 118, 119, 120, 121, 130, 131, 132, 133, 134, 135, 136, 137, 138, 139, 140, 141, 142, 143, 144, 145, 146, 147, 148, 149, 150, 151, 152, 153, 154, 155, 156, 157, 158, 159, 160, 161, 162, 163, 164, 165, 166, 167, 168, 169, 170] (by decide +kernel) (by decide +kernel)) (goodIn_sub (fun _ h => List.mem_cons_of_mem _ (List.mem_append_right _ h)) (by decide +kernel))
set_option maxRecDepth 20000 in
theorem gX7_writeChoice_X7_saysKind : GoodIn wsX7_writeChoice (wsV RX7 383 RX7 yX7_saysKind wsX7_saysKind) := goodIn_app (goodIn_of _ (by decide +kernel)) ggX7_writeChoice_X7_saysKind
set_option maxRecDepth 20000 in
theorem ggX7_writeChoice_X7_saysQuoin : GoodIn wsX7_writeChoice wsX7_saysQuoin := goodIn_ca (goodIn_r _ [129, 114, 115, 116, 9, 117, 1, 109, 110, 111, 112, 113, 118, 119, 120, 121, 130, 131, 132, 133, 134, 135, 136, 137, 138, 139, 140, 141, 142, 143, 144, 145, 146, 147, 148, 149, 150, 151, 152, 153, 154, 155, 156, 157, 158, 159, 160, 161, 162, 163, 164, 165, 166, 167, 168, 169, 170] (by decide +kernel) (by decide +kernel)) (goodIn_sub (fun _ h => List.mem_cons_of_mem _ (List.mem_append_right _ h)) (by decide +kernel))
set_option maxRecDepth 20000 in
theorem gX7_writeChoice_X7_saysQuoin : GoodIn wsX7_writeChoice (wsV RX7 386 RX7 yX7_saysQuoin wsX7_saysQuoin) := goodIn_app (goodIn_of _ (by decide +kernel)) ggX7_writeChoice_X7_saysQuoin
theorem dX7_writeChoice_0 : decode cX7_writeChoice 0 = .ok (.aload_n 0, 1) := by decide +kernel
theorem dX7_writeChoice_1 : decode cX7_writeChoice 1 = .ok (.iload_n 1, 1) := by decide +kernel
theorem dX7_writeChoice_2 : decode cX7_writeChoice 2 = .ok (.invokevirtual 335, 3) := by decide +kernel
theorem dX7_writeChoice_5 : decode cX7_writeChoice 5 = .ok (.ifCond .eq 5, 3) := by decide +kernel
theorem dX7_writeChoice_8 : decode cX7_writeChoice 8 = .ok (.iconst 0, 1) := by decide +kernel
theorem dX7_writeChoice_9 : decode cX7_writeChoice 9 = .ok (.ireturn, 1) := by decide +kernel
theorem dX7_writeChoice_10 : decode cX7_writeChoice 10 = .ok (.aload_n 0, 1) := by decide +kernel
theorem dX7_writeChoice_11 : decode cX7_writeChoice 11 = .ok (.iconst 0, 1) := by decide +kernel
theorem dX7_writeChoice_12 : decode cX7_writeChoice 12 = .ok (.putfield 371, 3) := by decide +kernel
theorem dX7_writeChoice_15 : decode cX7_writeChoice 15 = .ok (.aload_n 0, 1) := by decide +kernel
theorem dX7_writeChoice_16 : decode cX7_writeChoice 16 = .ok (.iload_n 1, 1) := by decide +kernel
theorem dX7_writeChoice_17 : decode cX7_writeChoice 17 = .ok (.invokevirtual 311, 3) := by decide +kernel
theorem dX7_writeChoice_20 : decode cX7_writeChoice 20 = .ok (.ifCond .ne 14, 3) := by decide +kernel
theorem dX7_writeChoice_23 : decode cX7_writeChoice 23 = .ok (.aload_n 0, 1) := by decide +kernel
theorem dX7_writeChoice_24 : decode cX7_writeChoice 24 = .ok (.bipush 45, 2) := by decide +kernel
theorem dX7_writeChoice_26 : decode cX7_writeChoice 26 = .ok (.invokevirtual 374, 3) := by decide +kernel
theorem dX7_writeChoice_29 : decode cX7_writeChoice 29 = .ok (.aload_n 0, 1) := by decide +kernel
theorem dX7_writeChoice_30 : decode cX7_writeChoice 30 = .ok (.getfield 371, 3) := by decide +kernel
theorem dX7_writeChoice_33 : decode cX7_writeChoice 33 = .ok (.ireturn, 1) := by decide +kernel
theorem dX7_writeChoice_34 : decode cX7_writeChoice 34 = .ok (.iconst 0, 1) := by decide +kernel
theorem dX7_writeChoice_35 : decode cX7_writeChoice 35 = .ok (.istore_n 2, 1) := by decide +kernel
theorem dX7_writeChoice_36 : decode cX7_writeChoice 36 = .ok (.iload_n 2, 1) := by decide +kernel
theorem dX7_writeChoice_37 : decode cX7_writeChoice 37 = .ok (.aload_n 0, 1) := by decide +kernel
theorem dX7_writeChoice_38 : decode cX7_writeChoice 38 = .ok (.getfield 172, 3) := by decide +kernel
theorem dX7_writeChoice_41 : decode cX7_writeChoice 41 = .ok (.if_icmp .ge 58, 3) := by decide +kernel
theorem dX7_writeChoice_44 : decode cX7_writeChoice 44 = .ok (.aload_n 0, 1) := by decide +kernel
theorem dX7_writeChoice_45 : decode cX7_writeChoice 45 = .ok (.getfield 55, 3) := by decide +kernel
theorem dX7_writeChoice_48 : decode cX7_writeChoice 48 = .ok (.aload_n 0, 1) := by decide +kernel
theorem dX7_writeChoice_49 : decode cX7_writeChoice 49 = .ok (.getfield 49, 3) := by decide +kernel
theorem dX7_writeChoice_52 : decode cX7_writeChoice 52 = .ok (.iload_n 2, 1) := by decide +kernel
theorem dX7_writeChoice_53 : decode cX7_writeChoice 53 = .ok (.iaload, 1) := by decide +kernel
theorem dX7_writeChoice_54 : decode cX7_writeChoice 54 = .ok (.iaload, 1) := by decide +kernel
theorem dX7_writeChoice_55 : decode cX7_writeChoice 55 = .ok (.ifCond .le 38, 3) := by decide +kernel
theorem dX7_writeChoice_58 : decode cX7_writeChoice 58 = .ok (.aload_n 0, 1) := by decide +kernel
theorem dX7_writeChoice_59 : decode cX7_writeChoice 59 = .ok (.invokevirtual 380, 3) := by decide +kernel
theorem dX7_writeChoice_62 : decode cX7_writeChoice 62 = .ok (.aload_n 0, 1) := by decide +kernel
theorem dX7_writeChoice_63 : decode cX7_writeChoice 63 = .ok (.aload_n 0, 1) := by decide +kernel
theorem dX7_writeChoice_64 : decode cX7_writeChoice 64 = .ok (.getfield 55, 3) := by decide +kernel
theorem dX7_writeChoice_67 : decode cX7_writeChoice 67 = .ok (.aload_n 0, 1) := by decide +kernel
theorem dX7_writeChoice_68 : decode cX7_writeChoice 68 = .ok (.getfield 49, 3) := by decide +kernel
theorem dX7_writeChoice_71 : decode cX7_writeChoice 71 = .ok (.iload_n 2, 1) := by decide +kernel
theorem dX7_writeChoice_72 : decode cX7_writeChoice 72 = .ok (.iaload, 1) := by decide +kernel
theorem dX7_writeChoice_73 : decode cX7_writeChoice 73 = .ok (.iaload, 1) := by decide +kernel
theorem dX7_writeChoice_74 : decode cX7_writeChoice 74 = .ok (.invokevirtual 377, 3) := by decide +kernel
theorem dX7_writeChoice_77 : decode cX7_writeChoice 77 = .ok (.aload_n 0, 1) := by decide +kernel
theorem dX7_writeChoice_78 : decode cX7_writeChoice 78 = .ok (.bipush 120, 2) := by decide +kernel
theorem dX7_writeChoice_80 : decode cX7_writeChoice 80 = .ok (.invokevirtual 374, 3) := by decide +kernel
theorem dX7_writeChoice_83 : decode cX7_writeChoice 83 = .ok (.aload_n 0, 1) := by decide +kernel
theorem dX7_writeChoice_84 : decode cX7_writeChoice 84 = .ok (.aload_n 0, 1) := by decide +kernel
theorem dX7_writeChoice_85 : decode cX7_writeChoice 85 = .ok (.getfield 49, 3) := by decide +kernel
theorem dX7_writeChoice_88 : decode cX7_writeChoice 88 = .ok (.iload_n 2, 1) := by decide +kernel
theorem dX7_writeChoice_89 : decode cX7_writeChoice 89 = .ok (.iaload, 1) := by decide +kernel
theorem dX7_writeChoice_90 : decode cX7_writeChoice 90 = .ok (.invokevirtual 383, 3) := by decide +kernel
theorem dX7_writeChoice_93 : decode cX7_writeChoice 93 = .ok (.iinc 2 1, 3) := by decide +kernel
theorem dX7_writeChoice_96 : decode cX7_writeChoice 96 = .ok (.goto (-60), 3) := by decide +kernel
theorem dX7_writeChoice_99 : decode cX7_writeChoice 99 = .ok (.aload_n 0, 1) := by decide +kernel
theorem dX7_writeChoice_100 : decode cX7_writeChoice 100 = .ok (.aload_n 0, 1) := by decide +kernel
theorem dX7_writeChoice_101 : decode cX7_writeChoice 101 = .ok (.getfield 298, 3) := by decide +kernel
theorem dX7_writeChoice_104 : decode cX7_writeChoice 104 = .ok (.invokevirtual 386, 3) := by decide +kernel
theorem dX7_writeChoice_107 : decode cX7_writeChoice 107 = .ok (.aload_n 0, 1) := by decide +kernel
theorem dX7_writeChoice_108 : decode cX7_writeChoice 108 = .ok (.getfield 371, 3) := by decide +kernel
theorem dX7_writeChoice_111 : decode cX7_writeChoice 111 = .ok (.ireturn, 1) := by decide +kernel
set_option maxRecDepth 20000 in
theorem ggX7_writeStock_X7_notLoaded : GoodIn wsX7_writeStock wsX7_notLoaded := goodIn_r _ [8, 9, 10, 11, 12, 13, 7, 14, 30, 31, 32, 33, 34, 35, 36, 37, 38, 39, 40, 41, 42, 43, 44, 45, 46, 47, 48, 49, 50, 51, 52, 53, 54, 55, 56, 57, 58, 59, 60, 61, 62, 63, 64, 65, 66, 67, 68, 69, 70] (by decide +kernel) (by decide +kernel)
set_option maxRecDepth 20000 in
theorem gX7_writeStock_X7_notLoaded : GoodIn wsX7_writeStock (wsV RX7 320 RX7 yX7_notLoaded wsX7_notLoaded) := goodIn_app (goodIn_of _ (by decide +kernel)) ggX7_writeStock_X7_notLoaded
set_option maxRecDepth 20000 in
theorem ggX7_writeStock_X7_says : GoodIn wsX7_writeStock wsX7_says := goodIn_ca (goodIn_r _ [18, 19, 1, 30, 31, 32, 33, 34, 35, 36, 37, 38, 39, 40, 41, 42, 43, 44, 45, 46, 47, 48, 49, 50, 51, 52, 53, 54, 55, 56, 57, 58, 59, 60, 61, 62, 63, 64, 65, 66, 67, 68, 69, 70] (by decide +kernel) (by decide +kernel)) (goodIn_sub (fun _ h => List.mem_cons_of_mem _ (List.mem_append_right _ h)) (by decide +kernel))
set_option maxRecDepth 20000 in
theorem gX7_writeStock_X7_says : GoodIn wsX7_writeStock (wsV RX7 374 RX7 yX7_says wsX7_says) := goodIn_app (goodIn_of _ (by decide +kernel)) ggX7_writeStock_X7_says
set_option maxRecDepth 20000 in
theorem ggX7_writeStock_X7_saysKind : GoodIn wsX7_writeStock wsX7_saysKind := goodIn_ca (goodIn_r _ [23, 24, 25, 15, 16, 17, 7, 18, 19, 1, 26, 27, 28, 29, 30, 31, 32, 33, 34, 35, 36, 37, 38, 39, 40, 41, 42, 43, 44, 45, 46, 47, 48, 49, 50, 51, 52, 53, 54, 55, 56, 57, 58, 59, 60, 61, 62, 63, 64, 65, 66, 67, 68, 69, 70] (by decide +kernel) (by decide +kernel)) (goodIn_sub (fun _ h => List.mem_cons_of_mem _ (List.mem_append_right _ h)) (by decide +kernel))
set_option maxRecDepth 20000 in
theorem gX7_writeStock_X7_saysKind : GoodIn wsX7_writeStock (wsV RX7 383 RX7 yX7_saysKind wsX7_saysKind) := goodIn_app (goodIn_of _ (by decide +kernel)) ggX7_writeStock_X7_saysKind
set_option maxRecDepth 20000 in
theorem ggX7_writeStock_X7_saysNumber : GoodIn wsX7_writeStock wsX7_saysNumber := goodIn_ca (goodIn_r _ [29, 15, 16, 17, 7, 18, 19, 1, 30, 31, 32, 33, 34, 35, 36, 37, 38, 39, 40, 41, 42, 43, 44, 45, 46, 47, 48, 49, 50, 51, 52, 53, 54, 55, 56, 57, 58, 59, 60, 61, 62, 63, 64, 65, 66, 67, 68, 69, 70] (by decide +kernel) (by decide +kernel)) (goodIn_sub (fun _ h => List.mem_cons_of_mem _ (List.mem_append_right _ h)) (by decide +kernel))
set_option maxRecDepth 20000 in
theorem gX7_writeStock_X7_saysNumber : GoodIn wsX7_writeStock (wsV RX7 377 RX7 yX7_saysNumber wsX7_saysNumber) := goodIn_app (goodIn_of _ (by decide +kernel)) ggX7_writeStock_X7_saysNumber
theorem dX7_writeStock_0 : decode cX7_writeStock 0 = .ok (.aload_n 0, 1) := by decide +kernel
theorem dX7_writeStock_1 : decode cX7_writeStock 1 = .ok (.invokevirtual 320, 3) := by decide +kernel
theorem dX7_writeStock_4 : decode cX7_writeStock 4 = .ok (.ifCond .eq 5, 3) := by decide +kernel
theorem dX7_writeStock_7 : decode cX7_writeStock 7 = .ok (.iconst 0, 1) := by decide +kernel
theorem dX7_writeStock_8 : decode cX7_writeStock 8 = .ok (.ireturn, 1) := by decide +kernel
theorem dX7_writeStock_9 : decode cX7_writeStock 9 = .ok (.aload_n 0, 1) := by decide +kernel
theorem dX7_writeStock_10 : decode cX7_writeStock 10 = .ok (.iconst 0, 1) := by decide +kernel
theorem dX7_writeStock_11 : decode cX7_writeStock 11 = .ok (.putfield 371, 3) := by decide +kernel
theorem dX7_writeStock_14 : decode cX7_writeStock 14 = .ok (.iconst 0, 1) := by decide +kernel
theorem dX7_writeStock_15 : decode cX7_writeStock 15 = .ok (.istore_n 1, 1) := by decide +kernel
theorem dX7_writeStock_16 : decode cX7_writeStock 16 = .ok (.iload_n 1, 1) := by decide +kernel
theorem dX7_writeStock_17 : decode cX7_writeStock 17 = .ok (.aload_n 0, 1) := by decide +kernel
theorem dX7_writeStock_18 : decode cX7_writeStock 18 = .ok (.getfield 172, 3) := by decide +kernel
theorem dX7_writeStock_21 : decode cX7_writeStock 21 = .ok (.if_icmp .ge 43, 3) := by decide +kernel
theorem dX7_writeStock_24 : decode cX7_writeStock 24 = .ok (.iload_n 1, 1) := by decide +kernel
theorem dX7_writeStock_25 : decode cX7_writeStock 25 = .ok (.ifCond .le 9, 3) := by decide +kernel
theorem dX7_writeStock_28 : decode cX7_writeStock 28 = .ok (.aload_n 0, 1) := by decide +kernel
theorem dX7_writeStock_29 : decode cX7_writeStock 29 = .ok (.bipush 44, 2) := by decide +kernel
theorem dX7_writeStock_31 : decode cX7_writeStock 31 = .ok (.invokevirtual 374, 3) := by decide +kernel
theorem dX7_writeStock_34 : decode cX7_writeStock 34 = .ok (.aload_n 0, 1) := by decide +kernel
theorem dX7_writeStock_35 : decode cX7_writeStock 35 = .ok (.iload_n 1, 1) := by decide +kernel
theorem dX7_writeStock_36 : decode cX7_writeStock 36 = .ok (.invokevirtual 383, 3) := by decide +kernel
theorem dX7_writeStock_39 : decode cX7_writeStock 39 = .ok (.aload_n 0, 1) := by decide +kernel
theorem dX7_writeStock_40 : decode cX7_writeStock 40 = .ok (.bipush 58, 2) := by decide +kernel
theorem dX7_writeStock_42 : decode cX7_writeStock 42 = .ok (.invokevirtual 374, 3) := by decide +kernel
theorem dX7_writeStock_45 : decode cX7_writeStock 45 = .ok (.aload_n 0, 1) := by decide +kernel
theorem dX7_writeStock_46 : decode cX7_writeStock 46 = .ok (.aload_n 0, 1) := by decide +kernel
theorem dX7_writeStock_47 : decode cX7_writeStock 47 = .ok (.getfield 17, 3) := by decide +kernel
theorem dX7_writeStock_50 : decode cX7_writeStock 50 = .ok (.bipush 6, 2) := by decide +kernel
theorem dX7_writeStock_52 : decode cX7_writeStock 52 = .ok (.iload_n 1, 1) := by decide +kernel
theorem dX7_writeStock_53 : decode cX7_writeStock 53 = .ok (.iadd, 1) := by decide +kernel
theorem dX7_writeStock_54 : decode cX7_writeStock 54 = .ok (.iaload, 1) := by decide +kernel
theorem dX7_writeStock_55 : decode cX7_writeStock 55 = .ok (.invokevirtual 377, 3) := by decide +kernel
theorem dX7_writeStock_58 : decode cX7_writeStock 58 = .ok (.iinc 1 1, 3) := by decide +kernel
theorem dX7_writeStock_61 : decode cX7_writeStock 61 = .ok (.goto (-45), 3) := by decide +kernel
theorem dX7_writeStock_64 : decode cX7_writeStock 64 = .ok (.aload_n 0, 1) := by decide +kernel
theorem dX7_writeStock_65 : decode cX7_writeStock 65 = .ok (.getfield 371, 3) := by decide +kernel
theorem dX7_writeStock_68 : decode cX7_writeStock 68 = .ok (.ireturn, 1) := by decide +kernel
set_option maxRecDepth 20000 in
theorem ggX7_textByte_X7_in : GoodIn wsX7_textByte wsX7_in := goodIn_r _ [7] (by decide +kernel) (by decide +kernel)
set_option maxRecDepth 20000 in
theorem gX7_textByte_X7_in : GoodIn wsX7_textByte (va_wsS RX7 143 yX7_in wsX7_in) := goodIn_app (goodIn_of _ (by decide +kernel)) ggX7_textByte_X7_in
set_option maxRecDepth 20000 in
theorem ggX7_textByte_X7_refuse : GoodIn wsX7_textByte wsX7_refuse := goodIn_r _ [11, 1, 12, 13, 14, 15, 16, 17, 18, 19, 20, 21, 22, 23, 24, 25, 26, 27, 28, 29, 30, 31, 32, 33, 34, 35, 36, 37, 38, 39, 40, 41, 42, 43, 44, 45, 46, 47, 48, 49, 50, 51, 52] (by decide +kernel) (by decide +kernel)
set_option maxRecDepth 20000 in
theorem gX7_textByte_X7_refuse : GoodIn wsX7_textByte (wsV RX7 74 RX7 yX7_refuse wsX7_refuse) := goodIn_app (goodIn_of _ (by decide +kernel)) ggX7_textByte_X7_refuse
theorem dX7_textByte_0 : decode cX7_textByte 0 = .ok (.aload_n 0, 1) := by decide +kernel
theorem dX7_textByte_1 : decode cX7_textByte 1 = .ok (.iconst 0, 1) := by decide +kernel
theorem dX7_textByte_2 : decode cX7_textByte 2 = .ok (.putfield 67, 3) := by decide +kernel
theorem dX7_textByte_5 : decode cX7_textByte 5 = .ok (.aload_n 0, 1) := by decide +kernel
theorem dX7_textByte_6 : decode cX7_textByte 6 = .ok (.iload_n 1, 1) := by decide +kernel
theorem dX7_textByte_7 : decode cX7_textByte 7 = .ok (.iconst 0, 1) := by decide +kernel
theorem dX7_textByte_8 : decode cX7_textByte 8 = .ok (.aload_n 0, 1) := by decide +kernel
theorem dX7_textByte_9 : decode cX7_textByte 9 = .ok (.getfield 371, 3) := by decide +kernel
theorem dX7_textByte_12 : decode cX7_textByte 12 = .ok (.iconst 1, 1) := by decide +kernel
theorem dX7_textByte_13 : decode cX7_textByte 13 = .ok (.isub, 1) := by decide +kernel
theorem dX7_textByte_14 : decode cX7_textByte 14 = .ok (.invokestatic 143, 3) := by decide +kernel
theorem dX7_textByte_17 : decode cX7_textByte 17 = .ok (.ifCond .ne 7, 3) := by decide +kernel
theorem dX7_textByte_20 : decode cX7_textByte 20 = .ok (.iconst 1, 1) := by decide +kernel
theorem dX7_textByte_21 : decode cX7_textByte 21 = .ok (.goto 4, 3) := by decide +kernel
theorem dX7_textByte_24 : decode cX7_textByte 24 = .ok (.iconst 0, 1) := by decide +kernel
theorem dX7_textByte_25 : decode cX7_textByte 25 = .ok (.iconst 1, 1) := by decide +kernel
theorem dX7_textByte_26 : decode cX7_textByte 26 = .ok (.invokevirtual 74, 3) := by decide +kernel
theorem dX7_textByte_29 : decode cX7_textByte 29 = .ok (.ifCond .eq 7, 3) := by decide +kernel
theorem dX7_textByte_32 : decode cX7_textByte 32 = .ok (.iconst 0, 1) := by decide +kernel
theorem dX7_textByte_33 : decode cX7_textByte 33 = .ok (.goto 9, 3) := by decide +kernel
theorem dX7_textByte_36 : decode cX7_textByte 36 = .ok (.aload_n 0, 1) := by decide +kernel
theorem dX7_textByte_37 : decode cX7_textByte 37 = .ok (.getfield 64, 3) := by decide +kernel
theorem dX7_textByte_40 : decode cX7_textByte 40 = .ok (.iload_n 1, 1) := by decide +kernel
theorem dX7_textByte_41 : decode cX7_textByte 41 = .ok (.iaload, 1) := by decide +kernel
theorem dX7_textByte_42 : decode cX7_textByte 42 = .ok (.ireturn, 1) := by decide +kernel
theorem dX7_keeps_0 : decode cX7_keeps 0 = .ok (.iconst 0, 1) := by decide +kernel
theorem dX7_keeps_1 : decode cX7_keeps 1 = .ok (.istore_n 2, 1) := by decide +kernel
theorem dX7_keeps_2 : decode cX7_keeps 2 = .ok (.iload_n 2, 1) := by decide +kernel
theorem dX7_keeps_3 : decode cX7_keeps 3 = .ok (.sipush 4112, 3) := by decide +kernel
theorem dX7_keeps_6 : decode cX7_keeps 6 = .ok (.if_icmp .ge 27, 3) := by decide +kernel
theorem dX7_keeps_9 : decode cX7_keeps 9 = .ok (.aload_n 0, 1) := by decide +kernel
theorem dX7_keeps_10 : decode cX7_keeps 10 = .ok (.getfield 24, 3) := by decide +kernel
theorem dX7_keeps_13 : decode cX7_keeps 13 = .ok (.sipush 4112, 3) := by decide +kernel
theorem dX7_keeps_16 : decode cX7_keeps 16 = .ok (.iload_n 1, 1) := by decide +kernel
theorem dX7_keeps_17 : decode cX7_keeps 17 = .ok (.imul, 1) := by decide +kernel
theorem dX7_keeps_18 : decode cX7_keeps 18 = .ok (.iload_n 2, 1) := by decide +kernel
theorem dX7_keeps_19 : decode cX7_keeps 19 = .ok (.iadd, 1) := by decide +kernel
theorem dX7_keeps_20 : decode cX7_keeps 20 = .ok (.aload_n 0, 1) := by decide +kernel
theorem dX7_keeps_21 : decode cX7_keeps 21 = .ok (.getfield 17, 3) := by decide +kernel
theorem dX7_keeps_24 : decode cX7_keeps 24 = .ok (.iload_n 2, 1) := by decide +kernel
theorem dX7_keeps_25 : decode cX7_keeps 25 = .ok (.iaload, 1) := by decide +kernel
theorem dX7_keeps_26 : decode cX7_keeps 26 = .ok (.iastore, 1) := by decide +kernel
theorem dX7_keeps_27 : decode cX7_keeps 27 = .ok (.iinc 2 1, 3) := by decide +kernel
theorem dX7_keeps_30 : decode cX7_keeps 30 = .ok (.goto (-28), 3) := by decide +kernel
theorem dX7_keeps_33 : decode cX7_keeps 33 = .ok (.return_, 1) := by decide +kernel
theorem dX7_fetches_0 : decode cX7_fetches 0 = .ok (.iconst 0, 1) := by decide +kernel
theorem dX7_fetches_1 : decode cX7_fetches 1 = .ok (.istore_n 2, 1) := by decide +kernel
theorem dX7_fetches_2 : decode cX7_fetches 2 = .ok (.iload_n 2, 1) := by decide +kernel
theorem dX7_fetches_3 : decode cX7_fetches 3 = .ok (.sipush 4112, 3) := by decide +kernel
theorem dX7_fetches_6 : decode cX7_fetches 6 = .ok (.if_icmp .ge 27, 3) := by decide +kernel
theorem dX7_fetches_9 : decode cX7_fetches 9 = .ok (.aload_n 0, 1) := by decide +kernel
theorem dX7_fetches_10 : decode cX7_fetches 10 = .ok (.getfield 17, 3) := by decide +kernel
theorem dX7_fetches_13 : decode cX7_fetches 13 = .ok (.iload_n 2, 1) := by decide +kernel
theorem dX7_fetches_14 : decode cX7_fetches 14 = .ok (.aload_n 0, 1) := by decide +kernel
theorem dX7_fetches_15 : decode cX7_fetches 15 = .ok (.getfield 24, 3) := by decide +kernel
theorem dX7_fetches_18 : decode cX7_fetches 18 = .ok (.sipush 4112, 3) := by decide +kernel
theorem dX7_fetches_21 : decode cX7_fetches 21 = .ok (.iload_n 1, 1) := by decide +kernel
theorem dX7_fetches_22 : decode cX7_fetches 22 = .ok (.imul, 1) := by decide +kernel
theorem dX7_fetches_23 : decode cX7_fetches 23 = .ok (.iload_n 2, 1) := by decide +kernel
theorem dX7_fetches_24 : decode cX7_fetches 24 = .ok (.iadd, 1) := by decide +kernel
theorem dX7_fetches_25 : decode cX7_fetches 25 = .ok (.iaload, 1) := by decide +kernel
theorem dX7_fetches_26 : decode cX7_fetches 26 = .ok (.iastore, 1) := by decide +kernel
theorem dX7_fetches_27 : decode cX7_fetches 27 = .ok (.iinc 2 1, 3) := by decide +kernel
theorem dX7_fetches_30 : decode cX7_fetches 30 = .ok (.goto (-28), 3) := by decide +kernel
theorem dX7_fetches_33 : decode cX7_fetches 33 = .ok (.return_, 1) := by decide +kernel
set_option maxRecDepth 20000 in
theorem ggX7_keepsAll_X7_keeps : GoodIn wsX7_keepsAll wsX7_keeps := goodIn_ca (goodIn_r _ [7, 2, 8, 9, 10, 11, 12, 13, 14, 15, 16, 17, 18, 19, 20, 21, 22, 23, 24, 25, 26, 27, 28, 29, 30, 31, 32, 33, 34, 35, 36, 37, 38, 39, 40, 41, 42, 43, 44, 45, 46, 47, 48, 49] (by decide +kernel) (by decide +kernel)) (goodIn_sub (fun _ h => List.mem_cons_of_mem _ (List.mem_append_right _ h)) (by decide +kernel))
set_option maxRecDepth 20000 in
theorem gX7_keepsAll_X7_keeps : GoodIn wsX7_keepsAll (wsV RX7 389 RX7 yX7_keeps wsX7_keeps) := goodIn_app (goodIn_of _ (by decide +kernel)) ggX7_keepsAll_X7_keeps
theorem dX7_keepsAll_0 : decode cX7_keepsAll 0 = .ok (.aload_n 0, 1) := by decide +kernel
theorem dX7_keepsAll_1 : decode cX7_keepsAll 1 = .ok (.getfield 235, 3) := by decide +kernel
theorem dX7_keepsAll_4 : decode cX7_keepsAll 4 = .ok (.bipush 8, 2) := by decide +kernel
theorem dX7_keepsAll_6 : decode cX7_keepsAll 6 = .ok (.if_icmp .ne 44, 3) := by decide +kernel
theorem dX7_keepsAll_9 : decode cX7_keepsAll 9 = .ok (.iconst 0, 1) := by decide +kernel
theorem dX7_keepsAll_10 : decode cX7_keepsAll 10 = .ok (.istore_n 1, 1) := by decide +kernel
theorem dX7_keepsAll_11 : decode cX7_keepsAll 11 = .ok (.iload_n 1, 1) := by decide +kernel
theorem dX7_keepsAll_12 : decode cX7_keepsAll 12 = .ok (.sipush 28784, 3) := by decide +kernel
theorem dX7_keepsAll_15 : decode cX7_keepsAll 15 = .ok (.if_icmp .ge 25, 3) := by decide +kernel
theorem dX7_keepsAll_18 : decode cX7_keepsAll 18 = .ok (.aload_n 0, 1) := by decide +kernel
theorem dX7_keepsAll_19 : decode cX7_keepsAll 19 = .ok (.getfield 24, 3) := by decide +kernel
theorem dX7_keepsAll_22 : decode cX7_keepsAll 22 = .ok (.iload_n 1, 1) := by decide +kernel
theorem dX7_keepsAll_23 : decode cX7_keepsAll 23 = .ok (.aload_n 0, 1) := by decide +kernel
theorem dX7_keepsAll_24 : decode cX7_keepsAll 24 = .ok (.getfield 24, 3) := by decide +kernel
theorem dX7_keepsAll_27 : decode cX7_keepsAll 27 = .ok (.iload_n 1, 1) := by decide +kernel
theorem dX7_keepsAll_28 : decode cX7_keepsAll 28 = .ok (.sipush 4112, 3) := by decide +kernel
theorem dX7_keepsAll_31 : decode cX7_keepsAll 31 = .ok (.iadd, 1) := by decide +kernel
theorem dX7_keepsAll_32 : decode cX7_keepsAll 32 = .ok (.iaload, 1) := by decide +kernel
theorem dX7_keepsAll_33 : decode cX7_keepsAll 33 = .ok (.iastore, 1) := by decide +kernel
theorem dX7_keepsAll_34 : decode cX7_keepsAll 34 = .ok (.iinc 1 1, 3) := by decide +kernel
theorem dX7_keepsAll_37 : decode cX7_keepsAll 37 = .ok (.goto (-26), 3) := by decide +kernel
theorem dX7_keepsAll_40 : decode cX7_keepsAll 40 = .ok (.aload_n 0, 1) := by decide +kernel
theorem dX7_keepsAll_41 : decode cX7_keepsAll 41 = .ok (.dup, 1) := by decide +kernel
theorem dX7_keepsAll_42 : decode cX7_keepsAll 42 = .ok (.getfield 235, 3) := by decide +kernel
theorem dX7_keepsAll_45 : decode cX7_keepsAll 45 = .ok (.iconst 1, 1) := by decide +kernel
theorem dX7_keepsAll_46 : decode cX7_keepsAll 46 = .ok (.isub, 1) := by decide +kernel
theorem dX7_keepsAll_47 : decode cX7_keepsAll 47 = .ok (.putfield 235, 3) := by decide +kernel
theorem dX7_keepsAll_50 : decode cX7_keepsAll 50 = .ok (.aload_n 0, 1) := by decide +kernel
theorem dX7_keepsAll_51 : decode cX7_keepsAll 51 = .ok (.iconst 0, 1) := by decide +kernel
theorem dX7_keepsAll_52 : decode cX7_keepsAll 52 = .ok (.aload_n 0, 1) := by decide +kernel
theorem dX7_keepsAll_53 : decode cX7_keepsAll 53 = .ok (.getfield 235, 3) := by decide +kernel
theorem dX7_keepsAll_56 : decode cX7_keepsAll 56 = .ok (.iadd, 1) := by decide +kernel
theorem dX7_keepsAll_57 : decode cX7_keepsAll 57 = .ok (.invokevirtual 389, 3) := by decide +kernel
theorem dX7_keepsAll_60 : decode cX7_keepsAll 60 = .ok (.aload_n 0, 1) := by decide +kernel
theorem dX7_keepsAll_61 : decode cX7_keepsAll 61 = .ok (.dup, 1) := by decide +kernel
theorem dX7_keepsAll_62 : decode cX7_keepsAll 62 = .ok (.getfield 235, 3) := by decide +kernel
theorem dX7_keepsAll_65 : decode cX7_keepsAll 65 = .ok (.iconst 1, 1) := by decide +kernel
theorem dX7_keepsAll_66 : decode cX7_keepsAll 66 = .ok (.iadd, 1) := by decide +kernel
theorem dX7_keepsAll_67 : decode cX7_keepsAll 67 = .ok (.putfield 235, 3) := by decide +kernel
theorem dX7_keepsAll_70 : decode cX7_keepsAll 70 = .ok (.return_, 1) := by decide +kernel
set_option maxRecDepth 20000 in
theorem ggX7_place_X7_noRow : GoodIn wsX7_place wsX7_noRow := goodIn_r _ [5, 6, 7, 8, 4, 9, 10, 11, 12, 13, 14, 15, 16, 17, 18, 19, 20, 21, 22, 23, 70, 71, 72, 73, 74, 75, 76, 77, 78, 79, 80, 81, 82, 83, 84, 85, 86, 87, 88, 89, 90, 91, 92, 93, 94, 95, 96, 97, 98, 99, 100, 101, 102, 103, 104, 105, 106, 107, 108, 109, 110] (by decide +kernel) (by decide +kernel)
set_option maxRecDepth 20000 in
theorem gX7_place_X7_noRow : GoodIn wsX7_place (wsV RX7 335 RX7 yX7_noRow wsX7_noRow) := goodIn_app (goodIn_of _ (by decide +kernel)) ggX7_place_X7_noRow
set_option maxRecDepth 20000 in
theorem ggX7_place_X7_in : GoodIn wsX7_place wsX7_in := goodIn_r _ [23] (by decide +kernel) (by decide +kernel)
set_option maxRecDepth 20000 in
theorem gX7_place_X7_in : GoodIn wsX7_place (va_wsS RX7 143 yX7_in wsX7_in) := goodIn_app (goodIn_of _ (by decide +kernel)) ggX7_place_X7_in
set_option maxRecDepth 20000 in
theorem ggX7_place_X7_of : GoodIn wsX7_place wsX7_of := goodIn_ca (goodIn_r _ [27, 28, 70, 71, 72, 73, 74, 75, 76, 77, 78, 79, 80, 81, 82, 83, 84, 85, 86, 87, 88, 89, 90, 91, 92, 93, 94, 95, 96, 97, 98, 99, 100, 101, 102, 103, 104, 105, 106, 107, 108, 109, 110] (by decide +kernel) (by decide +kernel)) (goodIn_sub (fun _ h => List.mem_cons_of_mem _ (List.mem_append_right _ h)) (by decide +kernel))
set_option maxRecDepth 20000 in
theorem gX7_place_X7_of : GoodIn wsX7_place (wsV RX7 189 RX7 yX7_of wsX7_of) := goodIn_app (goodIn_of _ (by decide +kernel)) ggX7_place_X7_of
set_option maxRecDepth 20000 in
theorem ggX7_place_X7_gap : GoodIn wsX7_place wsX7_gap := goodIn_ca (goodIn_r _ [32, 33, 34, 35, 36, 4, 37, 38, 39, 40, 41, 42, 24, 25, 26, 27, 28, 43, 44, 45, 46, 47, 48, 49, 50, 51, 70, 71, 72, 73, 74, 75, 76, 77, 78, 79, 80, 81, 82, 83, 84, 85, 86, 87, 88, 89, 90, 91, 92, 93, 94, 95, 96, 97, 98, 99, 100, 101, 102, 103, 104, 105, 106, 107, 108, 109, 110] (by decide +kernel) (by decide +kernel)) (goodIn_sub (fun _ h => List.mem_cons_of_mem _ (List.mem_append_right _ h)) (by decide +kernel))
set_option maxRecDepth 20000 in
theorem gX7_place_X7_gap : GoodIn wsX7_place (wsV RX7 192 RX7 yX7_gap wsX7_gap) := goodIn_app (goodIn_of _ (by decide +kernel)) ggX7_place_X7_gap
set_option maxRecDepth 20000 in
theorem ggX7_place_X7_refuse : GoodIn wsX7_place wsX7_refuse := goodIn_r _ [15, 10, 70, 71, 72, 73, 74, 75, 76, 77, 78, 79, 80, 81, 82, 83, 84, 85, 86, 87, 88, 89, 90, 91, 92, 93, 94, 95, 96, 97, 98, 99, 100, 101, 102, 103, 104, 105, 106, 107, 108, 109, 110] (by decide +kernel) (by decide +kernel)
set_option maxRecDepth 20000 in
theorem gX7_place_X7_refuse : GoodIn wsX7_place (wsV RX7 74 RX7 yX7_refuse wsX7_refuse) := goodIn_app (goodIn_of _ (by decide +kernel)) ggX7_place_X7_refuse
set_option maxRecDepth 20000 in
theorem ggX7_place_X7_keepsAll : GoodIn wsX7_place wsX7_keepsAll := goodIn_ca (goodIn_r _ [55, 56, 57, 58, 59, 60, 4, 61, 28, 70, 71, 72, 73, 74, 75, 76, 77, 78, 79, 80, 81, 82, 83, 84, 85, 86, 87, 88, 89, 90, 91, 92, 93, 94, 95, 96, 97, 98, 99, 100, 101, 102, 103, 104, 105, 106, 107, 108, 109, 110] (by decide +kernel) (by decide +kernel)) (goodIn_sub (fun _ h => List.mem_cons_of_mem _ (List.mem_append_right _ h)) (by decide +kernel))
set_option maxRecDepth 20000 in
theorem gX7_place_X7_keepsAll : GoodIn wsX7_place (wsV RX7 392 RX7 yX7_keepsAll wsX7_keepsAll) := goodIn_app (goodIn_of _ (by decide +kernel)) ggX7_place_X7_keepsAll
set_option maxRecDepth 20000 in
theorem ggX7_place_X7_adds : GoodIn wsX7_place wsX7_adds := goodIn_ca (goodIn_r _ [65, 24, 25, 26, 4, 27, 28, 66, 67, 68, 69, 70, 71, 72, 73, 74, 75, 76, 77, 78, 79, 80, 81, 82, 83, 84, 85, 86, 87, 88, 89, 90, 91, 92, 93, 94, 95, 96, 97, 98, 99, 100, 101, 102, 103, 104, 105, 106, 107, 108, 109, 110] (by decide +kernel) (by decide +kernel)) (goodIn_sub (fun _ h => List.mem_cons_of_mem _ (List.mem_append_right _ h)) (by decide +kernel))
set_option maxRecDepth 20000 in
theorem gX7_place_X7_adds : GoodIn wsX7_place (wsV RX7 195 RX7 yX7_adds wsX7_adds) := goodIn_app (goodIn_of _ (by decide +kernel)) ggX7_place_X7_adds
theorem dX7_place_0 : decode cX7_place 0 = .ok (.aload_n 0, 1) := by decide +kernel
theorem dX7_place_1 : decode cX7_place 1 = .ok (.iload_n 1, 1) := by decide +kernel
theorem dX7_place_2 : decode cX7_place 2 = .ok (.invokevirtual 335, 3) := by decide +kernel
theorem dX7_place_5 : decode cX7_place 5 = .ok (.ifCond .ne 47, 3) := by decide +kernel
theorem dX7_place_8 : decode cX7_place 8 = .ok (.aload_n 0, 1) := by decide +kernel
theorem dX7_place_9 : decode cX7_place 9 = .ok (.iload_n 2, 1) := by decide +kernel
theorem dX7_place_10 : decode cX7_place 10 = .ok (.iconst 1, 1) := by decide +kernel
theorem dX7_place_11 : decode cX7_place 11 = .ok (.sipush 200, 3) := by decide +kernel
theorem dX7_place_14 : decode cX7_place 14 = .ok (.invokestatic 143, 3) := by decide +kernel
theorem dX7_place_17 : decode cX7_place 17 = .ok (.ifCond .eq 23, 3) := by decide +kernel
theorem dX7_place_20 : decode cX7_place 20 = .ok (.aload_n 0, 1) := by decide +kernel
theorem dX7_place_21 : decode cX7_place 21 = .ok (.iload_n 1, 1) := by decide +kernel
theorem dX7_place_22 : decode cX7_place 22 = .ok (.iconst 0, 1) := by decide +kernel
theorem dX7_place_23 : decode cX7_place 23 = .ok (.invokevirtual 189, 3) := by decide +kernel
theorem dX7_place_26 : decode cX7_place 26 = .ok (.bipush 6, 2) := by decide +kernel
theorem dX7_place_28 : decode cX7_place 28 = .ok (.if_icmp .eq 12, 3) := by decide +kernel
theorem dX7_place_31 : decode cX7_place 31 = .ok (.aload_n 0, 1) := by decide +kernel
theorem dX7_place_32 : decode cX7_place 32 = .ok (.iload_n 1, 1) := by decide +kernel
theorem dX7_place_33 : decode cX7_place 33 = .ok (.invokevirtual 192, 3) := by decide +kernel
theorem dX7_place_36 : decode cX7_place 36 = .ok (.iload_n 2, 1) := by decide +kernel
theorem dX7_place_37 : decode cX7_place 37 = .ok (.if_icmp .ge 7, 3) := by decide +kernel
theorem dX7_place_40 : decode cX7_place 40 = .ok (.iconst 1, 1) := by decide +kernel
theorem dX7_place_41 : decode cX7_place 41 = .ok (.goto 4, 3) := by decide +kernel
theorem dX7_place_44 : decode cX7_place 44 = .ok (.iconst 0, 1) := by decide +kernel
theorem dX7_place_45 : decode cX7_place 45 = .ok (.iconst 3, 1) := by decide +kernel
theorem dX7_place_46 : decode cX7_place 46 = .ok (.invokevirtual 74, 3) := by decide +kernel
theorem dX7_place_49 : decode cX7_place 49 = .ok (.ifCond .eq 5, 3) := by decide +kernel
theorem dX7_place_52 : decode cX7_place 52 = .ok (.iconst 0, 1) := by decide +kernel
theorem dX7_place_53 : decode cX7_place 53 = .ok (.ireturn, 1) := by decide +kernel
theorem dX7_place_54 : decode cX7_place 54 = .ok (.aload_n 0, 1) := by decide +kernel
theorem dX7_place_55 : decode cX7_place 55 = .ok (.invokevirtual 392, 3) := by decide +kernel
theorem dX7_place_58 : decode cX7_place 58 = .ok (.aload_n 0, 1) := by decide +kernel
theorem dX7_place_59 : decode cX7_place 59 = .ok (.iload_n 1, 1) := by decide +kernel
theorem dX7_place_60 : decode cX7_place 60 = .ok (.iload_n 2, 1) := by decide +kernel
theorem dX7_place_61 : decode cX7_place 61 = .ok (.invokevirtual 195, 3) := by decide +kernel
theorem dX7_place_64 : decode cX7_place 64 = .ok (.aload_n 0, 1) := by decide +kernel
theorem dX7_place_65 : decode cX7_place 65 = .ok (.iload_n 1, 1) := by decide +kernel
theorem dX7_place_66 : decode cX7_place 66 = .ok (.invokevirtual 192, 3) := by decide +kernel
theorem dX7_place_69 : decode cX7_place 69 = .ok (.ireturn, 1) := by decide +kernel
set_option maxRecDepth 20000 in
theorem ggX7_lift_X7_noRow : GoodIn wsX7_lift wsX7_noRow := goodIn_r _ [5, 6, 7, 8, 4, 9, 10, 11, 12, 13, 14, 15, 16, 17, 18, 19, 20, 21, 22, 23, 43, 44, 45, 46, 47, 48, 49, 50, 51, 52, 53, 54, 55, 56, 57, 58, 59, 60, 61, 62, 63, 64, 65, 66, 67, 68, 69, 70, 71, 72, 73, 74, 75, 76, 77, 78, 79, 80, 81, 82, 83] (by decide +kernel) (by decide +kernel)
set_option maxRecDepth 20000 in
theorem gX7_lift_X7_noRow : GoodIn wsX7_lift (wsV RX7 335 RX7 yX7_noRow wsX7_noRow) := goodIn_app (goodIn_of _ (by decide +kernel)) ggX7_lift_X7_noRow
set_option maxRecDepth 20000 in
theorem ggX7_lift_X7_of : GoodIn wsX7_lift wsX7_of := goodIn_ca (goodIn_r _ [27, 28, 43, 44, 45, 46, 47, 48, 49, 50, 51, 52, 53, 54, 55, 56, 57, 58, 59, 60, 61, 62, 63, 64, 65, 66, 67, 68, 69, 70, 71, 72, 73, 74, 75, 76, 77, 78, 79, 80, 81, 82, 83] (by decide +kernel) (by decide +kernel)) (goodIn_sub (fun _ h => List.mem_cons_of_mem _ (List.mem_append_right _ h)) (by decide +kernel))
set_option maxRecDepth 20000 in
theorem gX7_lift_X7_of : GoodIn wsX7_lift (wsV RX7 189 RX7 yX7_of wsX7_of) := goodIn_app (goodIn_of _ (by decide +kernel)) ggX7_lift_X7_of
set_option maxRecDepth 20000 in
theorem ggX7_lift_X7_in : GoodIn wsX7_lift wsX7_in := goodIn_r _ [23] (by decide +kernel) (by decide +kernel)
set_option maxRecDepth 20000 in
theorem gX7_lift_X7_in : GoodIn wsX7_lift (va_wsS RX7 143 yX7_in wsX7_in) := goodIn_app (goodIn_of _ (by decide +kernel)) ggX7_lift_X7_in
set_option maxRecDepth 20000 in
theorem ggX7_lift_X7_refuse : GoodIn wsX7_lift wsX7_refuse := goodIn_r _ [15, 10, 43, 44, 45, 46, 47, 48, 49, 50, 51, 52, 53, 54, 55, 56, 57, 58, 59, 60, 61, 62, 63, 64, 65, 66, 67, 68, 69, 70, 71, 72, 73, 74, 75, 76, 77, 78, 79, 80, 81, 82, 83] (by decide +kernel) (by decide +kernel)
set_option maxRecDepth 20000 in
theorem gX7_lift_X7_refuse : GoodIn wsX7_lift (wsV RX7 74 RX7 yX7_refuse wsX7_refuse) := goodIn_app (goodIn_of _ (by decide +kernel)) ggX7_lift_X7_refuse
set_option maxRecDepth 20000 in
theorem ggX7_lift_X7_keepsAll : GoodIn wsX7_lift wsX7_keepsAll := goodIn_ca (goodIn_r _ [32, 33, 34, 35, 36, 37, 4, 38, 28, 43, 44, 45, 46, 47, 48, 49, 50, 51, 52, 53, 54, 55, 56, 57, 58, 59, 60, 61, 62, 63, 64, 65, 66, 67, 68, 69, 70, 71, 72, 73, 74, 75, 76, 77, 78, 79, 80, 81, 82, 83] (by decide +kernel) (by decide +kernel)) (goodIn_sub (fun _ h => List.mem_cons_of_mem _ (List.mem_append_right _ h)) (by decide +kernel))
set_option maxRecDepth 20000 in
theorem gX7_lift_X7_keepsAll : GoodIn wsX7_lift (wsV RX7 392 RX7 yX7_keepsAll wsX7_keepsAll) := goodIn_app (goodIn_of _ (by decide +kernel)) ggX7_lift_X7_keepsAll
set_option maxRecDepth 20000 in
theorem ggX7_lift_X7_puts : GoodIn wsX7_lift wsX7_puts := goodIn_ca (goodIn_r _ [42, 28, 43, 44, 45, 46, 47, 48, 49, 50, 51, 52, 53, 54, 55, 56, 57, 58, 59, 60, 61, 62, 63, 64, 65, 66, 67, 68, 69, 70, 71, 72, 73, 74, 75, 76, 77, 78, 79, 80, 81, 82, 83] (by decide +kernel) (by decide +kernel)) (goodIn_sub (fun _ h => List.mem_cons_of_mem _ (List.mem_append_right _ h)) (by decide +kernel))
set_option maxRecDepth 20000 in
theorem gX7_lift_X7_puts : GoodIn wsX7_lift (wsV RX7 178 RX7 yX7_puts wsX7_puts) := goodIn_app (goodIn_of _ (by decide +kernel)) ggX7_lift_X7_puts
theorem dX7_lift_0 : decode cX7_lift 0 = .ok (.aload_n 0, 1) := by decide +kernel
theorem dX7_lift_1 : decode cX7_lift 1 = .ok (.iload_n 1, 1) := by decide +kernel
theorem dX7_lift_2 : decode cX7_lift 2 = .ok (.invokevirtual 335, 3) := by decide +kernel
theorem dX7_lift_5 : decode cX7_lift 5 = .ok (.ifCond .ne 32, 3) := by decide +kernel
theorem dX7_lift_8 : decode cX7_lift 8 = .ok (.aload_n 0, 1) := by decide +kernel
theorem dX7_lift_9 : decode cX7_lift 9 = .ok (.iload_n 2, 1) := by decide +kernel
theorem dX7_lift_10 : decode cX7_lift 10 = .ok (.iconst 0, 1) := by decide +kernel
theorem dX7_lift_11 : decode cX7_lift 11 = .ok (.aload_n 0, 1) := by decide +kernel
theorem dX7_lift_12 : decode cX7_lift 12 = .ok (.iload_n 1, 1) := by decide +kernel
theorem dX7_lift_13 : decode cX7_lift 13 = .ok (.iconst 0, 1) := by decide +kernel
theorem dX7_lift_14 : decode cX7_lift 14 = .ok (.invokevirtual 189, 3) := by decide +kernel
theorem dX7_lift_17 : decode cX7_lift 17 = .ok (.iconst 1, 1) := by decide +kernel
theorem dX7_lift_18 : decode cX7_lift 18 = .ok (.isub, 1) := by decide +kernel
theorem dX7_lift_19 : decode cX7_lift 19 = .ok (.invokestatic 143, 3) := by decide +kernel
theorem dX7_lift_22 : decode cX7_lift 22 = .ok (.ifCond .ne 7, 3) := by decide +kernel
theorem dX7_lift_25 : decode cX7_lift 25 = .ok (.iconst 1, 1) := by decide +kernel
theorem dX7_lift_26 : decode cX7_lift 26 = .ok (.goto 4, 3) := by decide +kernel
theorem dX7_lift_29 : decode cX7_lift 29 = .ok (.iconst 0, 1) := by decide +kernel
theorem dX7_lift_30 : decode cX7_lift 30 = .ok (.iconst 2, 1) := by decide +kernel
theorem dX7_lift_31 : decode cX7_lift 31 = .ok (.invokevirtual 74, 3) := by decide +kernel
theorem dX7_lift_34 : decode cX7_lift 34 = .ok (.ifCond .eq 5, 3) := by decide +kernel
theorem dX7_lift_37 : decode cX7_lift 37 = .ok (.iconst 0, 1) := by decide +kernel
theorem dX7_lift_38 : decode cX7_lift 38 = .ok (.ireturn, 1) := by decide +kernel
theorem dX7_lift_39 : decode cX7_lift 39 = .ok (.aload_n 0, 1) := by decide +kernel
theorem dX7_lift_40 : decode cX7_lift 40 = .ok (.invokevirtual 392, 3) := by decide +kernel
theorem dX7_lift_43 : decode cX7_lift 43 = .ok (.aload_n 0, 1) := by decide +kernel
theorem dX7_lift_44 : decode cX7_lift 44 = .ok (.iload_n 1, 1) := by decide +kernel
theorem dX7_lift_45 : decode cX7_lift 45 = .ok (.iconst 5, 1) := by decide +kernel
theorem dX7_lift_46 : decode cX7_lift 46 = .ok (.iload_n 2, 1) := by decide +kernel
theorem dX7_lift_47 : decode cX7_lift 47 = .ok (.iadd, 1) := by decide +kernel
theorem dX7_lift_48 : decode cX7_lift 48 = .ok (.invokevirtual 189, 3) := by decide +kernel
theorem dX7_lift_51 : decode cX7_lift 51 = .ok (.istore_n 3, 1) := by decide +kernel
theorem dX7_lift_52 : decode cX7_lift 52 = .ok (.iload_n 2, 1) := by decide +kernel
theorem dX7_lift_53 : decode cX7_lift 53 = .ok (.istore 4, 2) := by decide +kernel
theorem dX7_lift_55 : decode cX7_lift 55 = .ok (.iload 4, 2) := by decide +kernel
theorem dX7_lift_57 : decode cX7_lift 57 = .ok (.aload_n 0, 1) := by decide +kernel
theorem dX7_lift_58 : decode cX7_lift 58 = .ok (.iload_n 1, 1) := by decide +kernel
theorem dX7_lift_59 : decode cX7_lift 59 = .ok (.iconst 0, 1) := by decide +kernel
theorem dX7_lift_60 : decode cX7_lift 60 = .ok (.invokevirtual 189, 3) := by decide +kernel
theorem dX7_lift_63 : decode cX7_lift 63 = .ok (.iconst 1, 1) := by decide +kernel
theorem dX7_lift_64 : decode cX7_lift 64 = .ok (.isub, 1) := by decide +kernel
theorem dX7_lift_65 : decode cX7_lift 65 = .ok (.if_icmp .ge 29, 3) := by decide +kernel
theorem dX7_lift_68 : decode cX7_lift 68 = .ok (.aload_n 0, 1) := by decide +kernel
theorem dX7_lift_69 : decode cX7_lift 69 = .ok (.iload_n 1, 1) := by decide +kernel
theorem dX7_lift_70 : decode cX7_lift 70 = .ok (.iconst 5, 1) := by decide +kernel
theorem dX7_lift_71 : decode cX7_lift 71 = .ok (.iload 4, 2) := by decide +kernel
theorem dX7_lift_73 : decode cX7_lift 73 = .ok (.iadd, 1) := by decide +kernel
theorem dX7_lift_74 : decode cX7_lift 74 = .ok (.aload_n 0, 1) := by decide +kernel
theorem dX7_lift_75 : decode cX7_lift 75 = .ok (.iload_n 1, 1) := by decide +kernel
theorem dX7_lift_76 : decode cX7_lift 76 = .ok (.iconst 5, 1) := by decide +kernel
theorem dX7_lift_77 : decode cX7_lift 77 = .ok (.iload 4, 2) := by decide +kernel
theorem dX7_lift_79 : decode cX7_lift 79 = .ok (.iadd, 1) := by decide +kernel
theorem dX7_lift_80 : decode cX7_lift 80 = .ok (.iconst 1, 1) := by decide +kernel
theorem dX7_lift_81 : decode cX7_lift 81 = .ok (.iadd, 1) := by decide +kernel
theorem dX7_lift_82 : decode cX7_lift 82 = .ok (.invokevirtual 189, 3) := by decide +kernel
theorem dX7_lift_85 : decode cX7_lift 85 = .ok (.invokevirtual 178, 3) := by decide +kernel
theorem dX7_lift_88 : decode cX7_lift 88 = .ok (.iinc 4 1, 3) := by decide +kernel
theorem dX7_lift_91 : decode cX7_lift 91 = .ok (.goto (-36), 3) := by decide +kernel
theorem dX7_lift_94 : decode cX7_lift 94 = .ok (.aload_n 0, 1) := by decide +kernel
theorem dX7_lift_95 : decode cX7_lift 95 = .ok (.iload_n 1, 1) := by decide +kernel
theorem dX7_lift_96 : decode cX7_lift 96 = .ok (.iconst 0, 1) := by decide +kernel
theorem dX7_lift_97 : decode cX7_lift 97 = .ok (.aload_n 0, 1) := by decide +kernel
theorem dX7_lift_98 : decode cX7_lift 98 = .ok (.iload_n 1, 1) := by decide +kernel
theorem dX7_lift_99 : decode cX7_lift 99 = .ok (.iconst 0, 1) := by decide +kernel
theorem dX7_lift_100 : decode cX7_lift 100 = .ok (.invokevirtual 189, 3) := by decide +kernel
theorem dX7_lift_103 : decode cX7_lift 103 = .ok (.iconst 1, 1) := by decide +kernel
theorem dX7_lift_104 : decode cX7_lift 104 = .ok (.isub, 1) := by decide +kernel
theorem dX7_lift_105 : decode cX7_lift 105 = .ok (.invokevirtual 178, 3) := by decide +kernel
theorem dX7_lift_108 : decode cX7_lift 108 = .ok (.iload_n 3, 1) := by decide +kernel
theorem dX7_lift_109 : decode cX7_lift 109 = .ok (.ireturn, 1) := by decide +kernel
set_option maxRecDepth 20000 in
theorem ggX7_put_X7_noRow : GoodIn wsX7_put wsX7_noRow := goodIn_r _ [7, 8, 9, 10, 6, 11, 12, 13, 14, 15, 16, 17, 18, 19, 20, 21, 22, 23, 24, 25, 75, 76, 77, 78, 79, 80, 81, 82, 83, 84, 85, 86, 87, 88, 89, 90, 91, 92, 93, 94, 95, 96, 97, 98, 99, 100, 101, 102, 103, 104, 105, 106, 107, 108, 109, 110, 111, 112, 113, 114, 115] (by decide +kernel) (by decide +kernel)
set_option maxRecDepth 20000 in
theorem gX7_put_X7_noRow : GoodIn wsX7_put (wsV RX7 335 RX7 yX7_noRow wsX7_noRow) := goodIn_app (goodIn_of _ (by decide +kernel)) ggX7_put_X7_noRow
set_option maxRecDepth 20000 in
theorem ggX7_put_X7_isKind : GoodIn wsX7_put wsX7_isKind := goodIn_r _ [29, 30, 23, 24, 6, 25, 75, 76, 77, 78, 79, 80, 81, 82, 83, 84, 85, 86, 87, 88, 89, 90, 91, 92, 93, 94, 95, 96, 97, 98, 99, 100, 101, 102, 103, 104, 105, 106, 107, 108, 109, 110, 111, 112, 113, 114, 115] (by decide +kernel) (by decide +kernel)
set_option maxRecDepth 20000 in
theorem gX7_put_X7_isKind : GoodIn wsX7_put (wsV RX7 338 RX7 yX7_isKind wsX7_isKind) := goodIn_app (goodIn_of _ (by decide +kernel)) ggX7_put_X7_isKind
set_option maxRecDepth 20000 in
theorem ggX7_put_X7_refuse : GoodIn wsX7_put wsX7_refuse := goodIn_r _ [17, 12, 75, 76, 77, 78, 79, 80, 81, 82, 83, 84, 85, 86, 87, 88, 89, 90, 91, 92, 93, 94, 95, 96, 97, 98, 99, 100, 101, 102, 103, 104, 105, 106, 107, 108, 109, 110, 111, 112, 113, 114, 115] (by decide +kernel) (by decide +kernel)
set_option maxRecDepth 20000 in
theorem gX7_put_X7_refuse : GoodIn wsX7_put (wsV RX7 74 RX7 yX7_refuse wsX7_refuse) := goodIn_app (goodIn_of _ (by decide +kernel)) ggX7_put_X7_refuse
set_option maxRecDepth 20000 in
theorem ggX7_put_X7_gap : GoodIn wsX7_put wsX7_gap := goodIn_ca (goodIn_r _ [34, 35, 36, 37, 38, 6, 39, 2, 40, 41, 42, 43, 44, 45, 46, 47, 1, 48, 49, 50, 51, 52, 53, 54, 55, 56, 75, 76, 77, 78, 79, 80, 81, 82, 83, 84, 85, 86, 87, 88, 89, 90, 91, 92, 93, 94, 95, 96, 97, 98, 99, 100, 101, 102, 103, 104, 105, 106, 107, 108, 109, 110, 111, 112, 113, 114, 115] (by decide +kernel) (by decide +kernel)) (goodIn_sub (fun _ h => List.mem_cons_of_mem _ (List.mem_append_right _ h)) (by decide +kernel))
set_option maxRecDepth 20000 in
theorem gX7_put_X7_gap : GoodIn wsX7_put (wsV RX7 192 RX7 yX7_gap wsX7_gap) := goodIn_app (goodIn_of _ (by decide +kernel)) ggX7_put_X7_gap
set_option maxRecDepth 20000 in
theorem ggX7_put_X7_keepsAll : GoodIn wsX7_put wsX7_keepsAll := goodIn_ca (goodIn_r _ [60, 61, 62, 63, 64, 65, 6, 66, 1, 75, 76, 77, 78, 79, 80, 81, 82, 83, 84, 85, 86, 87, 88, 89, 90, 91, 92, 93, 94, 95, 96, 97, 98, 99, 100, 101, 102, 103, 104, 105, 106, 107, 108, 109, 110, 111, 112, 113, 114, 115] (by decide +kernel) (by decide +kernel)) (goodIn_sub (fun _ h => List.mem_cons_of_mem _ (List.mem_append_right _ h)) (by decide +kernel))
set_option maxRecDepth 20000 in
theorem gX7_put_X7_keepsAll : GoodIn wsX7_put (wsV RX7 392 RX7 yX7_keepsAll wsX7_keepsAll) := goodIn_app (goodIn_of _ (by decide +kernel)) ggX7_put_X7_keepsAll
set_option maxRecDepth 20000 in
theorem ggX7_put_X7_putsPiece : GoodIn wsX7_put wsX7_putsPiece := goodIn_ca (goodIn_r _ [70, 1, 44, 45, 46, 6, 47, 71, 72, 73, 74, 75, 76, 77, 78, 79, 80, 81, 82, 83, 84, 85, 86, 87, 88, 89, 90, 91, 92, 93, 94, 95, 96, 97, 98, 99, 100, 101, 102, 103, 104, 105, 106, 107, 108, 109, 110, 111, 112, 113, 114, 115] (by decide +kernel) (by decide +kernel)) (goodIn_sub (fun _ h => List.mem_cons_of_mem _ (List.mem_append_right _ h)) (by decide +kernel))
set_option maxRecDepth 20000 in
theorem gX7_put_X7_putsPiece : GoodIn wsX7_put (wsV RX7 314 RX7 yX7_putsPiece wsX7_putsPiece) := goodIn_app (goodIn_of _ (by decide +kernel)) ggX7_put_X7_putsPiece
theorem dX7_put_0 : decode cX7_put 0 = .ok (.aload_n 0, 1) := by decide +kernel
theorem dX7_put_1 : decode cX7_put 1 = .ok (.iload_n 1, 1) := by decide +kernel
theorem dX7_put_2 : decode cX7_put 2 = .ok (.invokevirtual 335, 3) := by decide +kernel
theorem dX7_put_5 : decode cX7_put 5 = .ok (.ifCond .ne 63, 3) := by decide +kernel
theorem dX7_put_8 : decode cX7_put 8 = .ok (.aload_n 0, 1) := by decide +kernel
theorem dX7_put_9 : decode cX7_put 9 = .ok (.aload_n 0, 1) := by decide +kernel
theorem dX7_put_10 : decode cX7_put 10 = .ok (.iload_n 2, 1) := by decide +kernel
theorem dX7_put_11 : decode cX7_put 11 = .ok (.invokevirtual 338, 3) := by decide +kernel
theorem dX7_put_14 : decode cX7_put 14 = .ok (.ifCond .ne 7, 3) := by decide +kernel
theorem dX7_put_17 : decode cX7_put 17 = .ok (.iconst 1, 1) := by decide +kernel
theorem dX7_put_18 : decode cX7_put 18 = .ok (.goto 4, 3) := by decide +kernel
theorem dX7_put_21 : decode cX7_put 21 = .ok (.iconst 0, 1) := by decide +kernel
theorem dX7_put_22 : decode cX7_put 22 = .ok (.iconst 2, 1) := by decide +kernel
theorem dX7_put_23 : decode cX7_put 23 = .ok (.invokevirtual 74, 3) := by decide +kernel
theorem dX7_put_26 : decode cX7_put 26 = .ok (.ifCond .ne 42, 3) := by decide +kernel
theorem dX7_put_29 : decode cX7_put 29 = .ok (.aload_n 0, 1) := by decide +kernel
theorem dX7_put_30 : decode cX7_put 30 = .ok (.aload_n 0, 1) := by decide +kernel
theorem dX7_put_31 : decode cX7_put 31 = .ok (.getfield 17, 3) := by decide +kernel
theorem dX7_put_34 : decode cX7_put 34 = .ok (.bipush 6, 2) := by decide +kernel
theorem dX7_put_36 : decode cX7_put 36 = .ok (.iload_n 2, 1) := by decide +kernel
theorem dX7_put_37 : decode cX7_put 37 = .ok (.iadd, 1) := by decide +kernel
theorem dX7_put_38 : decode cX7_put 38 = .ok (.iaload, 1) := by decide +kernel
theorem dX7_put_39 : decode cX7_put 39 = .ok (.ifCond .eq 17, 3) := by decide +kernel
theorem dX7_put_42 : decode cX7_put 42 = .ok (.aload_n 0, 1) := by decide +kernel
theorem dX7_put_43 : decode cX7_put 43 = .ok (.iload_n 1, 1) := by decide +kernel
theorem dX7_put_44 : decode cX7_put 44 = .ok (.invokevirtual 192, 3) := by decide +kernel
theorem dX7_put_47 : decode cX7_put 47 = .ok (.aload_n 0, 1) := by decide +kernel
theorem dX7_put_48 : decode cX7_put 48 = .ok (.getfield 13, 3) := by decide +kernel
theorem dX7_put_51 : decode cX7_put 51 = .ok (.iload_n 2, 1) := by decide +kernel
theorem dX7_put_52 : decode cX7_put 52 = .ok (.iaload, 1) := by decide +kernel
theorem dX7_put_53 : decode cX7_put 53 = .ok (.if_icmp .ge 7, 3) := by decide +kernel
theorem dX7_put_56 : decode cX7_put 56 = .ok (.iconst 1, 1) := by decide +kernel
theorem dX7_put_57 : decode cX7_put 57 = .ok (.goto 4, 3) := by decide +kernel
theorem dX7_put_60 : decode cX7_put 60 = .ok (.iconst 0, 1) := by decide +kernel
theorem dX7_put_61 : decode cX7_put 61 = .ok (.iconst 3, 1) := by decide +kernel
theorem dX7_put_62 : decode cX7_put 62 = .ok (.invokevirtual 74, 3) := by decide +kernel
theorem dX7_put_65 : decode cX7_put 65 = .ok (.ifCond .eq 5, 3) := by decide +kernel
theorem dX7_put_68 : decode cX7_put 68 = .ok (.iconst 0, 1) := by decide +kernel
theorem dX7_put_69 : decode cX7_put 69 = .ok (.ireturn, 1) := by decide +kernel
theorem dX7_put_70 : decode cX7_put 70 = .ok (.aload_n 0, 1) := by decide +kernel
theorem dX7_put_71 : decode cX7_put 71 = .ok (.invokevirtual 392, 3) := by decide +kernel
theorem dX7_put_74 : decode cX7_put 74 = .ok (.aload_n 0, 1) := by decide +kernel
theorem dX7_put_75 : decode cX7_put 75 = .ok (.iload_n 1, 1) := by decide +kernel
theorem dX7_put_76 : decode cX7_put 76 = .ok (.iload_n 2, 1) := by decide +kernel
theorem dX7_put_77 : decode cX7_put 77 = .ok (.invokevirtual 314, 3) := by decide +kernel
theorem dX7_put_80 : decode cX7_put 80 = .ok (.aload_n 0, 1) := by decide +kernel
theorem dX7_put_81 : decode cX7_put 81 = .ok (.iload_n 1, 1) := by decide +kernel
theorem dX7_put_82 : decode cX7_put 82 = .ok (.invokevirtual 192, 3) := by decide +kernel
theorem dX7_put_85 : decode cX7_put 85 = .ok (.ireturn, 1) := by decide +kernel
set_option maxRecDepth 20000 in
theorem ggX7_take_X7_noRow : GoodIn wsX7_take wsX7_noRow := goodIn_r _ [6, 7, 8, 9, 5, 10, 11, 12, 13, 14, 15, 16, 17, 18, 19, 20, 21, 22, 23, 24, 43, 44, 45, 46, 47, 48, 49, 50, 51, 52, 53, 54, 55, 56, 57, 58, 59, 60, 61, 62, 63, 64, 65, 66, 67, 68, 69, 70, 71, 72, 73, 74, 75, 76, 77, 78, 79, 80, 81, 82, 83] (by decide +kernel) (by decide +kernel)
set_option maxRecDepth 20000 in
theorem gX7_take_X7_noRow : GoodIn wsX7_take (wsV RX7 335 RX7 yX7_noRow wsX7_noRow) := goodIn_app (goodIn_of _ (by decide +kernel)) ggX7_take_X7_noRow
set_option maxRecDepth 20000 in
theorem ggX7_take_X7_of : GoodIn wsX7_take wsX7_of := goodIn_ca (goodIn_r _ [28, 1, 43, 44, 45, 46, 47, 48, 49, 50, 51, 52, 53, 54, 55, 56, 57, 58, 59, 60, 61, 62, 63, 64, 65, 66, 67, 68, 69, 70, 71, 72, 73, 74, 75, 76, 77, 78, 79, 80, 81, 82, 83] (by decide +kernel) (by decide +kernel)) (goodIn_sub (fun _ h => List.mem_cons_of_mem _ (List.mem_append_right _ h)) (by decide +kernel))
set_option maxRecDepth 20000 in
theorem gX7_take_X7_of : GoodIn wsX7_take (wsV RX7 189 RX7 yX7_of wsX7_of) := goodIn_app (goodIn_of _ (by decide +kernel)) ggX7_take_X7_of
set_option maxRecDepth 20000 in
theorem ggX7_take_X7_in : GoodIn wsX7_take wsX7_in := goodIn_r _ [24] (by decide +kernel) (by decide +kernel)
set_option maxRecDepth 20000 in
theorem gX7_take_X7_in : GoodIn wsX7_take (va_wsS RX7 143 yX7_in wsX7_in) := goodIn_app (goodIn_of _ (by decide +kernel)) ggX7_take_X7_in
set_option maxRecDepth 20000 in
theorem ggX7_take_X7_refuse : GoodIn wsX7_take wsX7_refuse := goodIn_r _ [16, 11, 43, 44, 45, 46, 47, 48, 49, 50, 51, 52, 53, 54, 55, 56, 57, 58, 59, 60, 61, 62, 63, 64, 65, 66, 67, 68, 69, 70, 71, 72, 73, 74, 75, 76, 77, 78, 79, 80, 81, 82, 83] (by decide +kernel) (by decide +kernel)
set_option maxRecDepth 20000 in
theorem gX7_take_X7_refuse : GoodIn wsX7_take (wsV RX7 74 RX7 yX7_refuse wsX7_refuse) := goodIn_app (goodIn_of _ (by decide +kernel)) ggX7_take_X7_refuse
set_option maxRecDepth 20000 in
theorem ggX7_take_X7_keepsAll : GoodIn wsX7_take wsX7_keepsAll := goodIn_ca (goodIn_r _ [32, 33, 34, 35, 36, 37, 5, 38, 1, 43, 44, 45, 46, 47, 48, 49, 50, 51, 52, 53, 54, 55, 56, 57, 58, 59, 60, 61, 62, 63, 64, 65, 66, 67, 68, 69, 70, 71, 72, 73, 74, 75, 76, 77, 78, 79, 80, 81, 82, 83] (by decide +kernel) (by decide +kernel)) (goodIn_sub (fun _ h => List.mem_cons_of_mem _ (List.mem_append_right _ h)) (by decide +kernel))
set_option maxRecDepth 20000 in
theorem gX7_take_X7_keepsAll : GoodIn wsX7_take (wsV RX7 392 RX7 yX7_keepsAll wsX7_keepsAll) := goodIn_app (goodIn_of _ (by decide +kernel)) ggX7_take_X7_keepsAll
set_option maxRecDepth 20000 in
theorem ggX7_take_X7_puts : GoodIn wsX7_take wsX7_puts := goodIn_ca (goodIn_r _ [42, 1, 43, 44, 45, 46, 47, 48, 49, 50, 51, 52, 53, 54, 55, 56, 57, 58, 59, 60, 61, 62, 63, 64, 65, 66, 67, 68, 69, 70, 71, 72, 73, 74, 75, 76, 77, 78, 79, 80, 81, 82, 83] (by decide +kernel) (by decide +kernel)) (goodIn_sub (fun _ h => List.mem_cons_of_mem _ (List.mem_append_right _ h)) (by decide +kernel))
set_option maxRecDepth 20000 in
theorem gX7_take_X7_puts : GoodIn wsX7_take (wsV RX7 178 RX7 yX7_puts wsX7_puts) := goodIn_app (goodIn_of _ (by decide +kernel)) ggX7_take_X7_puts
theorem dX7_take_0 : decode cX7_take 0 = .ok (.aload_n 0, 1) := by decide +kernel
theorem dX7_take_1 : decode cX7_take 1 = .ok (.iload_n 1, 1) := by decide +kernel
theorem dX7_take_2 : decode cX7_take 2 = .ok (.invokevirtual 335, 3) := by decide +kernel
theorem dX7_take_5 : decode cX7_take 5 = .ok (.ifCond .ne 32, 3) := by decide +kernel
theorem dX7_take_8 : decode cX7_take 8 = .ok (.aload_n 0, 1) := by decide +kernel
theorem dX7_take_9 : decode cX7_take 9 = .ok (.iload_n 2, 1) := by decide +kernel
theorem dX7_take_10 : decode cX7_take 10 = .ok (.iconst 0, 1) := by decide +kernel
theorem dX7_take_11 : decode cX7_take 11 = .ok (.aload_n 0, 1) := by decide +kernel
theorem dX7_take_12 : decode cX7_take 12 = .ok (.iload_n 1, 1) := by decide +kernel
theorem dX7_take_13 : decode cX7_take 13 = .ok (.iconst 1, 1) := by decide +kernel
theorem dX7_take_14 : decode cX7_take 14 = .ok (.invokevirtual 189, 3) := by decide +kernel
theorem dX7_take_17 : decode cX7_take 17 = .ok (.iconst 1, 1) := by decide +kernel
theorem dX7_take_18 : decode cX7_take 18 = .ok (.isub, 1) := by decide +kernel
theorem dX7_take_19 : decode cX7_take 19 = .ok (.invokestatic 143, 3) := by decide +kernel
theorem dX7_take_22 : decode cX7_take 22 = .ok (.ifCond .ne 7, 3) := by decide +kernel
theorem dX7_take_25 : decode cX7_take 25 = .ok (.iconst 1, 1) := by decide +kernel
theorem dX7_take_26 : decode cX7_take 26 = .ok (.goto 4, 3) := by decide +kernel
theorem dX7_take_29 : decode cX7_take 29 = .ok (.iconst 0, 1) := by decide +kernel
theorem dX7_take_30 : decode cX7_take 30 = .ok (.iconst 2, 1) := by decide +kernel
theorem dX7_take_31 : decode cX7_take 31 = .ok (.invokevirtual 74, 3) := by decide +kernel
theorem dX7_take_34 : decode cX7_take 34 = .ok (.ifCond .eq 5, 3) := by decide +kernel
theorem dX7_take_37 : decode cX7_take 37 = .ok (.iconst 0, 1) := by decide +kernel
theorem dX7_take_38 : decode cX7_take 38 = .ok (.ireturn, 1) := by decide +kernel
theorem dX7_take_39 : decode cX7_take 39 = .ok (.aload_n 0, 1) := by decide +kernel
theorem dX7_take_40 : decode cX7_take 40 = .ok (.invokevirtual 392, 3) := by decide +kernel
theorem dX7_take_43 : decode cX7_take 43 = .ok (.aload_n 0, 1) := by decide +kernel
theorem dX7_take_44 : decode cX7_take 44 = .ok (.iload_n 1, 1) := by decide +kernel
theorem dX7_take_45 : decode cX7_take 45 = .ok (.bipush 11, 2) := by decide +kernel
theorem dX7_take_47 : decode cX7_take 47 = .ok (.iload_n 2, 1) := by decide +kernel
theorem dX7_take_48 : decode cX7_take 48 = .ok (.iadd, 1) := by decide +kernel
theorem dX7_take_49 : decode cX7_take 49 = .ok (.invokevirtual 189, 3) := by decide +kernel
theorem dX7_take_52 : decode cX7_take 52 = .ok (.istore_n 3, 1) := by decide +kernel
theorem dX7_take_53 : decode cX7_take 53 = .ok (.iload_n 2, 1) := by decide +kernel
theorem dX7_take_54 : decode cX7_take 54 = .ok (.istore 4, 2) := by decide +kernel
theorem dX7_take_56 : decode cX7_take 56 = .ok (.iload 4, 2) := by decide +kernel
theorem dX7_take_58 : decode cX7_take 58 = .ok (.aload_n 0, 1) := by decide +kernel
theorem dX7_take_59 : decode cX7_take 59 = .ok (.iload_n 1, 1) := by decide +kernel
theorem dX7_take_60 : decode cX7_take 60 = .ok (.iconst 1, 1) := by decide +kernel
theorem dX7_take_61 : decode cX7_take 61 = .ok (.invokevirtual 189, 3) := by decide +kernel
theorem dX7_take_64 : decode cX7_take 64 = .ok (.iconst 1, 1) := by decide +kernel
theorem dX7_take_65 : decode cX7_take 65 = .ok (.isub, 1) := by decide +kernel
theorem dX7_take_66 : decode cX7_take 66 = .ok (.if_icmp .ge 31, 3) := by decide +kernel
theorem dX7_take_69 : decode cX7_take 69 = .ok (.aload_n 0, 1) := by decide +kernel
theorem dX7_take_70 : decode cX7_take 70 = .ok (.iload_n 1, 1) := by decide +kernel
theorem dX7_take_71 : decode cX7_take 71 = .ok (.bipush 11, 2) := by decide +kernel
theorem dX7_take_73 : decode cX7_take 73 = .ok (.iload 4, 2) := by decide +kernel
theorem dX7_take_75 : decode cX7_take 75 = .ok (.iadd, 1) := by decide +kernel
theorem dX7_take_76 : decode cX7_take 76 = .ok (.aload_n 0, 1) := by decide +kernel
theorem dX7_take_77 : decode cX7_take 77 = .ok (.iload_n 1, 1) := by decide +kernel
theorem dX7_take_78 : decode cX7_take 78 = .ok (.bipush 11, 2) := by decide +kernel
theorem dX7_take_80 : decode cX7_take 80 = .ok (.iload 4, 2) := by decide +kernel
theorem dX7_take_82 : decode cX7_take 82 = .ok (.iadd, 1) := by decide +kernel
theorem dX7_take_83 : decode cX7_take 83 = .ok (.iconst 1, 1) := by decide +kernel
theorem dX7_take_84 : decode cX7_take 84 = .ok (.iadd, 1) := by decide +kernel
theorem dX7_take_85 : decode cX7_take 85 = .ok (.invokevirtual 189, 3) := by decide +kernel
theorem dX7_take_88 : decode cX7_take 88 = .ok (.invokevirtual 178, 3) := by decide +kernel
theorem dX7_take_91 : decode cX7_take 91 = .ok (.iinc 4 1, 3) := by decide +kernel
theorem dX7_take_94 : decode cX7_take 94 = .ok (.goto (-38), 3) := by decide +kernel
theorem dX7_take_97 : decode cX7_take 97 = .ok (.aload_n 0, 1) := by decide +kernel
theorem dX7_take_98 : decode cX7_take 98 = .ok (.iload_n 1, 1) := by decide +kernel
theorem dX7_take_99 : decode cX7_take 99 = .ok (.iconst 1, 1) := by decide +kernel
theorem dX7_take_100 : decode cX7_take 100 = .ok (.aload_n 0, 1) := by decide +kernel
theorem dX7_take_101 : decode cX7_take 101 = .ok (.iload_n 1, 1) := by decide +kernel
theorem dX7_take_102 : decode cX7_take 102 = .ok (.iconst 1, 1) := by decide +kernel
theorem dX7_take_103 : decode cX7_take 103 = .ok (.invokevirtual 189, 3) := by decide +kernel
theorem dX7_take_106 : decode cX7_take 106 = .ok (.iconst 1, 1) := by decide +kernel
theorem dX7_take_107 : decode cX7_take 107 = .ok (.isub, 1) := by decide +kernel
theorem dX7_take_108 : decode cX7_take 108 = .ok (.invokevirtual 178, 3) := by decide +kernel
theorem dX7_take_111 : decode cX7_take 111 = .ok (.aload_n 0, 1) := by decide +kernel
theorem dX7_take_112 : decode cX7_take 112 = .ok (.getfield 17, 3) := by decide +kernel
theorem dX7_take_115 : decode cX7_take 115 = .ok (.bipush 6, 2) := by decide +kernel
theorem dX7_take_117 : decode cX7_take 117 = .ok (.iload_n 3, 1) := by decide +kernel
theorem dX7_take_118 : decode cX7_take 118 = .ok (.iadd, 1) := by decide +kernel
theorem dX7_take_119 : decode cX7_take 119 = .ok (.dup2, 1) := by decide +kernel
theorem dX7_take_120 : decode cX7_take 120 = .ok (.iaload, 1) := by decide +kernel
theorem dX7_take_121 : decode cX7_take 121 = .ok (.iconst 1, 1) := by decide +kernel
theorem dX7_take_122 : decode cX7_take 122 = .ok (.iadd, 1) := by decide +kernel
theorem dX7_take_123 : decode cX7_take 123 = .ok (.iastore, 1) := by decide +kernel
theorem dX7_take_124 : decode cX7_take 124 = .ok (.iload_n 3, 1) := by decide +kernel
theorem dX7_take_125 : decode cX7_take 125 = .ok (.ireturn, 1) := by decide +kernel
set_option maxRecDepth 20000 in
theorem ggX7_quoin_X7_noRow : GoodIn wsX7_quoin wsX7_noRow := goodIn_r _ [7, 8, 9, 10, 6, 11, 12, 13, 14, 15, 16, 17, 18, 19, 20, 21, 22, 23, 24, 25, 70, 71, 72, 73, 74, 75, 76, 77, 78, 79, 80, 81, 82, 83, 84, 85, 86, 87, 88, 89, 90, 91, 92, 93, 94, 95, 96, 97, 98, 99, 100, 101, 102, 103, 104, 105, 106, 107, 108, 109, 110] (by decide +kernel) (by decide +kernel)
set_option maxRecDepth 20000 in
theorem gX7_quoin_X7_noRow : GoodIn wsX7_quoin (wsV RX7 335 RX7 yX7_noRow wsX7_noRow) := goodIn_app (goodIn_of _ (by decide +kernel)) ggX7_quoin_X7_noRow
set_option maxRecDepth 20000 in
theorem ggX7_quoin_X7_hasQuoin : GoodIn wsX7_quoin wsX7_hasQuoin := goodIn_ca (goodIn_r _ [29, 30, 31, 32, 6, 33, 1, 70, 71, 72, 73, 74, 75, 76, 77, 78, 79, 80, 81, 82, 83, 84, 85, 86, 87, 88, 89, 90, 91, 92, 93, 94, 95, 96, 97, 98, 99, 100, 101, 102, 103, 104, 105, 106, 107, 108, 109, 110] (by decide +kernel) (by decide +kernel)) (goodIn_sub (fun _ h => List.mem_cons_of_mem _ (List.mem_append_right _ h)) (by decide +kernel))
set_option maxRecDepth 20000 in
theorem gX7_quoin_X7_hasQuoin : GoodIn wsX7_quoin (wsV RX7 238 RX7 yX7_hasQuoin wsX7_hasQuoin) := goodIn_app (goodIn_of _ (by decide +kernel)) ggX7_quoin_X7_hasQuoin
set_option maxRecDepth 20000 in
theorem ggX7_quoin_X7_gap : GoodIn wsX7_quoin wsX7_gap := goodIn_ca (goodIn_r _ [37, 38, 39, 40, 41, 6, 42, 43, 44, 45, 46, 47, 30, 31, 32, 33, 1, 48, 49, 50, 51, 2, 26, 27, 28, 29, 70, 71, 72, 73, 74, 75, 76, 77, 78, 79, 80, 81, 82, 83, 84, 85, 86, 87, 88, 89, 90, 91, 92, 93, 94, 95, 96, 97, 98, 99, 100, 101, 102, 103, 104, 105, 106, 107, 108, 109, 110] (by decide +kernel) (by decide +kernel)) (goodIn_sub (fun _ h => List.mem_cons_of_mem _ (List.mem_append_right _ h)) (by decide +kernel))
set_option maxRecDepth 20000 in
theorem gX7_quoin_X7_gap : GoodIn wsX7_quoin (wsV RX7 192 RX7 yX7_gap wsX7_gap) := goodIn_app (goodIn_of _ (by decide +kernel)) ggX7_quoin_X7_gap
set_option maxRecDepth 20000 in
theorem ggX7_quoin_X7_refuse : GoodIn wsX7_quoin wsX7_refuse := goodIn_r _ [17, 12, 70, 71, 72, 73, 74, 75, 76, 77, 78, 79, 80, 81, 82, 83, 84, 85, 86, 87, 88, 89, 90, 91, 92, 93, 94, 95, 96, 97, 98, 99, 100, 101, 102, 103, 104, 105, 106, 107, 108, 109, 110] (by decide +kernel) (by decide +kernel)
set_option maxRecDepth 20000 in
theorem gX7_quoin_X7_refuse : GoodIn wsX7_quoin (wsV RX7 74 RX7 yX7_refuse wsX7_refuse) := goodIn_app (goodIn_of _ (by decide +kernel)) ggX7_quoin_X7_refuse
set_option maxRecDepth 20000 in
theorem ggX7_quoin_X7_keepsAll : GoodIn wsX7_quoin wsX7_keepsAll := goodIn_ca (goodIn_r _ [55, 56, 57, 58, 59, 60, 6, 61, 1, 70, 71, 72, 73, 74, 75, 76, 77, 78, 79, 80, 81, 82, 83, 84, 85, 86, 87, 88, 89, 90, 91, 92, 93, 94, 95, 96, 97, 98, 99, 100, 101, 102, 103, 104, 105, 106, 107, 108, 109, 110] (by decide +kernel) (by decide +kernel)) (goodIn_sub (fun _ h => List.mem_cons_of_mem _ (List.mem_append_right _ h)) (by decide +kernel))
set_option maxRecDepth 20000 in
theorem gX7_quoin_X7_keepsAll : GoodIn wsX7_quoin (wsV RX7 392 RX7 yX7_keepsAll wsX7_keepsAll) := goodIn_app (goodIn_of _ (by decide +kernel)) ggX7_quoin_X7_keepsAll
set_option maxRecDepth 20000 in
theorem ggX7_quoin_X7_puts : GoodIn wsX7_quoin wsX7_puts := goodIn_ca (goodIn_r _ [65, 1, 70, 71, 72, 73, 74, 75, 76, 77, 78, 79, 80, 81, 82, 83, 84, 85, 86, 87, 88, 89, 90, 91, 92, 93, 94, 95, 96, 97, 98, 99, 100, 101, 102, 103, 104, 105, 106, 107, 108, 109, 110] (by decide +kernel) (by decide +kernel)) (goodIn_sub (fun _ h => List.mem_cons_of_mem _ (List.mem_append_right _ h)) (by decide +kernel))
set_option maxRecDepth 20000 in
theorem gX7_quoin_X7_puts : GoodIn wsX7_quoin (wsV RX7 178 RX7 yX7_puts wsX7_puts) := goodIn_app (goodIn_of _ (by decide +kernel)) ggX7_quoin_X7_puts
set_option maxRecDepth 20000 in
theorem ggX7_quoin_X7_takesQuoin : GoodIn wsX7_quoin wsX7_takesQuoin := goodIn_ca (goodIn_r _ [69, 1, 26, 27, 28, 6, 29, 30, 31, 32, 33, 62, 63, 64, 65, 70, 71, 72, 73, 74, 75, 76, 77, 78, 79, 80, 81, 82, 83, 84, 85, 86, 87, 88, 89, 90, 91, 92, 93, 94, 95, 96, 97, 98, 99, 100, 101, 102, 103, 104, 105, 106, 107, 108, 109, 110] (by decide +kernel) (by decide +kernel)) (goodIn_sub (fun _ h => List.mem_cons_of_mem _ (List.mem_append_right _ h)) (by decide +kernel))
set_option maxRecDepth 20000 in
theorem gX7_quoin_X7_takesQuoin : GoodIn wsX7_quoin (wsV RX7 254 RX7 yX7_takesQuoin wsX7_takesQuoin) := goodIn_app (goodIn_of _ (by decide +kernel)) ggX7_quoin_X7_takesQuoin
theorem dX7_quoin_0 : decode cX7_quoin 0 = .ok (.aload_n 0, 1) := by decide +kernel
theorem dX7_quoin_1 : decode cX7_quoin 1 = .ok (.iload_n 1, 1) := by decide +kernel
theorem dX7_quoin_2 : decode cX7_quoin 2 = .ok (.invokevirtual 335, 3) := by decide +kernel
theorem dX7_quoin_5 : decode cX7_quoin 5 = .ok (.ifCond .ne 50, 3) := by decide +kernel
theorem dX7_quoin_8 : decode cX7_quoin 8 = .ok (.aload_n 0, 1) := by decide +kernel
theorem dX7_quoin_9 : decode cX7_quoin 9 = .ok (.aload_n 0, 1) := by decide +kernel
theorem dX7_quoin_10 : decode cX7_quoin 10 = .ok (.iload_n 1, 1) := by decide +kernel
theorem dX7_quoin_11 : decode cX7_quoin 11 = .ok (.invokevirtual 238, 3) := by decide +kernel
theorem dX7_quoin_14 : decode cX7_quoin 14 = .ok (.iload_n 2, 1) := by decide +kernel
theorem dX7_quoin_15 : decode cX7_quoin 15 = .ok (.if_icmp .eq 28, 3) := by decide +kernel
theorem dX7_quoin_18 : decode cX7_quoin 18 = .ok (.iload_n 2, 1) := by decide +kernel
theorem dX7_quoin_19 : decode cX7_quoin 19 = .ok (.ifCond .eq 28, 3) := by decide +kernel
theorem dX7_quoin_22 : decode cX7_quoin 22 = .ok (.aload_n 0, 1) := by decide +kernel
theorem dX7_quoin_23 : decode cX7_quoin 23 = .ok (.getfield 17, 3) := by decide +kernel
theorem dX7_quoin_26 : decode cX7_quoin 26 = .ok (.iconst 0, 1) := by decide +kernel
theorem dX7_quoin_27 : decode cX7_quoin 27 = .ok (.iaload, 1) := by decide +kernel
theorem dX7_quoin_28 : decode cX7_quoin 28 = .ok (.ifCond .eq 15, 3) := by decide +kernel
theorem dX7_quoin_31 : decode cX7_quoin 31 = .ok (.aload_n 0, 1) := by decide +kernel
theorem dX7_quoin_32 : decode cX7_quoin 32 = .ok (.iload_n 1, 1) := by decide +kernel
theorem dX7_quoin_33 : decode cX7_quoin 33 = .ok (.invokevirtual 192, 3) := by decide +kernel
theorem dX7_quoin_36 : decode cX7_quoin 36 = .ok (.aload_n 0, 1) := by decide +kernel
theorem dX7_quoin_37 : decode cX7_quoin 37 = .ok (.getfield 157, 3) := by decide +kernel
theorem dX7_quoin_40 : decode cX7_quoin 40 = .ok (.if_icmp .ge 7, 3) := by decide +kernel
theorem dX7_quoin_43 : decode cX7_quoin 43 = .ok (.iconst 1, 1) := by decide +kernel
theorem dX7_quoin_44 : decode cX7_quoin 44 = .ok (.goto 4, 3) := by decide +kernel
theorem dX7_quoin_47 : decode cX7_quoin 47 = .ok (.iconst 0, 1) := by decide +kernel
theorem dX7_quoin_48 : decode cX7_quoin 48 = .ok (.iconst 3, 1) := by decide +kernel
theorem dX7_quoin_49 : decode cX7_quoin 49 = .ok (.invokevirtual 74, 3) := by decide +kernel
theorem dX7_quoin_52 : decode cX7_quoin 52 = .ok (.ifCond .eq 5, 3) := by decide +kernel
theorem dX7_quoin_55 : decode cX7_quoin 55 = .ok (.iconst 0, 1) := by decide +kernel
theorem dX7_quoin_56 : decode cX7_quoin 56 = .ok (.ireturn, 1) := by decide +kernel
theorem dX7_quoin_57 : decode cX7_quoin 57 = .ok (.aload_n 0, 1) := by decide +kernel
theorem dX7_quoin_58 : decode cX7_quoin 58 = .ok (.invokevirtual 392, 3) := by decide +kernel
theorem dX7_quoin_61 : decode cX7_quoin 61 = .ok (.iload_n 2, 1) := by decide +kernel
theorem dX7_quoin_62 : decode cX7_quoin 62 = .ok (.ifCond .eq 23, 3) := by decide +kernel
theorem dX7_quoin_65 : decode cX7_quoin 65 = .ok (.aload_n 0, 1) := by decide +kernel
theorem dX7_quoin_66 : decode cX7_quoin 66 = .ok (.iload_n 1, 1) := by decide +kernel
theorem dX7_quoin_67 : decode cX7_quoin 67 = .ok (.iconst 2, 1) := by decide +kernel
theorem dX7_quoin_68 : decode cX7_quoin 68 = .ok (.iconst 0, 1) := by decide +kernel
theorem dX7_quoin_69 : decode cX7_quoin 69 = .ok (.invokevirtual 178, 3) := by decide +kernel
theorem dX7_quoin_72 : decode cX7_quoin 72 = .ok (.aload_n 0, 1) := by decide +kernel
theorem dX7_quoin_73 : decode cX7_quoin 73 = .ok (.getfield 17, 3) := by decide +kernel
theorem dX7_quoin_76 : decode cX7_quoin 76 = .ok (.iconst 0, 1) := by decide +kernel
theorem dX7_quoin_77 : decode cX7_quoin 77 = .ok (.dup2, 1) := by decide +kernel
theorem dX7_quoin_78 : decode cX7_quoin 78 = .ok (.iaload, 1) := by decide +kernel
theorem dX7_quoin_79 : decode cX7_quoin 79 = .ok (.iconst 1, 1) := by decide +kernel
theorem dX7_quoin_80 : decode cX7_quoin 80 = .ok (.isub, 1) := by decide +kernel
theorem dX7_quoin_81 : decode cX7_quoin 81 = .ok (.iastore, 1) := by decide +kernel
theorem dX7_quoin_82 : decode cX7_quoin 82 = .ok (.goto 8, 3) := by decide +kernel
theorem dX7_quoin_85 : decode cX7_quoin 85 = .ok (.aload_n 0, 1) := by decide +kernel
theorem dX7_quoin_86 : decode cX7_quoin 86 = .ok (.iload_n 1, 1) := by decide +kernel
theorem dX7_quoin_87 : decode cX7_quoin 87 = .ok (.invokevirtual 254, 3) := by decide +kernel
theorem dX7_quoin_90 : decode cX7_quoin 90 = .ok (.aload_n 0, 1) := by decide +kernel
theorem dX7_quoin_91 : decode cX7_quoin 91 = .ok (.iload_n 1, 1) := by decide +kernel
theorem dX7_quoin_92 : decode cX7_quoin 92 = .ok (.invokevirtual 192, 3) := by decide +kernel
theorem dX7_quoin_95 : decode cX7_quoin 95 = .ok (.ireturn, 1) := by decide +kernel
set_option maxRecDepth 20000 in
theorem ggX7_open_X7_noRow : GoodIn wsX7_open wsX7_noRow := goodIn_r _ [6, 7, 8, 9, 5, 10, 11, 12, 13, 14, 15, 16, 17, 18, 19, 20, 21, 22, 23, 24, 75, 76, 77, 78, 79, 80, 81, 82, 83, 84, 85, 86, 87, 88, 89, 90, 91, 92, 93, 94, 95, 96, 97, 98, 99, 100, 101, 102, 103, 104, 105, 106, 107, 108, 109, 110, 111, 112, 113, 114, 115] (by decide +kernel) (by decide +kernel)
set_option maxRecDepth 20000 in
theorem gX7_open_X7_noRow : GoodIn wsX7_open (wsV RX7 335 RX7 yX7_noRow wsX7_noRow) := goodIn_app (goodIn_of _ (by decide +kernel)) ggX7_open_X7_noRow
set_option maxRecDepth 20000 in
theorem ggX7_open_X7_hasQuoin : GoodIn wsX7_open wsX7_hasQuoin := goodIn_ca (goodIn_r _ [28, 29, 30, 31, 5, 32, 33, 75, 76, 77, 78, 79, 80, 81, 82, 83, 84, 85, 86, 87, 88, 89, 90, 91, 92, 93, 94, 95, 96, 97, 98, 99, 100, 101, 102, 103, 104, 105, 106, 107, 108, 109, 110, 111, 112, 113, 114, 115] (by decide +kernel) (by decide +kernel)) (goodIn_sub (fun _ h => List.mem_cons_of_mem _ (List.mem_append_right _ h)) (by decide +kernel))
set_option maxRecDepth 20000 in
theorem gX7_open_X7_hasQuoin : GoodIn wsX7_open (wsV RX7 238 RX7 yX7_hasQuoin wsX7_hasQuoin) := goodIn_app (goodIn_of _ (by decide +kernel)) ggX7_open_X7_hasQuoin
set_option maxRecDepth 20000 in
theorem ggX7_open_X7_in : GoodIn wsX7_open wsX7_in := goodIn_r _ [24] (by decide +kernel) (by decide +kernel)
set_option maxRecDepth 20000 in
theorem gX7_open_X7_in : GoodIn wsX7_open (va_wsS RX7 143 yX7_in wsX7_in) := goodIn_app (goodIn_of _ (by decide +kernel)) ggX7_open_X7_in
set_option maxRecDepth 20000 in
theorem ggX7_open_X7_sumFor : GoodIn wsX7_open wsX7_sumFor := goodIn_ca (goodIn_r _ [37, 38, 39, 40, 41, 5, 42, 43, 44, 45, 46, 47, 48, 49, 50, 51, 52, 53, 54, 55, 56, 29, 30, 31, 32, 33, 57, 58, 59, 60, 25, 26, 27, 28, 75, 76, 77, 78, 79, 80, 81, 82, 83, 84, 85, 86, 87, 88, 89, 90, 91, 92, 93, 94, 95, 96, 97, 98, 99, 100, 101, 102, 103, 104, 105, 106, 107, 108, 109, 110, 111, 112, 113, 114, 115] (by decide +kernel) (by decide +kernel)) (goodIn_sub (fun _ h => List.mem_cons_of_mem _ (List.mem_append_right _ h)) (by decide +kernel))
set_option maxRecDepth 20000 in
theorem gX7_open_X7_sumFor : GoodIn wsX7_open (wsV RX7 304 RX7 yX7_sumFor wsX7_sumFor) := goodIn_app (goodIn_of _ (by decide +kernel)) ggX7_open_X7_sumFor
set_option maxRecDepth 20000 in
theorem ggX7_open_X7_refuse : GoodIn wsX7_open wsX7_refuse := goodIn_r _ [16, 11, 75, 76, 77, 78, 79, 80, 81, 82, 83, 84, 85, 86, 87, 88, 89, 90, 91, 92, 93, 94, 95, 96, 97, 98, 99, 100, 101, 102, 103, 104, 105, 106, 107, 108, 109, 110, 111, 112, 113, 114, 115] (by decide +kernel) (by decide +kernel)
set_option maxRecDepth 20000 in
theorem gX7_open_X7_refuse : GoodIn wsX7_open (wsV RX7 74 RX7 yX7_refuse wsX7_refuse) := goodIn_app (goodIn_of _ (by decide +kernel)) ggX7_open_X7_refuse
set_option maxRecDepth 20000 in
theorem ggX7_open_X7_keepsAll : GoodIn wsX7_open wsX7_keepsAll := goodIn_ca (goodIn_r _ [64, 65, 66, 67, 68, 69, 5, 70, 33, 75, 76, 77, 78, 79, 80, 81, 82, 83, 84, 85, 86, 87, 88, 89, 90, 91, 92, 93, 94, 95, 96, 97, 98, 99, 100, 101, 102, 103, 104, 105, 106, 107, 108, 109, 110, 111, 112, 113, 114, 115] (by decide +kernel) (by decide +kernel)) (goodIn_sub (fun _ h => List.mem_cons_of_mem _ (List.mem_append_right _ h)) (by decide +kernel))
set_option maxRecDepth 20000 in
theorem gX7_open_X7_keepsAll : GoodIn wsX7_open (wsV RX7 392 RX7 yX7_keepsAll wsX7_keepsAll) := goodIn_app (goodIn_of _ (by decide +kernel)) ggX7_open_X7_keepsAll
set_option maxRecDepth 20000 in
theorem ggX7_open_X7_puts : GoodIn wsX7_open wsX7_puts := goodIn_ca (goodIn_r _ [74, 33, 75, 76, 77, 78, 79, 80, 81, 82, 83, 84, 85, 86, 87, 88, 89, 90, 91, 92, 93, 94, 95, 96, 97, 98, 99, 100, 101, 102, 103, 104, 105, 106, 107, 108, 109, 110, 111, 112, 113, 114, 115] (by decide +kernel) (by decide +kernel)) (goodIn_sub (fun _ h => List.mem_cons_of_mem _ (List.mem_append_right _ h)) (by decide +kernel))
set_option maxRecDepth 20000 in
theorem gX7_open_X7_puts : GoodIn wsX7_open (wsV RX7 178 RX7 yX7_puts wsX7_puts) := goodIn_app (goodIn_of _ (by decide +kernel)) ggX7_open_X7_puts
set_option maxRecDepth 20000 in
theorem ggX7_open_X7_gap : GoodIn wsX7_open wsX7_gap := goodIn_ca (goodIn_r _ [46, 47, 48, 49, 50, 5, 51, 52, 53, 54, 55, 56, 29, 30, 31, 32, 33, 57, 58, 59, 60, 38, 25, 26, 27, 28, 75, 76, 77, 78, 79, 80, 81, 82, 83, 84, 85, 86, 87, 88, 89, 90, 91, 92, 93, 94, 95, 96, 97, 98, 99, 100, 101, 102, 103, 104, 105, 106, 107, 108, 109, 110, 111, 112, 113, 114, 115] (by decide +kernel) (by decide +kernel)) (goodIn_sub (fun _ h => List.mem_cons_of_mem _ (List.mem_append_right _ h)) (by decide +kernel))
set_option maxRecDepth 20000 in
theorem gX7_open_X7_gap : GoodIn wsX7_open (wsV RX7 192 RX7 yX7_gap wsX7_gap) := goodIn_app (goodIn_of _ (by decide +kernel)) ggX7_open_X7_gap
theorem dX7_open_0 : decode cX7_open 0 = .ok (.aload_n 0, 1) := by decide +kernel
theorem dX7_open_1 : decode cX7_open 1 = .ok (.iload_n 1, 1) := by decide +kernel
theorem dX7_open_2 : decode cX7_open 2 = .ok (.invokevirtual 335, 3) := by decide +kernel
theorem dX7_open_5 : decode cX7_open 5 = .ok (.ifCond .ne 45, 3) := by decide +kernel
theorem dX7_open_8 : decode cX7_open 8 = .ok (.aload_n 0, 1) := by decide +kernel
theorem dX7_open_9 : decode cX7_open 9 = .ok (.aload_n 0, 1) := by decide +kernel
theorem dX7_open_10 : decode cX7_open 10 = .ok (.iload_n 1, 1) := by decide +kernel
theorem dX7_open_11 : decode cX7_open 11 = .ok (.invokevirtual 238, 3) := by decide +kernel
theorem dX7_open_14 : decode cX7_open 14 = .ok (.ifCond .eq 24, 3) := by decide +kernel
theorem dX7_open_17 : decode cX7_open 17 = .ok (.iload_n 2, 1) := by decide +kernel
theorem dX7_open_18 : decode cX7_open 18 = .ok (.iconst 0, 1) := by decide +kernel
theorem dX7_open_19 : decode cX7_open 19 = .ok (.aload_n 0, 1) := by decide +kernel
theorem dX7_open_20 : decode cX7_open 20 = .ok (.getfield 160, 3) := by decide +kernel
theorem dX7_open_23 : decode cX7_open 23 = .ok (.invokestatic 143, 3) := by decide +kernel
theorem dX7_open_26 : decode cX7_open 26 = .ok (.ifCond .eq 12, 3) := by decide +kernel
theorem dX7_open_29 : decode cX7_open 29 = .ok (.aload_n 0, 1) := by decide +kernel
theorem dX7_open_30 : decode cX7_open 30 = .ok (.iload_n 1, 1) := by decide +kernel
theorem dX7_open_31 : decode cX7_open 31 = .ok (.iload_n 2, 1) := by decide +kernel
theorem dX7_open_32 : decode cX7_open 32 = .ok (.invokevirtual 304, 3) := by decide +kernel
theorem dX7_open_35 : decode cX7_open 35 = .ok (.ifCond .ge 7, 3) := by decide +kernel
theorem dX7_open_38 : decode cX7_open 38 = .ok (.iconst 1, 1) := by decide +kernel
theorem dX7_open_39 : decode cX7_open 39 = .ok (.goto 4, 3) := by decide +kernel
theorem dX7_open_42 : decode cX7_open 42 = .ok (.iconst 0, 1) := by decide +kernel
theorem dX7_open_43 : decode cX7_open 43 = .ok (.iconst 3, 1) := by decide +kernel
theorem dX7_open_44 : decode cX7_open 44 = .ok (.invokevirtual 74, 3) := by decide +kernel
theorem dX7_open_47 : decode cX7_open 47 = .ok (.ifCond .eq 5, 3) := by decide +kernel
theorem dX7_open_50 : decode cX7_open 50 = .ok (.iconst 0, 1) := by decide +kernel
theorem dX7_open_51 : decode cX7_open 51 = .ok (.ireturn, 1) := by decide +kernel
theorem dX7_open_52 : decode cX7_open 52 = .ok (.aload_n 0, 1) := by decide +kernel
theorem dX7_open_53 : decode cX7_open 53 = .ok (.invokevirtual 392, 3) := by decide +kernel
theorem dX7_open_56 : decode cX7_open 56 = .ok (.aload_n 0, 1) := by decide +kernel
theorem dX7_open_57 : decode cX7_open 57 = .ok (.iload_n 1, 1) := by decide +kernel
theorem dX7_open_58 : decode cX7_open 58 = .ok (.iconst 2, 1) := by decide +kernel
theorem dX7_open_59 : decode cX7_open 59 = .ok (.iload_n 2, 1) := by decide +kernel
theorem dX7_open_60 : decode cX7_open 60 = .ok (.invokevirtual 178, 3) := by decide +kernel
theorem dX7_open_63 : decode cX7_open 63 = .ok (.aload_n 0, 1) := by decide +kernel
theorem dX7_open_64 : decode cX7_open 64 = .ok (.iload_n 1, 1) := by decide +kernel
theorem dX7_open_65 : decode cX7_open 65 = .ok (.iconst 3, 1) := by decide +kernel
theorem dX7_open_66 : decode cX7_open 66 = .ok (.iconst 0, 1) := by decide +kernel
theorem dX7_open_67 : decode cX7_open 67 = .ok (.invokevirtual 178, 3) := by decide +kernel
theorem dX7_open_70 : decode cX7_open 70 = .ok (.aload_n 0, 1) := by decide +kernel
theorem dX7_open_71 : decode cX7_open 71 = .ok (.iload_n 1, 1) := by decide +kernel
theorem dX7_open_72 : decode cX7_open 72 = .ok (.invokevirtual 192, 3) := by decide +kernel
theorem dX7_open_75 : decode cX7_open 75 = .ok (.ireturn, 1) := by decide +kernel
set_option maxRecDepth 20000 in
theorem ggX7_lock_X7_noRow : GoodIn wsX7_lock wsX7_noRow := goodIn_r _ [5, 6, 7, 8, 4, 9, 10, 11, 12, 13, 14, 15, 16, 17, 18, 19, 20, 21, 22, 23, 134, 135, 136, 137, 138, 139, 140, 141, 142, 143, 144, 145, 146, 147, 148, 149, 150, 151, 152, 153, 154, 155, 156, 157, 158, 159, 160, 161, 162, 163, 164, 165, 166, 167, 168, 169, 170, 171, 172, 173, 174] (by decide +kernel) (by decide +kernel)
set_option maxRecDepth 20000 in
theorem gX7_lock_X7_noRow : GoodIn wsX7_lock (wsV RX7 335 RX7 yX7_noRow wsX7_noRow) := goodIn_app (goodIn_of _ (by decide +kernel)) ggX7_lock_X7_noRow
set_option maxRecDepth 20000 in
theorem ggX7_lock_X7_chooses : GoodIn wsX7_lock wsX7_chooses := goodIn_ca (goodIn_r _ [27, 28, 29, 30, 31, 32, 33, 34, 4, 35, 36, 37, 38, 39, 40, 41, 42, 43, 44, 45, 46, 47, 48, 49, 50, 51, 52, 53, 54, 55, 56, 57, 58, 59, 60, 61, 62, 63, 64, 65, 66, 67, 68, 69, 70, 71, 72, 73, 74, 75, 76, 77, 78, 79, 80, 81, 82, 83, 84, 85, 86, 87, 88, 89, 90, 91, 92, 93, 94, 95, 96, 97, 98, 99, 100, 101, 102, 103, 104, 105, 106, 107, 134, 135, 136, 137, 138, 139, 140, 141, 142, 143, 144, 145, 146, 147, 148, 149, 150, 151, 152, 153, 154, 155, 156, 157, 158, 159, 160, 161, 162, 163, 164, 165, 166, 167, 168, 169, 170, 171, 172, 173, 174] (by decide +kernel) (by decide +kernel)) (goodIn_sub (fun _ h => List.mem_cons_of_mem _ (List.mem_append_right _ h)) (by decide +kernel))
set_option maxRecDepth 20000 in
theorem gX7_lock_X7_chooses : GoodIn wsX7_lock (wsV RX7 311 RX7 yX7_chooses wsX7_chooses) := goodIn_app (goodIn_of _ (by decide +kernel)) ggX7_lock_X7_chooses
set_option maxRecDepth 20000 in
theorem ggX7_lock_X7_refuse : GoodIn wsX7_lock wsX7_refuse := goodIn_r _ [15, 10, 134, 135, 136, 137, 138, 139, 140, 141, 142, 143, 144, 145, 146, 147, 148, 149, 150, 151, 152, 153, 154, 155, 156, 157, 158, 159, 160, 161, 162, 163, 164, 165, 166, 167, 168, 169, 170, 171, 172, 173, 174] (by decide +kernel) (by decide +kernel)
set_option maxRecDepth 20000 in
theorem gX7_lock_X7_refuse : GoodIn wsX7_lock (wsV RX7 74 RX7 yX7_refuse wsX7_refuse) := goodIn_app (goodIn_of _ (by decide +kernel)) ggX7_lock_X7_refuse
set_option maxRecDepth 20000 in
theorem ggX7_lock_X7_keepsAll : GoodIn wsX7_lock wsX7_keepsAll := goodIn_ca (goodIn_r _ [111, 112, 113, 114, 115, 116, 4, 117, 54, 134, 135, 136, 137, 138, 139, 140, 141, 142, 143, 144, 145, 146, 147, 148, 149, 150, 151, 152, 153, 154, 155, 156, 157, 158, 159, 160, 161, 162, 163, 164, 165, 166, 167, 168, 169, 170, 171, 172, 173, 174] (by decide +kernel) (by decide +kernel)) (goodIn_sub (fun _ h => List.mem_cons_of_mem _ (List.mem_append_right _ h)) (by decide +kernel))
set_option maxRecDepth 20000 in
theorem gX7_lock_X7_keepsAll : GoodIn wsX7_lock (wsV RX7 392 RX7 yX7_keepsAll wsX7_keepsAll) := goodIn_app (goodIn_of _ (by decide +kernel)) ggX7_lock_X7_keepsAll
set_option maxRecDepth 20000 in
theorem ggX7_lock_X7_locks : GoodIn wsX7_lock wsX7_locks := goodIn_ca (goodIn_r _ [121, 29, 54, 68, 107, 73, 24, 25, 26, 4, 27, 28, 30, 31, 32, 33, 34, 35, 36, 37, 38, 39, 40, 41, 42, 43, 44, 45, 46, 47, 48, 49, 50, 51, 52, 53, 55, 56, 57, 58, 59, 60, 61, 62, 63, 64, 65, 66, 67, 69, 70, 71, 72, 74, 75, 76, 77, 78, 79, 80, 81, 82, 83, 84, 85, 86, 87, 88, 89, 90, 91, 92, 93, 94, 95, 96, 97, 98, 99, 100, 101, 102, 103, 104, 105, 106, 122, 123, 124, 125, 126, 127, 128, 129, 134, 135, 136, 137, 138, 139, 140, 141, 142, 143, 144, 145, 146, 147, 148, 149, 150, 151, 152, 153, 154, 155, 156, 157, 158, 159, 160, 161, 162, 163, 164, 165, 166, 167, 168, 169, 170, 171, 172, 173, 174] (by decide +kernel) (by decide +kernel)) (goodIn_sub (fun _ h => List.mem_cons_of_mem _ (List.mem_append_right _ h)) (by decide +kernel))
set_option maxRecDepth 20000 in
theorem gX7_lock_X7_locks : GoodIn wsX7_lock (wsV RX7 368 RX7 yX7_locks wsX7_locks) := goodIn_app (goodIn_of _ (by decide +kernel)) ggX7_lock_X7_locks
set_option maxRecDepth 20000 in
theorem ggX7_lock_X7_chosenMany : GoodIn wsX7_lock wsX7_chosenMany := goodIn_ca (goodIn_r _ [133, 68, 78, 107, 134, 135, 136, 137, 138, 139, 140, 141, 142, 143, 144, 145, 146, 147, 148, 149, 150, 151, 152, 153, 154, 155, 156, 157, 158, 159, 160, 161, 162, 163, 164, 165, 166, 167, 168, 169, 170, 171, 172, 173, 174] (by decide +kernel) (by decide +kernel)) (goodIn_sub (fun _ h => List.mem_cons_of_mem _ (List.mem_append_right _ h)) (by decide +kernel))
set_option maxRecDepth 20000 in
theorem gX7_lock_X7_chosenMany : GoodIn wsX7_lock (wsV RX7 344 RX7 yX7_chosenMany wsX7_chosenMany) := goodIn_app (goodIn_of _ (by decide +kernel)) ggX7_lock_X7_chosenMany
theorem dX7_lock_0 : decode cX7_lock 0 = .ok (.aload_n 0, 1) := by decide +kernel
theorem dX7_lock_1 : decode cX7_lock 1 = .ok (.iload_n 1, 1) := by decide +kernel
theorem dX7_lock_2 : decode cX7_lock 2 = .ok (.invokevirtual 335, 3) := by decide +kernel
theorem dX7_lock_5 : decode cX7_lock 5 = .ok (.ifCond .ne 24, 3) := by decide +kernel
theorem dX7_lock_8 : decode cX7_lock 8 = .ok (.aload_n 0, 1) := by decide +kernel
theorem dX7_lock_9 : decode cX7_lock 9 = .ok (.aload_n 0, 1) := by decide +kernel
theorem dX7_lock_10 : decode cX7_lock 10 = .ok (.iload_n 1, 1) := by decide +kernel
theorem dX7_lock_11 : decode cX7_lock 11 = .ok (.invokevirtual 311, 3) := by decide +kernel
theorem dX7_lock_14 : decode cX7_lock 14 = .ok (.ifCond .ne 7, 3) := by decide +kernel
theorem dX7_lock_17 : decode cX7_lock 17 = .ok (.iconst 1, 1) := by decide +kernel
theorem dX7_lock_18 : decode cX7_lock 18 = .ok (.goto 4, 3) := by decide +kernel
theorem dX7_lock_21 : decode cX7_lock 21 = .ok (.iconst 0, 1) := by decide +kernel
theorem dX7_lock_22 : decode cX7_lock 22 = .ok (.iconst 3, 1) := by decide +kernel
theorem dX7_lock_23 : decode cX7_lock 23 = .ok (.invokevirtual 74, 3) := by decide +kernel
theorem dX7_lock_26 : decode cX7_lock 26 = .ok (.ifCond .eq 5, 3) := by decide +kernel
theorem dX7_lock_29 : decode cX7_lock 29 = .ok (.iconst 0, 1) := by decide +kernel
theorem dX7_lock_30 : decode cX7_lock 30 = .ok (.ireturn, 1) := by decide +kernel
theorem dX7_lock_31 : decode cX7_lock 31 = .ok (.aload_n 0, 1) := by decide +kernel
theorem dX7_lock_32 : decode cX7_lock 32 = .ok (.invokevirtual 392, 3) := by decide +kernel
theorem dX7_lock_35 : decode cX7_lock 35 = .ok (.aload_n 0, 1) := by decide +kernel
theorem dX7_lock_36 : decode cX7_lock 36 = .ok (.iload_n 1, 1) := by decide +kernel
theorem dX7_lock_37 : decode cX7_lock 37 = .ok (.invokevirtual 368, 3) := by decide +kernel
theorem dX7_lock_40 : decode cX7_lock 40 = .ok (.istore_n 2, 1) := by decide +kernel
theorem dX7_lock_41 : decode cX7_lock 41 = .ok (.aload_n 0, 1) := by decide +kernel
theorem dX7_lock_42 : decode cX7_lock 42 = .ok (.iconst 0, 1) := by decide +kernel
theorem dX7_lock_43 : decode cX7_lock 43 = .ok (.invokevirtual 344, 3) := by decide +kernel
theorem dX7_lock_46 : decode cX7_lock 46 = .ok (.ireturn, 1) := by decide +kernel
set_option maxRecDepth 20000 in
theorem ggX7_unlock_X7_noRow : GoodIn wsX7_unlock wsX7_noRow := goodIn_r _ [5, 6, 7, 8, 4, 9, 10, 11, 12, 13, 14, 15, 16, 17, 18, 19, 20, 21, 22, 23, 55, 56, 57, 58, 59, 60, 61, 62, 63, 64, 65, 66, 67, 68, 69, 70, 71, 72, 73, 74, 75, 76, 77, 78, 79, 80, 81, 82, 83, 84, 85, 86, 87, 88, 89, 90, 91, 92, 93, 94, 95] (by decide +kernel) (by decide +kernel)
set_option maxRecDepth 20000 in
theorem gX7_unlock_X7_noRow : GoodIn wsX7_unlock (wsV RX7 335 RX7 yX7_noRow wsX7_noRow) := goodIn_app (goodIn_of _ (by decide +kernel)) ggX7_unlock_X7_noRow
set_option maxRecDepth 20000 in
theorem ggX7_unlock_X7_keepsAll : GoodIn wsX7_unlock wsX7_keepsAll := goodIn_ca (goodIn_r _ [27, 28, 29, 30, 31, 32, 4, 33, 34, 55, 56, 57, 58, 59, 60, 61, 62, 63, 64, 65, 66, 67, 68, 69, 70, 71, 72, 73, 74, 75, 76, 77, 78, 79, 80, 81, 82, 83, 84, 85, 86, 87, 88, 89, 90, 91, 92, 93, 94, 95] (by decide +kernel) (by decide +kernel)) (goodIn_sub (fun _ h => List.mem_cons_of_mem _ (List.mem_append_right _ h)) (by decide +kernel))
set_option maxRecDepth 20000 in
theorem gX7_unlock_X7_keepsAll : GoodIn wsX7_unlock (wsV RX7 392 RX7 yX7_keepsAll wsX7_keepsAll) := goodIn_app (goodIn_of _ (by decide +kernel)) ggX7_unlock_X7_keepsAll
set_option maxRecDepth 20000 in
theorem ggX7_unlock_X7_empties : GoodIn wsX7_unlock wsX7_empties := goodIn_ca (goodIn_r _ [38, 34, 39, 40, 41, 4, 42, 43, 44, 45, 46, 47, 48, 49, 50, 51, 52, 53, 54, 55, 56, 57, 58, 59, 60, 61, 62, 63, 64, 65, 66, 67, 68, 69, 70, 71, 72, 73, 74, 75, 76, 77, 78, 79, 80, 81, 82, 83, 84, 85, 86, 87, 88, 89, 90, 91, 92, 93, 94, 95] (by decide +kernel) (by decide +kernel)) (goodIn_sub (fun _ h => List.mem_cons_of_mem _ (List.mem_append_right _ h)) (by decide +kernel))
set_option maxRecDepth 20000 in
theorem gX7_unlock_X7_empties : GoodIn wsX7_unlock (wsV RX7 260 RX7 yX7_empties wsX7_empties) := goodIn_app (goodIn_of _ (by decide +kernel)) ggX7_unlock_X7_empties
theorem dX7_unlock_0 : decode cX7_unlock 0 = .ok (.aload_n 0, 1) := by decide +kernel
theorem dX7_unlock_1 : decode cX7_unlock 1 = .ok (.iload_n 1, 1) := by decide +kernel
theorem dX7_unlock_2 : decode cX7_unlock 2 = .ok (.invokevirtual 335, 3) := by decide +kernel
theorem dX7_unlock_5 : decode cX7_unlock 5 = .ok (.ifCond .eq 5, 3) := by decide +kernel
theorem dX7_unlock_8 : decode cX7_unlock 8 = .ok (.iconst 0, 1) := by decide +kernel
theorem dX7_unlock_9 : decode cX7_unlock 9 = .ok (.ireturn, 1) := by decide +kernel
theorem dX7_unlock_10 : decode cX7_unlock 10 = .ok (.aload_n 0, 1) := by decide +kernel
theorem dX7_unlock_11 : decode cX7_unlock 11 = .ok (.invokevirtual 392, 3) := by decide +kernel
theorem dX7_unlock_14 : decode cX7_unlock 14 = .ok (.aload_n 0, 1) := by decide +kernel
theorem dX7_unlock_15 : decode cX7_unlock 15 = .ok (.iload_n 1, 1) := by decide +kernel
theorem dX7_unlock_16 : decode cX7_unlock 16 = .ok (.invokevirtual 260, 3) := by decide +kernel
theorem dX7_unlock_19 : decode cX7_unlock 19 = .ok (.ireturn, 1) := by decide +kernel
set_option maxRecDepth 20000 in
theorem ggX7_relock_X7_noRow : GoodIn wsX7_relock wsX7_noRow := goodIn_r _ [5, 6, 7, 8, 4, 9, 10, 11, 12, 13, 14, 15, 16, 17, 18, 19, 20, 21, 22, 23, 151, 152, 153, 154, 155, 156, 157, 158, 159, 160, 161, 162, 163, 164, 165, 166, 167, 168, 169, 170, 171, 172, 173, 174, 175, 176, 177, 178, 179, 180, 181, 182, 183, 184, 185, 186, 187, 188, 189, 190, 191] (by decide +kernel) (by decide +kernel)
set_option maxRecDepth 20000 in
theorem gX7_relock_X7_noRow : GoodIn wsX7_relock (wsV RX7 335 RX7 yX7_noRow wsX7_noRow) := goodIn_app (goodIn_of _ (by decide +kernel)) ggX7_relock_X7_noRow
set_option maxRecDepth 20000 in
theorem ggX7_relock_X7_putsAside : GoodIn wsX7_relock wsX7_putsAside := goodIn_ca (goodIn_r _ [27, 28, 29, 151, 152, 153, 154, 155, 156, 157, 158, 159, 160, 161, 162, 163, 164, 165, 166, 167, 168, 169, 170, 171, 172, 173, 174, 175, 176, 177, 178, 179, 180, 181, 182, 183, 184, 185, 186, 187, 188, 189, 190, 191] (by decide +kernel) (by decide +kernel)) (goodIn_sub (fun _ h => List.mem_cons_of_mem _ (List.mem_append_right _ h)) (by decide +kernel))
set_option maxRecDepth 20000 in
theorem gX7_relock_X7_putsAside : GoodIn wsX7_relock (wsV RX7 353 RX7 yX7_putsAside wsX7_putsAside) := goodIn_app (goodIn_of _ (by decide +kernel)) ggX7_relock_X7_putsAside
set_option maxRecDepth 20000 in
theorem ggX7_relock_X7_empties : GoodIn wsX7_relock wsX7_empties := goodIn_ca (goodIn_r _ [33, 29, 34, 35, 36, 4, 37, 38, 39, 40, 41, 42, 43, 44, 45, 46, 47, 48, 49, 151, 152, 153, 154, 155, 156, 157, 158, 159, 160, 161, 162, 163, 164, 165, 166, 167, 168, 169, 170, 171, 172, 173, 174, 175, 176, 177, 178, 179, 180, 181, 182, 183, 184, 185, 186, 187, 188, 189, 190, 191] (by decide +kernel) (by decide +kernel)) (goodIn_sub (fun _ h => List.mem_cons_of_mem _ (List.mem_append_right _ h)) (by decide +kernel))
set_option maxRecDepth 20000 in
theorem gX7_relock_X7_empties : GoodIn wsX7_relock (wsV RX7 260 RX7 yX7_empties wsX7_empties) := goodIn_app (goodIn_of _ (by decide +kernel)) ggX7_relock_X7_empties
set_option maxRecDepth 20000 in
theorem ggX7_relock_X7_chooses : GoodIn wsX7_relock wsX7_chooses := goodIn_ca (goodIn_r _ [53, 54, 55, 56, 57, 58, 59, 60, 4, 61, 62, 63, 64, 65, 66, 67, 68, 69, 70, 71, 72, 73, 74, 75, 34, 35, 36, 37, 29, 76, 77, 78, 79, 80, 46, 47, 48, 49, 81, 82, 83, 84, 85, 86, 87, 88, 89, 90, 91, 92, 93, 94, 95, 96, 97, 98, 99, 100, 101, 102, 103, 104, 105, 106, 107, 108, 109, 110, 111, 112, 113, 114, 115, 116, 117, 118, 119, 120, 121, 122, 123, 124, 151, 152, 153, 154, 155, 156, 157, 158, 159, 160, 161, 162, 163, 164, 165, 166, 167, 168, 169, 170, 171, 172, 173, 174, 175, 176, 177, 178, 179, 180, 181, 182, 183, 184, 185, 186, 187, 188, 189, 190, 191] (by decide +kernel) (by decide +kernel)) (goodIn_sub (fun _ h => List.mem_cons_of_mem _ (List.mem_append_right _ h)) (by decide +kernel))
set_option maxRecDepth 20000 in
theorem gX7_relock_X7_chooses : GoodIn wsX7_relock (wsV RX7 311 RX7 yX7_chooses wsX7_chooses) := goodIn_app (goodIn_of _ (by decide +kernel)) ggX7_relock_X7_chooses
set_option maxRecDepth 20000 in
theorem ggX7_relock_X7_flag : GoodIn wsX7_relock wsX7_flag := goodIn_r _ [98] (by decide +kernel) (by decide +kernel)
set_option maxRecDepth 20000 in
theorem gX7_relock_X7_flag : GoodIn wsX7_relock (va_wsS RX7 250 yX7_flag wsX7_flag) := goodIn_app (goodIn_of _ (by decide +kernel)) ggX7_relock_X7_flag
set_option maxRecDepth 20000 in
theorem ggX7_relock_X7_fetchesBack : GoodIn wsX7_relock wsX7_fetchesBack := goodIn_ca (goodIn_r _ [128, 29, 28, 151, 152, 153, 154, 155, 156, 157, 158, 159, 160, 161, 162, 163, 164, 165, 166, 167, 168, 169, 170, 171, 172, 173, 174, 175, 176, 177, 178, 179, 180, 181, 182, 183, 184, 185, 186, 187, 188, 189, 190, 191] (by decide +kernel) (by decide +kernel)) (goodIn_sub (fun _ h => List.mem_cons_of_mem _ (List.mem_append_right _ h)) (by decide +kernel))
set_option maxRecDepth 20000 in
theorem gX7_relock_X7_fetchesBack : GoodIn wsX7_relock (wsV RX7 356 RX7 yX7_fetchesBack wsX7_fetchesBack) := goodIn_app (goodIn_of _ (by decide +kernel)) ggX7_relock_X7_fetchesBack
set_option maxRecDepth 20000 in
theorem ggX7_relock_X7_refuse : GoodIn wsX7_relock wsX7_refuse := goodIn_r _ [15, 10, 151, 152, 153, 154, 155, 156, 157, 158, 159, 160, 161, 162, 163, 164, 165, 166, 167, 168, 169, 170, 171, 172, 173, 174, 175, 176, 177, 178, 179, 180, 181, 182, 183, 184, 185, 186, 187, 188, 189, 190, 191] (by decide +kernel) (by decide +kernel)
set_option maxRecDepth 20000 in
theorem gX7_relock_X7_refuse : GoodIn wsX7_relock (wsV RX7 74 RX7 yX7_refuse wsX7_refuse) := goodIn_app (goodIn_of _ (by decide +kernel)) ggX7_relock_X7_refuse
set_option maxRecDepth 20000 in
theorem ggX7_relock_X7_keepsAll : GoodIn wsX7_relock wsX7_keepsAll := goodIn_ca (goodIn_r _ [132, 133, 134, 135, 136, 137, 4, 138, 29, 151, 152, 153, 154, 155, 156, 157, 158, 159, 160, 161, 162, 163, 164, 165, 166, 167, 168, 169, 170, 171, 172, 173, 174, 175, 176, 177, 178, 179, 180, 181, 182, 183, 184, 185, 186, 187, 188, 189, 190, 191] (by decide +kernel) (by decide +kernel)) (goodIn_sub (fun _ h => List.mem_cons_of_mem _ (List.mem_append_right _ h)) (by decide +kernel))
set_option maxRecDepth 20000 in
theorem gX7_relock_X7_keepsAll : GoodIn wsX7_relock (wsV RX7 392 RX7 yX7_keepsAll wsX7_keepsAll) := goodIn_app (goodIn_of _ (by decide +kernel)) ggX7_relock_X7_keepsAll
set_option maxRecDepth 20000 in
theorem ggX7_relock_X7_locks : GoodIn wsX7_relock wsX7_locks := goodIn_ca (goodIn_r _ [142, 55, 29, 85, 124, 90, 50, 51, 52, 4, 53, 54, 56, 57, 58, 59, 60, 61, 62, 63, 64, 65, 66, 67, 68, 69, 70, 71, 72, 73, 74, 75, 34, 35, 36, 37, 76, 77, 78, 79, 80, 46, 47, 48, 49, 81, 82, 83, 84, 86, 87, 88, 89, 91, 92, 93, 94, 95, 96, 97, 98, 99, 100, 101, 102, 103, 104, 105, 106, 107, 108, 109, 110, 111, 112, 113, 114, 115, 116, 117, 118, 119, 120, 121, 122, 123, 38, 39, 40, 41, 143, 144, 145, 146, 151, 152, 153, 154, 155, 156, 157, 158, 159, 160, 161, 162, 163, 164, 165, 166, 167, 168, 169, 170, 171, 172, 173, 174, 175, 176, 177, 178, 179, 180, 181, 182, 183, 184, 185, 186, 187, 188, 189, 190, 191] (by decide +kernel) (by decide +kernel)) (goodIn_sub (fun _ h => List.mem_cons_of_mem _ (List.mem_append_right _ h)) (by decide +kernel))
set_option maxRecDepth 20000 in
theorem gX7_relock_X7_locks : GoodIn wsX7_relock (wsV RX7 368 RX7 yX7_locks wsX7_locks) := goodIn_app (goodIn_of _ (by decide +kernel)) ggX7_relock_X7_locks
set_option maxRecDepth 20000 in
theorem ggX7_relock_X7_chosenMany : GoodIn wsX7_relock wsX7_chosenMany := goodIn_ca (goodIn_r _ [150, 85, 95, 124, 151, 152, 153, 154, 155, 156, 157, 158, 159, 160, 161, 162, 163, 164, 165, 166, 167, 168, 169, 170, 171, 172, 173, 174, 175, 176, 177, 178, 179, 180, 181, 182, 183, 184, 185, 186, 187, 188, 189, 190, 191] (by decide +kernel) (by decide +kernel)) (goodIn_sub (fun _ h => List.mem_cons_of_mem _ (List.mem_append_right _ h)) (by decide +kernel))
set_option maxRecDepth 20000 in
theorem gX7_relock_X7_chosenMany : GoodIn wsX7_relock (wsV RX7 344 RX7 yX7_chosenMany wsX7_chosenMany) := goodIn_app (goodIn_of _ (by decide +kernel)) ggX7_relock_X7_chosenMany
theorem dX7_relock_0 : decode cX7_relock 0 = .ok (.aload_n 0, 1) := by decide +kernel
theorem dX7_relock_1 : decode cX7_relock 1 = .ok (.iload_n 1, 1) := by decide +kernel
theorem dX7_relock_2 : decode cX7_relock 2 = .ok (.invokevirtual 335, 3) := by decide +kernel
theorem dX7_relock_5 : decode cX7_relock 5 = .ok (.ifCond .eq 5, 3) := by decide +kernel
theorem dX7_relock_8 : decode cX7_relock 8 = .ok (.iconst 0, 1) := by decide +kernel
theorem dX7_relock_9 : decode cX7_relock 9 = .ok (.ireturn, 1) := by decide +kernel
theorem dX7_relock_10 : decode cX7_relock 10 = .ok (.aload_n 0, 1) := by decide +kernel
theorem dX7_relock_11 : decode cX7_relock 11 = .ok (.invokevirtual 353, 3) := by decide +kernel
theorem dX7_relock_14 : decode cX7_relock 14 = .ok (.aload_n 0, 1) := by decide +kernel
theorem dX7_relock_15 : decode cX7_relock 15 = .ok (.iload_n 1, 1) := by decide +kernel
theorem dX7_relock_16 : decode cX7_relock 16 = .ok (.invokevirtual 260, 3) := by decide +kernel
theorem dX7_relock_19 : decode cX7_relock 19 = .ok (.istore_n 2, 1) := by decide +kernel
theorem dX7_relock_20 : decode cX7_relock 20 = .ok (.aload_n 0, 1) := by decide +kernel
theorem dX7_relock_21 : decode cX7_relock 21 = .ok (.aload_n 0, 1) := by decide +kernel
theorem dX7_relock_22 : decode cX7_relock 22 = .ok (.iload_n 1, 1) := by decide +kernel
theorem dX7_relock_23 : decode cX7_relock 23 = .ok (.invokevirtual 311, 3) := by decide +kernel
theorem dX7_relock_26 : decode cX7_relock 26 = .ok (.invokestatic 250, 3) := by decide +kernel
theorem dX7_relock_29 : decode cX7_relock 29 = .ok (.invokevirtual 356, 3) := by decide +kernel
theorem dX7_relock_32 : decode cX7_relock 32 = .ok (.istore_n 3, 1) := by decide +kernel
theorem dX7_relock_33 : decode cX7_relock 33 = .ok (.aload_n 0, 1) := by decide +kernel
theorem dX7_relock_34 : decode cX7_relock 34 = .ok (.iload_n 3, 1) := by decide +kernel
theorem dX7_relock_35 : decode cX7_relock 35 = .ok (.ifCond .ne 7, 3) := by decide +kernel
theorem dX7_relock_38 : decode cX7_relock 38 = .ok (.iconst 1, 1) := by decide +kernel
theorem dX7_relock_39 : decode cX7_relock 39 = .ok (.goto 4, 3) := by decide +kernel
theorem dX7_relock_42 : decode cX7_relock 42 = .ok (.iconst 0, 1) := by decide +kernel
theorem dX7_relock_43 : decode cX7_relock 43 = .ok (.iconst 3, 1) := by decide +kernel
theorem dX7_relock_44 : decode cX7_relock 44 = .ok (.invokevirtual 74, 3) := by decide +kernel
theorem dX7_relock_47 : decode cX7_relock 47 = .ok (.ifCond .eq 5, 3) := by decide +kernel
theorem dX7_relock_50 : decode cX7_relock 50 = .ok (.iconst 0, 1) := by decide +kernel
theorem dX7_relock_51 : decode cX7_relock 51 = .ok (.ireturn, 1) := by decide +kernel
theorem dX7_relock_52 : decode cX7_relock 52 = .ok (.aload_n 0, 1) := by decide +kernel
theorem dX7_relock_53 : decode cX7_relock 53 = .ok (.invokevirtual 392, 3) := by decide +kernel
theorem dX7_relock_56 : decode cX7_relock 56 = .ok (.aload_n 0, 1) := by decide +kernel
theorem dX7_relock_57 : decode cX7_relock 57 = .ok (.iload_n 1, 1) := by decide +kernel
theorem dX7_relock_58 : decode cX7_relock 58 = .ok (.invokevirtual 260, 3) := by decide +kernel
theorem dX7_relock_61 : decode cX7_relock 61 = .ok (.istore_n 2, 1) := by decide +kernel
theorem dX7_relock_62 : decode cX7_relock 62 = .ok (.aload_n 0, 1) := by decide +kernel
theorem dX7_relock_63 : decode cX7_relock 63 = .ok (.iload_n 1, 1) := by decide +kernel
theorem dX7_relock_64 : decode cX7_relock 64 = .ok (.invokevirtual 368, 3) := by decide +kernel
theorem dX7_relock_67 : decode cX7_relock 67 = .ok (.istore 4, 2) := by decide +kernel
theorem dX7_relock_69 : decode cX7_relock 69 = .ok (.aload_n 0, 1) := by decide +kernel
theorem dX7_relock_70 : decode cX7_relock 70 = .ok (.iconst 0, 1) := by decide +kernel
theorem dX7_relock_71 : decode cX7_relock 71 = .ok (.invokevirtual 344, 3) := by decide +kernel
theorem dX7_relock_74 : decode cX7_relock 74 = .ok (.ireturn, 1) := by decide +kernel
set_option maxRecDepth 20000 in
theorem ggX7_tighten_X7_noRow : GoodIn wsX7_tighten wsX7_noRow := goodIn_r _ [10, 11, 12, 13, 9, 14, 15, 16, 17, 18, 19, 20, 21, 22, 23, 24, 25, 26, 27, 28, 52, 53, 54, 55, 56, 57, 58, 59, 60, 61, 62, 63, 64, 65, 66, 67, 68, 69, 70, 71, 72, 73, 74, 75, 76, 77, 78, 79, 80, 81, 82, 83, 84, 85, 86, 87, 88, 89, 90, 91, 92] (by decide +kernel) (by decide +kernel)
set_option maxRecDepth 20000 in
theorem gX7_tighten_X7_noRow : GoodIn wsX7_tighten (wsV RX7 335 RX7 yX7_noRow wsX7_noRow) := goodIn_app (goodIn_of _ (by decide +kernel)) ggX7_tighten_X7_noRow
set_option maxRecDepth 20000 in
theorem ggX7_tighten_X7_hasQuoin : GoodIn wsX7_tighten wsX7_hasQuoin := goodIn_ca (goodIn_r _ [32, 33, 34, 35, 9, 36, 37, 52, 53, 54, 55, 56, 57, 58, 59, 60, 61, 62, 63, 64, 65, 66, 67, 68, 69, 70, 71, 72, 73, 74, 75, 76, 77, 78, 79, 80, 81, 82, 83, 84, 85, 86, 87, 88, 89, 90, 91, 92] (by decide +kernel) (by decide +kernel)) (goodIn_sub (fun _ h => List.mem_cons_of_mem _ (List.mem_append_right _ h)) (by decide +kernel))
set_option maxRecDepth 20000 in
theorem gX7_tighten_X7_hasQuoin : GoodIn wsX7_tighten (wsV RX7 238 RX7 yX7_hasQuoin wsX7_hasQuoin) := goodIn_app (goodIn_of _ (by decide +kernel)) ggX7_tighten_X7_hasQuoin
set_option maxRecDepth 20000 in
theorem ggX7_tighten_X7_refuse : GoodIn wsX7_tighten wsX7_refuse := goodIn_r _ [20, 15, 52, 53, 54, 55, 56, 57, 58, 59, 60, 61, 62, 63, 64, 65, 66, 67, 68, 69, 70, 71, 72, 73, 74, 75, 76, 77, 78, 79, 80, 81, 82, 83, 84, 85, 86, 87, 88, 89, 90, 91, 92] (by decide +kernel) (by decide +kernel)
set_option maxRecDepth 20000 in
theorem gX7_tighten_X7_refuse : GoodIn wsX7_tighten (wsV RX7 74 RX7 yX7_refuse wsX7_refuse) := goodIn_app (goodIn_of _ (by decide +kernel)) ggX7_tighten_X7_refuse
set_option maxRecDepth 20000 in
theorem ggX7_tighten_X7_keepsAll : GoodIn wsX7_tighten wsX7_keepsAll := goodIn_ca (goodIn_r _ [41, 42, 43, 44, 45, 46, 9, 47, 37, 52, 53, 54, 55, 56, 57, 58, 59, 60, 61, 62, 63, 64, 65, 66, 67, 68, 69, 70, 71, 72, 73, 74, 75, 76, 77, 78, 79, 80, 81, 82, 83, 84, 85, 86, 87, 88, 89, 90, 91, 92] (by decide +kernel) (by decide +kernel)) (goodIn_sub (fun _ h => List.mem_cons_of_mem _ (List.mem_append_right _ h)) (by decide +kernel))
set_option maxRecDepth 20000 in
theorem gX7_tighten_X7_keepsAll : GoodIn wsX7_tighten (wsV RX7 392 RX7 yX7_keepsAll wsX7_keepsAll) := goodIn_app (goodIn_of _ (by decide +kernel)) ggX7_tighten_X7_keepsAll
set_option maxRecDepth 20000 in
theorem ggX7_tighten_X7_of : GoodIn wsX7_tighten wsX7_of := goodIn_ca (goodIn_r _ [36, 37, 52, 53, 54, 55, 56, 57, 58, 59, 60, 61, 62, 63, 64, 65, 66, 67, 68, 69, 70, 71, 72, 73, 74, 75, 76, 77, 78, 79, 80, 81, 82, 83, 84, 85, 86, 87, 88, 89, 90, 91, 92] (by decide +kernel) (by decide +kernel)) (goodIn_sub (fun _ h => List.mem_cons_of_mem _ (List.mem_append_right _ h)) (by decide +kernel))
set_option maxRecDepth 20000 in
theorem gX7_tighten_X7_of : GoodIn wsX7_tighten (wsV RX7 189 RX7 yX7_of wsX7_of) := goodIn_app (goodIn_of _ (by decide +kernel)) ggX7_tighten_X7_of
set_option maxRecDepth 20000 in
theorem ggX7_tighten_X7_puts : GoodIn wsX7_tighten wsX7_puts := goodIn_ca (goodIn_r _ [51, 37, 52, 53, 54, 55, 56, 57, 58, 59, 60, 61, 62, 63, 64, 65, 66, 67, 68, 69, 70, 71, 72, 73, 74, 75, 76, 77, 78, 79, 80, 81, 82, 83, 84, 85, 86, 87, 88, 89, 90, 91, 92] (by decide +kernel) (by decide +kernel)) (goodIn_sub (fun _ h => List.mem_cons_of_mem _ (List.mem_append_right _ h)) (by decide +kernel))
set_option maxRecDepth 20000 in
theorem gX7_tighten_X7_puts : GoodIn wsX7_tighten (wsV RX7 178 RX7 yX7_puts wsX7_puts) := goodIn_app (goodIn_of _ (by decide +kernel)) ggX7_tighten_X7_puts
theorem dX7_tighten_0 : decode cX7_tighten 0 = .ok (.aload_n 0, 1) := by decide +kernel
theorem dX7_tighten_1 : decode cX7_tighten 1 = .ok (.iload_n 1, 1) := by decide +kernel
theorem dX7_tighten_2 : decode cX7_tighten 2 = .ok (.invokevirtual 335, 3) := by decide +kernel
theorem dX7_tighten_5 : decode cX7_tighten 5 = .ok (.ifCond .ne 24, 3) := by decide +kernel
theorem dX7_tighten_8 : decode cX7_tighten 8 = .ok (.aload_n 0, 1) := by decide +kernel
theorem dX7_tighten_9 : decode cX7_tighten 9 = .ok (.aload_n 0, 1) := by decide +kernel
theorem dX7_tighten_10 : decode cX7_tighten 10 = .ok (.iload_n 1, 1) := by decide +kernel
theorem dX7_tighten_11 : decode cX7_tighten 11 = .ok (.invokevirtual 238, 3) := by decide +kernel
theorem dX7_tighten_14 : decode cX7_tighten 14 = .ok (.ifCond .ne 7, 3) := by decide +kernel
theorem dX7_tighten_17 : decode cX7_tighten 17 = .ok (.iconst 1, 1) := by decide +kernel
theorem dX7_tighten_18 : decode cX7_tighten 18 = .ok (.goto 4, 3) := by decide +kernel
theorem dX7_tighten_21 : decode cX7_tighten 21 = .ok (.iconst 0, 1) := by decide +kernel
theorem dX7_tighten_22 : decode cX7_tighten 22 = .ok (.iconst 3, 1) := by decide +kernel
theorem dX7_tighten_23 : decode cX7_tighten 23 = .ok (.invokevirtual 74, 3) := by decide +kernel
theorem dX7_tighten_26 : decode cX7_tighten 26 = .ok (.ifCond .eq 5, 3) := by decide +kernel
theorem dX7_tighten_29 : decode cX7_tighten 29 = .ok (.iconst 0, 1) := by decide +kernel
theorem dX7_tighten_30 : decode cX7_tighten 30 = .ok (.ireturn, 1) := by decide +kernel
theorem dX7_tighten_31 : decode cX7_tighten 31 = .ok (.aload_n 0, 1) := by decide +kernel
theorem dX7_tighten_32 : decode cX7_tighten 32 = .ok (.invokevirtual 392, 3) := by decide +kernel
theorem dX7_tighten_35 : decode cX7_tighten 35 = .ok (.aload_n 0, 1) := by decide +kernel
theorem dX7_tighten_36 : decode cX7_tighten 36 = .ok (.iload_n 1, 1) := by decide +kernel
theorem dX7_tighten_37 : decode cX7_tighten 37 = .ok (.iconst 2, 1) := by decide +kernel
theorem dX7_tighten_38 : decode cX7_tighten 38 = .ok (.invokevirtual 189, 3) := by decide +kernel
theorem dX7_tighten_41 : decode cX7_tighten 41 = .ok (.aload_n 0, 1) := by decide +kernel
theorem dX7_tighten_42 : decode cX7_tighten 42 = .ok (.getfield 160, 3) := by decide +kernel
theorem dX7_tighten_45 : decode cX7_tighten 45 = .ok (.if_icmp .ge 62, 3) := by decide +kernel
theorem dX7_tighten_48 : decode cX7_tighten 48 = .ok (.aload_n 0, 1) := by decide +kernel
theorem dX7_tighten_49 : decode cX7_tighten 49 = .ok (.iload_n 1, 1) := by decide +kernel
theorem dX7_tighten_50 : decode cX7_tighten 50 = .ok (.iconst 4, 1) := by decide +kernel
theorem dX7_tighten_51 : decode cX7_tighten 51 = .ok (.invokevirtual 189, 3) := by decide +kernel
theorem dX7_tighten_54 : decode cX7_tighten 54 = .ok (.ifCond .le 53, 3) := by decide +kernel
theorem dX7_tighten_57 : decode cX7_tighten 57 = .ok (.aload_n 0, 1) := by decide +kernel
theorem dX7_tighten_58 : decode cX7_tighten 58 = .ok (.iload_n 1, 1) := by decide +kernel
theorem dX7_tighten_59 : decode cX7_tighten 59 = .ok (.iconst 2, 1) := by decide +kernel
theorem dX7_tighten_60 : decode cX7_tighten 60 = .ok (.aload_n 0, 1) := by decide +kernel
theorem dX7_tighten_61 : decode cX7_tighten 61 = .ok (.iload_n 1, 1) := by decide +kernel
theorem dX7_tighten_62 : decode cX7_tighten 62 = .ok (.iconst 2, 1) := by decide +kernel
theorem dX7_tighten_63 : decode cX7_tighten 63 = .ok (.invokevirtual 189, 3) := by decide +kernel
theorem dX7_tighten_66 : decode cX7_tighten 66 = .ok (.iconst 1, 1) := by decide +kernel
theorem dX7_tighten_67 : decode cX7_tighten 67 = .ok (.iadd, 1) := by decide +kernel
theorem dX7_tighten_68 : decode cX7_tighten 68 = .ok (.invokevirtual 178, 3) := by decide +kernel
theorem dX7_tighten_71 : decode cX7_tighten 71 = .ok (.aload_n 0, 1) := by decide +kernel
theorem dX7_tighten_72 : decode cX7_tighten 72 = .ok (.iload_n 1, 1) := by decide +kernel
theorem dX7_tighten_73 : decode cX7_tighten 73 = .ok (.iconst 3, 1) := by decide +kernel
theorem dX7_tighten_74 : decode cX7_tighten 74 = .ok (.aload_n 0, 1) := by decide +kernel
theorem dX7_tighten_75 : decode cX7_tighten 75 = .ok (.iload_n 1, 1) := by decide +kernel
theorem dX7_tighten_76 : decode cX7_tighten 76 = .ok (.iconst 3, 1) := by decide +kernel
theorem dX7_tighten_77 : decode cX7_tighten 77 = .ok (.invokevirtual 189, 3) := by decide +kernel
theorem dX7_tighten_80 : decode cX7_tighten 80 = .ok (.iconst 1, 1) := by decide +kernel
theorem dX7_tighten_81 : decode cX7_tighten 81 = .ok (.iadd, 1) := by decide +kernel
theorem dX7_tighten_82 : decode cX7_tighten 82 = .ok (.invokevirtual 178, 3) := by decide +kernel
theorem dX7_tighten_85 : decode cX7_tighten 85 = .ok (.aload_n 0, 1) := by decide +kernel
theorem dX7_tighten_86 : decode cX7_tighten 86 = .ok (.iload_n 1, 1) := by decide +kernel
theorem dX7_tighten_87 : decode cX7_tighten 87 = .ok (.iconst 4, 1) := by decide +kernel
theorem dX7_tighten_88 : decode cX7_tighten 88 = .ok (.iconst 0, 1) := by decide +kernel
theorem dX7_tighten_89 : decode cX7_tighten 89 = .ok (.aload_n 0, 1) := by decide +kernel
theorem dX7_tighten_90 : decode cX7_tighten 90 = .ok (.iload_n 1, 1) := by decide +kernel
theorem dX7_tighten_91 : decode cX7_tighten 91 = .ok (.iconst 4, 1) := by decide +kernel
theorem dX7_tighten_92 : decode cX7_tighten 92 = .ok (.invokevirtual 189, 3) := by decide +kernel
theorem dX7_tighten_95 : decode cX7_tighten 95 = .ok (.bipush 10, 2) := by decide +kernel
theorem dX7_tighten_97 : decode cX7_tighten 97 = .ok (.isub, 1) := by decide +kernel
theorem dX7_tighten_98 : decode cX7_tighten 98 = .ok (.invokestatic 395, 3) := by decide +kernel
theorem dX7_tighten_101 : decode cX7_tighten 101 = .ok (.invokevirtual 178, 3) := by decide +kernel
theorem dX7_tighten_104 : decode cX7_tighten 104 = .ok (.goto (-69), 3) := by decide +kernel
theorem dX7_tighten_107 : decode cX7_tighten 107 = .ok (.aload_n 0, 1) := by decide +kernel
theorem dX7_tighten_108 : decode cX7_tighten 108 = .ok (.iload_n 1, 1) := by decide +kernel
theorem dX7_tighten_109 : decode cX7_tighten 109 = .ok (.iconst 4, 1) := by decide +kernel
theorem dX7_tighten_110 : decode cX7_tighten 110 = .ok (.invokevirtual 189, 3) := by decide +kernel
theorem dX7_tighten_113 : decode cX7_tighten 113 = .ok (.ireturn, 1) := by decide +kernel
set_option maxRecDepth 20000 in
theorem ggX7_print_X7_notLoaded : GoodIn wsX7_print wsX7_notLoaded := goodIn_r _ [6, 7, 8, 9, 10, 11, 5, 12, 87, 88, 89, 90, 91, 92, 93, 94, 95, 96, 97, 98, 99, 100, 101, 102, 103, 104, 105, 106, 107, 108, 109, 110, 111, 112, 113, 114, 115, 116, 117, 118, 119, 120, 121, 122, 123, 124, 125, 126, 127] (by decide +kernel) (by decide +kernel)
set_option maxRecDepth 20000 in
theorem gX7_print_X7_notLoaded : GoodIn wsX7_print (wsV RX7 320 RX7 yX7_notLoaded wsX7_notLoaded) := goodIn_app (goodIn_of _ (by decide +kernel)) ggX7_print_X7_notLoaded
set_option maxRecDepth 20000 in
theorem ggX7_print_X7_in : GoodIn wsX7_print wsX7_in := goodIn_r _ [15] (by decide +kernel) (by decide +kernel)
set_option maxRecDepth 20000 in
theorem gX7_print_X7_in : GoodIn wsX7_print (va_wsS RX7 143 yX7_in wsX7_in) := goodIn_app (goodIn_of _ (by decide +kernel)) ggX7_print_X7_in
set_option maxRecDepth 20000 in
theorem ggX7_print_X7_refuse : GoodIn wsX7_print wsX7_refuse := goodIn_r _ [12, 7, 87, 88, 89, 90, 91, 92, 93, 94, 95, 96, 97, 98, 99, 100, 101, 102, 103, 104, 105, 106, 107, 108, 109, 110, 111, 112, 113, 114, 115, 116, 117, 118, 119, 120, 121, 122, 123, 124, 125, 126, 127] (by decide +kernel) (by decide +kernel)
set_option maxRecDepth 20000 in
theorem gX7_print_X7_refuse : GoodIn wsX7_print (wsV RX7 74 RX7 yX7_refuse wsX7_refuse) := goodIn_app (goodIn_of _ (by decide +kernel)) ggX7_print_X7_refuse
set_option maxRecDepth 20000 in
theorem ggX7_print_X7_keepsAll : GoodIn wsX7_print wsX7_keepsAll := goodIn_ca (goodIn_r _ [19, 20, 21, 22, 23, 24, 5, 25, 1, 87, 88, 89, 90, 91, 92, 93, 94, 95, 96, 97, 98, 99, 100, 101, 102, 103, 104, 105, 106, 107, 108, 109, 110, 111, 112, 113, 114, 115, 116, 117, 118, 119, 120, 121, 122, 123, 124, 125, 126, 127] (by decide +kernel) (by decide +kernel)) (goodIn_sub (fun _ h => List.mem_cons_of_mem _ (List.mem_append_right _ h)) (by decide +kernel))
set_option maxRecDepth 20000 in
theorem gX7_print_X7_keepsAll : GoodIn wsX7_print (wsV RX7 392 RX7 yX7_keepsAll wsX7_keepsAll) := goodIn_app (goodIn_of _ (by decide +kernel)) ggX7_print_X7_keepsAll
set_option maxRecDepth 20000 in
theorem ggX7_print_X7_prints : GoodIn wsX7_print wsX7_prints := goodIn_ca (goodIn_r _ [29, 30, 31, 1, 32, 33, 34, 5, 35, 36, 37, 38, 39, 40, 41, 42, 43, 44, 45, 46, 47, 48, 49, 50, 51, 52, 53, 54, 55, 56, 57, 58, 59, 60, 61, 62, 63, 64, 65, 66, 67, 68, 69, 70, 71, 72, 73, 74, 75, 76, 77, 78, 79, 80, 81, 82, 83, 84, 85, 86, 87, 88, 89, 90, 91, 92, 93, 94, 95, 96, 97, 98, 99, 100, 101, 102, 103, 104, 105, 106, 107, 108, 109, 110, 111, 112, 113, 114, 115, 116, 117, 118, 119, 120, 121, 122, 123, 124, 125, 126, 127] (by decide +kernel) (by decide +kernel)) (goodIn_sub (fun _ h => List.mem_cons_of_mem _ (List.mem_append_right _ h)) (by decide +kernel))
set_option maxRecDepth 20000 in
theorem gX7_print_X7_prints : GoodIn wsX7_print (wsV RX7 365 RX7 yX7_prints wsX7_prints) := goodIn_app (goodIn_of _ (by decide +kernel)) ggX7_print_X7_prints
theorem dX7_print_0 : decode cX7_print 0 = .ok (.aload_n 0, 1) := by decide +kernel
theorem dX7_print_1 : decode cX7_print 1 = .ok (.invokevirtual 320, 3) := by decide +kernel
theorem dX7_print_4 : decode cX7_print 4 = .ok (.ifCond .ne 26, 3) := by decide +kernel
theorem dX7_print_7 : decode cX7_print 7 = .ok (.aload_n 0, 1) := by decide +kernel
theorem dX7_print_8 : decode cX7_print 8 = .ok (.iload_n 1, 1) := by decide +kernel
theorem dX7_print_9 : decode cX7_print 9 = .ok (.iconst 1, 1) := by decide +kernel
theorem dX7_print_10 : decode cX7_print 10 = .ok (.bipush 100, 2) := by decide +kernel
theorem dX7_print_12 : decode cX7_print 12 = .ok (.invokestatic 143, 3) := by decide +kernel
theorem dX7_print_15 : decode cX7_print 15 = .ok (.ifCond .ne 7, 3) := by decide +kernel
theorem dX7_print_18 : decode cX7_print 18 = .ok (.iconst 1, 1) := by decide +kernel
theorem dX7_print_19 : decode cX7_print 19 = .ok (.goto 4, 3) := by decide +kernel
theorem dX7_print_22 : decode cX7_print 22 = .ok (.iconst 0, 1) := by decide +kernel
theorem dX7_print_23 : decode cX7_print 23 = .ok (.iconst 2, 1) := by decide +kernel
theorem dX7_print_24 : decode cX7_print 24 = .ok (.invokevirtual 74, 3) := by decide +kernel
theorem dX7_print_27 : decode cX7_print 27 = .ok (.ifCond .eq 5, 3) := by decide +kernel
theorem dX7_print_30 : decode cX7_print 30 = .ok (.iconst 0, 1) := by decide +kernel
theorem dX7_print_31 : decode cX7_print 31 = .ok (.ireturn, 1) := by decide +kernel
theorem dX7_print_32 : decode cX7_print 32 = .ok (.aload_n 0, 1) := by decide +kernel
theorem dX7_print_33 : decode cX7_print 33 = .ok (.invokevirtual 392, 3) := by decide +kernel
theorem dX7_print_36 : decode cX7_print 36 = .ok (.aload_n 0, 1) := by decide +kernel
theorem dX7_print_37 : decode cX7_print 37 = .ok (.getfield 17, 3) := by decide +kernel
theorem dX7_print_40 : decode cX7_print 40 = .ok (.iconst 2, 1) := by decide +kernel
theorem dX7_print_41 : decode cX7_print 41 = .ok (.iaload, 1) := by decide +kernel
theorem dX7_print_42 : decode cX7_print 42 = .ok (.istore_n 2, 1) := by decide +kernel
theorem dX7_print_43 : decode cX7_print 43 = .ok (.iconst 0, 1) := by decide +kernel
theorem dX7_print_44 : decode cX7_print 44 = .ok (.istore_n 3, 1) := by decide +kernel
theorem dX7_print_45 : decode cX7_print 45 = .ok (.iload_n 3, 1) := by decide +kernel
theorem dX7_print_46 : decode cX7_print 46 = .ok (.iload_n 1, 1) := by decide +kernel
theorem dX7_print_47 : decode cX7_print 47 = .ok (.if_icmp .ge 15, 3) := by decide +kernel
theorem dX7_print_50 : decode cX7_print 50 = .ok (.aload_n 0, 1) := by decide +kernel
theorem dX7_print_51 : decode cX7_print 51 = .ok (.invokevirtual 365, 3) := by decide +kernel
theorem dX7_print_54 : decode cX7_print 54 = .ok (.istore 4, 2) := by decide +kernel
theorem dX7_print_56 : decode cX7_print 56 = .ok (.iinc 3 1, 3) := by decide +kernel
theorem dX7_print_59 : decode cX7_print 59 = .ok (.goto (-14), 3) := by decide +kernel
theorem dX7_print_62 : decode cX7_print 62 = .ok (.aload_n 0, 1) := by decide +kernel
theorem dX7_print_63 : decode cX7_print 63 = .ok (.getfield 17, 3) := by decide +kernel
theorem dX7_print_66 : decode cX7_print 66 = .ok (.iconst 2, 1) := by decide +kernel
theorem dX7_print_67 : decode cX7_print 67 = .ok (.iaload, 1) := by decide +kernel
theorem dX7_print_68 : decode cX7_print 68 = .ok (.iload_n 2, 1) := by decide +kernel
theorem dX7_print_69 : decode cX7_print 69 = .ok (.isub, 1) := by decide +kernel
theorem dX7_print_70 : decode cX7_print 70 = .ok (.ireturn, 1) := by decide +kernel
set_option maxRecDepth 20000 in
theorem ggX7_rest_X7_notLoaded : GoodIn wsX7_rest wsX7_notLoaded := goodIn_r _ [5, 6, 7, 8, 9, 10, 4, 11, 91, 92, 93, 94, 95, 96, 97, 98, 99, 100, 101, 102, 103, 104, 105, 106, 107, 108, 109, 110, 111, 112, 113, 114, 115, 116, 117, 118, 119, 120, 121, 122, 123, 124, 125, 126, 127, 128, 129, 130, 131] (by decide +kernel) (by decide +kernel)
set_option maxRecDepth 20000 in
theorem gX7_rest_X7_notLoaded : GoodIn wsX7_rest (wsV RX7 320 RX7 yX7_notLoaded wsX7_notLoaded) := goodIn_app (goodIn_of _ (by decide +kernel)) ggX7_rest_X7_notLoaded
set_option maxRecDepth 20000 in
theorem ggX7_rest_X7_in : GoodIn wsX7_rest wsX7_in := goodIn_r _ [14] (by decide +kernel) (by decide +kernel)
set_option maxRecDepth 20000 in
theorem gX7_rest_X7_in : GoodIn wsX7_rest (va_wsS RX7 143 yX7_in wsX7_in) := goodIn_app (goodIn_of _ (by decide +kernel)) ggX7_rest_X7_in
set_option maxRecDepth 20000 in
theorem ggX7_rest_X7_refuse : GoodIn wsX7_rest wsX7_refuse := goodIn_r _ [11, 6, 91, 92, 93, 94, 95, 96, 97, 98, 99, 100, 101, 102, 103, 104, 105, 106, 107, 108, 109, 110, 111, 112, 113, 114, 115, 116, 117, 118, 119, 120, 121, 122, 123, 124, 125, 126, 127, 128, 129, 130, 131] (by decide +kernel) (by decide +kernel)
set_option maxRecDepth 20000 in
theorem gX7_rest_X7_refuse : GoodIn wsX7_rest (wsV RX7 74 RX7 yX7_refuse wsX7_refuse) := goodIn_app (goodIn_of _ (by decide +kernel)) ggX7_rest_X7_refuse
set_option maxRecDepth 20000 in
theorem ggX7_rest_X7_keepsAll : GoodIn wsX7_rest wsX7_keepsAll := goodIn_ca (goodIn_r _ [18, 19, 20, 21, 22, 23, 4, 24, 25, 91, 92, 93, 94, 95, 96, 97, 98, 99, 100, 101, 102, 103, 104, 105, 106, 107, 108, 109, 110, 111, 112, 113, 114, 115, 116, 117, 118, 119, 120, 121, 122, 123, 124, 125, 126, 127, 128, 129, 130, 131] (by decide +kernel) (by decide +kernel)) (goodIn_sub (fun _ h => List.mem_cons_of_mem _ (List.mem_append_right _ h)) (by decide +kernel))
set_option maxRecDepth 20000 in
theorem gX7_rest_X7_keepsAll : GoodIn wsX7_rest (wsV RX7 392 RX7 yX7_keepsAll wsX7_keepsAll) := goodIn_app (goodIn_of _ (by decide +kernel)) ggX7_rest_X7_keepsAll
set_option maxRecDepth 20000 in
theorem ggX7_rest_X7_passes : GoodIn wsX7_rest wsX7_passes := goodIn_ca (goodIn_r _ [29, 30, 31, 25, 32, 33, 34, 4, 35, 36, 37, 38, 39, 40, 41, 42, 43, 44, 45, 46, 47, 48, 49, 50, 51, 52, 53, 54, 55, 56, 57, 58, 59, 60, 61, 62, 63, 64, 65, 66, 67, 68, 69, 70, 71, 72, 73, 74, 75, 76, 77, 78, 79, 80, 81, 82, 83, 84, 85, 86, 87, 91, 92, 93, 94, 95, 96, 97, 98, 99, 100, 101, 102, 103, 104, 105, 106, 107, 108, 109, 110, 111, 112, 113, 114, 115, 116, 117, 118, 119, 120, 121, 122, 123, 124, 125, 126, 127, 128, 129, 130, 131] (by decide +kernel) (by decide +kernel)) (goodIn_sub (fun _ h => List.mem_cons_of_mem _ (List.mem_append_right _ h)) (by decide +kernel))
set_option maxRecDepth 20000 in
theorem gX7_rest_X7_passes : GoodIn wsX7_rest (wsV RX7 362 RX7 yX7_passes wsX7_passes) := goodIn_app (goodIn_of _ (by decide +kernel)) ggX7_rest_X7_passes
set_option maxRecDepth 20000 in
theorem ggX7_rest_X7_ones : GoodIn wsX7_rest wsX7_ones := goodIn_r _ [90] (by decide +kernel) (by decide +kernel)
set_option maxRecDepth 20000 in
theorem gX7_rest_X7_ones : GoodIn wsX7_rest (va_wsS RX7 398 yX7_ones wsX7_ones) := goodIn_app (goodIn_of _ (by decide +kernel)) ggX7_rest_X7_ones
theorem dX7_rest_0 : decode cX7_rest 0 = .ok (.aload_n 0, 1) := by decide +kernel
theorem dX7_rest_1 : decode cX7_rest 1 = .ok (.invokevirtual 320, 3) := by decide +kernel
theorem dX7_rest_4 : decode cX7_rest 4 = .ok (.ifCond .ne 26, 3) := by decide +kernel
theorem dX7_rest_7 : decode cX7_rest 7 = .ok (.aload_n 0, 1) := by decide +kernel
theorem dX7_rest_8 : decode cX7_rest 8 = .ok (.iload_n 1, 1) := by decide +kernel
theorem dX7_rest_9 : decode cX7_rest 9 = .ok (.iconst 1, 1) := by decide +kernel
theorem dX7_rest_10 : decode cX7_rest 10 = .ok (.bipush 100, 2) := by decide +kernel
theorem dX7_rest_12 : decode cX7_rest 12 = .ok (.invokestatic 143, 3) := by decide +kernel
theorem dX7_rest_15 : decode cX7_rest 15 = .ok (.ifCond .ne 7, 3) := by decide +kernel
theorem dX7_rest_18 : decode cX7_rest 18 = .ok (.iconst 1, 1) := by decide +kernel
theorem dX7_rest_19 : decode cX7_rest 19 = .ok (.goto 4, 3) := by decide +kernel
theorem dX7_rest_22 : decode cX7_rest 22 = .ok (.iconst 0, 1) := by decide +kernel
theorem dX7_rest_23 : decode cX7_rest 23 = .ok (.iconst 2, 1) := by decide +kernel
theorem dX7_rest_24 : decode cX7_rest 24 = .ok (.invokevirtual 74, 3) := by decide +kernel
theorem dX7_rest_27 : decode cX7_rest 27 = .ok (.ifCond .eq 5, 3) := by decide +kernel
theorem dX7_rest_30 : decode cX7_rest 30 = .ok (.iconst 0, 1) := by decide +kernel
theorem dX7_rest_31 : decode cX7_rest 31 = .ok (.ireturn, 1) := by decide +kernel
theorem dX7_rest_32 : decode cX7_rest 32 = .ok (.aload_n 0, 1) := by decide +kernel
theorem dX7_rest_33 : decode cX7_rest 33 = .ok (.invokevirtual 392, 3) := by decide +kernel
theorem dX7_rest_36 : decode cX7_rest 36 = .ok (.iconst 0, 1) := by decide +kernel
theorem dX7_rest_37 : decode cX7_rest 37 = .ok (.istore_n 2, 1) := by decide +kernel
theorem dX7_rest_38 : decode cX7_rest 38 = .ok (.iconst 0, 1) := by decide +kernel
theorem dX7_rest_39 : decode cX7_rest 39 = .ok (.istore_n 3, 1) := by decide +kernel
theorem dX7_rest_40 : decode cX7_rest 40 = .ok (.iload_n 3, 1) := by decide +kernel
theorem dX7_rest_41 : decode cX7_rest 41 = .ok (.iload_n 1, 1) := by decide +kernel
theorem dX7_rest_42 : decode cX7_rest 42 = .ok (.if_icmp .ge 19, 3) := by decide +kernel
theorem dX7_rest_45 : decode cX7_rest 45 = .ok (.iload_n 2, 1) := by decide +kernel
theorem dX7_rest_46 : decode cX7_rest 46 = .ok (.aload_n 0, 1) := by decide +kernel
theorem dX7_rest_47 : decode cX7_rest 47 = .ok (.invokevirtual 362, 3) := by decide +kernel
theorem dX7_rest_50 : decode cX7_rest 50 = .ok (.invokestatic 398, 3) := by decide +kernel
theorem dX7_rest_53 : decode cX7_rest 53 = .ok (.iadd, 1) := by decide +kernel
theorem dX7_rest_54 : decode cX7_rest 54 = .ok (.istore_n 2, 1) := by decide +kernel
theorem dX7_rest_55 : decode cX7_rest 55 = .ok (.iinc 3 1, 3) := by decide +kernel
theorem dX7_rest_58 : decode cX7_rest 58 = .ok (.goto (-18), 3) := by decide +kernel
theorem dX7_rest_61 : decode cX7_rest 61 = .ok (.iload_n 2, 1) := by decide +kernel
theorem dX7_rest_62 : decode cX7_rest 62 = .ok (.ireturn, 1) := by decide +kernel
set_option maxRecDepth 20000 in
theorem ggX7_buy_X7_notLoaded : GoodIn wsX7_buy wsX7_notLoaded := goodIn_r _ [6, 7, 8, 9, 10, 11, 5, 12, 31, 32, 33, 34, 35, 36, 37, 38, 39, 40, 41, 42, 43, 44, 45, 46, 47, 48, 49, 50, 51, 52, 53, 54, 55, 56, 57, 58, 59, 60, 61, 62, 63, 64, 65, 66, 67, 68, 69, 70, 71] (by decide +kernel) (by decide +kernel)
set_option maxRecDepth 20000 in
theorem gX7_buy_X7_notLoaded : GoodIn wsX7_buy (wsV RX7 320 RX7 yX7_notLoaded wsX7_notLoaded) := goodIn_app (goodIn_of _ (by decide +kernel)) ggX7_buy_X7_notLoaded
set_option maxRecDepth 20000 in
theorem ggX7_buy_X7_isKind : GoodIn wsX7_buy wsX7_isKind := goodIn_r _ [16, 17, 18, 19, 5, 20, 31, 32, 33, 34, 35, 36, 37, 38, 39, 40, 41, 42, 43, 44, 45, 46, 47, 48, 49, 50, 51, 52, 53, 54, 55, 56, 57, 58, 59, 60, 61, 62, 63, 64, 65, 66, 67, 68, 69, 70, 71] (by decide +kernel) (by decide +kernel)
set_option maxRecDepth 20000 in
theorem gX7_buy_X7_isKind : GoodIn wsX7_buy (wsV RX7 338 RX7 yX7_isKind wsX7_isKind) := goodIn_app (goodIn_of _ (by decide +kernel)) ggX7_buy_X7_isKind
set_option maxRecDepth 20000 in
theorem ggX7_buy_X7_refuse : GoodIn wsX7_buy wsX7_refuse := goodIn_r _ [12, 7, 31, 32, 33, 34, 35, 36, 37, 38, 39, 40, 41, 42, 43, 44, 45, 46, 47, 48, 49, 50, 51, 52, 53, 54, 55, 56, 57, 58, 59, 60, 61, 62, 63, 64, 65, 66, 67, 68, 69, 70, 71] (by decide +kernel) (by decide +kernel)
set_option maxRecDepth 20000 in
theorem gX7_buy_X7_refuse : GoodIn wsX7_buy (wsV RX7 74 RX7 yX7_refuse wsX7_refuse) := goodIn_app (goodIn_of _ (by decide +kernel)) ggX7_buy_X7_refuse
set_option maxRecDepth 20000 in
theorem ggX7_buy_X7_in : GoodIn wsX7_buy wsX7_in := goodIn_r _ [20] (by decide +kernel) (by decide +kernel)
set_option maxRecDepth 20000 in
theorem gX7_buy_X7_in : GoodIn wsX7_buy (va_wsS RX7 143 yX7_in wsX7_in) := goodIn_app (goodIn_of _ (by decide +kernel)) ggX7_buy_X7_in
set_option maxRecDepth 20000 in
theorem ggX7_buy_X7_keepsAll : GoodIn wsX7_buy wsX7_keepsAll := goodIn_ca (goodIn_r _ [24, 25, 26, 27, 28, 29, 5, 30, 1, 31, 32, 33, 34, 35, 36, 37, 38, 39, 40, 41, 42, 43, 44, 45, 46, 47, 48, 49, 50, 51, 52, 53, 54, 55, 56, 57, 58, 59, 60, 61, 62, 63, 64, 65, 66, 67, 68, 69, 70, 71] (by decide +kernel) (by decide +kernel)) (goodIn_sub (fun _ h => List.mem_cons_of_mem _ (List.mem_append_right _ h)) (by decide +kernel))
set_option maxRecDepth 20000 in
theorem gX7_buy_X7_keepsAll : GoodIn wsX7_buy (wsV RX7 392 RX7 yX7_keepsAll wsX7_keepsAll) := goodIn_app (goodIn_of _ (by decide +kernel)) ggX7_buy_X7_keepsAll
theorem dX7_buy_0 : decode cX7_buy 0 = .ok (.aload_n 0, 1) := by decide +kernel
theorem dX7_buy_1 : decode cX7_buy 1 = .ok (.invokevirtual 320, 3) := by decide +kernel
theorem dX7_buy_4 : decode cX7_buy 4 = .ok (.ifCond .ne 63, 3) := by decide +kernel
theorem dX7_buy_7 : decode cX7_buy 7 = .ok (.aload_n 0, 1) := by decide +kernel
theorem dX7_buy_8 : decode cX7_buy 8 = .ok (.aload_n 0, 1) := by decide +kernel
theorem dX7_buy_9 : decode cX7_buy 9 = .ok (.iload_n 1, 1) := by decide +kernel
theorem dX7_buy_10 : decode cX7_buy 10 = .ok (.invokevirtual 338, 3) := by decide +kernel
theorem dX7_buy_13 : decode cX7_buy 13 = .ok (.ifCond .ne 7, 3) := by decide +kernel
theorem dX7_buy_16 : decode cX7_buy 16 = .ok (.iconst 1, 1) := by decide +kernel
theorem dX7_buy_17 : decode cX7_buy 17 = .ok (.goto 4, 3) := by decide +kernel
theorem dX7_buy_20 : decode cX7_buy 20 = .ok (.iconst 0, 1) := by decide +kernel
theorem dX7_buy_21 : decode cX7_buy 21 = .ok (.iconst 2, 1) := by decide +kernel
theorem dX7_buy_22 : decode cX7_buy 22 = .ok (.invokevirtual 74, 3) := by decide +kernel
theorem dX7_buy_25 : decode cX7_buy 25 = .ok (.ifCond .ne 42, 3) := by decide +kernel
theorem dX7_buy_28 : decode cX7_buy 28 = .ok (.aload_n 0, 1) := by decide +kernel
theorem dX7_buy_29 : decode cX7_buy 29 = .ok (.iload_n 2, 1) := by decide +kernel
theorem dX7_buy_30 : decode cX7_buy 30 = .ok (.iconst 1, 1) := by decide +kernel
theorem dX7_buy_31 : decode cX7_buy 31 = .ok (.bipush 99, 2) := by decide +kernel
theorem dX7_buy_33 : decode cX7_buy 33 = .ok (.invokestatic 143, 3) := by decide +kernel
theorem dX7_buy_36 : decode cX7_buy 36 = .ok (.ifCond .eq 19, 3) := by decide +kernel
theorem dX7_buy_39 : decode cX7_buy 39 = .ok (.aload_n 0, 1) := by decide +kernel
theorem dX7_buy_40 : decode cX7_buy 40 = .ok (.getfield 17, 3) := by decide +kernel
theorem dX7_buy_43 : decode cX7_buy 43 = .ok (.bipush 6, 2) := by decide +kernel
theorem dX7_buy_45 : decode cX7_buy 45 = .ok (.iload_n 1, 1) := by decide +kernel
theorem dX7_buy_46 : decode cX7_buy 46 = .ok (.iadd, 1) := by decide +kernel
theorem dX7_buy_47 : decode cX7_buy 47 = .ok (.iaload, 1) := by decide +kernel
theorem dX7_buy_48 : decode cX7_buy 48 = .ok (.iload_n 2, 1) := by decide +kernel
theorem dX7_buy_49 : decode cX7_buy 49 = .ok (.iadd, 1) := by decide +kernel
theorem dX7_buy_50 : decode cX7_buy 50 = .ok (.bipush 99, 2) := by decide +kernel
theorem dX7_buy_52 : decode cX7_buy 52 = .ok (.if_icmp .le 7, 3) := by decide +kernel
theorem dX7_buy_55 : decode cX7_buy 55 = .ok (.iconst 1, 1) := by decide +kernel
theorem dX7_buy_56 : decode cX7_buy 56 = .ok (.goto 4, 3) := by decide +kernel
theorem dX7_buy_59 : decode cX7_buy 59 = .ok (.iconst 0, 1) := by decide +kernel
theorem dX7_buy_60 : decode cX7_buy 60 = .ok (.iconst 3, 1) := by decide +kernel
theorem dX7_buy_61 : decode cX7_buy 61 = .ok (.invokevirtual 74, 3) := by decide +kernel
theorem dX7_buy_64 : decode cX7_buy 64 = .ok (.ifCond .eq 5, 3) := by decide +kernel
theorem dX7_buy_67 : decode cX7_buy 67 = .ok (.iconst 0, 1) := by decide +kernel
theorem dX7_buy_68 : decode cX7_buy 68 = .ok (.ireturn, 1) := by decide +kernel
theorem dX7_buy_69 : decode cX7_buy 69 = .ok (.aload_n 0, 1) := by decide +kernel
theorem dX7_buy_70 : decode cX7_buy 70 = .ok (.invokevirtual 392, 3) := by decide +kernel
theorem dX7_buy_73 : decode cX7_buy 73 = .ok (.aload_n 0, 1) := by decide +kernel
theorem dX7_buy_74 : decode cX7_buy 74 = .ok (.getfield 17, 3) := by decide +kernel
theorem dX7_buy_77 : decode cX7_buy 77 = .ok (.bipush 6, 2) := by decide +kernel
theorem dX7_buy_79 : decode cX7_buy 79 = .ok (.iload_n 1, 1) := by decide +kernel
theorem dX7_buy_80 : decode cX7_buy 80 = .ok (.iadd, 1) := by decide +kernel
theorem dX7_buy_81 : decode cX7_buy 81 = .ok (.dup2, 1) := by decide +kernel
theorem dX7_buy_82 : decode cX7_buy 82 = .ok (.iaload, 1) := by decide +kernel
theorem dX7_buy_83 : decode cX7_buy 83 = .ok (.iload_n 2, 1) := by decide +kernel
theorem dX7_buy_84 : decode cX7_buy 84 = .ok (.iadd, 1) := by decide +kernel
theorem dX7_buy_85 : decode cX7_buy 85 = .ok (.iastore, 1) := by decide +kernel
theorem dX7_buy_86 : decode cX7_buy 86 = .ok (.aload_n 0, 1) := by decide +kernel
theorem dX7_buy_87 : decode cX7_buy 87 = .ok (.getfield 17, 3) := by decide +kernel
theorem dX7_buy_90 : decode cX7_buy 90 = .ok (.bipush 6, 2) := by decide +kernel
theorem dX7_buy_92 : decode cX7_buy 92 = .ok (.iload_n 1, 1) := by decide +kernel
theorem dX7_buy_93 : decode cX7_buy 93 = .ok (.iadd, 1) := by decide +kernel
theorem dX7_buy_94 : decode cX7_buy 94 = .ok (.iaload, 1) := by decide +kernel
theorem dX7_buy_95 : decode cX7_buy 95 = .ok (.ireturn, 1) := by decide +kernel
set_option maxRecDepth 20000 in
theorem ggX7_undo_X7_refuse : GoodIn wsX7_undo wsX7_refuse := goodIn_r _ [7, 1, 14, 15, 16, 17, 18, 19, 20, 21, 22, 23, 24, 25, 26, 27, 28, 29, 30, 31, 32, 33, 34, 35, 36, 37, 38, 39, 40, 41, 42, 43, 44, 45, 46, 47, 48, 49, 50, 51, 52, 53, 54] (by decide +kernel) (by decide +kernel)
set_option maxRecDepth 20000 in
theorem gX7_undo_X7_refuse : GoodIn wsX7_undo (wsV RX7 74 RX7 yX7_refuse wsX7_refuse) := goodIn_app (goodIn_of _ (by decide +kernel)) ggX7_undo_X7_refuse
set_option maxRecDepth 20000 in
theorem ggX7_undo_X7_fetches : GoodIn wsX7_undo wsX7_fetches := goodIn_ca (goodIn_r _ [11, 12, 13, 14, 15, 16, 17, 18, 19, 20, 21, 22, 23, 24, 25, 26, 27, 28, 29, 30, 31, 32, 33, 34, 35, 36, 37, 38, 39, 40, 41, 42, 43, 44, 45, 46, 47, 48, 49, 50, 51, 52, 53, 54] (by decide +kernel) (by decide +kernel)) (goodIn_sub (fun _ h => List.mem_cons_of_mem _ (List.mem_append_right _ h)) (by decide +kernel))
set_option maxRecDepth 20000 in
theorem gX7_undo_X7_fetches : GoodIn wsX7_undo (wsV RX7 401 RX7 yX7_fetches wsX7_fetches) := goodIn_app (goodIn_of _ (by decide +kernel)) ggX7_undo_X7_fetches
theorem dX7_undo_0 : decode cX7_undo 0 = .ok (.aload_n 0, 1) := by decide +kernel
theorem dX7_undo_1 : decode cX7_undo 1 = .ok (.iconst 0, 1) := by decide +kernel
theorem dX7_undo_2 : decode cX7_undo 2 = .ok (.putfield 67, 3) := by decide +kernel
theorem dX7_undo_5 : decode cX7_undo 5 = .ok (.aload_n 0, 1) := by decide +kernel
theorem dX7_undo_6 : decode cX7_undo 6 = .ok (.aload_n 0, 1) := by decide +kernel
theorem dX7_undo_7 : decode cX7_undo 7 = .ok (.getfield 235, 3) := by decide +kernel
theorem dX7_undo_10 : decode cX7_undo 10 = .ok (.ifCond .ne 7, 3) := by decide +kernel
theorem dX7_undo_13 : decode cX7_undo 13 = .ok (.iconst 1, 1) := by decide +kernel
theorem dX7_undo_14 : decode cX7_undo 14 = .ok (.goto 4, 3) := by decide +kernel
theorem dX7_undo_17 : decode cX7_undo 17 = .ok (.iconst 0, 1) := by decide +kernel
theorem dX7_undo_18 : decode cX7_undo 18 = .ok (.iconst 1, 1) := by decide +kernel
theorem dX7_undo_19 : decode cX7_undo 19 = .ok (.invokevirtual 74, 3) := by decide +kernel
theorem dX7_undo_22 : decode cX7_undo 22 = .ok (.ifCond .eq 5, 3) := by decide +kernel
theorem dX7_undo_25 : decode cX7_undo 25 = .ok (.iconst 0, 1) := by decide +kernel
theorem dX7_undo_26 : decode cX7_undo 26 = .ok (.ireturn, 1) := by decide +kernel
theorem dX7_undo_27 : decode cX7_undo 27 = .ok (.aload_n 0, 1) := by decide +kernel
theorem dX7_undo_28 : decode cX7_undo 28 = .ok (.dup, 1) := by decide +kernel
theorem dX7_undo_29 : decode cX7_undo 29 = .ok (.getfield 235, 3) := by decide +kernel
theorem dX7_undo_32 : decode cX7_undo 32 = .ok (.iconst 1, 1) := by decide +kernel
theorem dX7_undo_33 : decode cX7_undo 33 = .ok (.isub, 1) := by decide +kernel
theorem dX7_undo_34 : decode cX7_undo 34 = .ok (.putfield 235, 3) := by decide +kernel
theorem dX7_undo_37 : decode cX7_undo 37 = .ok (.aload_n 0, 1) := by decide +kernel
theorem dX7_undo_38 : decode cX7_undo 38 = .ok (.iconst 0, 1) := by decide +kernel
theorem dX7_undo_39 : decode cX7_undo 39 = .ok (.aload_n 0, 1) := by decide +kernel
theorem dX7_undo_40 : decode cX7_undo 40 = .ok (.getfield 235, 3) := by decide +kernel
theorem dX7_undo_43 : decode cX7_undo 43 = .ok (.iadd, 1) := by decide +kernel
theorem dX7_undo_44 : decode cX7_undo 44 = .ok (.invokevirtual 401, 3) := by decide +kernel
theorem dX7_undo_47 : decode cX7_undo 47 = .ok (.aload_n 0, 1) := by decide +kernel
theorem dX7_undo_48 : decode cX7_undo 48 = .ok (.getfield 235, 3) := by decide +kernel
theorem dX7_undo_51 : decode cX7_undo 51 = .ok (.ireturn, 1) := by decide +kernel
theorem dX7_undoable_0 : decode cX7_undoable 0 = .ok (.aload_n 0, 1) := by decide +kernel
theorem dX7_undoable_1 : decode cX7_undoable 1 = .ok (.iconst 0, 1) := by decide +kernel
theorem dX7_undoable_2 : decode cX7_undoable 2 = .ok (.putfield 67, 3) := by decide +kernel
theorem dX7_undoable_5 : decode cX7_undoable 5 = .ok (.aload_n 0, 1) := by decide +kernel
theorem dX7_undoable_6 : decode cX7_undoable 6 = .ok (.getfield 235, 3) := by decide +kernel
theorem dX7_undoable_9 : decode cX7_undoable 9 = .ok (.ireturn, 1) := by decide +kernel
set_option maxRecDepth 20000 in
theorem ggX7_save_X7_notLoaded : GoodIn wsX7_save wsX7_notLoaded := goodIn_r _ [7, 8, 9, 10, 11, 12, 6, 13, 22, 23, 24, 25, 26, 27, 28, 29, 30, 31, 32, 33, 34, 35, 36, 37, 38, 39, 40, 41, 42, 43, 44, 45, 46, 47, 48, 49, 50, 51, 52, 53, 54, 55, 56, 57, 58, 59, 60, 61, 62] (by decide +kernel) (by decide +kernel)
set_option maxRecDepth 20000 in
theorem gX7_save_X7_notLoaded : GoodIn wsX7_save (wsV RX7 320 RX7 yX7_notLoaded wsX7_notLoaded) := goodIn_app (goodIn_of _ (by decide +kernel)) ggX7_save_X7_notLoaded
set_option maxRecDepth 20000 in
theorem ggX7_save_X7_in : GoodIn wsX7_save wsX7_in := goodIn_r _ [16] (by decide +kernel) (by decide +kernel)
set_option maxRecDepth 20000 in
theorem gX7_save_X7_in : GoodIn wsX7_save (va_wsS RX7 143 yX7_in wsX7_in) := goodIn_app (goodIn_of _ (by decide +kernel)) ggX7_save_X7_in
set_option maxRecDepth 20000 in
theorem ggX7_save_X7_refuse : GoodIn wsX7_save wsX7_refuse := goodIn_r _ [13, 8, 22, 23, 24, 25, 26, 27, 28, 29, 30, 31, 32, 33, 34, 35, 36, 37, 38, 39, 40, 41, 42, 43, 44, 45, 46, 47, 48, 49, 50, 51, 52, 53, 54, 55, 56, 57, 58, 59, 60, 61, 62] (by decide +kernel) (by decide +kernel)
set_option maxRecDepth 20000 in
theorem gX7_save_X7_refuse : GoodIn wsX7_save (wsV RX7 74 RX7 yX7_refuse wsX7_refuse) := goodIn_app (goodIn_of _ (by decide +kernel)) ggX7_save_X7_refuse
set_option maxRecDepth 20000 in
theorem ggX7_save_X7_keeps : GoodIn wsX7_save wsX7_keeps := goodIn_ca (goodIn_r _ [20, 21, 2, 22, 23, 24, 25, 26, 27, 28, 29, 30, 31, 32, 33, 34, 35, 36, 37, 38, 39, 40, 41, 42, 43, 44, 45, 46, 47, 48, 49, 50, 51, 52, 53, 54, 55, 56, 57, 58, 59, 60, 61, 62] (by decide +kernel) (by decide +kernel)) (goodIn_sub (fun _ h => List.mem_cons_of_mem _ (List.mem_append_right _ h)) (by decide +kernel))
set_option maxRecDepth 20000 in
theorem gX7_save_X7_keeps : GoodIn wsX7_save (wsV RX7 389 RX7 yX7_keeps wsX7_keeps) := goodIn_app (goodIn_of _ (by decide +kernel)) ggX7_save_X7_keeps
theorem dX7_save_0 : decode cX7_save 0 = .ok (.aload_n 0, 1) := by decide +kernel
theorem dX7_save_1 : decode cX7_save 1 = .ok (.invokevirtual 320, 3) := by decide +kernel
theorem dX7_save_4 : decode cX7_save 4 = .ok (.ifCond .ne 25, 3) := by decide +kernel
theorem dX7_save_7 : decode cX7_save 7 = .ok (.aload_n 0, 1) := by decide +kernel
theorem dX7_save_8 : decode cX7_save 8 = .ok (.iload_n 1, 1) := by decide +kernel
theorem dX7_save_9 : decode cX7_save 9 = .ok (.iconst 0, 1) := by decide +kernel
theorem dX7_save_10 : decode cX7_save 10 = .ok (.iconst 1, 1) := by decide +kernel
theorem dX7_save_11 : decode cX7_save 11 = .ok (.invokestatic 143, 3) := by decide +kernel
theorem dX7_save_14 : decode cX7_save 14 = .ok (.ifCond .ne 7, 3) := by decide +kernel
theorem dX7_save_17 : decode cX7_save 17 = .ok (.iconst 1, 1) := by decide +kernel
theorem dX7_save_18 : decode cX7_save 18 = .ok (.goto 4, 3) := by decide +kernel
theorem dX7_save_21 : decode cX7_save 21 = .ok (.iconst 0, 1) := by decide +kernel
theorem dX7_save_22 : decode cX7_save 22 = .ok (.iconst 2, 1) := by decide +kernel
theorem dX7_save_23 : decode cX7_save 23 = .ok (.invokevirtual 74, 3) := by decide +kernel
theorem dX7_save_26 : decode cX7_save 26 = .ok (.ifCond .eq 5, 3) := by decide +kernel
theorem dX7_save_29 : decode cX7_save 29 = .ok (.iconst 0, 1) := by decide +kernel
theorem dX7_save_30 : decode cX7_save 30 = .ok (.ireturn, 1) := by decide +kernel
theorem dX7_save_31 : decode cX7_save 31 = .ok (.aload_n 0, 1) := by decide +kernel
theorem dX7_save_32 : decode cX7_save 32 = .ok (.bipush 8, 2) := by decide +kernel
theorem dX7_save_34 : decode cX7_save 34 = .ok (.iload_n 1, 1) := by decide +kernel
theorem dX7_save_35 : decode cX7_save 35 = .ok (.iadd, 1) := by decide +kernel
theorem dX7_save_36 : decode cX7_save 36 = .ok (.invokevirtual 389, 3) := by decide +kernel
theorem dX7_save_39 : decode cX7_save 39 = .ok (.aload_n 0, 1) := by decide +kernel
theorem dX7_save_40 : decode cX7_save 40 = .ok (.getfield 27, 3) := by decide +kernel
theorem dX7_save_43 : decode cX7_save 43 = .ok (.iload_n 1, 1) := by decide +kernel
theorem dX7_save_44 : decode cX7_save 44 = .ok (.iconst 1, 1) := by decide +kernel
theorem dX7_save_45 : decode cX7_save 45 = .ok (.bastore, 1) := by decide +kernel
theorem dX7_save_46 : decode cX7_save 46 = .ok (.aload_n 0, 1) := by decide +kernel
theorem dX7_save_47 : decode cX7_save 47 = .ok (.getfield 17, 3) := by decide +kernel
theorem dX7_save_50 : decode cX7_save 50 = .ok (.iconst 1, 1) := by decide +kernel
theorem dX7_save_51 : decode cX7_save 51 = .ok (.iaload, 1) := by decide +kernel
theorem dX7_save_52 : decode cX7_save 52 = .ok (.ireturn, 1) := by decide +kernel
set_option maxRecDepth 20000 in
theorem ggX7_restore_X7_in : GoodIn wsX7_restore wsX7_in := goodIn_r _ [8] (by decide +kernel) (by decide +kernel)
set_option maxRecDepth 20000 in
theorem gX7_restore_X7_in : GoodIn wsX7_restore (va_wsS RX7 143 yX7_in wsX7_in) := goodIn_app (goodIn_of _ (by decide +kernel)) ggX7_restore_X7_in
set_option maxRecDepth 20000 in
theorem ggX7_restore_X7_refuse : GoodIn wsX7_restore wsX7_refuse := goodIn_r _ [12, 1, 18, 19, 20, 21, 22, 23, 24, 25, 26, 27, 28, 29, 30, 31, 32, 33, 34, 35, 36, 37, 38, 39, 40, 41, 42, 43, 44, 45, 46, 47, 48, 49, 50, 51, 52, 53, 54, 55, 56, 57, 58] (by decide +kernel) (by decide +kernel)
set_option maxRecDepth 20000 in
theorem gX7_restore_X7_refuse : GoodIn wsX7_restore (wsV RX7 74 RX7 yX7_refuse wsX7_refuse) := goodIn_app (goodIn_of _ (by decide +kernel)) ggX7_restore_X7_refuse
set_option maxRecDepth 20000 in
theorem ggX7_restore_X7_fetches : GoodIn wsX7_restore wsX7_fetches := goodIn_ca (goodIn_r _ [16, 4, 17, 18, 19, 20, 21, 22, 23, 24, 25, 26, 27, 28, 29, 30, 31, 32, 33, 34, 35, 36, 37, 38, 39, 40, 41, 42, 43, 44, 45, 46, 47, 48, 49, 50, 51, 52, 53, 54, 55, 56, 57, 58] (by decide +kernel) (by decide +kernel)) (goodIn_sub (fun _ h => List.mem_cons_of_mem _ (List.mem_append_right _ h)) (by decide +kernel))
set_option maxRecDepth 20000 in
theorem gX7_restore_X7_fetches : GoodIn wsX7_restore (wsV RX7 401 RX7 yX7_fetches wsX7_fetches) := goodIn_app (goodIn_of _ (by decide +kernel)) ggX7_restore_X7_fetches
theorem dX7_restore_0 : decode cX7_restore 0 = .ok (.aload_n 0, 1) := by decide +kernel
theorem dX7_restore_1 : decode cX7_restore 1 = .ok (.iconst 0, 1) := by decide +kernel
theorem dX7_restore_2 : decode cX7_restore 2 = .ok (.putfield 67, 3) := by decide +kernel
theorem dX7_restore_5 : decode cX7_restore 5 = .ok (.aload_n 0, 1) := by decide +kernel
theorem dX7_restore_6 : decode cX7_restore 6 = .ok (.iload_n 1, 1) := by decide +kernel
theorem dX7_restore_7 : decode cX7_restore 7 = .ok (.iconst 0, 1) := by decide +kernel
theorem dX7_restore_8 : decode cX7_restore 8 = .ok (.iconst 1, 1) := by decide +kernel
theorem dX7_restore_9 : decode cX7_restore 9 = .ok (.invokestatic 143, 3) := by decide +kernel
theorem dX7_restore_12 : decode cX7_restore 12 = .ok (.ifCond .ne 7, 3) := by decide +kernel
theorem dX7_restore_15 : decode cX7_restore 15 = .ok (.iconst 1, 1) := by decide +kernel
theorem dX7_restore_16 : decode cX7_restore 16 = .ok (.goto 4, 3) := by decide +kernel
theorem dX7_restore_19 : decode cX7_restore 19 = .ok (.iconst 0, 1) := by decide +kernel
theorem dX7_restore_20 : decode cX7_restore 20 = .ok (.iconst 1, 1) := by decide +kernel
theorem dX7_restore_21 : decode cX7_restore 21 = .ok (.invokevirtual 74, 3) := by decide +kernel
theorem dX7_restore_24 : decode cX7_restore 24 = .ok (.ifCond .ne 25, 3) := by decide +kernel
theorem dX7_restore_27 : decode cX7_restore 27 = .ok (.aload_n 0, 1) := by decide +kernel
theorem dX7_restore_28 : decode cX7_restore 28 = .ok (.aload_n 0, 1) := by decide +kernel
theorem dX7_restore_29 : decode cX7_restore 29 = .ok (.getfield 27, 3) := by decide +kernel
theorem dX7_restore_32 : decode cX7_restore 32 = .ok (.iload_n 1, 1) := by decide +kernel
theorem dX7_restore_33 : decode cX7_restore 33 = .ok (.baload, 1) := by decide +kernel
theorem dX7_restore_34 : decode cX7_restore 34 = .ok (.ifCond .ne 7, 3) := by decide +kernel
theorem dX7_restore_37 : decode cX7_restore 37 = .ok (.iconst 1, 1) := by decide +kernel
theorem dX7_restore_38 : decode cX7_restore 38 = .ok (.goto 4, 3) := by decide +kernel
theorem dX7_restore_41 : decode cX7_restore 41 = .ok (.iconst 0, 1) := by decide +kernel
theorem dX7_restore_42 : decode cX7_restore 42 = .ok (.iconst 2, 1) := by decide +kernel
theorem dX7_restore_43 : decode cX7_restore 43 = .ok (.invokevirtual 74, 3) := by decide +kernel
theorem dX7_restore_46 : decode cX7_restore 46 = .ok (.ifCond .eq 5, 3) := by decide +kernel
theorem dX7_restore_49 : decode cX7_restore 49 = .ok (.iconst 0, 1) := by decide +kernel
theorem dX7_restore_50 : decode cX7_restore 50 = .ok (.ireturn, 1) := by decide +kernel
theorem dX7_restore_51 : decode cX7_restore 51 = .ok (.aload_n 0, 1) := by decide +kernel
theorem dX7_restore_52 : decode cX7_restore 52 = .ok (.bipush 8, 2) := by decide +kernel
theorem dX7_restore_54 : decode cX7_restore 54 = .ok (.iload_n 1, 1) := by decide +kernel
theorem dX7_restore_55 : decode cX7_restore 55 = .ok (.iadd, 1) := by decide +kernel
theorem dX7_restore_56 : decode cX7_restore 56 = .ok (.invokevirtual 401, 3) := by decide +kernel
theorem dX7_restore_59 : decode cX7_restore 59 = .ok (.aload_n 0, 1) := by decide +kernel
theorem dX7_restore_60 : decode cX7_restore 60 = .ok (.iconst 0, 1) := by decide +kernel
theorem dX7_restore_61 : decode cX7_restore 61 = .ok (.putfield 235, 3) := by decide +kernel
theorem dX7_restore_64 : decode cX7_restore 64 = .ok (.aload_n 0, 1) := by decide +kernel
theorem dX7_restore_65 : decode cX7_restore 65 = .ok (.getfield 17, 3) := by decide +kernel
theorem dX7_restore_68 : decode cX7_restore 68 = .ok (.iconst 1, 1) := by decide +kernel
theorem dX7_restore_69 : decode cX7_restore 69 = .ok (.iaload, 1) := by decide +kernel
theorem dX7_restore_70 : decode cX7_restore 70 = .ok (.ireturn, 1) := by decide +kernel
set_option maxRecDepth 20000 in
theorem ggJ5_init_d00df_J2_newBytesFor_77867 : GoodIn wsJ5_init_d00df wsJ2_newBytesFor_77867 := goodIn_r _ [11, 5, 12, 13, 10, 14, 15] (by decide +kernel) (by decide +kernel)
set_option maxRecDepth 20000 in
theorem gJ5_init_d00df_J2_newBytesFor_77867 : GoodIn wsJ5_init_d00df (va_wsS RJ5 26 yJ2_newBytesFor_77867 wsJ2_newBytesFor_77867) := goodIn_app (goodIn_of _ (by decide +kernel)) ggJ5_init_d00df_J2_newBytesFor_77867
theorem dJ5_init_d00df_0 : decode cJ5_init_d00df 0 = .ok (.aload_n 0, 1) := by decide +kernel
theorem dJ5_init_d00df_1 : decode cJ5_init_d00df 1 = .ok (.invokespecial 3, 3) := by decide +kernel
theorem dJ5_init_d00df_4 : decode cJ5_init_d00df 4 = .ok (.getstatic 18, 3) := by decide +kernel
theorem dJ5_init_d00df_7 : decode cJ5_init_d00df 7 = .ok (.ifCond .eq 18, 3) := by decide +kernel
theorem dJ5_init_d00df_10 : decode cJ5_init_d00df 10 = .ok (.aload_n 0, 1) := by decide +kernel
theorem dJ5_init_d00df_11 : decode cJ5_init_d00df 11 = .ok (.iload_n 1, 1) := by decide +kernel
theorem dJ5_init_d00df_12 : decode cJ5_init_d00df 12 = .ok (.newarray .byte, 2) := by decide +kernel
theorem dJ5_init_d00df_14 : decode cJ5_init_d00df 14 = .ok (.putfield 15, 3) := by decide +kernel
theorem dJ5_init_d00df_17 : decode cJ5_init_d00df 17 = .ok (.aload_n 0, 1) := by decide +kernel
theorem dJ5_init_d00df_18 : decode cJ5_init_d00df 18 = .ok (.iconst 0, 1) := by decide +kernel
theorem dJ5_init_d00df_19 : decode cJ5_init_d00df 19 = .ok (.putfield 22, 3) := by decide +kernel
theorem dJ5_init_d00df_22 : decode cJ5_init_d00df 22 = .ok (.goto 16, 3) := by decide +kernel
theorem dJ5_init_d00df_25 : decode cJ5_init_d00df 25 = .ok (.aload_n 0, 1) := by decide +kernel
theorem dJ5_init_d00df_26 : decode cJ5_init_d00df 26 = .ok (.iload_n 1, 1) := by decide +kernel
theorem dJ5_init_d00df_27 : decode cJ5_init_d00df 27 = .ok (.invokestatic 26, 3) := by decide +kernel
theorem dJ5_init_d00df_30 : decode cJ5_init_d00df 30 = .ok (.putfield 15, 3) := by decide +kernel
theorem dJ5_init_d00df_33 : decode cJ5_init_d00df 33 = .ok (.aload_n 0, 1) := by decide +kernel
theorem dJ5_init_d00df_34 : decode cJ5_init_d00df 34 = .ok (.iconst 1, 1) := by decide +kernel
theorem dJ5_init_d00df_35 : decode cJ5_init_d00df 35 = .ok (.putfield 22, 3) := by decide +kernel
theorem dJ5_init_d00df_38 : decode cJ5_init_d00df 38 = .ok (.return_, 1) := by decide +kernel
theorem dJ5_length_8abf5_0 : decode cJ5_length_8abf5 0 = .ok (.aload_n 0, 1) := by decide +kernel
theorem dJ5_length_8abf5_1 : decode cJ5_length_8abf5 1 = .ok (.getfield 79, 3) := by decide +kernel
theorem dJ5_length_8abf5_4 : decode cJ5_length_8abf5 4 = .ok (.ireturn, 1) := by decide +kernel
set_option maxRecDepth 20000 in
theorem ggJ5_ensureCapacityInternal_d00df_J5_newCapacity_0f7a4 : GoodIn wsJ5_ensureCapacityInternal_d00df wsJ5_newCapacity_0f7a4 := goodIn_r _ [8, 1, 2, 9, 10, 11, 12, 13, 14, 15, 16, 17, 18, 19, 20, 21, 40, 41, 42, 43] (by decide +kernel) (by decide +kernel)
set_option maxRecDepth 20000 in
theorem gJ5_ensureCapacityInternal_d00df_J5_newCapacity_0f7a4_u104J4 : GoodIn wsJ5_ensureCapacityInternal_d00df (va_wsU RJ5 104 RJ4 "java/lang/AbstractStringBuilder" ⟨"java/lang/AbstractStringBuilder", "newCapacity", "(I)I"⟩ yJ5_newCapacity_0f7a4 wsJ5_newCapacity_0f7a4) := goodIn_app (goodIn_of _ (by decide +kernel)) ggJ5_ensureCapacityInternal_d00df_J5_newCapacity_0f7a4
set_option maxRecDepth 20000 in
theorem ggJ5_ensureCapacityInternal_d00df_J7_copyOf_9075b : GoodIn wsJ5_ensureCapacityInternal_d00df wsJ7_copyOf_9075b := goodIn_r _ [25, 26, 27, 28, 29, 30, 31, 32, 33, 34, 16, 35, 36, 37, 38, 39] (by decide +kernel) (by decide +kernel)
set_option maxRecDepth 20000 in
theorem gJ5_ensureCapacityInternal_d00df_J7_copyOf_9075b : GoodIn wsJ5_ensureCapacityInternal_d00df (va_wsS RJ5 108 yJ7_copyOf_9075b wsJ7_copyOf_9075b) := goodIn_app (goodIn_of _ (by decide +kernel)) ggJ5_ensureCapacityInternal_d00df_J7_copyOf_9075b
theorem dJ5_ensureCapacityInternal_d00df_0 : decode cJ5_ensureCapacityInternal_d00df 0 = .ok (.aload_n 0, 1) := by decide +kernel
theorem dJ5_ensureCapacityInternal_d00df_1 : decode cJ5_ensureCapacityInternal_d00df 1 = .ok (.getfield 15, 3) := by decide +kernel
theorem dJ5_ensureCapacityInternal_d00df_4 : decode cJ5_ensureCapacityInternal_d00df 4 = .ok (.arraylength, 1) := by decide +kernel
theorem dJ5_ensureCapacityInternal_d00df_5 : decode cJ5_ensureCapacityInternal_d00df 5 = .ok (.aload_n 0, 1) := by decide +kernel
theorem dJ5_ensureCapacityInternal_d00df_6 : decode cJ5_ensureCapacityInternal_d00df 6 = .ok (.getfield 22, 3) := by decide +kernel
theorem dJ5_ensureCapacityInternal_d00df_9 : decode cJ5_ensureCapacityInternal_d00df 9 = .ok (.ishr, 1) := by decide +kernel
theorem dJ5_ensureCapacityInternal_d00df_10 : decode cJ5_ensureCapacityInternal_d00df 10 = .ok (.istore_n 2, 1) := by decide +kernel
theorem dJ5_ensureCapacityInternal_d00df_11 : decode cJ5_ensureCapacityInternal_d00df 11 = .ok (.iload_n 1, 1) := by decide +kernel
theorem dJ5_ensureCapacityInternal_d00df_12 : decode cJ5_ensureCapacityInternal_d00df 12 = .ok (.iload_n 2, 1) := by decide +kernel
theorem dJ5_ensureCapacityInternal_d00df_13 : decode cJ5_ensureCapacityInternal_d00df 13 = .ok (.isub, 1) := by decide +kernel
theorem dJ5_ensureCapacityInternal_d00df_14 : decode cJ5_ensureCapacityInternal_d00df 14 = .ok (.ifCond .le 24, 3) := by decide +kernel
theorem dJ5_ensureCapacityInternal_d00df_17 : decode cJ5_ensureCapacityInternal_d00df 17 = .ok (.aload_n 0, 1) := by decide +kernel
theorem dJ5_ensureCapacityInternal_d00df_18 : decode cJ5_ensureCapacityInternal_d00df 18 = .ok (.aload_n 0, 1) := by decide +kernel
theorem dJ5_ensureCapacityInternal_d00df_19 : decode cJ5_ensureCapacityInternal_d00df 19 = .ok (.getfield 15, 3) := by decide +kernel
theorem dJ5_ensureCapacityInternal_d00df_22 : decode cJ5_ensureCapacityInternal_d00df 22 = .ok (.aload_n 0, 1) := by decide +kernel
theorem dJ5_ensureCapacityInternal_d00df_23 : decode cJ5_ensureCapacityInternal_d00df 23 = .ok (.iload_n 1, 1) := by decide +kernel
theorem dJ5_ensureCapacityInternal_d00df_24 : decode cJ5_ensureCapacityInternal_d00df 24 = .ok (.invokevirtual 104, 3) := by decide +kernel
theorem dJ5_ensureCapacityInternal_d00df_27 : decode cJ5_ensureCapacityInternal_d00df 27 = .ok (.aload_n 0, 1) := by decide +kernel
theorem dJ5_ensureCapacityInternal_d00df_28 : decode cJ5_ensureCapacityInternal_d00df 28 = .ok (.getfield 22, 3) := by decide +kernel
theorem dJ5_ensureCapacityInternal_d00df_31 : decode cJ5_ensureCapacityInternal_d00df 31 = .ok (.ishl, 1) := by decide +kernel
theorem dJ5_ensureCapacityInternal_d00df_32 : decode cJ5_ensureCapacityInternal_d00df 32 = .ok (.invokestatic 108, 3) := by decide +kernel
theorem dJ5_ensureCapacityInternal_d00df_35 : decode cJ5_ensureCapacityInternal_d00df 35 = .ok (.putfield 15, 3) := by decide +kernel
theorem dJ5_ensureCapacityInternal_d00df_38 : decode cJ5_ensureCapacityInternal_d00df 38 = .ok (.return_, 1) := by decide +kernel
set_option maxRecDepth 20000 in
theorem ggJ5_newCapacity_0f7a4_J8_newLength_cabcc : GoodIn wsJ5_newCapacity_0f7a4 wsJ8_newLength_cabcc := goodIn_r _ [7, 8, 9, 10, 11, 12, 13, 14, 6, 15] (by decide +kernel) (by decide +kernel)
set_option maxRecDepth 20000 in
theorem gJ5_newCapacity_0f7a4_J8_newLength_cabcc : GoodIn wsJ5_newCapacity_0f7a4 (va_wsS RJ5 114 yJ8_newLength_cabcc wsJ8_newLength_cabcc) := goodIn_app (goodIn_of _ (by decide +kernel)) ggJ5_newCapacity_0f7a4_J8_newLength_cabcc
theorem dJ5_newCapacity_0f7a4_0 : decode cJ5_newCapacity_0f7a4 0 = .ok (.aload_n 0, 1) := by decide +kernel
theorem dJ5_newCapacity_0f7a4_1 : decode cJ5_newCapacity_0f7a4 1 = .ok (.getfield 15, 3) := by decide +kernel
theorem dJ5_newCapacity_0f7a4_4 : decode cJ5_newCapacity_0f7a4 4 = .ok (.arraylength, 1) := by decide +kernel
theorem dJ5_newCapacity_0f7a4_5 : decode cJ5_newCapacity_0f7a4 5 = .ok (.istore_n 2, 1) := by decide +kernel
theorem dJ5_newCapacity_0f7a4_6 : decode cJ5_newCapacity_0f7a4 6 = .ok (.iload_n 1, 1) := by decide +kernel
theorem dJ5_newCapacity_0f7a4_7 : decode cJ5_newCapacity_0f7a4 7 = .ok (.aload_n 0, 1) := by decide +kernel
theorem dJ5_newCapacity_0f7a4_8 : decode cJ5_newCapacity_0f7a4 8 = .ok (.getfield 22, 3) := by decide +kernel
theorem dJ5_newCapacity_0f7a4_11 : decode cJ5_newCapacity_0f7a4 11 = .ok (.ishl, 1) := by decide +kernel
theorem dJ5_newCapacity_0f7a4_12 : decode cJ5_newCapacity_0f7a4 12 = .ok (.istore_n 3, 1) := by decide +kernel
theorem dJ5_newCapacity_0f7a4_13 : decode cJ5_newCapacity_0f7a4 13 = .ok (.iload_n 3, 1) := by decide +kernel
theorem dJ5_newCapacity_0f7a4_14 : decode cJ5_newCapacity_0f7a4 14 = .ok (.iload_n 2, 1) := by decide +kernel
theorem dJ5_newCapacity_0f7a4_15 : decode cJ5_newCapacity_0f7a4 15 = .ok (.isub, 1) := by decide +kernel
theorem dJ5_newCapacity_0f7a4_16 : decode cJ5_newCapacity_0f7a4 16 = .ok (.istore 4, 2) := by decide +kernel
theorem dJ5_newCapacity_0f7a4_18 : decode cJ5_newCapacity_0f7a4 18 = .ok (.iload_n 2, 1) := by decide +kernel
theorem dJ5_newCapacity_0f7a4_19 : decode cJ5_newCapacity_0f7a4 19 = .ok (.iload 4, 2) := by decide +kernel
theorem dJ5_newCapacity_0f7a4_21 : decode cJ5_newCapacity_0f7a4 21 = .ok (.iload_n 2, 1) := by decide +kernel
theorem dJ5_newCapacity_0f7a4_22 : decode cJ5_newCapacity_0f7a4 22 = .ok (.iconst 2, 1) := by decide +kernel
theorem dJ5_newCapacity_0f7a4_23 : decode cJ5_newCapacity_0f7a4 23 = .ok (.aload_n 0, 1) := by decide +kernel
theorem dJ5_newCapacity_0f7a4_24 : decode cJ5_newCapacity_0f7a4 24 = .ok (.getfield 22, 3) := by decide +kernel
theorem dJ5_newCapacity_0f7a4_27 : decode cJ5_newCapacity_0f7a4 27 = .ok (.ishl, 1) := by decide +kernel
theorem dJ5_newCapacity_0f7a4_28 : decode cJ5_newCapacity_0f7a4 28 = .ok (.iadd, 1) := by decide +kernel
theorem dJ5_newCapacity_0f7a4_29 : decode cJ5_newCapacity_0f7a4 29 = .ok (.invokestatic 114, 3) := by decide +kernel
theorem dJ5_newCapacity_0f7a4_32 : decode cJ5_newCapacity_0f7a4 32 = .ok (.istore 5, 2) := by decide +kernel
theorem dJ5_newCapacity_0f7a4_34 : decode cJ5_newCapacity_0f7a4 34 = .ok (.iload 5, 2) := by decide +kernel
theorem dJ5_newCapacity_0f7a4_36 : decode cJ5_newCapacity_0f7a4 36 = .ok (.ldc 39, 2) := by decide +kernel
theorem dJ5_newCapacity_0f7a4_38 : decode cJ5_newCapacity_0f7a4 38 = .ok (.if_icmp .ne 13, 3) := by decide +kernel
theorem dJ5_newCapacity_0f7a4_41 : decode cJ5_newCapacity_0f7a4 41 = .ok (.new 120, 3) := by decide +kernel
theorem dJ5_newCapacity_0f7a4_44 : decode cJ5_newCapacity_0f7a4 44 = .ok (.dup, 1) := by decide +kernel
theorem dJ5_newCapacity_0f7a4_45 : decode cJ5_newCapacity_0f7a4 45 = .ok (.ldc 122, 2) := by decide +kernel
theorem dJ5_newCapacity_0f7a4_47 : decode cJ5_newCapacity_0f7a4 47 = .ok (.invokespecial 124, 3) := by decide +kernel
theorem dJ5_newCapacity_0f7a4_50 : decode cJ5_newCapacity_0f7a4 50 = .ok (.athrow, 1) := by decide +kernel
theorem dJ5_newCapacity_0f7a4_51 : decode cJ5_newCapacity_0f7a4 51 = .ok (.iload 5, 2) := by decide +kernel
theorem dJ5_newCapacity_0f7a4_53 : decode cJ5_newCapacity_0f7a4 53 = .ok (.aload_n 0, 1) := by decide +kernel
theorem dJ5_newCapacity_0f7a4_54 : decode cJ5_newCapacity_0f7a4 54 = .ok (.getfield 22, 3) := by decide +kernel
theorem dJ5_newCapacity_0f7a4_57 : decode cJ5_newCapacity_0f7a4 57 = .ok (.ishr, 1) := by decide +kernel
theorem dJ5_newCapacity_0f7a4_58 : decode cJ5_newCapacity_0f7a4 58 = .ok (.ireturn, 1) := by decide +kernel
set_option maxRecDepth 20000 in
theorem ggJ5_inflate_da8c8_J5_isLatin1_aae02 : GoodIn wsJ5_inflate_da8c8 wsJ5_isLatin1_aae02 := goodIn_r _ [9, 10, 3, 48, 49, 50, 51] (by decide +kernel) (by decide +kernel)
set_option maxRecDepth 20000 in
theorem gJ5_inflate_da8c8_J5_isLatin1_aae02_u83J4 : GoodIn wsJ5_inflate_da8c8 (va_wsU RJ5 83 RJ4 "java/lang/AbstractStringBuilder" ⟨"java/lang/AbstractStringBuilder", "isLatin1", "()Z"⟩ yJ5_isLatin1_aae02 wsJ5_isLatin1_aae02) := goodIn_app (goodIn_of _ (by decide +kernel)) ggJ5_inflate_da8c8_J5_isLatin1_aae02
set_option maxRecDepth 20000 in
theorem ggJ5_inflate_da8c8_J2_newBytesFor_77867 : GoodIn wsJ5_inflate_da8c8 wsJ2_newBytesFor_77867 := goodIn_r _ [14, 15, 16, 17, 13, 18, 19] (by decide +kernel) (by decide +kernel)
set_option maxRecDepth 20000 in
theorem gJ5_inflate_da8c8_J2_newBytesFor_77867 : GoodIn wsJ5_inflate_da8c8 (va_wsS RJ5 26 yJ2_newBytesFor_77867 wsJ2_newBytesFor_77867) := goodIn_app (goodIn_of _ (by decide +kernel)) ggJ5_inflate_da8c8_J2_newBytesFor_77867
set_option maxRecDepth 20000 in
theorem ggJ5_inflate_da8c8_J1_inflate_0e8fd : GoodIn wsJ5_inflate_da8c8 wsJ1_inflate_0e8fd := goodIn_r _ [23, 24, 25, 13, 26, 27, 28, 29, 30, 31, 32, 33, 34, 35, 36, 37, 38, 39, 40, 41, 42, 43, 44, 45, 46, 47] (by decide +kernel) (by decide +kernel)
set_option maxRecDepth 20000 in
theorem gJ5_inflate_da8c8_J1_inflate_0e8fd : GoodIn wsJ5_inflate_da8c8 (va_wsS RJ5 125 yJ1_inflate_0e8fd wsJ1_inflate_0e8fd) := goodIn_app (goodIn_of _ (by decide +kernel)) ggJ5_inflate_da8c8_J1_inflate_0e8fd
theorem dJ5_inflate_da8c8_0 : decode cJ5_inflate_da8c8 0 = .ok (.aload_n 0, 1) := by decide +kernel
theorem dJ5_inflate_da8c8_1 : decode cJ5_inflate_da8c8 1 = .ok (.invokevirtual 83, 3) := by decide +kernel
theorem dJ5_inflate_da8c8_4 : decode cJ5_inflate_da8c8 4 = .ok (.ifCond .ne 4, 3) := by decide +kernel
theorem dJ5_inflate_da8c8_7 : decode cJ5_inflate_da8c8 7 = .ok (.return_, 1) := by decide +kernel
theorem dJ5_inflate_da8c8_8 : decode cJ5_inflate_da8c8 8 = .ok (.aload_n 0, 1) := by decide +kernel
theorem dJ5_inflate_da8c8_9 : decode cJ5_inflate_da8c8 9 = .ok (.getfield 15, 3) := by decide +kernel
theorem dJ5_inflate_da8c8_12 : decode cJ5_inflate_da8c8 12 = .ok (.arraylength, 1) := by decide +kernel
theorem dJ5_inflate_da8c8_13 : decode cJ5_inflate_da8c8 13 = .ok (.invokestatic 26, 3) := by decide +kernel
theorem dJ5_inflate_da8c8_16 : decode cJ5_inflate_da8c8 16 = .ok (.astore_n 1, 1) := by decide +kernel
theorem dJ5_inflate_da8c8_17 : decode cJ5_inflate_da8c8 17 = .ok (.aload_n 0, 1) := by decide +kernel
theorem dJ5_inflate_da8c8_18 : decode cJ5_inflate_da8c8 18 = .ok (.getfield 15, 3) := by decide +kernel
theorem dJ5_inflate_da8c8_21 : decode cJ5_inflate_da8c8 21 = .ok (.iconst 0, 1) := by decide +kernel
theorem dJ5_inflate_da8c8_22 : decode cJ5_inflate_da8c8 22 = .ok (.aload_n 1, 1) := by decide +kernel
theorem dJ5_inflate_da8c8_23 : decode cJ5_inflate_da8c8 23 = .ok (.iconst 0, 1) := by decide +kernel
theorem dJ5_inflate_da8c8_24 : decode cJ5_inflate_da8c8 24 = .ok (.aload_n 0, 1) := by decide +kernel
theorem dJ5_inflate_da8c8_25 : decode cJ5_inflate_da8c8 25 = .ok (.getfield 79, 3) := by decide +kernel
theorem dJ5_inflate_da8c8_28 : decode cJ5_inflate_da8c8 28 = .ok (.invokestatic 125, 3) := by decide +kernel
theorem dJ5_inflate_da8c8_31 : decode cJ5_inflate_da8c8 31 = .ok (.aload_n 0, 1) := by decide +kernel
theorem dJ5_inflate_da8c8_32 : decode cJ5_inflate_da8c8 32 = .ok (.aload_n 1, 1) := by decide +kernel
theorem dJ5_inflate_da8c8_33 : decode cJ5_inflate_da8c8 33 = .ok (.putfield 15, 3) := by decide +kernel
theorem dJ5_inflate_da8c8_36 : decode cJ5_inflate_da8c8 36 = .ok (.aload_n 0, 1) := by decide +kernel
theorem dJ5_inflate_da8c8_37 : decode cJ5_inflate_da8c8 37 = .ok (.iconst 1, 1) := by decide +kernel
theorem dJ5_inflate_da8c8_38 : decode cJ5_inflate_da8c8 38 = .ok (.putfield 22, 3) := by decide +kernel
theorem dJ5_inflate_da8c8_41 : decode cJ5_inflate_da8c8 41 = .ok (.return_, 1) := by decide +kernel
set_option maxRecDepth 20000 in
theorem ggJ5_setLength_d00df_J5_ensureCapacityInternal_d00df : GoodIn wsJ5_setLength_d00df wsJ5_ensureCapacityInternal_d00df := goodIn_r _ [12, 5, 13, 14, 15, 16, 17, 11, 18, 19, 20, 21, 22, 23, 24, 25, 26, 27, 28, 29, 30, 31, 32, 33, 34, 35, 36, 37, 38, 39, 40, 41, 42, 43, 44, 45, 46, 47, 48, 49, 83, 84, 85, 86] (by decide +kernel) (by decide +kernel)
set_option maxRecDepth 20000 in
theorem gJ5_setLength_d00df_J5_ensureCapacityInternal_d00df_u100J4 : GoodIn wsJ5_setLength_d00df (va_wsU RJ5 100 RJ4 "java/lang/AbstractStringBuilder" ⟨"java/lang/AbstractStringBuilder", "ensureCapacityInternal", "(I)V"⟩ yJ5_ensureCapacityInternal_d00df wsJ5_ensureCapacityInternal_d00df) := goodIn_app (goodIn_of _ (by decide +kernel)) ggJ5_setLength_d00df_J5_ensureCapacityInternal_d00df
set_option maxRecDepth 20000 in
theorem ggJ5_setLength_d00df_J5_isLatin1_aae02 : GoodIn wsJ5_setLength_d00df wsJ5_isLatin1_aae02 := goodIn_r _ [54, 55, 13, 83, 84, 85, 86] (by decide +kernel) (by decide +kernel)
set_option maxRecDepth 20000 in
theorem gJ5_setLength_d00df_J5_isLatin1_aae02_u83J4 : GoodIn wsJ5_setLength_d00df (va_wsU RJ5 83 RJ4 "java/lang/AbstractStringBuilder" ⟨"java/lang/AbstractStringBuilder", "isLatin1", "()Z"⟩ yJ5_isLatin1_aae02 wsJ5_isLatin1_aae02) := goodIn_app (goodIn_of _ (by decide +kernel)) ggJ5_setLength_d00df_J5_isLatin1_aae02
set_option maxRecDepth 20000 in
theorem ggJ5_setLength_d00df_J1_fillNull_b72d1 : GoodIn wsJ5_setLength_d00df wsJ1_fillNull_b72d1 := goodIn_r _ [59, 60, 61, 34, 62, 63, 64, 65, 66, 67, 68, 69, 70, 71, 83, 84, 85, 86, 87, 88, 89, 90, 91, 92] (by decide +kernel) (by decide +kernel)
set_option maxRecDepth 20000 in
theorem gJ5_setLength_d00df_J1_fillNull_b72d1 : GoodIn wsJ5_setLength_d00df (va_wsS RJ5 133 yJ1_fillNull_b72d1 wsJ1_fillNull_b72d1) := goodIn_app (goodIn_of _ (by decide +kernel)) ggJ5_setLength_d00df_J1_fillNull_b72d1
set_option maxRecDepth 20000 in
theorem ggJ5_setLength_d00df_J2_fillNull_b72d1 : GoodIn wsJ5_setLength_d00df wsJ2_fillNull_b72d1 := goodIn_r _ [75, 76, 61, 34, 62, 63, 64, 65, 66, 67, 68, 69, 70, 71, 83, 84, 85, 86, 87, 88, 89, 90, 91, 92] (by decide +kernel) (by decide +kernel)
set_option maxRecDepth 20000 in
theorem gJ5_setLength_d00df_J2_fillNull_b72d1 : GoodIn wsJ5_setLength_d00df (va_wsS RJ5 137 yJ2_fillNull_b72d1 wsJ2_fillNull_b72d1) := goodIn_app (goodIn_of _ (by decide +kernel)) ggJ5_setLength_d00df_J2_fillNull_b72d1
theorem dJ5_setLength_d00df_0 : decode cJ5_setLength_d00df 0 = .ok (.iload_n 1, 1) := by decide +kernel
theorem dJ5_setLength_d00df_1 : decode cJ5_setLength_d00df 1 = .ok (.ifCond .ge 12, 3) := by decide +kernel
theorem dJ5_setLength_d00df_4 : decode cJ5_setLength_d00df 4 = .ok (.new 129, 3) := by decide +kernel
theorem dJ5_setLength_d00df_7 : decode cJ5_setLength_d00df 7 = .ok (.dup, 1) := by decide +kernel
theorem dJ5_setLength_d00df_8 : decode cJ5_setLength_d00df 8 = .ok (.iload_n 1, 1) := by decide +kernel
theorem dJ5_setLength_d00df_9 : decode cJ5_setLength_d00df 9 = .ok (.invokespecial 131, 3) := by decide +kernel
theorem dJ5_setLength_d00df_12 : decode cJ5_setLength_d00df 12 = .ok (.athrow, 1) := by decide +kernel
theorem dJ5_setLength_d00df_13 : decode cJ5_setLength_d00df 13 = .ok (.aload_n 0, 1) := by decide +kernel
theorem dJ5_setLength_d00df_14 : decode cJ5_setLength_d00df 14 = .ok (.iload_n 1, 1) := by decide +kernel
theorem dJ5_setLength_d00df_15 : decode cJ5_setLength_d00df 15 = .ok (.invokevirtual 100, 3) := by decide +kernel
theorem dJ5_setLength_d00df_18 : decode cJ5_setLength_d00df 18 = .ok (.aload_n 0, 1) := by decide +kernel
theorem dJ5_setLength_d00df_19 : decode cJ5_setLength_d00df 19 = .ok (.getfield 79, 3) := by decide +kernel
theorem dJ5_setLength_d00df_22 : decode cJ5_setLength_d00df 22 = .ok (.iload_n 1, 1) := by decide +kernel
theorem dJ5_setLength_d00df_23 : decode cJ5_setLength_d00df 23 = .ok (.if_icmp .ge 40, 3) := by decide +kernel
theorem dJ5_setLength_d00df_26 : decode cJ5_setLength_d00df 26 = .ok (.aload_n 0, 1) := by decide +kernel
theorem dJ5_setLength_d00df_27 : decode cJ5_setLength_d00df 27 = .ok (.invokevirtual 83, 3) := by decide +kernel
theorem dJ5_setLength_d00df_30 : decode cJ5_setLength_d00df 30 = .ok (.ifCond .eq 18, 3) := by decide +kernel
theorem dJ5_setLength_d00df_33 : decode cJ5_setLength_d00df 33 = .ok (.aload_n 0, 1) := by decide +kernel
theorem dJ5_setLength_d00df_34 : decode cJ5_setLength_d00df 34 = .ok (.getfield 15, 3) := by decide +kernel
theorem dJ5_setLength_d00df_37 : decode cJ5_setLength_d00df 37 = .ok (.aload_n 0, 1) := by decide +kernel
theorem dJ5_setLength_d00df_38 : decode cJ5_setLength_d00df 38 = .ok (.getfield 79, 3) := by decide +kernel
theorem dJ5_setLength_d00df_41 : decode cJ5_setLength_d00df 41 = .ok (.iload_n 1, 1) := by decide +kernel
theorem dJ5_setLength_d00df_42 : decode cJ5_setLength_d00df 42 = .ok (.invokestatic 133, 3) := by decide +kernel
theorem dJ5_setLength_d00df_45 : decode cJ5_setLength_d00df 45 = .ok (.goto 31, 3) := by decide +kernel
theorem dJ5_setLength_d00df_48 : decode cJ5_setLength_d00df 48 = .ok (.aload_n 0, 1) := by decide +kernel
theorem dJ5_setLength_d00df_49 : decode cJ5_setLength_d00df 49 = .ok (.getfield 15, 3) := by decide +kernel
theorem dJ5_setLength_d00df_52 : decode cJ5_setLength_d00df 52 = .ok (.aload_n 0, 1) := by decide +kernel
theorem dJ5_setLength_d00df_53 : decode cJ5_setLength_d00df 53 = .ok (.getfield 79, 3) := by decide +kernel
theorem dJ5_setLength_d00df_56 : decode cJ5_setLength_d00df 56 = .ok (.iload_n 1, 1) := by decide +kernel
theorem dJ5_setLength_d00df_57 : decode cJ5_setLength_d00df 57 = .ok (.invokestatic 137, 3) := by decide +kernel
theorem dJ5_setLength_d00df_60 : decode cJ5_setLength_d00df 60 = .ok (.goto 16, 3) := by decide +kernel
theorem dJ5_setLength_d00df_63 : decode cJ5_setLength_d00df 63 = .ok (.aload_n 0, 1) := by decide +kernel
theorem dJ5_setLength_d00df_64 : decode cJ5_setLength_d00df 64 = .ok (.getfield 79, 3) := by decide +kernel
theorem dJ5_setLength_d00df_67 : decode cJ5_setLength_d00df 67 = .ok (.iload_n 1, 1) := by decide +kernel
theorem dJ5_setLength_d00df_68 : decode cJ5_setLength_d00df 68 = .ok (.if_icmp .le 8, 3) := by decide +kernel
theorem dJ5_setLength_d00df_71 : decode cJ5_setLength_d00df 71 = .ok (.aload_n 0, 1) := by decide +kernel
theorem dJ5_setLength_d00df_72 : decode cJ5_setLength_d00df 72 = .ok (.iconst 1, 1) := by decide +kernel
theorem dJ5_setLength_d00df_73 : decode cJ5_setLength_d00df 73 = .ok (.putfield 73, 3) := by decide +kernel
theorem dJ5_setLength_d00df_76 : decode cJ5_setLength_d00df 76 = .ok (.aload_n 0, 1) := by decide +kernel
theorem dJ5_setLength_d00df_77 : decode cJ5_setLength_d00df 77 = .ok (.iload_n 1, 1) := by decide +kernel
theorem dJ5_setLength_d00df_78 : decode cJ5_setLength_d00df 78 = .ok (.putfield 79, 3) := by decide +kernel
theorem dJ5_setLength_d00df_81 : decode cJ5_setLength_d00df 81 = .ok (.return_, 1) := by decide +kernel
set_option maxRecDepth 20000 in
theorem ggJ5_charAt_5068e_J0_checkIndex_df160 : GoodIn wsJ5_charAt_5068e wsJ0_checkIndex_df160 := goodIn_r _ [11, 12, 13, 14, 15, 16] (by decide +kernel) (by decide +kernel)
set_option maxRecDepth 20000 in
theorem gJ5_charAt_5068e_J0_checkIndex_df160 : GoodIn wsJ5_charAt_5068e (va_wsS RJ5 144 yJ0_checkIndex_df160 wsJ0_checkIndex_df160) := goodIn_app (goodIn_of _ (by decide +kernel)) ggJ5_charAt_5068e_J0_checkIndex_df160
set_option maxRecDepth 20000 in
theorem ggJ5_charAt_5068e_J2_getChar_3b067 : GoodIn wsJ5_charAt_5068e wsJ2_getChar_3b067 := goodIn_r _ [20, 21, 22, 23, 24, 25, 19, 26] (by decide +kernel) (by decide +kernel)
set_option maxRecDepth 20000 in
theorem gJ5_charAt_5068e_J2_getChar_3b067 : GoodIn wsJ5_charAt_5068e (va_wsS RJ5 148 yJ2_getChar_3b067 wsJ2_getChar_3b067) := goodIn_app (goodIn_of _ (by decide +kernel)) ggJ5_charAt_5068e_J2_getChar_3b067
theorem dJ5_charAt_5068e_0 : decode cJ5_charAt_5068e 0 = .ok (.aload_n 0, 1) := by decide +kernel
theorem dJ5_charAt_5068e_1 : decode cJ5_charAt_5068e 1 = .ok (.getfield 22, 3) := by decide +kernel
theorem dJ5_charAt_5068e_4 : decode cJ5_charAt_5068e 4 = .ok (.istore_n 2, 1) := by decide +kernel
theorem dJ5_charAt_5068e_5 : decode cJ5_charAt_5068e 5 = .ok (.aload_n 0, 1) := by decide +kernel
theorem dJ5_charAt_5068e_6 : decode cJ5_charAt_5068e 6 = .ok (.getfield 15, 3) := by decide +kernel
theorem dJ5_charAt_5068e_9 : decode cJ5_charAt_5068e 9 = .ok (.astore_n 3, 1) := by decide +kernel
theorem dJ5_charAt_5068e_10 : decode cJ5_charAt_5068e 10 = .ok (.aload_n 0, 1) := by decide +kernel
theorem dJ5_charAt_5068e_11 : decode cJ5_charAt_5068e 11 = .ok (.getfield 79, 3) := by decide +kernel
theorem dJ5_charAt_5068e_14 : decode cJ5_charAt_5068e 14 = .ok (.aload_n 3, 1) := by decide +kernel
theorem dJ5_charAt_5068e_15 : decode cJ5_charAt_5068e 15 = .ok (.arraylength, 1) := by decide +kernel
theorem dJ5_charAt_5068e_16 : decode cJ5_charAt_5068e 16 = .ok (.iload_n 2, 1) := by decide +kernel
theorem dJ5_charAt_5068e_17 : decode cJ5_charAt_5068e 17 = .ok (.ishr, 1) := by decide +kernel
theorem dJ5_charAt_5068e_18 : decode cJ5_charAt_5068e 18 = .ok (.invokestatic 138, 3) := by decide +kernel
theorem dJ5_charAt_5068e_21 : decode cJ5_charAt_5068e 21 = .ok (.istore 4, 2) := by decide +kernel
theorem dJ5_charAt_5068e_23 : decode cJ5_charAt_5068e 23 = .ok (.iload_n 1, 1) := by decide +kernel
theorem dJ5_charAt_5068e_24 : decode cJ5_charAt_5068e 24 = .ok (.iload 4, 2) := by decide +kernel
theorem dJ5_charAt_5068e_26 : decode cJ5_charAt_5068e 26 = .ok (.invokestatic 144, 3) := by decide +kernel
theorem dJ5_charAt_5068e_29 : decode cJ5_charAt_5068e 29 = .ok (.iload_n 2, 1) := by decide +kernel
theorem dJ5_charAt_5068e_30 : decode cJ5_charAt_5068e 30 = .ok (.ifCond .ne 12, 3) := by decide +kernel
theorem dJ5_charAt_5068e_33 : decode cJ5_charAt_5068e 33 = .ok (.aload_n 3, 1) := by decide +kernel
theorem dJ5_charAt_5068e_34 : decode cJ5_charAt_5068e 34 = .ok (.iload_n 1, 1) := by decide +kernel
theorem dJ5_charAt_5068e_35 : decode cJ5_charAt_5068e 35 = .ok (.baload, 1) := by decide +kernel
theorem dJ5_charAt_5068e_36 : decode cJ5_charAt_5068e 36 = .ok (.sipush 255, 3) := by decide +kernel
theorem dJ5_charAt_5068e_39 : decode cJ5_charAt_5068e 39 = .ok (.iand, 1) := by decide +kernel
theorem dJ5_charAt_5068e_40 : decode cJ5_charAt_5068e 40 = .ok (.i2c, 1) := by decide +kernel
theorem dJ5_charAt_5068e_41 : decode cJ5_charAt_5068e 41 = .ok (.ireturn, 1) := by decide +kernel
theorem dJ5_charAt_5068e_42 : decode cJ5_charAt_5068e 42 = .ok (.aload_n 3, 1) := by decide +kernel
theorem dJ5_charAt_5068e_43 : decode cJ5_charAt_5068e 43 = .ok (.iload_n 1, 1) := by decide +kernel
theorem dJ5_charAt_5068e_44 : decode cJ5_charAt_5068e 44 = .ok (.invokestatic 148, 3) := by decide +kernel
theorem dJ5_charAt_5068e_47 : decode cJ5_charAt_5068e 47 = .ok (.ireturn, 1) := by decide +kernel
set_option maxRecDepth 20000 in
theorem ggJ5_append_cf1ce_J5_appendNull_278bc : GoodIn wsJ5_append_cf1ce wsJ5_appendNull_278bc := goodIn_r _ [7, 1, 8, 9, 10, 11, 12, 6, 13, 14, 15, 16, 17, 18, 19, 20, 21, 22, 23, 24, 25, 26, 27, 28, 29, 30, 31, 32, 33, 34, 35, 36, 37, 38, 39, 40, 41, 42, 43, 44, 45, 46, 47, 48, 49, 50, 51, 52, 53, 54, 55, 56, 57, 58, 59, 60, 61, 62, 63, 64, 65, 66, 67, 68, 69, 70, 71, 72, 73, 74, 75, 76, 77, 78, 79, 80, 81, 138, 139, 140, 141] (by decide +kernel) (by decide +kernel)
set_option maxRecDepth 20000 in
theorem gJ5_append_cf1ce_J5_appendNull_278bc_u204J4 : GoodIn wsJ5_append_cf1ce (va_wsU RJ5 204 RJ4 "java/lang/AbstractStringBuilder" ⟨"java/lang/AbstractStringBuilder", "appendNull", "()Ljava/lang/AbstractStringBuilder;"⟩ yJ5_appendNull_278bc wsJ5_appendNull_278bc) := goodIn_app (goodIn_of _ (by decide +kernel)) ggJ5_append_cf1ce_J5_appendNull_278bc
set_option maxRecDepth 20000 in
theorem ggJ5_append_cf1ce_J0_length_8abf5 : GoodIn wsJ5_append_cf1ce wsJ0_length_8abf5 := goodIn_r _ [85, 86, 87, 88, 89, 70, 90, 91, 92, 142, 143, 144, 145] (by decide +kernel) (by decide +kernel)
set_option maxRecDepth 20000 in
theorem gJ5_append_cf1ce_J0_length_8abf5 : GoodIn wsJ5_append_cf1ce (wsV RJ5 32 RJ0 yJ0_length_8abf5 wsJ0_length_8abf5) := goodIn_app (goodIn_of _ (by decide +kernel)) ggJ5_append_cf1ce_J0_length_8abf5
set_option maxRecDepth 20000 in
theorem ggJ5_append_cf1ce_J5_ensureCapacityInternal_d00df : GoodIn wsJ5_append_cf1ce wsJ5_ensureCapacityInternal_d00df := goodIn_r _ [13, 8, 14, 15, 16, 17, 18, 6, 19, 20, 21, 22, 23, 24, 25, 26, 27, 28, 29, 30, 31, 32, 33, 34, 35, 36, 37, 38, 39, 40, 41, 42, 43, 44, 45, 46, 47, 48, 49, 50, 138, 139, 140, 141] (by decide +kernel) (by decide +kernel)
set_option maxRecDepth 20000 in
theorem gJ5_append_cf1ce_J5_ensureCapacityInternal_d00df_u100J4 : GoodIn wsJ5_append_cf1ce (va_wsU RJ5 100 RJ4 "java/lang/AbstractStringBuilder" ⟨"java/lang/AbstractStringBuilder", "ensureCapacityInternal", "(I)V"⟩ yJ5_ensureCapacityInternal_d00df wsJ5_ensureCapacityInternal_d00df) := goodIn_app (goodIn_of _ (by decide +kernel)) ggJ5_append_cf1ce_J5_ensureCapacityInternal_d00df
set_option maxRecDepth 20000 in
theorem ggJ5_append_cf1ce_J5_putStringAt_47b60 : GoodIn wsJ5_append_cf1ce wsJ5_putStringAt_47b60 := goodIn_r _ [97, 8, 14, 98, 99, 100, 101, 6, 102, 56, 103, 88, 89, 70, 90, 91, 92, 104, 105, 106, 107, 108, 1, 51, 52, 53, 54, 55, 109, 110, 59, 111, 43, 112, 113, 114, 115, 116, 117, 118, 119, 120, 121, 122, 123, 124, 125, 65, 66, 67, 126, 127, 128, 72, 129, 130, 75, 131, 77, 78, 79, 61, 80, 81, 132, 133, 134, 135, 86, 136, 48, 49, 50, 87, 137, 138, 139, 140, 141, 142, 143, 144, 145] (by decide +kernel) (by decide +kernel)
set_option maxRecDepth 20000 in
theorem gJ5_append_cf1ce_J5_putStringAt_47b60_u208J4 : GoodIn wsJ5_append_cf1ce (va_wsU RJ5 208 RJ4 "java/lang/AbstractStringBuilder" ⟨"java/lang/AbstractStringBuilder", "putStringAt", "(ILjava/lang/String;)V"⟩ yJ5_putStringAt_47b60 wsJ5_putStringAt_47b60) := goodIn_app (goodIn_of _ (by decide +kernel)) ggJ5_append_cf1ce_J5_putStringAt_47b60
theorem dJ5_append_cf1ce_0 : decode cJ5_append_cf1ce 0 = .ok (.aload_n 1, 1) := by decide +kernel
theorem dJ5_append_cf1ce_1 : decode cJ5_append_cf1ce 1 = .ok (.ifnonnull 8, 3) := by decide +kernel
theorem dJ5_append_cf1ce_4 : decode cJ5_append_cf1ce 4 = .ok (.aload_n 0, 1) := by decide +kernel
theorem dJ5_append_cf1ce_5 : decode cJ5_append_cf1ce 5 = .ok (.invokevirtual 204, 3) := by decide +kernel
theorem dJ5_append_cf1ce_8 : decode cJ5_append_cf1ce 8 = .ok (.areturn, 1) := by decide +kernel
theorem dJ5_append_cf1ce_9 : decode cJ5_append_cf1ce 9 = .ok (.aload_n 1, 1) := by decide +kernel
theorem dJ5_append_cf1ce_10 : decode cJ5_append_cf1ce 10 = .ok (.invokevirtual 32, 3) := by decide +kernel
theorem dJ5_append_cf1ce_13 : decode cJ5_append_cf1ce 13 = .ok (.istore_n 2, 1) := by decide +kernel
theorem dJ5_append_cf1ce_14 : decode cJ5_append_cf1ce 14 = .ok (.aload_n 0, 1) := by decide +kernel
theorem dJ5_append_cf1ce_15 : decode cJ5_append_cf1ce 15 = .ok (.aload_n 0, 1) := by decide +kernel
theorem dJ5_append_cf1ce_16 : decode cJ5_append_cf1ce 16 = .ok (.getfield 79, 3) := by decide +kernel
theorem dJ5_append_cf1ce_19 : decode cJ5_append_cf1ce 19 = .ok (.iload_n 2, 1) := by decide +kernel
theorem dJ5_append_cf1ce_20 : decode cJ5_append_cf1ce 20 = .ok (.iadd, 1) := by decide +kernel
theorem dJ5_append_cf1ce_21 : decode cJ5_append_cf1ce 21 = .ok (.invokevirtual 100, 3) := by decide +kernel
theorem dJ5_append_cf1ce_24 : decode cJ5_append_cf1ce 24 = .ok (.aload_n 0, 1) := by decide +kernel
theorem dJ5_append_cf1ce_25 : decode cJ5_append_cf1ce 25 = .ok (.aload_n 0, 1) := by decide +kernel
theorem dJ5_append_cf1ce_26 : decode cJ5_append_cf1ce 26 = .ok (.getfield 79, 3) := by decide +kernel
theorem dJ5_append_cf1ce_29 : decode cJ5_append_cf1ce 29 = .ok (.aload_n 1, 1) := by decide +kernel
theorem dJ5_append_cf1ce_30 : decode cJ5_append_cf1ce 30 = .ok (.invokevirtual 208, 3) := by decide +kernel
theorem dJ5_append_cf1ce_33 : decode cJ5_append_cf1ce 33 = .ok (.aload_n 0, 1) := by decide +kernel
theorem dJ5_append_cf1ce_34 : decode cJ5_append_cf1ce 34 = .ok (.dup, 1) := by decide +kernel
theorem dJ5_append_cf1ce_35 : decode cJ5_append_cf1ce 35 = .ok (.getfield 79, 3) := by decide +kernel
theorem dJ5_append_cf1ce_38 : decode cJ5_append_cf1ce 38 = .ok (.iload_n 2, 1) := by decide +kernel
theorem dJ5_append_cf1ce_39 : decode cJ5_append_cf1ce 39 = .ok (.iadd, 1) := by decide +kernel
theorem dJ5_append_cf1ce_40 : decode cJ5_append_cf1ce 40 = .ok (.putfield 79, 3) := by decide +kernel
theorem dJ5_append_cf1ce_43 : decode cJ5_append_cf1ce 43 = .ok (.aload_n 0, 1) := by decide +kernel
theorem dJ5_append_cf1ce_44 : decode cJ5_append_cf1ce 44 = .ok (.areturn, 1) := by decide +kernel
set_option maxRecDepth 20000 in
theorem ggJ5_appendNull_278bc_J5_ensureCapacityInternal_d00df : GoodIn wsJ5_appendNull_278bc wsJ5_ensureCapacityInternal_d00df := goodIn_r _ [8, 2, 9, 10, 11, 12, 13, 7, 14, 15, 16, 17, 18, 19, 20, 21, 22, 23, 24, 25, 26, 27, 28, 29, 30, 31, 32, 33, 34, 35, 36, 37, 38, 39, 40, 41, 42, 43, 44, 45, 77, 78, 79, 80] (by decide +kernel) (by decide +kernel)
set_option maxRecDepth 20000 in
theorem gJ5_appendNull_278bc_J5_ensureCapacityInternal_d00df_u100J4 : GoodIn wsJ5_appendNull_278bc (va_wsU RJ5 100 RJ4 "java/lang/AbstractStringBuilder" ⟨"java/lang/AbstractStringBuilder", "ensureCapacityInternal", "(I)V"⟩ yJ5_ensureCapacityInternal_d00df wsJ5_ensureCapacityInternal_d00df) := goodIn_app (goodIn_of _ (by decide +kernel)) ggJ5_appendNull_278bc_J5_ensureCapacityInternal_d00df
set_option maxRecDepth 20000 in
theorem ggJ5_appendNull_278bc_J5_isLatin1_aae02 : GoodIn wsJ5_appendNull_278bc wsJ5_isLatin1_aae02 := goodIn_r _ [50, 51, 9, 77, 78, 79, 80] (by decide +kernel) (by decide +kernel)
set_option maxRecDepth 20000 in
theorem gJ5_appendNull_278bc_J5_isLatin1_aae02_u83J4 : GoodIn wsJ5_appendNull_278bc (va_wsU RJ5 83 RJ4 "java/lang/AbstractStringBuilder" ⟨"java/lang/AbstractStringBuilder", "isLatin1", "()Z"⟩ yJ5_isLatin1_aae02 wsJ5_isLatin1_aae02) := goodIn_app (goodIn_of _ (by decide +kernel)) ggJ5_appendNull_278bc_J5_isLatin1_aae02
set_option maxRecDepth 20000 in
theorem ggJ5_appendNull_278bc_J2_putCharsAt_cd4e5 : GoodIn wsJ5_appendNull_278bc wsJ2_putCharsAt_cd4e5 := goodIn_r _ [55, 56, 57, 58, 54, 59, 60, 61, 62, 63, 64, 65, 66, 67, 68, 69, 70, 71, 72, 73, 74, 75, 76] (by decide +kernel) (by decide +kernel)
set_option maxRecDepth 20000 in
theorem gJ5_appendNull_278bc_J2_putCharsAt_cd4e5 : GoodIn wsJ5_appendNull_278bc (va_wsS RJ5 226 yJ2_putCharsAt_cd4e5 wsJ2_putCharsAt_cd4e5) := goodIn_app (goodIn_of _ (by decide +kernel)) ggJ5_appendNull_278bc_J2_putCharsAt_cd4e5
theorem dJ5_appendNull_278bc_0 : decode cJ5_appendNull_278bc 0 = .ok (.aload_n 0, 1) := by decide +kernel
theorem dJ5_appendNull_278bc_1 : decode cJ5_appendNull_278bc 1 = .ok (.aload_n 0, 1) := by decide +kernel
theorem dJ5_appendNull_278bc_2 : decode cJ5_appendNull_278bc 2 = .ok (.getfield 79, 3) := by decide +kernel
theorem dJ5_appendNull_278bc_5 : decode cJ5_appendNull_278bc 5 = .ok (.iconst 4, 1) := by decide +kernel
theorem dJ5_appendNull_278bc_6 : decode cJ5_appendNull_278bc 6 = .ok (.iadd, 1) := by decide +kernel
theorem dJ5_appendNull_278bc_7 : decode cJ5_appendNull_278bc 7 = .ok (.invokevirtual 100, 3) := by decide +kernel
theorem dJ5_appendNull_278bc_10 : decode cJ5_appendNull_278bc 10 = .ok (.aload_n 0, 1) := by decide +kernel
theorem dJ5_appendNull_278bc_11 : decode cJ5_appendNull_278bc 11 = .ok (.getfield 79, 3) := by decide +kernel
theorem dJ5_appendNull_278bc_14 : decode cJ5_appendNull_278bc 14 = .ok (.istore_n 1, 1) := by decide +kernel
theorem dJ5_appendNull_278bc_15 : decode cJ5_appendNull_278bc 15 = .ok (.aload_n 0, 1) := by decide +kernel
theorem dJ5_appendNull_278bc_16 : decode cJ5_appendNull_278bc 16 = .ok (.getfield 15, 3) := by decide +kernel
theorem dJ5_appendNull_278bc_19 : decode cJ5_appendNull_278bc 19 = .ok (.astore_n 2, 1) := by decide +kernel
theorem dJ5_appendNull_278bc_20 : decode cJ5_appendNull_278bc 20 = .ok (.aload_n 0, 1) := by decide +kernel
theorem dJ5_appendNull_278bc_21 : decode cJ5_appendNull_278bc 21 = .ok (.invokevirtual 83, 3) := by decide +kernel
theorem dJ5_appendNull_278bc_24 : decode cJ5_appendNull_278bc 24 = .ok (.ifCond .eq 38, 3) := by decide +kernel
theorem dJ5_appendNull_278bc_27 : decode cJ5_appendNull_278bc 27 = .ok (.aload_n 2, 1) := by decide +kernel
theorem dJ5_appendNull_278bc_28 : decode cJ5_appendNull_278bc 28 = .ok (.iload_n 1, 1) := by decide +kernel
theorem dJ5_appendNull_278bc_29 : decode cJ5_appendNull_278bc 29 = .ok (.iinc 1 1, 3) := by decide +kernel
theorem dJ5_appendNull_278bc_32 : decode cJ5_appendNull_278bc 32 = .ok (.bipush 110, 2) := by decide +kernel
theorem dJ5_appendNull_278bc_34 : decode cJ5_appendNull_278bc 34 = .ok (.bastore, 1) := by decide +kernel
theorem dJ5_appendNull_278bc_35 : decode cJ5_appendNull_278bc 35 = .ok (.aload_n 2, 1) := by decide +kernel
theorem dJ5_appendNull_278bc_36 : decode cJ5_appendNull_278bc 36 = .ok (.iload_n 1, 1) := by decide +kernel
theorem dJ5_appendNull_278bc_37 : decode cJ5_appendNull_278bc 37 = .ok (.iinc 1 1, 3) := by decide +kernel
theorem dJ5_appendNull_278bc_40 : decode cJ5_appendNull_278bc 40 = .ok (.bipush 117, 2) := by decide +kernel
theorem dJ5_appendNull_278bc_42 : decode cJ5_appendNull_278bc 42 = .ok (.bastore, 1) := by decide +kernel
theorem dJ5_appendNull_278bc_43 : decode cJ5_appendNull_278bc 43 = .ok (.aload_n 2, 1) := by decide +kernel
theorem dJ5_appendNull_278bc_44 : decode cJ5_appendNull_278bc 44 = .ok (.iload_n 1, 1) := by decide +kernel
theorem dJ5_appendNull_278bc_45 : decode cJ5_appendNull_278bc 45 = .ok (.iinc 1 1, 3) := by decide +kernel
theorem dJ5_appendNull_278bc_48 : decode cJ5_appendNull_278bc 48 = .ok (.bipush 108, 2) := by decide +kernel
theorem dJ5_appendNull_278bc_50 : decode cJ5_appendNull_278bc 50 = .ok (.bastore, 1) := by decide +kernel
theorem dJ5_appendNull_278bc_51 : decode cJ5_appendNull_278bc 51 = .ok (.aload_n 2, 1) := by decide +kernel
theorem dJ5_appendNull_278bc_52 : decode cJ5_appendNull_278bc 52 = .ok (.iload_n 1, 1) := by decide +kernel
theorem dJ5_appendNull_278bc_53 : decode cJ5_appendNull_278bc 53 = .ok (.iinc 1 1, 3) := by decide +kernel
theorem dJ5_appendNull_278bc_56 : decode cJ5_appendNull_278bc 56 = .ok (.bipush 108, 2) := by decide +kernel
theorem dJ5_appendNull_278bc_58 : decode cJ5_appendNull_278bc 58 = .ok (.bastore, 1) := by decide +kernel
theorem dJ5_appendNull_278bc_59 : decode cJ5_appendNull_278bc 59 = .ok (.goto 17, 3) := by decide +kernel
theorem dJ5_appendNull_278bc_62 : decode cJ5_appendNull_278bc 62 = .ok (.aload_n 2, 1) := by decide +kernel
theorem dJ5_appendNull_278bc_63 : decode cJ5_appendNull_278bc 63 = .ok (.iload_n 1, 1) := by decide +kernel
theorem dJ5_appendNull_278bc_64 : decode cJ5_appendNull_278bc 64 = .ok (.bipush 110, 2) := by decide +kernel
theorem dJ5_appendNull_278bc_66 : decode cJ5_appendNull_278bc 66 = .ok (.bipush 117, 2) := by decide +kernel
theorem dJ5_appendNull_278bc_68 : decode cJ5_appendNull_278bc 68 = .ok (.bipush 108, 2) := by decide +kernel
theorem dJ5_appendNull_278bc_70 : decode cJ5_appendNull_278bc 70 = .ok (.bipush 108, 2) := by decide +kernel
theorem dJ5_appendNull_278bc_72 : decode cJ5_appendNull_278bc 72 = .ok (.invokestatic 226, 3) := by decide +kernel
theorem dJ5_appendNull_278bc_75 : decode cJ5_appendNull_278bc 75 = .ok (.istore_n 1, 1) := by decide +kernel
theorem dJ5_appendNull_278bc_76 : decode cJ5_appendNull_278bc 76 = .ok (.aload_n 0, 1) := by decide +kernel
theorem dJ5_appendNull_278bc_77 : decode cJ5_appendNull_278bc 77 = .ok (.iload_n 1, 1) := by decide +kernel
theorem dJ5_appendNull_278bc_78 : decode cJ5_appendNull_278bc 78 = .ok (.putfield 79, 3) := by decide +kernel
theorem dJ5_appendNull_278bc_81 : decode cJ5_appendNull_278bc 81 = .ok (.aload_n 0, 1) := by decide +kernel
theorem dJ5_appendNull_278bc_82 : decode cJ5_appendNull_278bc 82 = .ok (.areturn, 1) := by decide +kernel
set_option maxRecDepth 20000 in
theorem ggJ5_append_3fe6f_J5_ensureCapacityInternal_d00df : GoodIn wsJ5_append_3fe6f wsJ5_ensureCapacityInternal_d00df := goodIn_r _ [8, 2, 9, 10, 11, 12, 13, 7, 14, 15, 16, 17, 18, 19, 20, 21, 22, 23, 24, 25, 26, 27, 28, 29, 30, 31, 32, 33, 34, 35, 36, 37, 38, 39, 40, 41, 42, 43, 44, 45, 108, 109, 110, 111] (by decide +kernel) (by decide +kernel)
set_option maxRecDepth 20000 in
theorem gJ5_append_3fe6f_J5_ensureCapacityInternal_d00df_u100J4 : GoodIn wsJ5_append_3fe6f (va_wsU RJ5 100 RJ4 "java/lang/AbstractStringBuilder" ⟨"java/lang/AbstractStringBuilder", "ensureCapacityInternal", "(I)V"⟩ yJ5_ensureCapacityInternal_d00df wsJ5_ensureCapacityInternal_d00df) := goodIn_app (goodIn_of _ (by decide +kernel)) ggJ5_append_3fe6f_J5_ensureCapacityInternal_d00df
set_option maxRecDepth 20000 in
theorem ggJ5_append_3fe6f_J5_isLatin1_aae02 : GoodIn wsJ5_append_3fe6f wsJ5_isLatin1_aae02 := goodIn_r _ [50, 51, 9, 108, 109, 110, 111] (by decide +kernel) (by decide +kernel)
set_option maxRecDepth 20000 in
theorem gJ5_append_3fe6f_J5_isLatin1_aae02_u83J4 : GoodIn wsJ5_append_3fe6f (va_wsU RJ5 83 RJ4 "java/lang/AbstractStringBuilder" ⟨"java/lang/AbstractStringBuilder", "isLatin1", "()Z"⟩ yJ5_isLatin1_aae02 wsJ5_isLatin1_aae02) := goodIn_app (goodIn_of _ (by decide +kernel)) ggJ5_append_3fe6f_J5_isLatin1_aae02
set_option maxRecDepth 20000 in
theorem ggJ5_append_3fe6f_J1_canEncode_fc78d : GoodIn wsJ5_append_3fe6f wsJ1_canEncode_fc78d := goodIn_r _ [55] (by decide +kernel) (by decide +kernel)
set_option maxRecDepth 20000 in
theorem gJ5_append_3fe6f_J1_canEncode_fc78d : GoodIn wsJ5_append_3fe6f (va_wsS RJ5 191 yJ1_canEncode_fc78d wsJ1_canEncode_fc78d) := goodIn_app (goodIn_of _ (by decide +kernel)) ggJ5_append_3fe6f_J1_canEncode_fc78d
set_option maxRecDepth 20000 in
theorem ggJ5_append_3fe6f_J5_inflate_da8c8 : GoodIn wsJ5_append_3fe6f wsJ5_inflate_da8c8 := goodIn_r _ [60, 2, 1, 9, 46, 47, 48, 49, 7, 50, 51, 61, 62, 63, 64, 38, 65, 66, 67, 68, 69, 70, 54, 71, 72, 73, 74, 75, 76, 77, 78, 79, 80, 81, 82, 83, 84, 85, 86, 87, 88, 89, 90, 91, 92, 93, 94, 95, 108, 109, 110, 111] (by decide +kernel) (by decide +kernel)
set_option maxRecDepth 20000 in
theorem gJ5_append_3fe6f_J5_inflate_da8c8_u195J4 : GoodIn wsJ5_append_3fe6f (va_wsU RJ5 195 RJ4 "java/lang/AbstractStringBuilder" ⟨"java/lang/AbstractStringBuilder", "inflate", "()V"⟩ yJ5_inflate_da8c8 wsJ5_inflate_da8c8) := goodIn_app (goodIn_of _ (by decide +kernel)) ggJ5_append_3fe6f_J5_inflate_da8c8
set_option maxRecDepth 20000 in
theorem ggJ5_append_3fe6f_J2_putCharSB_b72d1 : GoodIn wsJ5_append_3fe6f wsJ2_putCharSB_b72d1 := goodIn_r _ [98, 99, 100, 63, 101, 78, 79, 80, 102, 103, 83, 104, 85, 105, 106, 88, 107, 90, 91, 92, 93, 94, 95] (by decide +kernel) (by decide +kernel)
set_option maxRecDepth 20000 in
theorem gJ5_append_3fe6f_J2_putCharSB_b72d1 : GoodIn wsJ5_append_3fe6f (va_wsS RJ5 197 yJ2_putCharSB_b72d1 wsJ2_putCharSB_b72d1) := goodIn_app (goodIn_of _ (by decide +kernel)) ggJ5_append_3fe6f_J2_putCharSB_b72d1
theorem dJ5_append_3fe6f_0 : decode cJ5_append_3fe6f 0 = .ok (.aload_n 0, 1) := by decide +kernel
theorem dJ5_append_3fe6f_1 : decode cJ5_append_3fe6f 1 = .ok (.aload_n 0, 1) := by decide +kernel
theorem dJ5_append_3fe6f_2 : decode cJ5_append_3fe6f 2 = .ok (.getfield 79, 3) := by decide +kernel
theorem dJ5_append_3fe6f_5 : decode cJ5_append_3fe6f 5 = .ok (.iconst 1, 1) := by decide +kernel
theorem dJ5_append_3fe6f_6 : decode cJ5_append_3fe6f 6 = .ok (.iadd, 1) := by decide +kernel
theorem dJ5_append_3fe6f_7 : decode cJ5_append_3fe6f 7 = .ok (.invokevirtual 100, 3) := by decide +kernel
theorem dJ5_append_3fe6f_10 : decode cJ5_append_3fe6f 10 = .ok (.aload_n 0, 1) := by decide +kernel
theorem dJ5_append_3fe6f_11 : decode cJ5_append_3fe6f 11 = .ok (.invokevirtual 83, 3) := by decide +kernel
theorem dJ5_append_3fe6f_14 : decode cJ5_append_3fe6f 14 = .ok (.ifCond .eq 31, 3) := by decide +kernel
theorem dJ5_append_3fe6f_17 : decode cJ5_append_3fe6f 17 = .ok (.iload_n 1, 1) := by decide +kernel
theorem dJ5_append_3fe6f_18 : decode cJ5_append_3fe6f 18 = .ok (.invokestatic 191, 3) := by decide +kernel
theorem dJ5_append_3fe6f_21 : decode cJ5_append_3fe6f 21 = .ok (.ifCond .eq 24, 3) := by decide +kernel
theorem dJ5_append_3fe6f_24 : decode cJ5_append_3fe6f 24 = .ok (.aload_n 0, 1) := by decide +kernel
theorem dJ5_append_3fe6f_25 : decode cJ5_append_3fe6f 25 = .ok (.getfield 15, 3) := by decide +kernel
theorem dJ5_append_3fe6f_28 : decode cJ5_append_3fe6f 28 = .ok (.aload_n 0, 1) := by decide +kernel
theorem dJ5_append_3fe6f_29 : decode cJ5_append_3fe6f 29 = .ok (.dup, 1) := by decide +kernel
theorem dJ5_append_3fe6f_30 : decode cJ5_append_3fe6f 30 = .ok (.getfield 79, 3) := by decide +kernel
theorem dJ5_append_3fe6f_33 : decode cJ5_append_3fe6f 33 = .ok (.dup_x1, 1) := by decide +kernel
theorem dJ5_append_3fe6f_34 : decode cJ5_append_3fe6f 34 = .ok (.iconst 1, 1) := by decide +kernel
theorem dJ5_append_3fe6f_35 : decode cJ5_append_3fe6f 35 = .ok (.iadd, 1) := by decide +kernel
theorem dJ5_append_3fe6f_36 : decode cJ5_append_3fe6f 36 = .ok (.putfield 79, 3) := by decide +kernel
theorem dJ5_append_3fe6f_39 : decode cJ5_append_3fe6f 39 = .ok (.iload_n 1, 1) := by decide +kernel
theorem dJ5_append_3fe6f_40 : decode cJ5_append_3fe6f 40 = .ok (.i2b, 1) := by decide +kernel
theorem dJ5_append_3fe6f_41 : decode cJ5_append_3fe6f 41 = .ok (.bastore, 1) := by decide +kernel
theorem dJ5_append_3fe6f_42 : decode cJ5_append_3fe6f 42 = .ok (.goto 33, 3) := by decide +kernel
theorem dJ5_append_3fe6f_45 : decode cJ5_append_3fe6f 45 = .ok (.aload_n 0, 1) := by decide +kernel
theorem dJ5_append_3fe6f_46 : decode cJ5_append_3fe6f 46 = .ok (.invokevirtual 83, 3) := by decide +kernel
theorem dJ5_append_3fe6f_49 : decode cJ5_append_3fe6f 49 = .ok (.ifCond .eq 7, 3) := by decide +kernel
theorem dJ5_append_3fe6f_52 : decode cJ5_append_3fe6f 52 = .ok (.aload_n 0, 1) := by decide +kernel
theorem dJ5_append_3fe6f_53 : decode cJ5_append_3fe6f 53 = .ok (.invokevirtual 195, 3) := by decide +kernel
theorem dJ5_append_3fe6f_56 : decode cJ5_append_3fe6f 56 = .ok (.aload_n 0, 1) := by decide +kernel
theorem dJ5_append_3fe6f_57 : decode cJ5_append_3fe6f 57 = .ok (.getfield 15, 3) := by decide +kernel
theorem dJ5_append_3fe6f_60 : decode cJ5_append_3fe6f 60 = .ok (.aload_n 0, 1) := by decide +kernel
theorem dJ5_append_3fe6f_61 : decode cJ5_append_3fe6f 61 = .ok (.dup, 1) := by decide +kernel
theorem dJ5_append_3fe6f_62 : decode cJ5_append_3fe6f 62 = .ok (.getfield 79, 3) := by decide +kernel
theorem dJ5_append_3fe6f_65 : decode cJ5_append_3fe6f 65 = .ok (.dup_x1, 1) := by decide +kernel
theorem dJ5_append_3fe6f_66 : decode cJ5_append_3fe6f 66 = .ok (.iconst 1, 1) := by decide +kernel
theorem dJ5_append_3fe6f_67 : decode cJ5_append_3fe6f 67 = .ok (.iadd, 1) := by decide +kernel
theorem dJ5_append_3fe6f_68 : decode cJ5_append_3fe6f 68 = .ok (.putfield 79, 3) := by decide +kernel
theorem dJ5_append_3fe6f_71 : decode cJ5_append_3fe6f 71 = .ok (.iload_n 1, 1) := by decide +kernel
theorem dJ5_append_3fe6f_72 : decode cJ5_append_3fe6f 72 = .ok (.invokestatic 197, 3) := by decide +kernel
theorem dJ5_append_3fe6f_75 : decode cJ5_append_3fe6f 75 = .ok (.aload_n 0, 1) := by decide +kernel
theorem dJ5_append_3fe6f_76 : decode cJ5_append_3fe6f 76 = .ok (.areturn, 1) := by decide +kernel
set_option maxRecDepth 20000 in
theorem ggJ5_append_c97b9_J6_stringSize_0f7a4 : GoodIn wsJ5_append_c97b9 wsJ6_stringSize_0f7a4 := goodIn_r _ [6] (by decide +kernel) (by decide +kernel)
set_option maxRecDepth 20000 in
theorem gJ5_append_c97b9_J6_stringSize_0f7a4 : GoodIn wsJ5_append_c97b9 (va_wsS RJ5 245 yJ6_stringSize_0f7a4 wsJ6_stringSize_0f7a4) := goodIn_app (goodIn_of _ (by decide +kernel)) ggJ5_append_c97b9_J6_stringSize_0f7a4
set_option maxRecDepth 20000 in
theorem ggJ5_append_c97b9_J5_ensureCapacityInternal_d00df : GoodIn wsJ5_append_c97b9 wsJ5_ensureCapacityInternal_d00df := goodIn_r _ [12, 2, 13, 14, 15, 16, 17, 11, 18, 19, 20, 21, 22, 23, 24, 25, 26, 27, 28, 29, 30, 31, 32, 33, 34, 35, 36, 37, 38, 39, 40, 41, 42, 43, 44, 45, 46, 47, 48, 49, 91, 92, 93, 94] (by decide +kernel) (by decide +kernel)
set_option maxRecDepth 20000 in
theorem gJ5_append_c97b9_J5_ensureCapacityInternal_d00df_u100J4 : GoodIn wsJ5_append_c97b9 (va_wsU RJ5 100 RJ4 "java/lang/AbstractStringBuilder" ⟨"java/lang/AbstractStringBuilder", "ensureCapacityInternal", "(I)V"⟩ yJ5_ensureCapacityInternal_d00df wsJ5_ensureCapacityInternal_d00df) := goodIn_app (goodIn_of _ (by decide +kernel)) ggJ5_append_c97b9_J5_ensureCapacityInternal_d00df
set_option maxRecDepth 20000 in
theorem ggJ5_append_c97b9_J5_isLatin1_aae02 : GoodIn wsJ5_append_c97b9 wsJ5_isLatin1_aae02 := goodIn_r _ [54, 55, 13, 91, 92, 93, 94] (by decide +kernel) (by decide +kernel)
set_option maxRecDepth 20000 in
theorem gJ5_append_c97b9_J5_isLatin1_aae02_u83J4 : GoodIn wsJ5_append_c97b9 (va_wsU RJ5 83 RJ4 "java/lang/AbstractStringBuilder" ⟨"java/lang/AbstractStringBuilder", "isLatin1", "()Z"⟩ yJ5_isLatin1_aae02 wsJ5_isLatin1_aae02) := goodIn_app (goodIn_of _ (by decide +kernel)) ggJ5_append_c97b9_J5_isLatin1_aae02
set_option maxRecDepth 20000 in
theorem ggJ5_append_c97b9_J6_getChars_ba4f3 : GoodIn wsJ5_append_c97b9 wsJ6_getChars_ba4f3 := goodIn_r _ [58, 59, 60] (by decide +kernel) (by decide +kernel)
set_option maxRecDepth 20000 in
theorem gJ5_append_c97b9_J6_getChars_ba4f3 : GoodIn wsJ5_append_c97b9 (va_wsS RJ5 248 yJ6_getChars_ba4f3 wsJ6_getChars_ba4f3) := goodIn_app (goodIn_of _ (by decide +kernel)) ggJ5_append_c97b9_J6_getChars_ba4f3
set_option maxRecDepth 20000 in
theorem ggJ5_append_c97b9_J2_getChars_46870 : GoodIn wsJ5_append_c97b9 wsJ2_getChars_46870 := goodIn_r _ [64, 65, 66, 67, 63, 68, 69, 70, 71, 72, 73, 74, 75, 76, 77, 78, 79, 80, 81, 82, 83, 84, 85, 86, 87, 88, 89, 90] (by decide +kernel) (by decide +kernel)
set_option maxRecDepth 20000 in
theorem gJ5_append_c97b9_J2_getChars_46870 : GoodIn wsJ5_append_c97b9 (va_wsS RJ5 251 yJ2_getChars_46870 wsJ2_getChars_46870) := goodIn_app (goodIn_of _ (by decide +kernel)) ggJ5_append_c97b9_J2_getChars_46870
theorem dJ5_append_c97b9_0 : decode cJ5_append_c97b9 0 = .ok (.aload_n 0, 1) := by decide +kernel
theorem dJ5_append_c97b9_1 : decode cJ5_append_c97b9 1 = .ok (.getfield 79, 3) := by decide +kernel
theorem dJ5_append_c97b9_4 : decode cJ5_append_c97b9 4 = .ok (.istore_n 2, 1) := by decide +kernel
theorem dJ5_append_c97b9_5 : decode cJ5_append_c97b9 5 = .ok (.iload_n 2, 1) := by decide +kernel
theorem dJ5_append_c97b9_6 : decode cJ5_append_c97b9 6 = .ok (.iload_n 1, 1) := by decide +kernel
theorem dJ5_append_c97b9_7 : decode cJ5_append_c97b9 7 = .ok (.invokestatic 245, 3) := by decide +kernel
theorem dJ5_append_c97b9_10 : decode cJ5_append_c97b9 10 = .ok (.iadd, 1) := by decide +kernel
theorem dJ5_append_c97b9_11 : decode cJ5_append_c97b9 11 = .ok (.istore_n 3, 1) := by decide +kernel
theorem dJ5_append_c97b9_12 : decode cJ5_append_c97b9 12 = .ok (.aload_n 0, 1) := by decide +kernel
theorem dJ5_append_c97b9_13 : decode cJ5_append_c97b9 13 = .ok (.iload_n 3, 1) := by decide +kernel
theorem dJ5_append_c97b9_14 : decode cJ5_append_c97b9 14 = .ok (.invokevirtual 100, 3) := by decide +kernel
theorem dJ5_append_c97b9_17 : decode cJ5_append_c97b9 17 = .ok (.aload_n 0, 1) := by decide +kernel
theorem dJ5_append_c97b9_18 : decode cJ5_append_c97b9 18 = .ok (.invokevirtual 83, 3) := by decide +kernel
theorem dJ5_append_c97b9_21 : decode cJ5_append_c97b9 21 = .ok (.ifCond .eq 16, 3) := by decide +kernel
theorem dJ5_append_c97b9_24 : decode cJ5_append_c97b9 24 = .ok (.iload_n 1, 1) := by decide +kernel
theorem dJ5_append_c97b9_25 : decode cJ5_append_c97b9 25 = .ok (.iload_n 3, 1) := by decide +kernel
theorem dJ5_append_c97b9_26 : decode cJ5_append_c97b9 26 = .ok (.aload_n 0, 1) := by decide +kernel
theorem dJ5_append_c97b9_27 : decode cJ5_append_c97b9 27 = .ok (.getfield 15, 3) := by decide +kernel
theorem dJ5_append_c97b9_30 : decode cJ5_append_c97b9 30 = .ok (.invokestatic 248, 3) := by decide +kernel
theorem dJ5_append_c97b9_33 : decode cJ5_append_c97b9 33 = .ok (.pop, 1) := by decide +kernel
theorem dJ5_append_c97b9_34 : decode cJ5_append_c97b9 34 = .ok (.goto 14, 3) := by decide +kernel
theorem dJ5_append_c97b9_37 : decode cJ5_append_c97b9 37 = .ok (.iload_n 1, 1) := by decide +kernel
theorem dJ5_append_c97b9_38 : decode cJ5_append_c97b9 38 = .ok (.iload_n 2, 1) := by decide +kernel
theorem dJ5_append_c97b9_39 : decode cJ5_append_c97b9 39 = .ok (.iload_n 3, 1) := by decide +kernel
theorem dJ5_append_c97b9_40 : decode cJ5_append_c97b9 40 = .ok (.aload_n 0, 1) := by decide +kernel
theorem dJ5_append_c97b9_41 : decode cJ5_append_c97b9 41 = .ok (.getfield 15, 3) := by decide +kernel
theorem dJ5_append_c97b9_44 : decode cJ5_append_c97b9 44 = .ok (.invokestatic 251, 3) := by decide +kernel
theorem dJ5_append_c97b9_47 : decode cJ5_append_c97b9 47 = .ok (.pop, 1) := by decide +kernel
theorem dJ5_append_c97b9_48 : decode cJ5_append_c97b9 48 = .ok (.aload_n 0, 1) := by decide +kernel
theorem dJ5_append_c97b9_49 : decode cJ5_append_c97b9 49 = .ok (.iload_n 3, 1) := by decide +kernel
theorem dJ5_append_c97b9_50 : decode cJ5_append_c97b9 50 = .ok (.putfield 79, 3) := by decide +kernel
theorem dJ5_append_c97b9_53 : decode cJ5_append_c97b9 53 = .ok (.aload_n 0, 1) := by decide +kernel
theorem dJ5_append_c97b9_54 : decode cJ5_append_c97b9 54 = .ok (.areturn, 1) := by decide +kernel
theorem dJ5_getValue_6d5f1_0 : decode cJ5_getValue_6d5f1 0 = .ok (.aload_n 0, 1) := by decide +kernel
theorem dJ5_getValue_6d5f1_1 : decode cJ5_getValue_6d5f1 1 = .ok (.getfield 15, 3) := by decide +kernel
theorem dJ5_getValue_6d5f1_4 : decode cJ5_getValue_6d5f1 4 = .ok (.areturn, 1) := by decide +kernel
theorem dJ5_isLatin1_aae02_0 : decode cJ5_isLatin1_aae02 0 = .ok (.getstatic 18, 3) := by decide +kernel
theorem dJ5_isLatin1_aae02_3 : decode cJ5_isLatin1_aae02 3 = .ok (.ifCond .eq 14, 3) := by decide +kernel
theorem dJ5_isLatin1_aae02_6 : decode cJ5_isLatin1_aae02 6 = .ok (.aload_n 0, 1) := by decide +kernel
theorem dJ5_isLatin1_aae02_7 : decode cJ5_isLatin1_aae02 7 = .ok (.getfield 22, 3) := by decide +kernel
theorem dJ5_isLatin1_aae02_10 : decode cJ5_isLatin1_aae02 10 = .ok (.ifCond .ne 7, 3) := by decide +kernel
theorem dJ5_isLatin1_aae02_13 : decode cJ5_isLatin1_aae02 13 = .ok (.iconst 1, 1) := by decide +kernel
theorem dJ5_isLatin1_aae02_14 : decode cJ5_isLatin1_aae02 14 = .ok (.goto 4, 3) := by decide +kernel
theorem dJ5_isLatin1_aae02_17 : decode cJ5_isLatin1_aae02 17 = .ok (.iconst 0, 1) := by decide +kernel
theorem dJ5_isLatin1_aae02_18 : decode cJ5_isLatin1_aae02 18 = .ok (.ireturn, 1) := by decide +kernel
set_option maxRecDepth 20000 in
theorem ggJ5_inflateIfNeededFor_a7421_J0_coder_7d493 : GoodIn wsJ5_inflateIfNeededFor_a7421 wsJ0_coder_7d493 := goodIn_r _ [7, 8, 9, 63, 64, 65, 66] (by decide +kernel) (by decide +kernel)
set_option maxRecDepth 20000 in
theorem gJ5_inflateIfNeededFor_a7421_J0_coder_7d493 : GoodIn wsJ5_inflateIfNeededFor_a7421 (wsV RJ5 40 RJ0 yJ0_coder_7d493 wsJ0_coder_7d493) := goodIn_app (goodIn_of _ (by decide +kernel)) ggJ5_inflateIfNeededFor_a7421_J0_coder_7d493
set_option maxRecDepth 20000 in
theorem ggJ5_inflateIfNeededFor_a7421_J5_inflate_da8c8 : GoodIn wsJ5_inflateIfNeededFor_a7421 wsJ5_inflate_da8c8 := goodIn_r _ [15, 16, 17, 2, 18, 19, 20, 21, 14, 22, 1, 23, 24, 25, 26, 27, 28, 29, 30, 31, 32, 33, 34, 35, 36, 37, 38, 39, 40, 41, 42, 43, 44, 45, 46, 6, 47, 48, 49, 50, 51, 52, 53, 54, 55, 56, 57, 58, 59, 60, 61, 62] (by decide +kernel) (by decide +kernel)
set_option maxRecDepth 20000 in
theorem gJ5_inflateIfNeededFor_a7421_J5_inflate_da8c8_u195J4 : GoodIn wsJ5_inflateIfNeededFor_a7421 (va_wsU RJ5 195 RJ4 "java/lang/AbstractStringBuilder" ⟨"java/lang/AbstractStringBuilder", "inflate", "()V"⟩ yJ5_inflate_da8c8 wsJ5_inflate_da8c8) := goodIn_app (goodIn_of _ (by decide +kernel)) ggJ5_inflateIfNeededFor_a7421_J5_inflate_da8c8
theorem dJ5_inflateIfNeededFor_a7421_0 : decode cJ5_inflateIfNeededFor_a7421 0 = .ok (.getstatic 18, 3) := by decide +kernel
theorem dJ5_inflateIfNeededFor_a7421_3 : decode cJ5_inflateIfNeededFor_a7421 3 = .ok (.ifCond .eq 18, 3) := by decide +kernel
theorem dJ5_inflateIfNeededFor_a7421_6 : decode cJ5_inflateIfNeededFor_a7421 6 = .ok (.aload_n 0, 1) := by decide +kernel
theorem dJ5_inflateIfNeededFor_a7421_7 : decode cJ5_inflateIfNeededFor_a7421 7 = .ok (.getfield 22, 3) := by decide +kernel
theorem dJ5_inflateIfNeededFor_a7421_10 : decode cJ5_inflateIfNeededFor_a7421 10 = .ok (.aload_n 1, 1) := by decide +kernel
theorem dJ5_inflateIfNeededFor_a7421_11 : decode cJ5_inflateIfNeededFor_a7421 11 = .ok (.invokevirtual 40, 3) := by decide +kernel
theorem dJ5_inflateIfNeededFor_a7421_14 : decode cJ5_inflateIfNeededFor_a7421 14 = .ok (.if_icmp .eq 7, 3) := by decide +kernel
theorem dJ5_inflateIfNeededFor_a7421_17 : decode cJ5_inflateIfNeededFor_a7421 17 = .ok (.aload_n 0, 1) := by decide +kernel
theorem dJ5_inflateIfNeededFor_a7421_18 : decode cJ5_inflateIfNeededFor_a7421 18 = .ok (.invokevirtual 195, 3) := by decide +kernel
theorem dJ5_inflateIfNeededFor_a7421_21 : decode cJ5_inflateIfNeededFor_a7421 21 = .ok (.return_, 1) := by decide +kernel
set_option maxRecDepth 20000 in
theorem ggJ5_putStringAt_47b60_J5_inflateIfNeededFor_a7421 : GoodIn wsJ5_putStringAt_47b60 wsJ5_inflateIfNeededFor_a7421 := goodIn_r _ [8, 9, 2, 10, 11, 12, 13, 14, 15, 16, 17, 18, 19, 20, 7, 21, 1, 22, 23, 24, 25, 26, 27, 28, 29, 30, 31, 32, 33, 34, 35, 36, 37, 38, 39, 40, 41, 42, 43, 44, 45, 46, 47, 48, 49, 50, 51, 52, 53, 54, 55, 56, 57, 58, 59, 60, 61, 62, 63, 75, 76, 77, 78, 79, 80, 81, 82] (by decide +kernel) (by decide +kernel)
set_option maxRecDepth 20000 in
theorem gJ5_putStringAt_47b60_J5_inflateIfNeededFor_a7421_u397J4 : GoodIn wsJ5_putStringAt_47b60 (va_wsU RJ5 397 RJ4 "java/lang/AbstractStringBuilder" ⟨"java/lang/AbstractStringBuilder", "inflateIfNeededFor", "(Ljava/lang/String;)V"⟩ yJ5_inflateIfNeededFor_a7421 wsJ5_inflateIfNeededFor_a7421) := goodIn_app (goodIn_of _ (by decide +kernel)) ggJ5_putStringAt_47b60_J5_inflateIfNeededFor_a7421
set_option maxRecDepth 20000 in
theorem ggJ5_putStringAt_47b60_J0_getBytes_840e7 : GoodIn wsJ5_putStringAt_47b60 wsJ0_getBytes_840e7 := goodIn_r _ [67, 68, 69, 70, 71, 72, 73, 11, 12, 13, 14, 15, 16, 74, 38, 39, 40, 41, 42, 30, 43, 44, 45, 46, 47, 48, 49, 50, 51, 52, 53, 54, 55, 56, 57, 58, 59, 60, 61, 62, 63, 79, 80, 81, 82] (by decide +kernel) (by decide +kernel)
set_option maxRecDepth 20000 in
theorem gJ5_putStringAt_47b60_J0_getBytes_840e7 : GoodIn wsJ5_putStringAt_47b60 (wsV RJ5 399 RJ0 yJ0_getBytes_840e7 wsJ0_getBytes_840e7) := goodIn_app (goodIn_of _ (by decide +kernel)) ggJ5_putStringAt_47b60_J0_getBytes_840e7
theorem dJ5_putStringAt_47b60_0 : decode cJ5_putStringAt_47b60 0 = .ok (.aload_n 0, 1) := by decide +kernel
theorem dJ5_putStringAt_47b60_1 : decode cJ5_putStringAt_47b60 1 = .ok (.aload_n 2, 1) := by decide +kernel
theorem dJ5_putStringAt_47b60_2 : decode cJ5_putStringAt_47b60 2 = .ok (.invokevirtual 397, 3) := by decide +kernel
theorem dJ5_putStringAt_47b60_5 : decode cJ5_putStringAt_47b60 5 = .ok (.aload_n 2, 1) := by decide +kernel
theorem dJ5_putStringAt_47b60_6 : decode cJ5_putStringAt_47b60 6 = .ok (.aload_n 0, 1) := by decide +kernel
theorem dJ5_putStringAt_47b60_7 : decode cJ5_putStringAt_47b60 7 = .ok (.getfield 15, 3) := by decide +kernel
theorem dJ5_putStringAt_47b60_10 : decode cJ5_putStringAt_47b60 10 = .ok (.iload_n 1, 1) := by decide +kernel
theorem dJ5_putStringAt_47b60_11 : decode cJ5_putStringAt_47b60 11 = .ok (.aload_n 0, 1) := by decide +kernel
theorem dJ5_putStringAt_47b60_12 : decode cJ5_putStringAt_47b60 12 = .ok (.getfield 22, 3) := by decide +kernel
theorem dJ5_putStringAt_47b60_15 : decode cJ5_putStringAt_47b60 15 = .ok (.invokevirtual 399, 3) := by decide +kernel
theorem dJ5_putStringAt_47b60_18 : decode cJ5_putStringAt_47b60 18 = .ok (.return_, 1) := by decide +kernel
set_option maxRecDepth 20000 in
theorem ggJx00060_init_d00df_J4_init_da8c8 : GoodIn wsJx00060_init_d00df wsJ4_init_da8c8 := goodIn_r _ [6, 7, 8, 9, 10, 11, 12, 13, 14, 15, 16, 17, 18, 19, 20, 21, 22, 23, 24, 25, 236, 237, 238, 239] (by decide +kernel) (by decide +kernel)
set_option maxRecDepth 20000 in
theorem gJx00060_init_d00df_J4_init_da8c8 : GoodIn wsJx00060_init_d00df (wsJ4_init_da8c8) := ggJx00060_init_d00df_J4_init_da8c8
set_option maxRecDepth 20000 in
theorem ggJx00060_init_d00df_J4_append_15ec4 : GoodIn wsJx00060_init_d00df wsJ4_append_15ec4 := goodIn_r _ [29, 30, 31, 32, 33, 9, 34, 35, 36, 37, 38, 39, 40, 16, 41, 42, 43, 44, 45, 17, 46, 47, 48, 49, 50, 51, 52, 53, 54, 55, 56, 57, 58, 59, 60, 61, 62, 63, 64, 65, 66, 67, 68, 69, 70, 71, 72, 73, 15, 74, 75, 76, 77, 78, 79, 80, 81, 82, 83, 84, 85, 14, 86, 87, 20, 88, 89, 90, 91, 92, 93, 94, 95, 96, 97, 98, 99, 100, 101, 102, 103, 104, 105, 106, 107, 108, 109, 110, 111, 112, 113, 114, 115, 116, 117, 118, 119, 120, 121, 122, 123, 124, 125, 126, 127, 128, 129, 130, 131, 132, 133, 134, 135, 136, 18, 19, 21, 22, 23, 24, 25, 137, 138, 139, 140, 141, 142, 143, 144, 145, 146, 147, 148, 149, 150, 151, 152, 153, 154, 155, 156, 157, 158, 236, 237, 238, 239, 240, 241, 242, 243] (by decide +kernel) (by decide +kernel)
set_option maxRecDepth 20000 in
theorem gJx00060_init_d00df_J4_append_15ec4 : GoodIn wsJx00060_init_d00df (wsV RJx00060 15 RJ4 yJ4_append_15ec4 wsJ4_append_15ec4) := goodIn_app (goodIn_of _ (by decide +kernel)) ggJx00060_init_d00df_J4_append_15ec4
set_option maxRecDepth 20000 in
theorem ggJx00060_init_d00df_J4_append_bf812 : GoodIn wsJx00060_init_d00df wsJ4_append_bf812 := goodIn_r _ [162, 163, 164, 32, 165, 9, 166, 35, 16, 167, 168, 169, 170, 41, 42, 43, 44, 45, 17, 46, 47, 48, 49, 50, 51, 52, 53, 54, 55, 56, 57, 58, 59, 60, 61, 62, 63, 64, 65, 66, 67, 68, 69, 70, 71, 72, 73, 15, 74, 75, 76, 77, 78, 79, 80, 81, 82, 83, 84, 85, 14, 171, 172, 173, 174, 175, 176, 177, 20, 178, 89, 90, 91, 92, 93, 94, 95, 96, 97, 98, 99, 100, 101, 102, 103, 104, 179, 180, 181, 182, 183, 105, 106, 107, 108, 109, 236, 237, 238, 239] (by decide +kernel) (by decide +kernel)
set_option maxRecDepth 20000 in
theorem gJx00060_init_d00df_J4_append_bf812 : GoodIn wsJx00060_init_d00df (wsV RJx00060 19 RJ4 yJ4_append_bf812 wsJ4_append_bf812) := goodIn_app (goodIn_of _ (by decide +kernel)) ggJx00060_init_d00df_J4_append_bf812
set_option maxRecDepth 20000 in
theorem ggJx00060_init_d00df_J4_toString_0e30d : GoodIn wsJx00060_init_d00df wsJ4_toString_0e30d := goodIn_r _ [187, 188, 189, 98, 190, 191, 192, 193, 194, 195, 196, 12, 13, 120, 114, 119, 197, 198, 199, 200, 201, 9, 202, 16, 203, 204, 205, 206, 207, 3, 208, 209, 32, 210, 211, 35, 212, 82, 83, 84, 85, 14, 17, 213, 214, 66, 215, 68, 69, 70, 71, 72, 73, 216, 217, 218, 15, 74, 75, 58, 76, 77, 78, 79, 80, 219, 220, 221, 222, 2, 223, 224, 20, 225, 226, 227, 228, 144, 145, 146, 93, 94, 95, 147, 148, 149, 100, 150, 151, 103, 152, 229, 230, 231, 89, 108, 109, 22, 23, 24, 25, 232, 233, 234, 235, 240, 241, 242, 243, 236, 237, 238, 239] (by decide +kernel) (by decide +kernel)
set_option maxRecDepth 20000 in
theorem gJx00060_init_d00df_J4_toString_0e30d : GoodIn wsJx00060_init_d00df (wsV RJx00060 22 RJ4 yJ4_toString_0e30d wsJ4_toString_0e30d) := goodIn_app (goodIn_of _ (by decide +kernel)) ggJx00060_init_d00df_J4_toString_0e30d
theorem dJx00060_init_d00df_0 : decode cJx00060_init_d00df 0 = .ok (.aload_n 0, 1) := by decide +kernel
theorem dJx00060_init_d00df_1 : decode cJx00060_init_d00df 1 = .ok (.new 10, 3) := by decide +kernel
theorem dJx00060_init_d00df_4 : decode cJx00060_init_d00df 4 = .ok (.dup, 1) := by decide +kernel
theorem dJx00060_init_d00df_5 : decode cJx00060_init_d00df 5 = .ok (.invokespecial 12, 3) := by decide +kernel
theorem dJx00060_init_d00df_8 : decode cJx00060_init_d00df 8 = .ok (.ldc 13, 2) := by decide +kernel
theorem dJx00060_init_d00df_10 : decode cJx00060_init_d00df 10 = .ok (.invokevirtual 15, 3) := by decide +kernel
theorem dJx00060_init_d00df_13 : decode cJx00060_init_d00df 13 = .ok (.iload_n 1, 1) := by decide +kernel
theorem dJx00060_init_d00df_14 : decode cJx00060_init_d00df 14 = .ok (.invokevirtual 19, 3) := by decide +kernel
theorem dJx00060_init_d00df_17 : decode cJx00060_init_d00df 17 = .ok (.invokevirtual 22, 3) := by decide +kernel
theorem dJx00060_init_d00df_20 : decode cJx00060_init_d00df 20 = .ok (.invokespecial 7, 3) := by decide +kernel
theorem dJx00060_init_d00df_23 : decode cJx00060_init_d00df 23 = .ok (.return_, 1) := by decide +kernel
theorem dJ6_getChars_ba4f3_0 : decode cJ6_getChars_ba4f3 0 = .ok (.iload_n 1, 1) := by decide +kernel
theorem dJ6_getChars_ba4f3_1 : decode cJ6_getChars_ba4f3 1 = .ok (.istore 5, 2) := by decide +kernel
theorem dJ6_getChars_ba4f3_3 : decode cJ6_getChars_ba4f3 3 = .ok (.iload_n 0, 1) := by decide +kernel
theorem dJ6_getChars_ba4f3_4 : decode cJ6_getChars_ba4f3 4 = .ok (.ifCond .ge 7, 3) := by decide +kernel
theorem dJ6_getChars_ba4f3_7 : decode cJ6_getChars_ba4f3 7 = .ok (.iconst 1, 1) := by decide +kernel
theorem dJ6_getChars_ba4f3_8 : decode cJ6_getChars_ba4f3 8 = .ok (.goto 4, 3) := by decide +kernel
theorem dJ6_getChars_ba4f3_11 : decode cJ6_getChars_ba4f3 11 = .ok (.iconst 0, 1) := by decide +kernel
theorem dJ6_getChars_ba4f3_12 : decode cJ6_getChars_ba4f3 12 = .ok (.istore 6, 2) := by decide +kernel
theorem dJ6_getChars_ba4f3_14 : decode cJ6_getChars_ba4f3 14 = .ok (.iload 6, 2) := by decide +kernel
theorem dJ6_getChars_ba4f3_16 : decode cJ6_getChars_ba4f3 16 = .ok (.ifCond .ne 6, 3) := by decide +kernel
theorem dJ6_getChars_ba4f3_19 : decode cJ6_getChars_ba4f3 19 = .ok (.iload_n 0, 1) := by decide +kernel
theorem dJ6_getChars_ba4f3_20 : decode cJ6_getChars_ba4f3 20 = .ok (.ineg, 1) := by decide +kernel
theorem dJ6_getChars_ba4f3_21 : decode cJ6_getChars_ba4f3 21 = .ok (.istore_n 0, 1) := by decide +kernel
theorem dJ6_getChars_ba4f3_22 : decode cJ6_getChars_ba4f3 22 = .ok (.iload_n 0, 1) := by decide +kernel
theorem dJ6_getChars_ba4f3_23 : decode cJ6_getChars_ba4f3 23 = .ok (.bipush (-100), 2) := by decide +kernel
theorem dJ6_getChars_ba4f3_25 : decode cJ6_getChars_ba4f3 25 = .ok (.if_icmp .gt 47, 3) := by decide +kernel
theorem dJ6_getChars_ba4f3_28 : decode cJ6_getChars_ba4f3 28 = .ok (.iload_n 0, 1) := by decide +kernel
theorem dJ6_getChars_ba4f3_29 : decode cJ6_getChars_ba4f3 29 = .ok (.bipush 100, 2) := by decide +kernel
theorem dJ6_getChars_ba4f3_31 : decode cJ6_getChars_ba4f3 31 = .ok (.idiv, 1) := by decide +kernel
theorem dJ6_getChars_ba4f3_32 : decode cJ6_getChars_ba4f3 32 = .ok (.istore_n 3, 1) := by decide +kernel
theorem dJ6_getChars_ba4f3_33 : decode cJ6_getChars_ba4f3 33 = .ok (.iload_n 3, 1) := by decide +kernel
theorem dJ6_getChars_ba4f3_34 : decode cJ6_getChars_ba4f3 34 = .ok (.bipush 100, 2) := by decide +kernel
theorem dJ6_getChars_ba4f3_36 : decode cJ6_getChars_ba4f3 36 = .ok (.imul, 1) := by decide +kernel
theorem dJ6_getChars_ba4f3_37 : decode cJ6_getChars_ba4f3 37 = .ok (.iload_n 0, 1) := by decide +kernel
theorem dJ6_getChars_ba4f3_38 : decode cJ6_getChars_ba4f3 38 = .ok (.isub, 1) := by decide +kernel
theorem dJ6_getChars_ba4f3_39 : decode cJ6_getChars_ba4f3 39 = .ok (.istore 4, 2) := by decide +kernel
theorem dJ6_getChars_ba4f3_41 : decode cJ6_getChars_ba4f3 41 = .ok (.iload_n 3, 1) := by decide +kernel
theorem dJ6_getChars_ba4f3_42 : decode cJ6_getChars_ba4f3 42 = .ok (.istore_n 0, 1) := by decide +kernel
theorem dJ6_getChars_ba4f3_43 : decode cJ6_getChars_ba4f3 43 = .ok (.aload_n 2, 1) := by decide +kernel
theorem dJ6_getChars_ba4f3_44 : decode cJ6_getChars_ba4f3 44 = .ok (.iinc 5 (-1), 3) := by decide +kernel
theorem dJ6_getChars_ba4f3_47 : decode cJ6_getChars_ba4f3 47 = .ok (.iload 5, 2) := by decide +kernel
theorem dJ6_getChars_ba4f3_49 : decode cJ6_getChars_ba4f3 49 = .ok (.getstatic 83, 3) := by decide +kernel
theorem dJ6_getChars_ba4f3_52 : decode cJ6_getChars_ba4f3 52 = .ok (.iload 4, 2) := by decide +kernel
theorem dJ6_getChars_ba4f3_54 : decode cJ6_getChars_ba4f3 54 = .ok (.baload, 1) := by decide +kernel
theorem dJ6_getChars_ba4f3_55 : decode cJ6_getChars_ba4f3 55 = .ok (.bastore, 1) := by decide +kernel
theorem dJ6_getChars_ba4f3_56 : decode cJ6_getChars_ba4f3 56 = .ok (.aload_n 2, 1) := by decide +kernel
theorem dJ6_getChars_ba4f3_57 : decode cJ6_getChars_ba4f3 57 = .ok (.iinc 5 (-1), 3) := by decide +kernel
theorem dJ6_getChars_ba4f3_60 : decode cJ6_getChars_ba4f3 60 = .ok (.iload 5, 2) := by decide +kernel
theorem dJ6_getChars_ba4f3_62 : decode cJ6_getChars_ba4f3 62 = .ok (.getstatic 87, 3) := by decide +kernel
theorem dJ6_getChars_ba4f3_65 : decode cJ6_getChars_ba4f3 65 = .ok (.iload 4, 2) := by decide +kernel
theorem dJ6_getChars_ba4f3_67 : decode cJ6_getChars_ba4f3 67 = .ok (.baload, 1) := by decide +kernel
theorem dJ6_getChars_ba4f3_68 : decode cJ6_getChars_ba4f3 68 = .ok (.bastore, 1) := by decide +kernel
theorem dJ6_getChars_ba4f3_69 : decode cJ6_getChars_ba4f3 69 = .ok (.goto (-47), 3) := by decide +kernel
theorem dJ6_getChars_ba4f3_72 : decode cJ6_getChars_ba4f3 72 = .ok (.aload_n 2, 1) := by decide +kernel
theorem dJ6_getChars_ba4f3_73 : decode cJ6_getChars_ba4f3 73 = .ok (.iinc 5 (-1), 3) := by decide +kernel
theorem dJ6_getChars_ba4f3_76 : decode cJ6_getChars_ba4f3 76 = .ok (.iload 5, 2) := by decide +kernel
theorem dJ6_getChars_ba4f3_78 : decode cJ6_getChars_ba4f3 78 = .ok (.getstatic 83, 3) := by decide +kernel
theorem dJ6_getChars_ba4f3_81 : decode cJ6_getChars_ba4f3 81 = .ok (.iload_n 0, 1) := by decide +kernel
theorem dJ6_getChars_ba4f3_82 : decode cJ6_getChars_ba4f3 82 = .ok (.ineg, 1) := by decide +kernel
theorem dJ6_getChars_ba4f3_83 : decode cJ6_getChars_ba4f3 83 = .ok (.baload, 1) := by decide +kernel
theorem dJ6_getChars_ba4f3_84 : decode cJ6_getChars_ba4f3 84 = .ok (.bastore, 1) := by decide +kernel
theorem dJ6_getChars_ba4f3_85 : decode cJ6_getChars_ba4f3 85 = .ok (.iload_n 0, 1) := by decide +kernel
theorem dJ6_getChars_ba4f3_86 : decode cJ6_getChars_ba4f3 86 = .ok (.bipush (-9), 2) := by decide +kernel
theorem dJ6_getChars_ba4f3_88 : decode cJ6_getChars_ba4f3 88 = .ok (.if_icmp .ge 16, 3) := by decide +kernel
theorem dJ6_getChars_ba4f3_91 : decode cJ6_getChars_ba4f3 91 = .ok (.aload_n 2, 1) := by decide +kernel
theorem dJ6_getChars_ba4f3_92 : decode cJ6_getChars_ba4f3 92 = .ok (.iinc 5 (-1), 3) := by decide +kernel
theorem dJ6_getChars_ba4f3_95 : decode cJ6_getChars_ba4f3 95 = .ok (.iload 5, 2) := by decide +kernel
theorem dJ6_getChars_ba4f3_97 : decode cJ6_getChars_ba4f3 97 = .ok (.getstatic 87, 3) := by decide +kernel
theorem dJ6_getChars_ba4f3_100 : decode cJ6_getChars_ba4f3 100 = .ok (.iload_n 0, 1) := by decide +kernel
theorem dJ6_getChars_ba4f3_101 : decode cJ6_getChars_ba4f3 101 = .ok (.ineg, 1) := by decide +kernel
theorem dJ6_getChars_ba4f3_102 : decode cJ6_getChars_ba4f3 102 = .ok (.baload, 1) := by decide +kernel
theorem dJ6_getChars_ba4f3_103 : decode cJ6_getChars_ba4f3 103 = .ok (.bastore, 1) := by decide +kernel
theorem dJ6_getChars_ba4f3_104 : decode cJ6_getChars_ba4f3 104 = .ok (.iload 6, 2) := by decide +kernel
theorem dJ6_getChars_ba4f3_106 : decode cJ6_getChars_ba4f3 106 = .ok (.ifCond .eq 12, 3) := by decide +kernel
theorem dJ6_getChars_ba4f3_109 : decode cJ6_getChars_ba4f3 109 = .ok (.aload_n 2, 1) := by decide +kernel
theorem dJ6_getChars_ba4f3_110 : decode cJ6_getChars_ba4f3 110 = .ok (.iinc 5 (-1), 3) := by decide +kernel
theorem dJ6_getChars_ba4f3_113 : decode cJ6_getChars_ba4f3 113 = .ok (.iload 5, 2) := by decide +kernel
theorem dJ6_getChars_ba4f3_115 : decode cJ6_getChars_ba4f3 115 = .ok (.bipush 45, 2) := by decide +kernel
theorem dJ6_getChars_ba4f3_117 : decode cJ6_getChars_ba4f3 117 = .ok (.bastore, 1) := by decide +kernel
theorem dJ6_getChars_ba4f3_118 : decode cJ6_getChars_ba4f3 118 = .ok (.iload 5, 2) := by decide +kernel
theorem dJ6_getChars_ba4f3_120 : decode cJ6_getChars_ba4f3 120 = .ok (.ireturn, 1) := by decide +kernel
theorem dJ6_stringSize_0f7a4_0 : decode cJ6_stringSize_0f7a4 0 = .ok (.iconst 1, 1) := by decide +kernel
theorem dJ6_stringSize_0f7a4_1 : decode cJ6_stringSize_0f7a4 1 = .ok (.istore_n 1, 1) := by decide +kernel
theorem dJ6_stringSize_0f7a4_2 : decode cJ6_stringSize_0f7a4 2 = .ok (.iload_n 0, 1) := by decide +kernel
theorem dJ6_stringSize_0f7a4_3 : decode cJ6_stringSize_0f7a4 3 = .ok (.ifCond .lt 8, 3) := by decide +kernel
theorem dJ6_stringSize_0f7a4_6 : decode cJ6_stringSize_0f7a4 6 = .ok (.iconst 0, 1) := by decide +kernel
theorem dJ6_stringSize_0f7a4_7 : decode cJ6_stringSize_0f7a4 7 = .ok (.istore_n 1, 1) := by decide +kernel
theorem dJ6_stringSize_0f7a4_8 : decode cJ6_stringSize_0f7a4 8 = .ok (.iload_n 0, 1) := by decide +kernel
theorem dJ6_stringSize_0f7a4_9 : decode cJ6_stringSize_0f7a4 9 = .ok (.ineg, 1) := by decide +kernel
theorem dJ6_stringSize_0f7a4_10 : decode cJ6_stringSize_0f7a4 10 = .ok (.istore_n 0, 1) := by decide +kernel
theorem dJ6_stringSize_0f7a4_11 : decode cJ6_stringSize_0f7a4 11 = .ok (.bipush (-10), 2) := by decide +kernel
theorem dJ6_stringSize_0f7a4_13 : decode cJ6_stringSize_0f7a4 13 = .ok (.istore_n 2, 1) := by decide +kernel
theorem dJ6_stringSize_0f7a4_14 : decode cJ6_stringSize_0f7a4 14 = .ok (.iconst 1, 1) := by decide +kernel
theorem dJ6_stringSize_0f7a4_15 : decode cJ6_stringSize_0f7a4 15 = .ok (.istore_n 3, 1) := by decide +kernel
theorem dJ6_stringSize_0f7a4_16 : decode cJ6_stringSize_0f7a4 16 = .ok (.iload_n 3, 1) := by decide +kernel
theorem dJ6_stringSize_0f7a4_17 : decode cJ6_stringSize_0f7a4 17 = .ok (.bipush 10, 2) := by decide +kernel
theorem dJ6_stringSize_0f7a4_19 : decode cJ6_stringSize_0f7a4 19 = .ok (.if_icmp .ge 23, 3) := by decide +kernel
theorem dJ6_stringSize_0f7a4_22 : decode cJ6_stringSize_0f7a4 22 = .ok (.iload_n 0, 1) := by decide +kernel
theorem dJ6_stringSize_0f7a4_23 : decode cJ6_stringSize_0f7a4 23 = .ok (.iload_n 2, 1) := by decide +kernel
theorem dJ6_stringSize_0f7a4_24 : decode cJ6_stringSize_0f7a4 24 = .ok (.if_icmp .le 7, 3) := by decide +kernel
theorem dJ6_stringSize_0f7a4_27 : decode cJ6_stringSize_0f7a4 27 = .ok (.iload_n 3, 1) := by decide +kernel
theorem dJ6_stringSize_0f7a4_28 : decode cJ6_stringSize_0f7a4 28 = .ok (.iload_n 1, 1) := by decide +kernel
theorem dJ6_stringSize_0f7a4_29 : decode cJ6_stringSize_0f7a4 29 = .ok (.iadd, 1) := by decide +kernel
theorem dJ6_stringSize_0f7a4_30 : decode cJ6_stringSize_0f7a4 30 = .ok (.ireturn, 1) := by decide +kernel
theorem dJ6_stringSize_0f7a4_31 : decode cJ6_stringSize_0f7a4 31 = .ok (.bipush 10, 2) := by decide +kernel
theorem dJ6_stringSize_0f7a4_33 : decode cJ6_stringSize_0f7a4 33 = .ok (.iload_n 2, 1) := by decide +kernel
theorem dJ6_stringSize_0f7a4_34 : decode cJ6_stringSize_0f7a4 34 = .ok (.imul, 1) := by decide +kernel
theorem dJ6_stringSize_0f7a4_35 : decode cJ6_stringSize_0f7a4 35 = .ok (.istore_n 2, 1) := by decide +kernel
theorem dJ6_stringSize_0f7a4_36 : decode cJ6_stringSize_0f7a4 36 = .ok (.iinc 3 1, 3) := by decide +kernel
theorem dJ6_stringSize_0f7a4_39 : decode cJ6_stringSize_0f7a4 39 = .ok (.goto (-23), 3) := by decide +kernel
theorem dJ6_stringSize_0f7a4_42 : decode cJ6_stringSize_0f7a4 42 = .ok (.bipush 10, 2) := by decide +kernel
theorem dJ6_stringSize_0f7a4_44 : decode cJ6_stringSize_0f7a4 44 = .ok (.iload_n 1, 1) := by decide +kernel
theorem dJ6_stringSize_0f7a4_45 : decode cJ6_stringSize_0f7a4 45 = .ok (.iadd, 1) := by decide +kernel
theorem dJ6_stringSize_0f7a4_46 : decode cJ6_stringSize_0f7a4 46 = .ok (.ireturn, 1) := by decide +kernel
theorem dJ9_max_7cf53_0 : decode cJ9_max_7cf53 0 = .ok (.iload_n 0, 1) := by decide +kernel
theorem dJ9_max_7cf53_1 : decode cJ9_max_7cf53 1 = .ok (.iload_n 1, 1) := by decide +kernel
theorem dJ9_max_7cf53_2 : decode cJ9_max_7cf53 2 = .ok (.if_icmp .lt 7, 3) := by decide +kernel
theorem dJ9_max_7cf53_5 : decode cJ9_max_7cf53 5 = .ok (.iload_n 0, 1) := by decide +kernel
theorem dJ9_max_7cf53_6 : decode cJ9_max_7cf53 6 = .ok (.goto 4, 3) := by decide +kernel
theorem dJ9_max_7cf53_9 : decode cJ9_max_7cf53 9 = .ok (.iload_n 1, 1) := by decide +kernel
theorem dJ9_max_7cf53_10 : decode cJ9_max_7cf53 10 = .ok (.ireturn, 1) := by decide +kernel
theorem dJ9_min_7cf53_0 : decode cJ9_min_7cf53 0 = .ok (.iload_n 0, 1) := by decide +kernel
theorem dJ9_min_7cf53_1 : decode cJ9_min_7cf53 1 = .ok (.iload_n 1, 1) := by decide +kernel
theorem dJ9_min_7cf53_2 : decode cJ9_min_7cf53 2 = .ok (.if_icmp .gt 7, 3) := by decide +kernel
theorem dJ9_min_7cf53_5 : decode cJ9_min_7cf53 5 = .ok (.iload_n 0, 1) := by decide +kernel
theorem dJ9_min_7cf53_6 : decode cJ9_min_7cf53 6 = .ok (.goto 4, 3) := by decide +kernel
theorem dJ9_min_7cf53_9 : decode cJ9_min_7cf53 9 = .ok (.iload_n 1, 1) := by decide +kernel
theorem dJ9_min_7cf53_10 : decode cJ9_min_7cf53 10 = .ok (.ireturn, 1) := by decide +kernel
set_option maxRecDepth 20000 in
theorem ggJ0_init_81219_J0_init_db425 : GoodIn wsJ0_init_81219 wsJ0_init_db425 := goodIn_r _ [4, 5, 6, 7, 8, 9, 10, 11, 12, 13, 14, 15, 16, 17, 18, 19, 20, 21, 22, 23, 24, 25, 26, 27, 28, 29, 30, 31, 32, 33, 34, 35, 36, 37, 38, 39, 40, 41, 42, 43, 44, 45, 46, 47, 48, 49, 50, 51, 52, 53, 54, 55, 56, 57, 58, 59, 60, 61, 62, 63, 64, 65, 66, 67, 68, 69, 70, 71, 72, 73, 74, 75, 76, 77, 78, 79, 3, 80, 81, 82, 83, 84, 85, 86, 87, 88, 89, 90, 91, 92, 93, 94, 95, 96, 97, 98, 99, 100, 101, 102, 103, 104, 105, 106, 107] (by decide +kernel) (by decide +kernel)
set_option maxRecDepth 20000 in
theorem gJ0_init_81219_J0_init_db425 : GoodIn wsJ0_init_81219 (wsJ0_init_db425) := ggJ0_init_81219_J0_init_db425
theorem dJ0_init_81219_0 : decode cJ0_init_81219 0 = .ok (.aload_n 0, 1) := by decide +kernel
theorem dJ0_init_81219_1 : decode cJ0_init_81219 1 = .ok (.aload_n 1, 1) := by decide +kernel
theorem dJ0_init_81219_2 : decode cJ0_init_81219 2 = .ok (.aconst_null, 1) := by decide +kernel
theorem dJ0_init_81219_3 : decode cJ0_init_81219 3 = .ok (.invokespecial 489, 3) := by decide +kernel
theorem dJ0_init_81219_6 : decode cJ0_init_81219 6 = .ok (.return_, 1) := by decide +kernel
set_option maxRecDepth 20000 in
theorem ggJ0_length_8abf5_J0_coder_7d493 : GoodIn wsJ0_length_8abf5 wsJ0_coder_7d493 := goodIn_r _ [6, 7, 8, 9, 10, 11, 12] (by decide +kernel) (by decide +kernel)
set_option maxRecDepth 20000 in
theorem gJ0_length_8abf5_J0_coder_7d493 : GoodIn wsJ0_length_8abf5 (wsV RJ0 335 RJ0 yJ0_coder_7d493 wsJ0_coder_7d493) := goodIn_app (goodIn_of _ (by decide +kernel)) ggJ0_length_8abf5_J0_coder_7d493
theorem dJ0_length_8abf5_0 : decode cJ0_length_8abf5 0 = .ok (.aload_n 0, 1) := by decide +kernel
theorem dJ0_length_8abf5_1 : decode cJ0_length_8abf5 1 = .ok (.getfield 9, 3) := by decide +kernel
theorem dJ0_length_8abf5_4 : decode cJ0_length_8abf5 4 = .ok (.arraylength, 1) := by decide +kernel
theorem dJ0_length_8abf5_5 : decode cJ0_length_8abf5 5 = .ok (.aload_n 0, 1) := by decide +kernel
theorem dJ0_length_8abf5_6 : decode cJ0_length_8abf5 6 = .ok (.invokevirtual 335, 3) := by decide +kernel
theorem dJ0_length_8abf5_9 : decode cJ0_length_8abf5 9 = .ok (.ishr, 1) := by decide +kernel
theorem dJ0_length_8abf5_10 : decode cJ0_length_8abf5 10 = .ok (.ireturn, 1) := by decide +kernel
set_option maxRecDepth 20000 in
theorem ggJ0_charAt_5068e_J0_isLatin1_aae02 : GoodIn wsJ0_charAt_5068e wsJ0_isLatin1_aae02 := goodIn_r _ [6, 7, 8, 38, 39, 40, 41] (by decide +kernel) (by decide +kernel)
set_option maxRecDepth 20000 in
theorem gJ0_charAt_5068e_J0_isLatin1_aae02 : GoodIn wsJ0_charAt_5068e (wsV RJ0 492 RJ0 yJ0_isLatin1_aae02 wsJ0_isLatin1_aae02) := goodIn_app (goodIn_of _ (by decide +kernel)) ggJ0_charAt_5068e_J0_isLatin1_aae02
set_option maxRecDepth 20000 in
theorem ggJ0_charAt_5068e_J1_charAt_3b067 : GoodIn wsJ0_charAt_5068e wsJ1_charAt_3b067 := goodIn_r _ [12, 13, 14, 5, 15, 16, 17, 18, 19, 20] (by decide +kernel) (by decide +kernel)
set_option maxRecDepth 20000 in
theorem gJ0_charAt_5068e_J1_charAt_3b067 : GoodIn wsJ0_charAt_5068e (va_wsS RJ0 495 yJ1_charAt_3b067 wsJ1_charAt_3b067) := goodIn_app (goodIn_of _ (by decide +kernel)) ggJ0_charAt_5068e_J1_charAt_3b067
set_option maxRecDepth 20000 in
theorem ggJ0_charAt_5068e_J2_charAt_3b067 : GoodIn wsJ0_charAt_5068e wsJ2_charAt_3b067 := goodIn_r _ [24, 25, 26, 23, 27, 28, 29, 30, 31, 14, 5, 15, 16, 17, 18, 19, 20, 32, 33, 34, 35, 36, 37] (by decide +kernel) (by decide +kernel)
set_option maxRecDepth 20000 in
theorem gJ0_charAt_5068e_J2_charAt_3b067 : GoodIn wsJ0_charAt_5068e (va_wsS RJ0 498 yJ2_charAt_3b067 wsJ2_charAt_3b067) := goodIn_app (goodIn_of _ (by decide +kernel)) ggJ0_charAt_5068e_J2_charAt_3b067
theorem dJ0_charAt_5068e_0 : decode cJ0_charAt_5068e 0 = .ok (.aload_n 0, 1) := by decide +kernel
theorem dJ0_charAt_5068e_1 : decode cJ0_charAt_5068e 1 = .ok (.invokevirtual 492, 3) := by decide +kernel
theorem dJ0_charAt_5068e_4 : decode cJ0_charAt_5068e 4 = .ok (.ifCond .eq 12, 3) := by decide +kernel
theorem dJ0_charAt_5068e_7 : decode cJ0_charAt_5068e 7 = .ok (.aload_n 0, 1) := by decide +kernel
theorem dJ0_charAt_5068e_8 : decode cJ0_charAt_5068e 8 = .ok (.getfield 9, 3) := by decide +kernel
theorem dJ0_charAt_5068e_11 : decode cJ0_charAt_5068e 11 = .ok (.iload_n 1, 1) := by decide +kernel
theorem dJ0_charAt_5068e_12 : decode cJ0_charAt_5068e 12 = .ok (.invokestatic 495, 3) := by decide +kernel
theorem dJ0_charAt_5068e_15 : decode cJ0_charAt_5068e 15 = .ok (.ireturn, 1) := by decide +kernel
theorem dJ0_charAt_5068e_16 : decode cJ0_charAt_5068e 16 = .ok (.aload_n 0, 1) := by decide +kernel
theorem dJ0_charAt_5068e_17 : decode cJ0_charAt_5068e 17 = .ok (.getfield 9, 3) := by decide +kernel
theorem dJ0_charAt_5068e_20 : decode cJ0_charAt_5068e 20 = .ok (.iload_n 1, 1) := by decide +kernel
theorem dJ0_charAt_5068e_21 : decode cJ0_charAt_5068e 21 = .ok (.invokestatic 498, 3) := by decide +kernel
theorem dJ0_charAt_5068e_24 : decode cJ0_charAt_5068e 24 = .ok (.ireturn, 1) := by decide +kernel
set_option maxRecDepth 20000 in
theorem ggJ0_getBytes_840e7_J0_coder_7d493 : GoodIn wsJ0_getBytes_840e7 wsJ0_coder_7d493 := goodIn_r _ [10, 11, 12, 41, 42, 43, 44] (by decide +kernel) (by decide +kernel)
set_option maxRecDepth 20000 in
theorem gJ0_getBytes_840e7_J0_coder_7d493 : GoodIn wsJ0_getBytes_840e7 (wsV RJ0 335 RJ0 yJ0_coder_7d493 wsJ0_coder_7d493) := goodIn_app (goodIn_of _ (by decide +kernel)) ggJ0_getBytes_840e7_J0_coder_7d493
set_option maxRecDepth 20000 in
theorem ggJ0_getBytes_840e7_J1_inflate_0e8fd : GoodIn wsJ0_getBytes_840e7 wsJ1_inflate_0e8fd := goodIn_r _ [16, 17, 18, 19, 20, 21, 22, 23, 24, 25, 26, 27, 28, 9, 29, 30, 31, 32, 33, 34, 35, 36, 37, 38, 39, 40] (by decide +kernel) (by decide +kernel)
set_option maxRecDepth 20000 in
theorem gJ0_getBytes_840e7_J1_inflate_0e8fd : GoodIn wsJ0_getBytes_840e7 (va_wsS RJ0 106 yJ1_inflate_0e8fd wsJ1_inflate_0e8fd) := goodIn_app (goodIn_of _ (by decide +kernel)) ggJ0_getBytes_840e7_J1_inflate_0e8fd
theorem dJ0_getBytes_840e7_0 : decode cJ0_getBytes_840e7 0 = .ok (.aload_n 0, 1) := by decide +kernel
theorem dJ0_getBytes_840e7_1 : decode cJ0_getBytes_840e7 1 = .ok (.invokevirtual 335, 3) := by decide +kernel
theorem dJ0_getBytes_840e7_4 : decode cJ0_getBytes_840e7 4 = .ok (.iload_n 3, 1) := by decide +kernel
theorem dJ0_getBytes_840e7_5 : decode cJ0_getBytes_840e7 5 = .ok (.if_icmp .ne 23, 3) := by decide +kernel
theorem dJ0_getBytes_840e7_8 : decode cJ0_getBytes_840e7 8 = .ok (.aload_n 0, 1) := by decide +kernel
theorem dJ0_getBytes_840e7_9 : decode cJ0_getBytes_840e7 9 = .ok (.getfield 9, 3) := by decide +kernel
theorem dJ0_getBytes_840e7_12 : decode cJ0_getBytes_840e7 12 = .ok (.iconst 0, 1) := by decide +kernel
theorem dJ0_getBytes_840e7_13 : decode cJ0_getBytes_840e7 13 = .ok (.aload_n 1, 1) := by decide +kernel
theorem dJ0_getBytes_840e7_14 : decode cJ0_getBytes_840e7 14 = .ok (.iload_n 2, 1) := by decide +kernel
theorem dJ0_getBytes_840e7_15 : decode cJ0_getBytes_840e7 15 = .ok (.iload_n 3, 1) := by decide +kernel
theorem dJ0_getBytes_840e7_16 : decode cJ0_getBytes_840e7 16 = .ok (.ishl, 1) := by decide +kernel
theorem dJ0_getBytes_840e7_17 : decode cJ0_getBytes_840e7 17 = .ok (.aload_n 0, 1) := by decide +kernel
theorem dJ0_getBytes_840e7_18 : decode cJ0_getBytes_840e7 18 = .ok (.getfield 9, 3) := by decide +kernel
theorem dJ0_getBytes_840e7_21 : decode cJ0_getBytes_840e7 21 = .ok (.arraylength, 1) := by decide +kernel
theorem dJ0_getBytes_840e7_22 : decode cJ0_getBytes_840e7 22 = .ok (.invokestatic 212, 3) := by decide +kernel
theorem dJ0_getBytes_840e7_25 : decode cJ0_getBytes_840e7 25 = .ok (.goto 18, 3) := by decide +kernel
theorem dJ0_getBytes_840e7_28 : decode cJ0_getBytes_840e7 28 = .ok (.aload_n 0, 1) := by decide +kernel
theorem dJ0_getBytes_840e7_29 : decode cJ0_getBytes_840e7 29 = .ok (.getfield 9, 3) := by decide +kernel
theorem dJ0_getBytes_840e7_32 : decode cJ0_getBytes_840e7 32 = .ok (.iconst 0, 1) := by decide +kernel
theorem dJ0_getBytes_840e7_33 : decode cJ0_getBytes_840e7 33 = .ok (.aload_n 1, 1) := by decide +kernel
theorem dJ0_getBytes_840e7_34 : decode cJ0_getBytes_840e7 34 = .ok (.iload_n 2, 1) := by decide +kernel
theorem dJ0_getBytes_840e7_35 : decode cJ0_getBytes_840e7 35 = .ok (.aload_n 0, 1) := by decide +kernel
theorem dJ0_getBytes_840e7_36 : decode cJ0_getBytes_840e7 36 = .ok (.getfield 9, 3) := by decide +kernel
theorem dJ0_getBytes_840e7_39 : decode cJ0_getBytes_840e7 39 = .ok (.arraylength, 1) := by decide +kernel
theorem dJ0_getBytes_840e7_40 : decode cJ0_getBytes_840e7 40 = .ok (.invokestatic 106, 3) := by decide +kernel
theorem dJ0_getBytes_840e7_43 : decode cJ0_getBytes_840e7 43 = .ok (.return_, 1) := by decide +kernel
set_option maxRecDepth 20000 in
theorem ggJ0_init_db425_J5_getValue_6d5f1 : GoodIn wsJ0_init_db425 wsJ5_getValue_6d5f1 := goodIn_r _ [13, 14, 101, 102, 103, 104] (by decide +kernel) (by decide +kernel)
set_option maxRecDepth 20000 in
theorem gJ0_init_db425_J5_getValue_6d5f1_u552J4 : GoodIn wsJ0_init_db425 (va_wsU RJ0 552 RJ4 "java/lang/AbstractStringBuilder" ⟨"java/lang/AbstractStringBuilder", "getValue", "()[B"⟩ yJ5_getValue_6d5f1 wsJ5_getValue_6d5f1) := goodIn_app (goodIn_of _ (by decide +kernel)) ggJ0_init_db425_J5_getValue_6d5f1
set_option maxRecDepth 20000 in
theorem ggJ0_init_db425_J4_length_8abf5 : GoodIn wsJ0_init_db425 wsJ4_length_8abf5 := goodIn_r _ [21, 22, 16, 23, 24, 12, 25, 26, 101, 102, 103, 104] (by decide +kernel) (by decide +kernel)
set_option maxRecDepth 20000 in
theorem gJ0_init_db425_J4_length_8abf5_u549J4 : GoodIn wsJ0_init_db425 (va_wsO RJ0 549 RJ4 "java/lang/AbstractStringBuilder" ⟨"java/lang/AbstractStringBuilder", "length", "()I"⟩ yJ4_length_8abf5 wsJ4_length_8abf5) := goodIn_app (goodIn_of _ (by decide +kernel)) ggJ0_init_db425_J4_length_8abf5
set_option maxRecDepth 20000 in
theorem ggJ0_init_db425_J5_isLatin1_aae02 : GoodIn wsJ0_init_db425 wsJ5_isLatin1_aae02 := goodIn_r _ [31, 32, 33, 101, 102, 103, 104] (by decide +kernel) (by decide +kernel)
set_option maxRecDepth 20000 in
theorem gJ0_init_db425_J5_isLatin1_aae02_u1047J4 : GoodIn wsJ0_init_db425 (va_wsU RJ0 1047 RJ4 "java/lang/AbstractStringBuilder" ⟨"java/lang/AbstractStringBuilder", "isLatin1", "()Z"⟩ yJ5_isLatin1_aae02 wsJ5_isLatin1_aae02) := goodIn_app (goodIn_of _ (by decide +kernel)) ggJ0_init_db425_J5_isLatin1_aae02
set_option maxRecDepth 20000 in
theorem ggJ0_init_db425_J7_copyOfRange_39247 : GoodIn wsJ0_init_db425 wsJ7_copyOfRange_39247 := goodIn_r _ [37, 38, 39, 40, 41, 42, 43, 44, 45, 36, 46, 47, 48, 49, 50, 51, 52, 53, 54, 55, 56, 57, 58, 59, 60, 20, 101, 102, 103, 104] (by decide +kernel) (by decide +kernel)
set_option maxRecDepth 20000 in
theorem gJ0_init_db425_J7_copyOfRange_39247 : GoodIn wsJ0_init_db425 (va_wsS RJ0 54 yJ7_copyOfRange_39247 wsJ7_copyOfRange_39247) := goodIn_app (goodIn_of _ (by decide +kernel)) ggJ0_init_db425_J7_copyOfRange_39247
set_option maxRecDepth 20000 in
theorem ggJ0_init_db425_J2_compress_39247 : GoodIn wsJ0_init_db425 wsJ2_compress_39247 := goodIn_r _ [64, 47, 65, 66, 63, 67, 68, 69, 70, 71, 72, 73, 74, 75, 76, 77, 78, 79, 80, 81, 82, 83, 84, 85, 86, 87, 88, 89, 90, 91, 92, 93, 35, 36, 37, 38, 39, 40, 41, 42, 43, 44, 45, 46, 48, 49, 50, 51, 52, 53, 54, 55, 56, 57, 58, 59, 60, 20, 101, 102, 103, 104] (by decide +kernel) (by decide +kernel)
set_option maxRecDepth 20000 in
theorem gJ0_init_db425_J2_compress_39247 : GoodIn wsJ0_init_db425 (va_wsS RJ0 1051 yJ2_compress_39247 wsJ2_compress_39247) := goodIn_app (goodIn_of _ (by decide +kernel)) ggJ0_init_db425_J2_compress_39247
set_option maxRecDepth 20000 in
theorem ggJ0_init_db425_J2_coderFromArrayLen_85cad : GoodIn wsJ0_init_db425 wsJ2_coderFromArrayLen_85cad := goodIn_r _ [96] (by decide +kernel) (by decide +kernel)
set_option maxRecDepth 20000 in
theorem gJ0_init_db425_J2_coderFromArrayLen_85cad : GoodIn wsJ0_init_db425 (va_wsS RJ0 47 yJ2_coderFromArrayLen_85cad wsJ2_coderFromArrayLen_85cad) := goodIn_app (goodIn_of _ (by decide +kernel)) ggJ0_init_db425_J2_coderFromArrayLen_85cad
theorem dJ0_init_db425_0 : decode cJ0_init_db425 0 = .ok (.aload_n 0, 1) := by decide +kernel
theorem dJ0_init_db425_1 : decode cJ0_init_db425 1 = .ok (.invokespecial 1, 3) := by decide +kernel
theorem dJ0_init_db425_4 : decode cJ0_init_db425 4 = .ok (.aload_n 1, 1) := by decide +kernel
theorem dJ0_init_db425_5 : decode cJ0_init_db425 5 = .ok (.invokevirtual 552, 3) := by decide +kernel
theorem dJ0_init_db425_8 : decode cJ0_init_db425 8 = .ok (.astore_n 3, 1) := by decide +kernel
theorem dJ0_init_db425_9 : decode cJ0_init_db425 9 = .ok (.aload_n 1, 1) := by decide +kernel
theorem dJ0_init_db425_10 : decode cJ0_init_db425 10 = .ok (.invokevirtual 549, 3) := by decide +kernel
theorem dJ0_init_db425_13 : decode cJ0_init_db425 13 = .ok (.istore 4, 2) := by decide +kernel
theorem dJ0_init_db425_15 : decode cJ0_init_db425 15 = .ok (.aload_n 1, 1) := by decide +kernel
theorem dJ0_init_db425_16 : decode cJ0_init_db425 16 = .ok (.invokevirtual 1047, 3) := by decide +kernel
theorem dJ0_init_db425_19 : decode cJ0_init_db425 19 = .ok (.ifCond .eq 22, 3) := by decide +kernel
theorem dJ0_init_db425_22 : decode cJ0_init_db425 22 = .ok (.aload_n 0, 1) := by decide +kernel
theorem dJ0_init_db425_23 : decode cJ0_init_db425 23 = .ok (.iconst 0, 1) := by decide +kernel
theorem dJ0_init_db425_24 : decode cJ0_init_db425 24 = .ok (.putfield 15, 3) := by decide +kernel
theorem dJ0_init_db425_27 : decode cJ0_init_db425 27 = .ok (.aload_n 0, 1) := by decide +kernel
theorem dJ0_init_db425_28 : decode cJ0_init_db425 28 = .ok (.aload_n 3, 1) := by decide +kernel
theorem dJ0_init_db425_29 : decode cJ0_init_db425 29 = .ok (.iconst 0, 1) := by decide +kernel
theorem dJ0_init_db425_30 : decode cJ0_init_db425 30 = .ok (.iload 4, 2) := by decide +kernel
theorem dJ0_init_db425_32 : decode cJ0_init_db425 32 = .ok (.invokestatic 54, 3) := by decide +kernel
theorem dJ0_init_db425_35 : decode cJ0_init_db425 35 = .ok (.putfield 9, 3) := by decide +kernel
theorem dJ0_init_db425_38 : decode cJ0_init_db425 38 = .ok (.goto 59, 3) := by decide +kernel
theorem dJ0_init_db425_41 : decode cJ0_init_db425 41 = .ok (.getstatic 38, 3) := by decide +kernel
theorem dJ0_init_db425_44 : decode cJ0_init_db425 44 = .ok (.ifCond .eq 35, 3) := by decide +kernel
theorem dJ0_init_db425_47 : decode cJ0_init_db425 47 = .ok (.aload_n 1, 1) := by decide +kernel
theorem dJ0_init_db425_48 : decode cJ0_init_db425 48 = .ok (.getfield 1048, 3) := by decide +kernel
theorem dJ0_init_db425_51 : decode cJ0_init_db425 51 = .ok (.ifCond .eq 28, 3) := by decide +kernel
theorem dJ0_init_db425_54 : decode cJ0_init_db425 54 = .ok (.aload_n 0, 1) := by decide +kernel
theorem dJ0_init_db425_55 : decode cJ0_init_db425 55 = .ok (.aload_n 3, 1) := by decide +kernel
theorem dJ0_init_db425_56 : decode cJ0_init_db425 56 = .ok (.iconst 0, 1) := by decide +kernel
theorem dJ0_init_db425_57 : decode cJ0_init_db425 57 = .ok (.iload 4, 2) := by decide +kernel
theorem dJ0_init_db425_59 : decode cJ0_init_db425 59 = .ok (.invokestatic 1051, 3) := by decide +kernel
theorem dJ0_init_db425_62 : decode cJ0_init_db425 62 = .ok (.putfield 9, 3) := by decide +kernel
theorem dJ0_init_db425_65 : decode cJ0_init_db425 65 = .ok (.aload_n 0, 1) := by decide +kernel
theorem dJ0_init_db425_66 : decode cJ0_init_db425 66 = .ok (.aload_n 0, 1) := by decide +kernel
theorem dJ0_init_db425_67 : decode cJ0_init_db425 67 = .ok (.getfield 9, 3) := by decide +kernel
theorem dJ0_init_db425_70 : decode cJ0_init_db425 70 = .ok (.iload 4, 2) := by decide +kernel
theorem dJ0_init_db425_72 : decode cJ0_init_db425 72 = .ok (.invokestatic 47, 3) := by decide +kernel
theorem dJ0_init_db425_75 : decode cJ0_init_db425 75 = .ok (.putfield 15, 3) := by decide +kernel
theorem dJ0_init_db425_78 : decode cJ0_init_db425 78 = .ok (.return_, 1) := by decide +kernel
theorem dJ0_init_db425_79 : decode cJ0_init_db425 79 = .ok (.aload_n 0, 1) := by decide +kernel
theorem dJ0_init_db425_80 : decode cJ0_init_db425 80 = .ok (.iconst 1, 1) := by decide +kernel
theorem dJ0_init_db425_81 : decode cJ0_init_db425 81 = .ok (.putfield 15, 3) := by decide +kernel
theorem dJ0_init_db425_84 : decode cJ0_init_db425 84 = .ok (.aload_n 0, 1) := by decide +kernel
theorem dJ0_init_db425_85 : decode cJ0_init_db425 85 = .ok (.aload_n 3, 1) := by decide +kernel
theorem dJ0_init_db425_86 : decode cJ0_init_db425 86 = .ok (.iconst 0, 1) := by decide +kernel
theorem dJ0_init_db425_87 : decode cJ0_init_db425 87 = .ok (.iload 4, 2) := by decide +kernel
theorem dJ0_init_db425_89 : decode cJ0_init_db425 89 = .ok (.iconst 1, 1) := by decide +kernel
theorem dJ0_init_db425_90 : decode cJ0_init_db425 90 = .ok (.ishl, 1) := by decide +kernel
theorem dJ0_init_db425_91 : decode cJ0_init_db425 91 = .ok (.invokestatic 54, 3) := by decide +kernel
theorem dJ0_init_db425_94 : decode cJ0_init_db425 94 = .ok (.putfield 9, 3) := by decide +kernel
theorem dJ0_init_db425_97 : decode cJ0_init_db425 97 = .ok (.return_, 1) := by decide +kernel
theorem dJ0_coder_7d493_0 : decode cJ0_coder_7d493 0 = .ok (.getstatic 38, 3) := by decide +kernel
theorem dJ0_coder_7d493_3 : decode cJ0_coder_7d493 3 = .ok (.ifCond .eq 10, 3) := by decide +kernel
theorem dJ0_coder_7d493_6 : decode cJ0_coder_7d493 6 = .ok (.aload_n 0, 1) := by decide +kernel
theorem dJ0_coder_7d493_7 : decode cJ0_coder_7d493 7 = .ok (.getfield 15, 3) := by decide +kernel
theorem dJ0_coder_7d493_10 : decode cJ0_coder_7d493 10 = .ok (.goto 4, 3) := by decide +kernel
theorem dJ0_coder_7d493_13 : decode cJ0_coder_7d493 13 = .ok (.iconst 1, 1) := by decide +kernel
theorem dJ0_coder_7d493_14 : decode cJ0_coder_7d493 14 = .ok (.ireturn, 1) := by decide +kernel
theorem dJ0_isLatin1_aae02_0 : decode cJ0_isLatin1_aae02 0 = .ok (.getstatic 38, 3) := by decide +kernel
theorem dJ0_isLatin1_aae02_3 : decode cJ0_isLatin1_aae02 3 = .ok (.ifCond .eq 14, 3) := by decide +kernel
theorem dJ0_isLatin1_aae02_6 : decode cJ0_isLatin1_aae02 6 = .ok (.aload_n 0, 1) := by decide +kernel
theorem dJ0_isLatin1_aae02_7 : decode cJ0_isLatin1_aae02 7 = .ok (.getfield 15, 3) := by decide +kernel
theorem dJ0_isLatin1_aae02_10 : decode cJ0_isLatin1_aae02 10 = .ok (.ifCond .ne 7, 3) := by decide +kernel
theorem dJ0_isLatin1_aae02_13 : decode cJ0_isLatin1_aae02 13 = .ok (.iconst 1, 1) := by decide +kernel
theorem dJ0_isLatin1_aae02_14 : decode cJ0_isLatin1_aae02 14 = .ok (.goto 4, 3) := by decide +kernel
theorem dJ0_isLatin1_aae02_17 : decode cJ0_isLatin1_aae02 17 = .ok (.iconst 0, 1) := by decide +kernel
theorem dJ0_isLatin1_aae02_18 : decode cJ0_isLatin1_aae02 18 = .ok (.ireturn, 1) := by decide +kernel
set_option maxRecDepth 20000 in
theorem ggJ0_checkIndex_df160_J3_checkIndex_8e157 : GoodIn wsJ0_checkIndex_df160 wsJ3_checkIndex_8e157 := goodIn_r _ [5] (by decide +kernel) (by decide +kernel)
set_option maxRecDepth 20000 in
theorem gJ0_checkIndex_df160_J3_checkIndex_8e157 : GoodIn wsJ0_checkIndex_df160 (va_wsS RJ0 1059 yJ3_checkIndex_8e157 wsJ3_checkIndex_8e157) := goodIn_app (goodIn_of _ (by decide +kernel)) ggJ0_checkIndex_df160_J3_checkIndex_8e157
theorem dJ0_checkIndex_df160_0 : decode cJ0_checkIndex_df160 0 = .ok (.iload_n 0, 1) := by decide +kernel
theorem dJ0_checkIndex_df160_1 : decode cJ0_checkIndex_df160 1 = .ok (.iload_n 1, 1) := by decide +kernel
theorem dJ0_checkIndex_df160_2 : decode cJ0_checkIndex_df160 2 = .ok (.getstatic 1053, 3) := by decide +kernel
theorem dJ0_checkIndex_df160_5 : decode cJ0_checkIndex_df160 5 = .ok (.invokestatic 1059, 3) := by decide +kernel
theorem dJ0_checkIndex_df160_8 : decode cJ0_checkIndex_df160 8 = .ok (.pop, 1) := by decide +kernel
theorem dJ0_checkIndex_df160_9 : decode cJ0_checkIndex_df160 9 = .ok (.return_, 1) := by decide +kernel
set_option maxRecDepth 20000 in
theorem ggJ0_checkBoundsOffCount_cabcc_J3_checkFromIndexSize_8c36e : GoodIn wsJ0_checkBoundsOffCount_cabcc wsJ3_checkFromIndexSize_8c36e := goodIn_r _ [5] (by decide +kernel) (by decide +kernel)
set_option maxRecDepth 20000 in
theorem gJ0_checkBoundsOffCount_cabcc_J3_checkFromIndexSize_8c36e : GoodIn wsJ0_checkBoundsOffCount_cabcc (va_wsS RJ0 1065 yJ3_checkFromIndexSize_8c36e wsJ3_checkFromIndexSize_8c36e) := goodIn_app (goodIn_of _ (by decide +kernel)) ggJ0_checkBoundsOffCount_cabcc_J3_checkFromIndexSize_8c36e
theorem dJ0_checkBoundsOffCount_cabcc_0 : decode cJ0_checkBoundsOffCount_cabcc 0 = .ok (.iload_n 0, 1) := by decide +kernel
theorem dJ0_checkBoundsOffCount_cabcc_1 : decode cJ0_checkBoundsOffCount_cabcc 1 = .ok (.iload_n 1, 1) := by decide +kernel
theorem dJ0_checkBoundsOffCount_cabcc_2 : decode cJ0_checkBoundsOffCount_cabcc 2 = .ok (.iload_n 2, 1) := by decide +kernel
theorem dJ0_checkBoundsOffCount_cabcc_3 : decode cJ0_checkBoundsOffCount_cabcc 3 = .ok (.getstatic 1053, 3) := by decide +kernel
theorem dJ0_checkBoundsOffCount_cabcc_6 : decode cJ0_checkBoundsOffCount_cabcc 6 = .ok (.invokestatic 1065, 3) := by decide +kernel
theorem dJ0_checkBoundsOffCount_cabcc_9 : decode cJ0_checkBoundsOffCount_cabcc 9 = .ok (.ireturn, 1) := by decide +kernel
set_option maxRecDepth 20000 in
theorem ggJ0_checkBoundsBeginEnd_23922_J3_checkFromToIndex_8c36e : GoodIn wsJ0_checkBoundsBeginEnd_23922 wsJ3_checkFromToIndex_8c36e := goodIn_r _ [5] (by decide +kernel) (by decide +kernel)
set_option maxRecDepth 20000 in
theorem gJ0_checkBoundsBeginEnd_23922_J3_checkFromToIndex_8c36e : GoodIn wsJ0_checkBoundsBeginEnd_23922 (va_wsS RJ0 1062 yJ3_checkFromToIndex_8c36e wsJ3_checkFromToIndex_8c36e) := goodIn_app (goodIn_of _ (by decide +kernel)) ggJ0_checkBoundsBeginEnd_23922_J3_checkFromToIndex_8c36e
theorem dJ0_checkBoundsBeginEnd_23922_0 : decode cJ0_checkBoundsBeginEnd_23922 0 = .ok (.iload_n 0, 1) := by decide +kernel
theorem dJ0_checkBoundsBeginEnd_23922_1 : decode cJ0_checkBoundsBeginEnd_23922 1 = .ok (.iload_n 1, 1) := by decide +kernel
theorem dJ0_checkBoundsBeginEnd_23922_2 : decode cJ0_checkBoundsBeginEnd_23922 2 = .ok (.iload_n 2, 1) := by decide +kernel
theorem dJ0_checkBoundsBeginEnd_23922_3 : decode cJ0_checkBoundsBeginEnd_23922 3 = .ok (.getstatic 1053, 3) := by decide +kernel
theorem dJ0_checkBoundsBeginEnd_23922_6 : decode cJ0_checkBoundsBeginEnd_23922 6 = .ok (.invokestatic 1062, 3) := by decide +kernel
theorem dJ0_checkBoundsBeginEnd_23922_9 : decode cJ0_checkBoundsBeginEnd_23922 9 = .ok (.pop, 1) := by decide +kernel
theorem dJ0_checkBoundsBeginEnd_23922_10 : decode cJ0_checkBoundsBeginEnd_23922 10 = .ok (.return_, 1) := by decide +kernel
set_option maxRecDepth 20000 in
theorem ggJ4_init_da8c8_J5_init_d00df : GoodIn wsJ4_init_da8c8 wsJ5_init_d00df := goodIn_r _ [4, 5, 6, 7, 8, 9, 10, 11, 12, 13, 14, 15, 16, 17, 18, 19, 20, 21, 22, 23] (by decide +kernel) (by decide +kernel)
set_option maxRecDepth 20000 in
theorem gJ4_init_da8c8_J5_init_d00df : GoodIn wsJ4_init_da8c8 (wsJ5_init_d00df) := ggJ4_init_da8c8_J5_init_d00df
theorem dJ4_init_da8c8_0 : decode cJ4_init_da8c8 0 = .ok (.aload_n 0, 1) := by decide +kernel
theorem dJ4_init_da8c8_1 : decode cJ4_init_da8c8 1 = .ok (.bipush 16, 2) := by decide +kernel
theorem dJ4_init_da8c8_3 : decode cJ4_init_da8c8 3 = .ok (.invokespecial 1, 3) := by decide +kernel
theorem dJ4_init_da8c8_6 : decode cJ4_init_da8c8 6 = .ok (.return_, 1) := by decide +kernel
set_option maxRecDepth 20000 in
theorem ggJ4_append_15ec4_J5_append_cf1ce : GoodIn wsJ4_append_15ec4 wsJ5_append_cf1ce := goodIn_r _ [6, 7, 8, 9, 10, 11, 5, 12, 13, 14, 15, 16, 17, 18, 19, 20, 21, 22, 23, 24, 25, 26, 27, 28, 29, 30, 31, 32, 33, 34, 35, 36, 37, 38, 39, 40, 41, 42, 43, 44, 45, 46, 47, 48, 49, 50, 51, 52, 53, 54, 55, 56, 57, 58, 59, 60, 61, 62, 63, 64, 65, 66, 67, 68, 69, 70, 71, 72, 73, 74, 75, 76, 77, 78, 79, 80, 81, 82, 83, 84, 85, 86, 87, 88, 89, 90, 91, 92, 93, 94, 95, 96, 97, 98, 99, 100, 101, 102, 103, 104, 105, 106, 107, 108, 109, 110, 111, 112, 113, 114, 115, 116, 117, 118, 119, 120, 121, 122, 123, 124, 125, 126, 127, 128, 129, 130, 131, 132, 133, 134, 135, 136, 137, 138, 139, 140, 141, 142, 143, 144, 145, 146, 147, 148, 149, 150] (by decide +kernel) (by decide +kernel)
set_option maxRecDepth 20000 in
theorem gJ4_append_15ec4_J5_append_cf1ce_s29 : GoodIn wsJ4_append_15ec4 (va_wsSU RJ4 29 yJ5_append_cf1ce wsJ5_append_cf1ce) := goodIn_app (goodIn_of _ (by decide +kernel)) ggJ4_append_15ec4_J5_append_cf1ce
theorem dJ4_append_15ec4_0 : decode cJ4_append_15ec4 0 = .ok (.aload_n 0, 1) := by decide +kernel
theorem dJ4_append_15ec4_1 : decode cJ4_append_15ec4 1 = .ok (.aload_n 1, 1) := by decide +kernel
theorem dJ4_append_15ec4_2 : decode cJ4_append_15ec4 2 = .ok (.invokespecial 29, 3) := by decide +kernel
theorem dJ4_append_15ec4_5 : decode cJ4_append_15ec4 5 = .ok (.pop, 1) := by decide +kernel
theorem dJ4_append_15ec4_6 : decode cJ4_append_15ec4 6 = .ok (.aload_n 0, 1) := by decide +kernel
theorem dJ4_append_15ec4_7 : decode cJ4_append_15ec4 7 = .ok (.areturn, 1) := by decide +kernel
set_option maxRecDepth 20000 in
theorem ggJ4_append_cf468_J5_append_3fe6f : GoodIn wsJ4_append_cf468 wsJ5_append_3fe6f := goodIn_r _ [6, 7, 8, 9, 10, 11, 12, 5, 13, 14, 15, 16, 17, 18, 19, 20, 21, 22, 23, 24, 25, 26, 27, 28, 29, 30, 31, 32, 33, 34, 35, 36, 37, 38, 39, 40, 41, 42, 43, 44, 45, 46, 47, 48, 49, 50, 51, 52, 53, 54, 55, 56, 57, 58, 59, 60, 61, 62, 63, 64, 65, 66, 67, 68, 69, 70, 71, 72, 73, 74, 75, 76, 77, 78, 79, 80, 81, 82, 83, 84, 85, 86, 87, 88, 89, 90, 91, 92, 93, 94, 95, 96, 97, 98, 99, 100, 101, 102, 103, 104, 105, 106, 107, 108, 109, 110, 111, 112, 113, 114, 115, 116] (by decide +kernel) (by decide +kernel)
set_option maxRecDepth 20000 in
theorem gJ4_append_cf468_J5_append_3fe6f_s50 : GoodIn wsJ4_append_cf468 (va_wsSU RJ4 50 yJ5_append_3fe6f wsJ5_append_3fe6f) := goodIn_app (goodIn_of _ (by decide +kernel)) ggJ4_append_cf468_J5_append_3fe6f
theorem dJ4_append_cf468_0 : decode cJ4_append_cf468 0 = .ok (.aload_n 0, 1) := by decide +kernel
theorem dJ4_append_cf468_1 : decode cJ4_append_cf468 1 = .ok (.iload_n 1, 1) := by decide +kernel
theorem dJ4_append_cf468_2 : decode cJ4_append_cf468 2 = .ok (.invokespecial 50, 3) := by decide +kernel
theorem dJ4_append_cf468_5 : decode cJ4_append_cf468 5 = .ok (.pop, 1) := by decide +kernel
theorem dJ4_append_cf468_6 : decode cJ4_append_cf468 6 = .ok (.aload_n 0, 1) := by decide +kernel
theorem dJ4_append_cf468_7 : decode cJ4_append_cf468 7 = .ok (.areturn, 1) := by decide +kernel
set_option maxRecDepth 20000 in
theorem ggJ4_append_bf812_J5_append_c97b9 : GoodIn wsJ4_append_bf812 wsJ5_append_c97b9 := goodIn_r _ [6, 7, 8, 9, 10, 11, 12, 13, 14, 15, 16, 5, 17, 18, 19, 20, 21, 22, 23, 24, 25, 26, 27, 28, 29, 30, 31, 32, 33, 34, 35, 36, 37, 38, 39, 40, 41, 42, 43, 44, 45, 46, 47, 48, 49, 50, 51, 52, 53, 54, 55, 56, 57, 58, 59, 60, 61, 62, 63, 64, 65, 66, 67, 68, 69, 70, 71, 72, 73, 74, 75, 76, 77, 78, 79, 80, 81, 82, 83, 84, 85, 86, 87, 88, 89, 90, 91, 92, 93, 94, 95, 96, 97, 98, 99] (by decide +kernel) (by decide +kernel)
set_option maxRecDepth 20000 in
theorem gJ4_append_bf812_J5_append_c97b9_s53 : GoodIn wsJ4_append_bf812 (va_wsSU RJ4 53 yJ5_append_c97b9 wsJ5_append_c97b9) := goodIn_app (goodIn_of _ (by decide +kernel)) ggJ4_append_bf812_J5_append_c97b9
theorem dJ4_append_bf812_0 : decode cJ4_append_bf812 0 = .ok (.aload_n 0, 1) := by decide +kernel
theorem dJ4_append_bf812_1 : decode cJ4_append_bf812 1 = .ok (.iload_n 1, 1) := by decide +kernel
theorem dJ4_append_bf812_2 : decode cJ4_append_bf812 2 = .ok (.invokespecial 53, 3) := by decide +kernel
theorem dJ4_append_bf812_5 : decode cJ4_append_bf812 5 = .ok (.pop, 1) := by decide +kernel
theorem dJ4_append_bf812_6 : decode cJ4_append_bf812 6 = .ok (.aload_n 0, 1) := by decide +kernel
theorem dJ4_append_bf812_7 : decode cJ4_append_bf812 7 = .ok (.areturn, 1) := by decide +kernel
set_option maxRecDepth 20000 in
theorem ggJ4_toString_0e30d_J0_init_81219 : GoodIn wsJ4_toString_0e30d wsJ0_init_81219 := goodIn_r _ [6, 7, 8, 3, 9, 10, 11, 12, 13, 14, 15, 16, 17, 18, 19, 20, 21, 22, 23, 24, 25, 26, 27, 28, 29, 30, 31, 32, 33, 34, 35, 36, 37, 38, 39, 40, 41, 42, 43, 44, 45, 46, 47, 48, 49, 50, 51, 52, 53, 54, 55, 56, 57, 58, 59, 60, 61, 62, 63, 64, 65, 66, 67, 68, 69, 70, 71, 72, 73, 74, 75, 76, 77, 78, 79, 80, 81, 82, 83, 84, 85, 86, 87, 88, 89, 90, 91, 92, 93, 94, 95, 96, 97, 98, 99, 100, 101, 102, 103, 104, 105, 106, 107, 108, 109, 110, 111, 112] (by decide +kernel) (by decide +kernel)
set_option maxRecDepth 20000 in
theorem gJ4_toString_0e30d_J0_init_81219 : GoodIn wsJ4_toString_0e30d (wsJ0_init_81219) := ggJ4_toString_0e30d_J0_init_81219
theorem dJ4_toString_0e30d_0 : decode cJ4_toString_0e30d 0 = .ok (.new 18, 3) := by decide +kernel
theorem dJ4_toString_0e30d_3 : decode cJ4_toString_0e30d 3 = .ok (.dup, 1) := by decide +kernel
theorem dJ4_toString_0e30d_4 : decode cJ4_toString_0e30d 4 = .ok (.aload_n 0, 1) := by decide +kernel
theorem dJ4_toString_0e30d_5 : decode cJ4_toString_0e30d 5 = .ok (.invokespecial 137, 3) := by decide +kernel
theorem dJ4_toString_0e30d_8 : decode cJ4_toString_0e30d 8 = .ok (.areturn, 1) := by decide +kernel
set_option maxRecDepth 20000 in
theorem ggJ4_charAt_5068e_J5_charAt_5068e : GoodIn wsJ4_charAt_5068e wsJ5_charAt_5068e := goodIn_r _ [6, 7, 8, 9, 10, 11, 12, 13, 14, 15, 16, 17, 18, 19, 20, 21, 22, 23, 24, 25, 26, 27, 28, 29, 30, 31, 32, 33, 34, 35, 36] (by decide +kernel) (by decide +kernel)
set_option maxRecDepth 20000 in
theorem gJ4_charAt_5068e_J5_charAt_5068e_s329 : GoodIn wsJ4_charAt_5068e (va_wsSU RJ4 329 yJ5_charAt_5068e wsJ5_charAt_5068e) := goodIn_app (goodIn_of _ (by decide +kernel)) ggJ4_charAt_5068e_J5_charAt_5068e
theorem dJ4_charAt_5068e_0 : decode cJ4_charAt_5068e 0 = .ok (.aload_n 0, 1) := by decide +kernel
theorem dJ4_charAt_5068e_1 : decode cJ4_charAt_5068e 1 = .ok (.iload_n 1, 1) := by decide +kernel
theorem dJ4_charAt_5068e_2 : decode cJ4_charAt_5068e 2 = .ok (.invokespecial 329, 3) := by decide +kernel
theorem dJ4_charAt_5068e_5 : decode cJ4_charAt_5068e 5 = .ok (.ireturn, 1) := by decide +kernel
set_option maxRecDepth 20000 in
theorem ggJ4_setLength_d00df_J5_setLength_d00df : GoodIn wsJ4_setLength_d00df wsJ5_setLength_d00df := goodIn_r _ [6, 7, 8, 9, 10, 11, 12, 13, 14, 15, 16, 5, 17, 18, 19, 20, 21, 22, 23, 24, 25, 26, 27, 28, 29, 30, 31, 32, 33, 34, 35, 36, 37, 38, 39, 40, 41, 42, 43, 44, 45, 46, 47, 48, 49, 50, 51, 52, 53, 54, 55, 56, 57, 58, 59, 60, 61, 62, 63, 64, 65, 66, 67, 68, 69, 70, 71, 72, 73, 74, 75, 76, 77, 78, 79, 80, 81, 82, 83, 84, 85, 86, 87, 88, 89, 90, 91, 92, 93, 94, 95, 96, 97] (by decide +kernel) (by decide +kernel)
set_option maxRecDepth 20000 in
theorem gJ4_setLength_d00df_J5_setLength_d00df_s333 : GoodIn wsJ4_setLength_d00df (va_wsSU RJ4 333 yJ5_setLength_d00df wsJ5_setLength_d00df) := goodIn_app (goodIn_of _ (by decide +kernel)) ggJ4_setLength_d00df_J5_setLength_d00df
theorem dJ4_setLength_d00df_0 : decode cJ4_setLength_d00df 0 = .ok (.aload_n 0, 1) := by decide +kernel
theorem dJ4_setLength_d00df_1 : decode cJ4_setLength_d00df 1 = .ok (.iload_n 1, 1) := by decide +kernel
theorem dJ4_setLength_d00df_2 : decode cJ4_setLength_d00df 2 = .ok (.invokespecial 333, 3) := by decide +kernel
theorem dJ4_setLength_d00df_5 : decode cJ4_setLength_d00df 5 = .ok (.return_, 1) := by decide +kernel
set_option maxRecDepth 20000 in
theorem ggJ4_length_8abf5_J5_length_8abf5 : GoodIn wsJ4_length_8abf5 wsJ5_length_8abf5 := goodIn_r _ [6, 7, 8, 9, 10, 11] (by decide +kernel) (by decide +kernel)
set_option maxRecDepth 20000 in
theorem gJ4_length_8abf5_J5_length_8abf5_s343 : GoodIn wsJ4_length_8abf5 (va_wsSU RJ4 343 yJ5_length_8abf5 wsJ5_length_8abf5) := goodIn_app (goodIn_of _ (by decide +kernel)) ggJ4_length_8abf5_J5_length_8abf5
theorem dJ4_length_8abf5_0 : decode cJ4_length_8abf5 0 = .ok (.aload_n 0, 1) := by decide +kernel
theorem dJ4_length_8abf5_1 : decode cJ4_length_8abf5 1 = .ok (.invokespecial 343, 3) := by decide +kernel
theorem dJ4_length_8abf5_4 : decode cJ4_length_8abf5 4 = .ok (.ireturn, 1) := by decide +kernel
set_option maxRecDepth 20000 in
theorem ggJx7c733_init_d00df_J4_init_da8c8 : GoodIn wsJx7c733_init_d00df wsJ4_init_da8c8 := goodIn_r _ [6, 7, 8, 9, 10, 11, 12, 13, 14, 15, 16, 17, 18, 19, 20, 21, 22, 23, 24, 25, 236, 237, 238, 239] (by decide +kernel) (by decide +kernel)
set_option maxRecDepth 20000 in
theorem gJx7c733_init_d00df_J4_init_da8c8 : GoodIn wsJx7c733_init_d00df (wsJ4_init_da8c8) := ggJx7c733_init_d00df_J4_init_da8c8
set_option maxRecDepth 20000 in
theorem ggJx7c733_init_d00df_J4_append_15ec4 : GoodIn wsJx7c733_init_d00df wsJ4_append_15ec4 := goodIn_r _ [29, 30, 31, 32, 33, 9, 34, 35, 36, 37, 38, 39, 40, 16, 41, 42, 43, 44, 45, 17, 46, 47, 48, 49, 50, 51, 52, 53, 54, 55, 56, 57, 58, 59, 60, 61, 62, 63, 64, 65, 66, 67, 68, 69, 70, 71, 72, 73, 15, 74, 75, 76, 77, 78, 79, 80, 81, 82, 83, 84, 85, 14, 86, 87, 20, 88, 89, 90, 91, 92, 93, 94, 95, 96, 97, 98, 99, 100, 101, 102, 103, 104, 105, 106, 107, 108, 109, 110, 111, 112, 113, 114, 115, 116, 117, 118, 119, 120, 121, 122, 123, 124, 125, 126, 127, 128, 129, 130, 131, 132, 133, 134, 135, 136, 18, 19, 21, 22, 23, 24, 25, 137, 138, 139, 140, 141, 142, 143, 144, 145, 146, 147, 148, 149, 150, 151, 152, 153, 154, 155, 156, 157, 158, 236, 237, 238, 239, 240, 241, 242, 243] (by decide +kernel) (by decide +kernel)
set_option maxRecDepth 20000 in
theorem gJx7c733_init_d00df_J4_append_15ec4 : GoodIn wsJx7c733_init_d00df (wsV RJx7c733 15 RJ4 yJ4_append_15ec4 wsJ4_append_15ec4) := goodIn_app (goodIn_of _ (by decide +kernel)) ggJx7c733_init_d00df_J4_append_15ec4
set_option maxRecDepth 20000 in
theorem ggJx7c733_init_d00df_J4_append_bf812 : GoodIn wsJx7c733_init_d00df wsJ4_append_bf812 := goodIn_r _ [162, 163, 164, 32, 165, 9, 166, 35, 16, 167, 168, 169, 170, 41, 42, 43, 44, 45, 17, 46, 47, 48, 49, 50, 51, 52, 53, 54, 55, 56, 57, 58, 59, 60, 61, 62, 63, 64, 65, 66, 67, 68, 69, 70, 71, 72, 73, 15, 74, 75, 76, 77, 78, 79, 80, 81, 82, 83, 84, 85, 14, 171, 172, 173, 174, 175, 176, 177, 20, 178, 89, 90, 91, 92, 93, 94, 95, 96, 97, 98, 99, 100, 101, 102, 103, 104, 179, 180, 181, 182, 183, 105, 106, 107, 108, 109, 236, 237, 238, 239] (by decide +kernel) (by decide +kernel)
set_option maxRecDepth 20000 in
theorem gJx7c733_init_d00df_J4_append_bf812 : GoodIn wsJx7c733_init_d00df (wsV RJx7c733 19 RJ4 yJ4_append_bf812 wsJ4_append_bf812) := goodIn_app (goodIn_of _ (by decide +kernel)) ggJx7c733_init_d00df_J4_append_bf812
set_option maxRecDepth 20000 in
theorem ggJx7c733_init_d00df_J4_toString_0e30d : GoodIn wsJx7c733_init_d00df wsJ4_toString_0e30d := goodIn_r _ [187, 188, 189, 98, 190, 191, 192, 193, 194, 195, 196, 12, 13, 120, 114, 119, 197, 198, 199, 200, 201, 9, 202, 16, 203, 204, 205, 206, 207, 3, 208, 209, 32, 210, 211, 35, 212, 82, 83, 84, 85, 14, 17, 213, 214, 66, 215, 68, 69, 70, 71, 72, 73, 216, 217, 218, 15, 74, 75, 58, 76, 77, 78, 79, 80, 219, 220, 221, 222, 2, 223, 224, 20, 225, 226, 227, 228, 144, 145, 146, 93, 94, 95, 147, 148, 149, 100, 150, 151, 103, 152, 229, 230, 231, 89, 108, 109, 22, 23, 24, 25, 232, 233, 234, 235, 240, 241, 242, 243, 236, 237, 238, 239] (by decide +kernel) (by decide +kernel)
set_option maxRecDepth 20000 in
theorem gJx7c733_init_d00df_J4_toString_0e30d : GoodIn wsJx7c733_init_d00df (wsV RJx7c733 22 RJ4 yJ4_toString_0e30d wsJ4_toString_0e30d) := goodIn_app (goodIn_of _ (by decide +kernel)) ggJx7c733_init_d00df_J4_toString_0e30d
theorem dJx7c733_init_d00df_0 : decode cJx7c733_init_d00df 0 = .ok (.aload_n 0, 1) := by decide +kernel
theorem dJx7c733_init_d00df_1 : decode cJx7c733_init_d00df 1 = .ok (.new 10, 3) := by decide +kernel
theorem dJx7c733_init_d00df_4 : decode cJx7c733_init_d00df 4 = .ok (.dup, 1) := by decide +kernel
theorem dJx7c733_init_d00df_5 : decode cJx7c733_init_d00df 5 = .ok (.invokespecial 12, 3) := by decide +kernel
theorem dJx7c733_init_d00df_8 : decode cJx7c733_init_d00df 8 = .ok (.ldc 13, 2) := by decide +kernel
theorem dJx7c733_init_d00df_10 : decode cJx7c733_init_d00df 10 = .ok (.invokevirtual 15, 3) := by decide +kernel
theorem dJx7c733_init_d00df_13 : decode cJx7c733_init_d00df 13 = .ok (.iload_n 1, 1) := by decide +kernel
theorem dJx7c733_init_d00df_14 : decode cJx7c733_init_d00df 14 = .ok (.invokevirtual 19, 3) := by decide +kernel
theorem dJx7c733_init_d00df_17 : decode cJx7c733_init_d00df 17 = .ok (.invokevirtual 22, 3) := by decide +kernel
theorem dJx7c733_init_d00df_20 : decode cJx7c733_init_d00df 20 = .ok (.invokespecial 7, 3) := by decide +kernel
theorem dJx7c733_init_d00df_23 : decode cJx7c733_init_d00df 23 = .ok (.return_, 1) := by decide +kernel
set_option maxRecDepth 20000 in
theorem ggJ1_charAt_3b067_J0_checkIndex_df160 : GoodIn wsJ1_charAt_3b067 wsJ0_checkIndex_df160 := goodIn_r _ [4, 5, 6, 7, 8, 9] (by decide +kernel) (by decide +kernel)
set_option maxRecDepth 20000 in
theorem gJ1_charAt_3b067_J0_checkIndex_df160 : GoodIn wsJ1_charAt_3b067 (va_wsS RJ1 9 yJ0_checkIndex_df160 wsJ0_checkIndex_df160) := goodIn_app (goodIn_of _ (by decide +kernel)) ggJ1_charAt_3b067_J0_checkIndex_df160
theorem dJ1_charAt_3b067_0 : decode cJ1_charAt_3b067 0 = .ok (.iload_n 1, 1) := by decide +kernel
theorem dJ1_charAt_3b067_1 : decode cJ1_charAt_3b067 1 = .ok (.aload_n 0, 1) := by decide +kernel
theorem dJ1_charAt_3b067_2 : decode cJ1_charAt_3b067 2 = .ok (.arraylength, 1) := by decide +kernel
theorem dJ1_charAt_3b067_3 : decode cJ1_charAt_3b067 3 = .ok (.invokestatic 9, 3) := by decide +kernel
theorem dJ1_charAt_3b067_6 : decode cJ1_charAt_3b067 6 = .ok (.aload_n 0, 1) := by decide +kernel
theorem dJ1_charAt_3b067_7 : decode cJ1_charAt_3b067 7 = .ok (.iload_n 1, 1) := by decide +kernel
theorem dJ1_charAt_3b067_8 : decode cJ1_charAt_3b067 8 = .ok (.baload, 1) := by decide +kernel
theorem dJ1_charAt_3b067_9 : decode cJ1_charAt_3b067 9 = .ok (.sipush 255, 3) := by decide +kernel
theorem dJ1_charAt_3b067_12 : decode cJ1_charAt_3b067 12 = .ok (.iand, 1) := by decide +kernel
theorem dJ1_charAt_3b067_13 : decode cJ1_charAt_3b067 13 = .ok (.i2c, 1) := by decide +kernel
theorem dJ1_charAt_3b067_14 : decode cJ1_charAt_3b067 14 = .ok (.ireturn, 1) := by decide +kernel
theorem dJ1_canEncode_fc78d_0 : decode cJ1_canEncode_fc78d 0 = .ok (.iload_n 0, 1) := by decide +kernel
theorem dJ1_canEncode_fc78d_1 : decode cJ1_canEncode_fc78d 1 = .ok (.sipush 255, 3) := by decide +kernel
theorem dJ1_canEncode_fc78d_4 : decode cJ1_canEncode_fc78d 4 = .ok (.if_icmp .gt 7, 3) := by decide +kernel
theorem dJ1_canEncode_fc78d_7 : decode cJ1_canEncode_fc78d 7 = .ok (.iconst 1, 1) := by decide +kernel
theorem dJ1_canEncode_fc78d_8 : decode cJ1_canEncode_fc78d 8 = .ok (.goto 4, 3) := by decide +kernel
theorem dJ1_canEncode_fc78d_11 : decode cJ1_canEncode_fc78d 11 = .ok (.iconst 0, 1) := by decide +kernel
theorem dJ1_canEncode_fc78d_12 : decode cJ1_canEncode_fc78d 12 = .ok (.ireturn, 1) := by decide +kernel
set_option maxRecDepth 20000 in
theorem ggJ1_fillNull_b72d1_J7_fill_eb02e : GoodIn wsJ1_fillNull_b72d1 wsJ7_fill_eb02e := goodIn_r _ [4, 5, 6, 3, 7, 8, 9, 10, 11, 12, 13, 14, 15, 16, 17, 18, 19, 20, 21, 22, 23] (by decide +kernel) (by decide +kernel)
set_option maxRecDepth 20000 in
theorem gJ1_fillNull_b72d1_J7_fill_eb02e : GoodIn wsJ1_fillNull_b72d1 (va_wsS RJ1 236 yJ7_fill_eb02e wsJ7_fill_eb02e) := goodIn_app (goodIn_of _ (by decide +kernel)) ggJ1_fillNull_b72d1_J7_fill_eb02e
theorem dJ1_fillNull_b72d1_0 : decode cJ1_fillNull_b72d1 0 = .ok (.aload_n 0, 1) := by decide +kernel
theorem dJ1_fillNull_b72d1_1 : decode cJ1_fillNull_b72d1 1 = .ok (.iload_n 1, 1) := by decide +kernel
theorem dJ1_fillNull_b72d1_2 : decode cJ1_fillNull_b72d1 2 = .ok (.iload_n 2, 1) := by decide +kernel
theorem dJ1_fillNull_b72d1_3 : decode cJ1_fillNull_b72d1 3 = .ok (.iconst 0, 1) := by decide +kernel
theorem dJ1_fillNull_b72d1_4 : decode cJ1_fillNull_b72d1 4 = .ok (.invokestatic 236, 3) := by decide +kernel
theorem dJ1_fillNull_b72d1_7 : decode cJ1_fillNull_b72d1 7 = .ok (.return_, 1) := by decide +kernel
set_option maxRecDepth 20000 in
theorem ggJ1_inflate_0e8fd_J2_inflate_0e8fd : GoodIn wsJ1_inflate_0e8fd wsJ2_inflate_0e8fd := goodIn_r _ [4, 5, 6, 3, 7, 8, 9, 10, 11, 12, 13, 14, 15, 16, 17, 18, 19, 20, 21, 22, 23, 24, 25] (by decide +kernel) (by decide +kernel)
set_option maxRecDepth 20000 in
theorem gJ1_inflate_0e8fd_J2_inflate_0e8fd : GoodIn wsJ1_inflate_0e8fd (va_wsS RJ1 240 yJ2_inflate_0e8fd wsJ2_inflate_0e8fd) := goodIn_app (goodIn_of _ (by decide +kernel)) ggJ1_inflate_0e8fd_J2_inflate_0e8fd
theorem dJ1_inflate_0e8fd_0 : decode cJ1_inflate_0e8fd 0 = .ok (.aload_n 0, 1) := by decide +kernel
theorem dJ1_inflate_0e8fd_1 : decode cJ1_inflate_0e8fd 1 = .ok (.iload_n 1, 1) := by decide +kernel
theorem dJ1_inflate_0e8fd_2 : decode cJ1_inflate_0e8fd 2 = .ok (.aload_n 2, 1) := by decide +kernel
theorem dJ1_inflate_0e8fd_3 : decode cJ1_inflate_0e8fd 3 = .ok (.iload_n 3, 1) := by decide +kernel
theorem dJ1_inflate_0e8fd_4 : decode cJ1_inflate_0e8fd 4 = .ok (.iload 4, 2) := by decide +kernel
theorem dJ1_inflate_0e8fd_6 : decode cJ1_inflate_0e8fd 6 = .ok (.invokestatic 240, 3) := by decide +kernel
theorem dJ1_inflate_0e8fd_9 : decode cJ1_inflate_0e8fd 9 = .ok (.return_, 1) := by decide +kernel
set_option maxRecDepth 20000 in
theorem ggJ2_newBytesFor_77867_J2_newBytesLength_0f7a4 : GoodIn wsJ2_newBytesFor_77867 wsJ2_newBytesLength_0f7a4 := goodIn_r _ [5, 6] (by decide +kernel) (by decide +kernel)
set_option maxRecDepth 20000 in
theorem gJ2_newBytesFor_77867_J2_newBytesLength_0f7a4 : GoodIn wsJ2_newBytesFor_77867 (va_wsS RJ2 11 yJ2_newBytesLength_0f7a4 wsJ2_newBytesLength_0f7a4) := goodIn_app (goodIn_of _ (by decide +kernel)) ggJ2_newBytesFor_77867_J2_newBytesLength_0f7a4
theorem dJ2_newBytesFor_77867_0 : decode cJ2_newBytesFor_77867 0 = .ok (.iload_n 0, 1) := by decide +kernel
theorem dJ2_newBytesFor_77867_1 : decode cJ2_newBytesFor_77867 1 = .ok (.invokestatic 11, 3) := by decide +kernel
theorem dJ2_newBytesFor_77867_4 : decode cJ2_newBytesFor_77867 4 = .ok (.newarray .byte, 2) := by decide +kernel
theorem dJ2_newBytesFor_77867_6 : decode cJ2_newBytesFor_77867 6 = .ok (.areturn, 1) := by decide +kernel
theorem dJ2_newBytesLength_0f7a4_0 : decode cJ2_newBytesLength_0f7a4 0 = .ok (.iload_n 0, 1) := by decide +kernel
theorem dJ2_newBytesLength_0f7a4_1 : decode cJ2_newBytesLength_0f7a4 1 = .ok (.ifCond .ge 11, 3) := by decide +kernel
theorem dJ2_newBytesLength_0f7a4_4 : decode cJ2_newBytesLength_0f7a4 4 = .ok (.new 17, 3) := by decide +kernel
theorem dJ2_newBytesLength_0f7a4_7 : decode cJ2_newBytesLength_0f7a4 7 = .ok (.dup, 1) := by decide +kernel
theorem dJ2_newBytesLength_0f7a4_8 : decode cJ2_newBytesLength_0f7a4 8 = .ok (.invokespecial 19, 3) := by decide +kernel
theorem dJ2_newBytesLength_0f7a4_11 : decode cJ2_newBytesLength_0f7a4 11 = .ok (.athrow, 1) := by decide +kernel
theorem dJ2_newBytesLength_0f7a4_12 : decode cJ2_newBytesLength_0f7a4 12 = .ok (.iload_n 0, 1) := by decide +kernel
theorem dJ2_newBytesLength_0f7a4_13 : decode cJ2_newBytesLength_0f7a4 13 = .ok (.ldc 20, 2) := by decide +kernel
theorem dJ2_newBytesLength_0f7a4_15 : decode cJ2_newBytesLength_0f7a4 15 = .ok (.if_icmp .lt 40, 3) := by decide +kernel
theorem dJ2_newBytesLength_0f7a4_18 : decode cJ2_newBytesLength_0f7a4 18 = .ok (.new 21, 3) := by decide +kernel
theorem dJ2_newBytesLength_0f7a4_21 : decode cJ2_newBytesLength_0f7a4 21 = .ok (.dup, 1) := by decide +kernel
theorem dJ2_newBytesLength_0f7a4_22 : decode cJ2_newBytesLength_0f7a4 22 = .ok (.new 23, 3) := by decide +kernel
theorem dJ2_newBytesLength_0f7a4_25 : decode cJ2_newBytesLength_0f7a4 25 = .ok (.dup, 1) := by decide +kernel
theorem dJ2_newBytesLength_0f7a4_26 : decode cJ2_newBytesLength_0f7a4 26 = .ok (.invokespecial 25, 3) := by decide +kernel
theorem dJ2_newBytesLength_0f7a4_29 : decode cJ2_newBytesLength_0f7a4 29 = .ok (.ldc 26, 2) := by decide +kernel
theorem dJ2_newBytesLength_0f7a4_31 : decode cJ2_newBytesLength_0f7a4 31 = .ok (.invokevirtual 28, 3) := by decide +kernel
theorem dJ2_newBytesLength_0f7a4_34 : decode cJ2_newBytesLength_0f7a4 34 = .ok (.iload_n 0, 1) := by decide +kernel
theorem dJ2_newBytesLength_0f7a4_35 : decode cJ2_newBytesLength_0f7a4 35 = .ok (.invokevirtual 32, 3) := by decide +kernel
theorem dJ2_newBytesLength_0f7a4_38 : decode cJ2_newBytesLength_0f7a4 38 = .ok (.ldc 35, 2) := by decide +kernel
theorem dJ2_newBytesLength_0f7a4_40 : decode cJ2_newBytesLength_0f7a4 40 = .ok (.invokevirtual 28, 3) := by decide +kernel
theorem dJ2_newBytesLength_0f7a4_43 : decode cJ2_newBytesLength_0f7a4 43 = .ok (.ldc 20, 2) := by decide +kernel
theorem dJ2_newBytesLength_0f7a4_45 : decode cJ2_newBytesLength_0f7a4 45 = .ok (.invokevirtual 32, 3) := by decide +kernel
theorem dJ2_newBytesLength_0f7a4_48 : decode cJ2_newBytesLength_0f7a4 48 = .ok (.invokevirtual 37, 3) := by decide +kernel
theorem dJ2_newBytesLength_0f7a4_51 : decode cJ2_newBytesLength_0f7a4 51 = .ok (.invokespecial 41, 3) := by decide +kernel
theorem dJ2_newBytesLength_0f7a4_54 : decode cJ2_newBytesLength_0f7a4 54 = .ok (.athrow, 1) := by decide +kernel
theorem dJ2_newBytesLength_0f7a4_55 : decode cJ2_newBytesLength_0f7a4 55 = .ok (.iload_n 0, 1) := by decide +kernel
theorem dJ2_newBytesLength_0f7a4_56 : decode cJ2_newBytesLength_0f7a4 56 = .ok (.iconst 1, 1) := by decide +kernel
theorem dJ2_newBytesLength_0f7a4_57 : decode cJ2_newBytesLength_0f7a4 57 = .ok (.ishl, 1) := by decide +kernel
theorem dJ2_newBytesLength_0f7a4_58 : decode cJ2_newBytesLength_0f7a4 58 = .ok (.ireturn, 1) := by decide +kernel
set_option maxRecDepth 20000 in
theorem ggJ2_putChar_b72d1_J2_length_9d52b : GoodIn wsJ2_putChar_b72d1 wsJ2_length_9d52b := goodIn_r _ [7] (by decide +kernel) (by decide +kernel)
set_option maxRecDepth 20000 in
theorem gJ2_putChar_b72d1_J2_length_9d52b : GoodIn wsJ2_putChar_b72d1 (va_wsS RJ2 48 yJ2_length_9d52b wsJ2_length_9d52b) := goodIn_app (goodIn_of _ (by decide +kernel)) ggJ2_putChar_b72d1_J2_length_9d52b
theorem dJ2_putChar_b72d1_0 : decode cJ2_putChar_b72d1 0 = .ok (.getstatic 44, 3) := by decide +kernel
theorem dJ2_putChar_b72d1_3 : decode cJ2_putChar_b72d1 3 = .ok (.ifCond .ne 25, 3) := by decide +kernel
theorem dJ2_putChar_b72d1_6 : decode cJ2_putChar_b72d1 6 = .ok (.iload_n 1, 1) := by decide +kernel
theorem dJ2_putChar_b72d1_7 : decode cJ2_putChar_b72d1 7 = .ok (.ifCond .lt 11, 3) := by decide +kernel
theorem dJ2_putChar_b72d1_10 : decode cJ2_putChar_b72d1 10 = .ok (.iload_n 1, 1) := by decide +kernel
theorem dJ2_putChar_b72d1_11 : decode cJ2_putChar_b72d1 11 = .ok (.aload_n 0, 1) := by decide +kernel
theorem dJ2_putChar_b72d1_12 : decode cJ2_putChar_b72d1 12 = .ok (.invokestatic 48, 3) := by decide +kernel
theorem dJ2_putChar_b72d1_15 : decode cJ2_putChar_b72d1 15 = .ok (.if_icmp .lt 13, 3) := by decide +kernel
theorem dJ2_putChar_b72d1_18 : decode cJ2_putChar_b72d1 18 = .ok (.new 52, 3) := by decide +kernel
theorem dJ2_putChar_b72d1_21 : decode cJ2_putChar_b72d1 21 = .ok (.dup, 1) := by decide +kernel
theorem dJ2_putChar_b72d1_22 : decode cJ2_putChar_b72d1 22 = .ok (.ldc 54, 2) := by decide +kernel
theorem dJ2_putChar_b72d1_24 : decode cJ2_putChar_b72d1 24 = .ok (.invokespecial 56, 3) := by decide +kernel
theorem dJ2_putChar_b72d1_27 : decode cJ2_putChar_b72d1 27 = .ok (.athrow, 1) := by decide +kernel
theorem dJ2_putChar_b72d1_28 : decode cJ2_putChar_b72d1 28 = .ok (.iload_n 1, 1) := by decide +kernel
theorem dJ2_putChar_b72d1_29 : decode cJ2_putChar_b72d1 29 = .ok (.iconst 1, 1) := by decide +kernel
theorem dJ2_putChar_b72d1_30 : decode cJ2_putChar_b72d1 30 = .ok (.ishl, 1) := by decide +kernel
theorem dJ2_putChar_b72d1_31 : decode cJ2_putChar_b72d1 31 = .ok (.istore_n 1, 1) := by decide +kernel
theorem dJ2_putChar_b72d1_32 : decode cJ2_putChar_b72d1 32 = .ok (.aload_n 0, 1) := by decide +kernel
theorem dJ2_putChar_b72d1_33 : decode cJ2_putChar_b72d1 33 = .ok (.iload_n 1, 1) := by decide +kernel
theorem dJ2_putChar_b72d1_34 : decode cJ2_putChar_b72d1 34 = .ok (.iinc 1 1, 3) := by decide +kernel
theorem dJ2_putChar_b72d1_37 : decode cJ2_putChar_b72d1 37 = .ok (.iload_n 2, 1) := by decide +kernel
theorem dJ2_putChar_b72d1_38 : decode cJ2_putChar_b72d1 38 = .ok (.getstatic 59, 3) := by decide +kernel
theorem dJ2_putChar_b72d1_41 : decode cJ2_putChar_b72d1 41 = .ok (.ishr, 1) := by decide +kernel
theorem dJ2_putChar_b72d1_42 : decode cJ2_putChar_b72d1 42 = .ok (.i2b, 1) := by decide +kernel
theorem dJ2_putChar_b72d1_43 : decode cJ2_putChar_b72d1 43 = .ok (.bastore, 1) := by decide +kernel
theorem dJ2_putChar_b72d1_44 : decode cJ2_putChar_b72d1 44 = .ok (.aload_n 0, 1) := by decide +kernel
theorem dJ2_putChar_b72d1_45 : decode cJ2_putChar_b72d1 45 = .ok (.iload_n 1, 1) := by decide +kernel
theorem dJ2_putChar_b72d1_46 : decode cJ2_putChar_b72d1 46 = .ok (.iload_n 2, 1) := by decide +kernel
theorem dJ2_putChar_b72d1_47 : decode cJ2_putChar_b72d1 47 = .ok (.getstatic 63, 3) := by decide +kernel
theorem dJ2_putChar_b72d1_50 : decode cJ2_putChar_b72d1 50 = .ok (.ishr, 1) := by decide +kernel
theorem dJ2_putChar_b72d1_51 : decode cJ2_putChar_b72d1 51 = .ok (.i2b, 1) := by decide +kernel
theorem dJ2_putChar_b72d1_52 : decode cJ2_putChar_b72d1 52 = .ok (.bastore, 1) := by decide +kernel
theorem dJ2_putChar_b72d1_53 : decode cJ2_putChar_b72d1 53 = .ok (.return_, 1) := by decide +kernel
set_option maxRecDepth 20000 in
theorem ggJ2_getChar_3b067_J2_length_9d52b : GoodIn wsJ2_getChar_3b067 wsJ2_length_9d52b := goodIn_r _ [7] (by decide +kernel) (by decide +kernel)
set_option maxRecDepth 20000 in
theorem gJ2_getChar_3b067_J2_length_9d52b : GoodIn wsJ2_getChar_3b067 (va_wsS RJ2 48 yJ2_length_9d52b wsJ2_length_9d52b) := goodIn_app (goodIn_of _ (by decide +kernel)) ggJ2_getChar_3b067_J2_length_9d52b
theorem dJ2_getChar_3b067_0 : decode cJ2_getChar_3b067 0 = .ok (.getstatic 44, 3) := by decide +kernel
theorem dJ2_getChar_3b067_3 : decode cJ2_getChar_3b067 3 = .ok (.ifCond .ne 25, 3) := by decide +kernel
theorem dJ2_getChar_3b067_6 : decode cJ2_getChar_3b067 6 = .ok (.iload_n 1, 1) := by decide +kernel
theorem dJ2_getChar_3b067_7 : decode cJ2_getChar_3b067 7 = .ok (.ifCond .lt 11, 3) := by decide +kernel
theorem dJ2_getChar_3b067_10 : decode cJ2_getChar_3b067 10 = .ok (.iload_n 1, 1) := by decide +kernel
theorem dJ2_getChar_3b067_11 : decode cJ2_getChar_3b067 11 = .ok (.aload_n 0, 1) := by decide +kernel
theorem dJ2_getChar_3b067_12 : decode cJ2_getChar_3b067 12 = .ok (.invokestatic 48, 3) := by decide +kernel
theorem dJ2_getChar_3b067_15 : decode cJ2_getChar_3b067 15 = .ok (.if_icmp .lt 13, 3) := by decide +kernel
theorem dJ2_getChar_3b067_18 : decode cJ2_getChar_3b067 18 = .ok (.new 52, 3) := by decide +kernel
theorem dJ2_getChar_3b067_21 : decode cJ2_getChar_3b067 21 = .ok (.dup, 1) := by decide +kernel
theorem dJ2_getChar_3b067_22 : decode cJ2_getChar_3b067 22 = .ok (.ldc 54, 2) := by decide +kernel
theorem dJ2_getChar_3b067_24 : decode cJ2_getChar_3b067 24 = .ok (.invokespecial 56, 3) := by decide +kernel
theorem dJ2_getChar_3b067_27 : decode cJ2_getChar_3b067 27 = .ok (.athrow, 1) := by decide +kernel
theorem dJ2_getChar_3b067_28 : decode cJ2_getChar_3b067 28 = .ok (.iload_n 1, 1) := by decide +kernel
theorem dJ2_getChar_3b067_29 : decode cJ2_getChar_3b067 29 = .ok (.iconst 1, 1) := by decide +kernel
theorem dJ2_getChar_3b067_30 : decode cJ2_getChar_3b067 30 = .ok (.ishl, 1) := by decide +kernel
theorem dJ2_getChar_3b067_31 : decode cJ2_getChar_3b067 31 = .ok (.istore_n 1, 1) := by decide +kernel
theorem dJ2_getChar_3b067_32 : decode cJ2_getChar_3b067 32 = .ok (.aload_n 0, 1) := by decide +kernel
theorem dJ2_getChar_3b067_33 : decode cJ2_getChar_3b067 33 = .ok (.iload_n 1, 1) := by decide +kernel
theorem dJ2_getChar_3b067_34 : decode cJ2_getChar_3b067 34 = .ok (.iinc 1 1, 3) := by decide +kernel
theorem dJ2_getChar_3b067_37 : decode cJ2_getChar_3b067 37 = .ok (.baload, 1) := by decide +kernel
theorem dJ2_getChar_3b067_38 : decode cJ2_getChar_3b067 38 = .ok (.sipush 255, 3) := by decide +kernel
theorem dJ2_getChar_3b067_41 : decode cJ2_getChar_3b067 41 = .ok (.iand, 1) := by decide +kernel
theorem dJ2_getChar_3b067_42 : decode cJ2_getChar_3b067 42 = .ok (.getstatic 59, 3) := by decide +kernel
theorem dJ2_getChar_3b067_45 : decode cJ2_getChar_3b067 45 = .ok (.ishl, 1) := by decide +kernel
theorem dJ2_getChar_3b067_46 : decode cJ2_getChar_3b067 46 = .ok (.aload_n 0, 1) := by decide +kernel
theorem dJ2_getChar_3b067_47 : decode cJ2_getChar_3b067 47 = .ok (.iload_n 1, 1) := by decide +kernel
theorem dJ2_getChar_3b067_48 : decode cJ2_getChar_3b067 48 = .ok (.baload, 1) := by decide +kernel
theorem dJ2_getChar_3b067_49 : decode cJ2_getChar_3b067 49 = .ok (.sipush 255, 3) := by decide +kernel
theorem dJ2_getChar_3b067_52 : decode cJ2_getChar_3b067 52 = .ok (.iand, 1) := by decide +kernel
theorem dJ2_getChar_3b067_53 : decode cJ2_getChar_3b067 53 = .ok (.getstatic 63, 3) := by decide +kernel
theorem dJ2_getChar_3b067_56 : decode cJ2_getChar_3b067 56 = .ok (.ishl, 1) := by decide +kernel
theorem dJ2_getChar_3b067_57 : decode cJ2_getChar_3b067 57 = .ok (.ior, 1) := by decide +kernel
theorem dJ2_getChar_3b067_58 : decode cJ2_getChar_3b067 58 = .ok (.i2c, 1) := by decide +kernel
theorem dJ2_getChar_3b067_59 : decode cJ2_getChar_3b067 59 = .ok (.ireturn, 1) := by decide +kernel
theorem dJ2_length_9d52b_0 : decode cJ2_length_9d52b 0 = .ok (.aload_n 0, 1) := by decide +kernel
theorem dJ2_length_9d52b_1 : decode cJ2_length_9d52b 1 = .ok (.arraylength, 1) := by decide +kernel
theorem dJ2_length_9d52b_2 : decode cJ2_length_9d52b 2 = .ok (.iconst 1, 1) := by decide +kernel
theorem dJ2_length_9d52b_3 : decode cJ2_length_9d52b 3 = .ok (.ishr, 1) := by decide +kernel
theorem dJ2_length_9d52b_4 : decode cJ2_length_9d52b 4 = .ok (.ireturn, 1) := by decide +kernel
theorem dJ2_coderFromArrayLen_85cad_0 : decode cJ2_coderFromArrayLen_85cad 0 = .ok (.iload_n 1, 1) := by decide +kernel
theorem dJ2_coderFromArrayLen_85cad_1 : decode cJ2_coderFromArrayLen_85cad 1 = .ok (.aload_n 0, 1) := by decide +kernel
theorem dJ2_coderFromArrayLen_85cad_2 : decode cJ2_coderFromArrayLen_85cad 2 = .ok (.arraylength, 1) := by decide +kernel
theorem dJ2_coderFromArrayLen_85cad_3 : decode cJ2_coderFromArrayLen_85cad 3 = .ok (.isub, 1) := by decide +kernel
theorem dJ2_coderFromArrayLen_85cad_4 : decode cJ2_coderFromArrayLen_85cad 4 = .ok (.bipush 31, 2) := by decide +kernel
theorem dJ2_coderFromArrayLen_85cad_6 : decode cJ2_coderFromArrayLen_85cad 6 = .ok (.iushr, 1) := by decide +kernel
theorem dJ2_coderFromArrayLen_85cad_7 : decode cJ2_coderFromArrayLen_85cad 7 = .ok (.i2b, 1) := by decide +kernel
theorem dJ2_coderFromArrayLen_85cad_8 : decode cJ2_coderFromArrayLen_85cad 8 = .ok (.ireturn, 1) := by decide +kernel
set_option maxRecDepth 20000 in
theorem ggJ2_compress_39247_J2_compress_5af95 : GoodIn wsJ2_compress_39247 wsJ2_compress_5af95 := goodIn_r _ [5, 6, 7, 4, 8, 9, 10, 11, 12, 13, 14, 15, 16, 17, 18, 19, 20, 21, 22, 23, 24, 25, 26] (by decide +kernel) (by decide +kernel)
set_option maxRecDepth 20000 in
theorem gJ2_compress_39247_J2_compress_5af95 : GoodIn wsJ2_compress_39247 (va_wsS RJ2 123 yJ2_compress_5af95 wsJ2_compress_5af95) := goodIn_app (goodIn_of _ (by decide +kernel)) ggJ2_compress_39247_J2_compress_5af95
set_option maxRecDepth 20000 in
theorem ggJ2_compress_39247_J2_newBytesLength_0f7a4 : GoodIn wsJ2_compress_39247 wsJ2_newBytesLength_0f7a4 := goodIn_r _ [29, 30] (by decide +kernel) (by decide +kernel)
set_option maxRecDepth 20000 in
theorem gJ2_compress_39247_J2_newBytesLength_0f7a4 : GoodIn wsJ2_compress_39247 (va_wsS RJ2 11 yJ2_newBytesLength_0f7a4 wsJ2_newBytesLength_0f7a4) := goodIn_app (goodIn_of _ (by decide +kernel)) ggJ2_compress_39247_J2_newBytesLength_0f7a4
set_option maxRecDepth 20000 in
theorem ggJ2_compress_39247_J7_copyOfRange_39247 : GoodIn wsJ2_compress_39247 wsJ7_copyOfRange_39247 := goodIn_r _ [34, 35, 36, 37, 38, 39, 40, 41, 42, 33, 43, 1, 44, 45, 46, 47, 48, 49, 50, 51, 52, 53, 54, 55, 56, 57, 58, 59, 60, 61] (by decide +kernel) (by decide +kernel)
set_option maxRecDepth 20000 in
theorem gJ2_compress_39247_J7_copyOfRange_39247 : GoodIn wsJ2_compress_39247 (va_wsS RJ2 126 yJ7_copyOfRange_39247 wsJ7_copyOfRange_39247) := goodIn_app (goodIn_of _ (by decide +kernel)) ggJ2_compress_39247_J7_copyOfRange_39247
set_option maxRecDepth 20000 in
theorem ggJ2_compress_39247_J2_getChar_3b067 : GoodIn wsJ2_compress_39247 wsJ2_getChar_3b067 := goodIn_r _ [23, 24, 25, 26, 9, 10, 4, 11] (by decide +kernel) (by decide +kernel)
set_option maxRecDepth 20000 in
theorem gJ2_compress_39247_J2_getChar_3b067 : GoodIn wsJ2_compress_39247 (va_wsS RJ2 71 yJ2_getChar_3b067 wsJ2_getChar_3b067) := goodIn_app (goodIn_of _ (by decide +kernel)) ggJ2_compress_39247_J2_getChar_3b067
theorem dJ2_compress_39247_0 : decode cJ2_compress_39247 0 = .ok (.iload_n 2, 1) := by decide +kernel
theorem dJ2_compress_39247_1 : decode cJ2_compress_39247 1 = .ok (.newarray .byte, 2) := by decide +kernel
theorem dJ2_compress_39247_3 : decode cJ2_compress_39247 3 = .ok (.astore_n 3, 1) := by decide +kernel
theorem dJ2_compress_39247_4 : decode cJ2_compress_39247 4 = .ok (.aload_n 0, 1) := by decide +kernel
theorem dJ2_compress_39247_5 : decode cJ2_compress_39247 5 = .ok (.iload_n 1, 1) := by decide +kernel
theorem dJ2_compress_39247_6 : decode cJ2_compress_39247 6 = .ok (.aload_n 3, 1) := by decide +kernel
theorem dJ2_compress_39247_7 : decode cJ2_compress_39247 7 = .ok (.iconst 0, 1) := by decide +kernel
theorem dJ2_compress_39247_8 : decode cJ2_compress_39247 8 = .ok (.iload_n 2, 1) := by decide +kernel
theorem dJ2_compress_39247_9 : decode cJ2_compress_39247 9 = .ok (.invokestatic 123, 3) := by decide +kernel
theorem dJ2_compress_39247_12 : decode cJ2_compress_39247 12 = .ok (.istore 4, 2) := by decide +kernel
theorem dJ2_compress_39247_14 : decode cJ2_compress_39247 14 = .ok (.iload 4, 2) := by decide +kernel
theorem dJ2_compress_39247_16 : decode cJ2_compress_39247 16 = .ok (.iload_n 2, 1) := by decide +kernel
theorem dJ2_compress_39247_17 : decode cJ2_compress_39247 17 = .ok (.if_icmp .eq 47, 3) := by decide +kernel
theorem dJ2_compress_39247_20 : decode cJ2_compress_39247 20 = .ok (.aload_n 0, 1) := by decide +kernel
theorem dJ2_compress_39247_21 : decode cJ2_compress_39247 21 = .ok (.iload_n 1, 1) := by decide +kernel
theorem dJ2_compress_39247_22 : decode cJ2_compress_39247 22 = .ok (.iconst 1, 1) := by decide +kernel
theorem dJ2_compress_39247_23 : decode cJ2_compress_39247 23 = .ok (.ishl, 1) := by decide +kernel
theorem dJ2_compress_39247_24 : decode cJ2_compress_39247 24 = .ok (.iload_n 1, 1) := by decide +kernel
theorem dJ2_compress_39247_25 : decode cJ2_compress_39247 25 = .ok (.iload_n 2, 1) := by decide +kernel
theorem dJ2_compress_39247_26 : decode cJ2_compress_39247 26 = .ok (.iadd, 1) := by decide +kernel
theorem dJ2_compress_39247_27 : decode cJ2_compress_39247 27 = .ok (.invokestatic 11, 3) := by decide +kernel
theorem dJ2_compress_39247_30 : decode cJ2_compress_39247 30 = .ok (.invokestatic 126, 3) := by decide +kernel
theorem dJ2_compress_39247_33 : decode cJ2_compress_39247 33 = .ok (.astore 5, 2) := by decide +kernel
theorem dJ2_compress_39247_35 : decode cJ2_compress_39247 35 = .ok (.aload 5, 2) := by decide +kernel
theorem dJ2_compress_39247_37 : decode cJ2_compress_39247 37 = .ok (.iload 4, 2) := by decide +kernel
theorem dJ2_compress_39247_39 : decode cJ2_compress_39247 39 = .ok (.invokestatic 71, 3) := by decide +kernel
theorem dJ2_compress_39247_42 : decode cJ2_compress_39247 42 = .ok (.sipush 255, 3) := by decide +kernel
theorem dJ2_compress_39247_45 : decode cJ2_compress_39247 45 = .ok (.if_icmp .gt 16, 3) := by decide +kernel
theorem dJ2_compress_39247_48 : decode cJ2_compress_39247 48 = .ok (.aload 5, 2) := by decide +kernel
theorem dJ2_compress_39247_50 : decode cJ2_compress_39247 50 = .ok (.iconst 0, 1) := by decide +kernel
theorem dJ2_compress_39247_51 : decode cJ2_compress_39247 51 = .ok (.aload_n 3, 1) := by decide +kernel
theorem dJ2_compress_39247_52 : decode cJ2_compress_39247 52 = .ok (.iconst 0, 1) := by decide +kernel
theorem dJ2_compress_39247_53 : decode cJ2_compress_39247 53 = .ok (.iload_n 2, 1) := by decide +kernel
theorem dJ2_compress_39247_54 : decode cJ2_compress_39247 54 = .ok (.invokestatic 123, 3) := by decide +kernel
theorem dJ2_compress_39247_57 : decode cJ2_compress_39247 57 = .ok (.iload_n 2, 1) := by decide +kernel
theorem dJ2_compress_39247_58 : decode cJ2_compress_39247 58 = .ok (.if_icmp .eq 6, 3) := by decide +kernel
theorem dJ2_compress_39247_61 : decode cJ2_compress_39247 61 = .ok (.aload 5, 2) := by decide +kernel
theorem dJ2_compress_39247_63 : decode cJ2_compress_39247 63 = .ok (.areturn, 1) := by decide +kernel
theorem dJ2_compress_39247_64 : decode cJ2_compress_39247 64 = .ok (.aload_n 3, 1) := by decide +kernel
theorem dJ2_compress_39247_65 : decode cJ2_compress_39247 65 = .ok (.areturn, 1) := by decide +kernel
set_option maxRecDepth 20000 in
theorem ggJ2_compress_5af95_J2_checkBoundsOffCount_d044e : GoodIn wsJ2_compress_5af95 wsJ2_checkBoundsOffCount_d044e := goodIn_r _ [4, 5, 6, 3, 7, 8, 9, 10, 11, 12, 13, 14, 15, 16] (by decide +kernel) (by decide +kernel)
set_option maxRecDepth 20000 in
theorem gJ2_compress_5af95_J2_checkBoundsOffCount_d044e : GoodIn wsJ2_compress_5af95 (va_wsS RJ2 173 yJ2_checkBoundsOffCount_d044e wsJ2_checkBoundsOffCount_d044e) := goodIn_app (goodIn_of _ (by decide +kernel)) ggJ2_compress_5af95_J2_checkBoundsOffCount_d044e
set_option maxRecDepth 20000 in
theorem ggJ2_compress_5af95_J2_getChar_3b067 : GoodIn wsJ2_compress_5af95 wsJ2_getChar_3b067 := goodIn_r _ [19, 20, 21, 22, 5, 6, 3, 7] (by decide +kernel) (by decide +kernel)
set_option maxRecDepth 20000 in
theorem gJ2_compress_5af95_J2_getChar_3b067 : GoodIn wsJ2_compress_5af95 (va_wsS RJ2 71 yJ2_getChar_3b067 wsJ2_getChar_3b067) := goodIn_app (goodIn_of _ (by decide +kernel)) ggJ2_compress_5af95_J2_getChar_3b067
theorem dJ2_compress_5af95_0 : decode cJ2_compress_5af95 0 = .ok (.iload_n 1, 1) := by decide +kernel
theorem dJ2_compress_5af95_1 : decode cJ2_compress_5af95 1 = .ok (.iload 4, 2) := by decide +kernel
theorem dJ2_compress_5af95_3 : decode cJ2_compress_5af95 3 = .ok (.aload_n 0, 1) := by decide +kernel
theorem dJ2_compress_5af95_4 : decode cJ2_compress_5af95 4 = .ok (.invokestatic 173, 3) := by decide +kernel
theorem dJ2_compress_5af95_7 : decode cJ2_compress_5af95 7 = .ok (.iconst 0, 1) := by decide +kernel
theorem dJ2_compress_5af95_8 : decode cJ2_compress_5af95 8 = .ok (.istore 5, 2) := by decide +kernel
theorem dJ2_compress_5af95_10 : decode cJ2_compress_5af95 10 = .ok (.iload 5, 2) := by decide +kernel
theorem dJ2_compress_5af95_12 : decode cJ2_compress_5af95 12 = .ok (.iload 4, 2) := by decide +kernel
theorem dJ2_compress_5af95_14 : decode cJ2_compress_5af95 14 = .ok (.if_icmp .ge 39, 3) := by decide +kernel
theorem dJ2_compress_5af95_17 : decode cJ2_compress_5af95 17 = .ok (.aload_n 0, 1) := by decide +kernel
theorem dJ2_compress_5af95_18 : decode cJ2_compress_5af95 18 = .ok (.iload_n 1, 1) := by decide +kernel
theorem dJ2_compress_5af95_19 : decode cJ2_compress_5af95 19 = .ok (.invokestatic 71, 3) := by decide +kernel
theorem dJ2_compress_5af95_22 : decode cJ2_compress_5af95 22 = .ok (.istore 6, 2) := by decide +kernel
theorem dJ2_compress_5af95_24 : decode cJ2_compress_5af95 24 = .ok (.iload 6, 2) := by decide +kernel
theorem dJ2_compress_5af95_26 : decode cJ2_compress_5af95 26 = .ok (.sipush 255, 3) := by decide +kernel
theorem dJ2_compress_5af95_29 : decode cJ2_compress_5af95 29 = .ok (.if_icmp .le 6, 3) := by decide +kernel
theorem dJ2_compress_5af95_32 : decode cJ2_compress_5af95 32 = .ok (.iload 5, 2) := by decide +kernel
theorem dJ2_compress_5af95_34 : decode cJ2_compress_5af95 34 = .ok (.ireturn, 1) := by decide +kernel
theorem dJ2_compress_5af95_35 : decode cJ2_compress_5af95 35 = .ok (.aload_n 2, 1) := by decide +kernel
theorem dJ2_compress_5af95_36 : decode cJ2_compress_5af95 36 = .ok (.iload_n 3, 1) := by decide +kernel
theorem dJ2_compress_5af95_37 : decode cJ2_compress_5af95 37 = .ok (.iload 6, 2) := by decide +kernel
theorem dJ2_compress_5af95_39 : decode cJ2_compress_5af95 39 = .ok (.i2b, 1) := by decide +kernel
theorem dJ2_compress_5af95_40 : decode cJ2_compress_5af95 40 = .ok (.bastore, 1) := by decide +kernel
theorem dJ2_compress_5af95_41 : decode cJ2_compress_5af95 41 = .ok (.iinc 1 1, 3) := by decide +kernel
theorem dJ2_compress_5af95_44 : decode cJ2_compress_5af95 44 = .ok (.iinc 3 1, 3) := by decide +kernel
theorem dJ2_compress_5af95_47 : decode cJ2_compress_5af95 47 = .ok (.iinc 5 1, 3) := by decide +kernel
theorem dJ2_compress_5af95_50 : decode cJ2_compress_5af95 50 = .ok (.goto (-40), 3) := by decide +kernel
theorem dJ2_compress_5af95_53 : decode cJ2_compress_5af95 53 = .ok (.iload 4, 2) := by decide +kernel
theorem dJ2_compress_5af95_55 : decode cJ2_compress_5af95 55 = .ok (.ireturn, 1) := by decide +kernel
set_option maxRecDepth 20000 in
theorem ggJ2_fillNull_b72d1_J7_fill_eb02e : GoodIn wsJ2_fillNull_b72d1 wsJ7_fill_eb02e := goodIn_r _ [4, 5, 6, 3, 7, 8, 9, 10, 11, 12, 13, 14, 15, 16, 17, 18, 19, 20, 21, 22, 23] (by decide +kernel) (by decide +kernel)
set_option maxRecDepth 20000 in
theorem gJ2_fillNull_b72d1_J7_fill_eb02e : GoodIn wsJ2_fillNull_b72d1 (va_wsS RJ2 380 yJ7_fill_eb02e wsJ7_fill_eb02e) := goodIn_app (goodIn_of _ (by decide +kernel)) ggJ2_fillNull_b72d1_J7_fill_eb02e
theorem dJ2_fillNull_b72d1_0 : decode cJ2_fillNull_b72d1 0 = .ok (.aload_n 0, 1) := by decide +kernel
theorem dJ2_fillNull_b72d1_1 : decode cJ2_fillNull_b72d1 1 = .ok (.iload_n 1, 1) := by decide +kernel
theorem dJ2_fillNull_b72d1_2 : decode cJ2_fillNull_b72d1 2 = .ok (.iconst 1, 1) := by decide +kernel
theorem dJ2_fillNull_b72d1_3 : decode cJ2_fillNull_b72d1 3 = .ok (.ishl, 1) := by decide +kernel
theorem dJ2_fillNull_b72d1_4 : decode cJ2_fillNull_b72d1 4 = .ok (.iload_n 2, 1) := by decide +kernel
theorem dJ2_fillNull_b72d1_5 : decode cJ2_fillNull_b72d1 5 = .ok (.iconst 1, 1) := by decide +kernel
theorem dJ2_fillNull_b72d1_6 : decode cJ2_fillNull_b72d1 6 = .ok (.ishl, 1) := by decide +kernel
theorem dJ2_fillNull_b72d1_7 : decode cJ2_fillNull_b72d1 7 = .ok (.iconst 0, 1) := by decide +kernel
theorem dJ2_fillNull_b72d1_8 : decode cJ2_fillNull_b72d1 8 = .ok (.invokestatic 380, 3) := by decide +kernel
theorem dJ2_fillNull_b72d1_11 : decode cJ2_fillNull_b72d1 11 = .ok (.return_, 1) := by decide +kernel
set_option maxRecDepth 20000 in
theorem ggJ2_putCharSB_b72d1_J2_checkIndex_2214a : GoodIn wsJ2_putCharSB_b72d1 wsJ2_checkIndex_2214a := goodIn_r _ [4, 5, 6, 3, 7, 8, 9, 10, 11, 12, 13, 14, 15, 16] (by decide +kernel) (by decide +kernel)
set_option maxRecDepth 20000 in
theorem gJ2_putCharSB_b72d1_J2_checkIndex_2214a : GoodIn wsJ2_putCharSB_b72d1 (va_wsS RJ2 67 yJ2_checkIndex_2214a wsJ2_checkIndex_2214a) := goodIn_app (goodIn_of _ (by decide +kernel)) ggJ2_putCharSB_b72d1_J2_checkIndex_2214a
set_option maxRecDepth 20000 in
theorem ggJ2_putCharSB_b72d1_J2_putChar_b72d1 : GoodIn wsJ2_putCharSB_b72d1 wsJ2_putChar_b72d1 := goodIn_r _ [19, 20, 21, 22, 5, 6, 3, 7] (by decide +kernel) (by decide +kernel)
set_option maxRecDepth 20000 in
theorem gJ2_putCharSB_b72d1_J2_putChar_b72d1 : GoodIn wsJ2_putCharSB_b72d1 (va_wsS RJ2 111 yJ2_putChar_b72d1 wsJ2_putChar_b72d1) := goodIn_app (goodIn_of _ (by decide +kernel)) ggJ2_putCharSB_b72d1_J2_putChar_b72d1
theorem dJ2_putCharSB_b72d1_0 : decode cJ2_putCharSB_b72d1 0 = .ok (.iload_n 1, 1) := by decide +kernel
theorem dJ2_putCharSB_b72d1_1 : decode cJ2_putCharSB_b72d1 1 = .ok (.aload_n 0, 1) := by decide +kernel
theorem dJ2_putCharSB_b72d1_2 : decode cJ2_putCharSB_b72d1 2 = .ok (.invokestatic 67, 3) := by decide +kernel
theorem dJ2_putCharSB_b72d1_5 : decode cJ2_putCharSB_b72d1 5 = .ok (.aload_n 0, 1) := by decide +kernel
theorem dJ2_putCharSB_b72d1_6 : decode cJ2_putCharSB_b72d1 6 = .ok (.iload_n 1, 1) := by decide +kernel
theorem dJ2_putCharSB_b72d1_7 : decode cJ2_putCharSB_b72d1 7 = .ok (.iload_n 2, 1) := by decide +kernel
theorem dJ2_putCharSB_b72d1_8 : decode cJ2_putCharSB_b72d1 8 = .ok (.invokestatic 111, 3) := by decide +kernel
theorem dJ2_putCharSB_b72d1_11 : decode cJ2_putCharSB_b72d1 11 = .ok (.return_, 1) := by decide +kernel
set_option maxRecDepth 20000 in
theorem ggJ2_getChars_46870_J2_checkBoundsBeginEnd_d044e : GoodIn wsJ2_getChars_46870 wsJ2_checkBoundsBeginEnd_d044e := goodIn_r _ [5, 6, 7, 4, 8, 9, 10, 11, 12, 13, 14, 15, 16, 17] (by decide +kernel) (by decide +kernel)
set_option maxRecDepth 20000 in
theorem gJ2_getChars_46870_J2_checkBoundsBeginEnd_d044e : GoodIn wsJ2_getChars_46870 (va_wsS RJ2 96 yJ2_checkBoundsBeginEnd_d044e wsJ2_checkBoundsBeginEnd_d044e) := goodIn_app (goodIn_of _ (by decide +kernel)) ggJ2_getChars_46870_J2_checkBoundsBeginEnd_d044e
set_option maxRecDepth 20000 in
theorem ggJ2_getChars_46870_J2_getChars_ba4f3 : GoodIn wsJ2_getChars_46870 wsJ2_getChars_ba4f3 := goodIn_r _ [20, 21, 22, 23, 24, 4, 25, 1, 26, 27, 6, 7, 8] (by decide +kernel) (by decide +kernel)
set_option maxRecDepth 20000 in
theorem gJ2_getChars_46870_J2_getChars_ba4f3 : GoodIn wsJ2_getChars_46870 (va_wsS RJ2 393 yJ2_getChars_ba4f3 wsJ2_getChars_ba4f3) := goodIn_app (goodIn_of _ (by decide +kernel)) ggJ2_getChars_46870_J2_getChars_ba4f3
theorem dJ2_getChars_46870_0 : decode cJ2_getChars_46870 0 = .ok (.iload_n 1, 1) := by decide +kernel
theorem dJ2_getChars_46870_1 : decode cJ2_getChars_46870 1 = .ok (.iload_n 2, 1) := by decide +kernel
theorem dJ2_getChars_46870_2 : decode cJ2_getChars_46870 2 = .ok (.aload_n 3, 1) := by decide +kernel
theorem dJ2_getChars_46870_3 : decode cJ2_getChars_46870 3 = .ok (.invokestatic 96, 3) := by decide +kernel
theorem dJ2_getChars_46870_6 : decode cJ2_getChars_46870 6 = .ok (.iload_n 0, 1) := by decide +kernel
theorem dJ2_getChars_46870_7 : decode cJ2_getChars_46870 7 = .ok (.iload_n 2, 1) := by decide +kernel
theorem dJ2_getChars_46870_8 : decode cJ2_getChars_46870 8 = .ok (.aload_n 3, 1) := by decide +kernel
theorem dJ2_getChars_46870_9 : decode cJ2_getChars_46870 9 = .ok (.invokestatic 393, 3) := by decide +kernel
theorem dJ2_getChars_46870_12 : decode cJ2_getChars_46870 12 = .ok (.istore 4, 2) := by decide +kernel
theorem dJ2_getChars_46870_14 : decode cJ2_getChars_46870 14 = .ok (.getstatic 44, 3) := by decide +kernel
theorem dJ2_getChars_46870_17 : decode cJ2_getChars_46870 17 = .ok (.ifCond .ne 17, 3) := by decide +kernel
theorem dJ2_getChars_46870_20 : decode cJ2_getChars_46870 20 = .ok (.iload_n 1, 1) := by decide +kernel
theorem dJ2_getChars_46870_21 : decode cJ2_getChars_46870 21 = .ok (.iload 4, 2) := by decide +kernel
theorem dJ2_getChars_46870_23 : decode cJ2_getChars_46870 23 = .ok (.if_icmp .eq 11, 3) := by decide +kernel
theorem dJ2_getChars_46870_26 : decode cJ2_getChars_46870 26 = .ok (.new 52, 3) := by decide +kernel
theorem dJ2_getChars_46870_29 : decode cJ2_getChars_46870 29 = .ok (.dup, 1) := by decide +kernel
theorem dJ2_getChars_46870_30 : decode cJ2_getChars_46870 30 = .ok (.invokespecial 66, 3) := by decide +kernel
theorem dJ2_getChars_46870_33 : decode cJ2_getChars_46870 33 = .ok (.athrow, 1) := by decide +kernel
theorem dJ2_getChars_46870_34 : decode cJ2_getChars_46870 34 = .ok (.iload 4, 2) := by decide +kernel
theorem dJ2_getChars_46870_36 : decode cJ2_getChars_46870 36 = .ok (.ireturn, 1) := by decide +kernel
set_option maxRecDepth 20000 in
theorem ggJ2_putCharsAt_cd4e5_J2_checkBoundsBeginEnd_d044e : GoodIn wsJ2_putCharsAt_cd4e5 wsJ2_checkBoundsBeginEnd_d044e := goodIn_r _ [5, 6, 7, 4, 8, 9, 10, 11, 12, 13, 14, 15, 16, 17] (by decide +kernel) (by decide +kernel)
set_option maxRecDepth 20000 in
theorem gJ2_putCharsAt_cd4e5_J2_checkBoundsBeginEnd_d044e : GoodIn wsJ2_putCharsAt_cd4e5 (va_wsS RJ2 96 yJ2_checkBoundsBeginEnd_d044e wsJ2_checkBoundsBeginEnd_d044e) := goodIn_app (goodIn_of _ (by decide +kernel)) ggJ2_putCharsAt_cd4e5_J2_checkBoundsBeginEnd_d044e
set_option maxRecDepth 20000 in
theorem ggJ2_putCharsAt_cd4e5_J2_putChar_b72d1 : GoodIn wsJ2_putCharsAt_cd4e5 wsJ2_putChar_b72d1 := goodIn_r _ [20, 1, 21, 22, 6, 7, 4, 8] (by decide +kernel) (by decide +kernel)
set_option maxRecDepth 20000 in
theorem gJ2_putCharsAt_cd4e5_J2_putChar_b72d1 : GoodIn wsJ2_putCharsAt_cd4e5 (va_wsS RJ2 111 yJ2_putChar_b72d1 wsJ2_putChar_b72d1) := goodIn_app (goodIn_of _ (by decide +kernel)) ggJ2_putCharsAt_cd4e5_J2_putChar_b72d1
theorem dJ2_putCharsAt_cd4e5_0 : decode cJ2_putCharsAt_cd4e5 0 = .ok (.iload_n 1, 1) := by decide +kernel
theorem dJ2_putCharsAt_cd4e5_1 : decode cJ2_putCharsAt_cd4e5 1 = .ok (.iconst 4, 1) := by decide +kernel
theorem dJ2_putCharsAt_cd4e5_2 : decode cJ2_putCharsAt_cd4e5 2 = .ok (.iadd, 1) := by decide +kernel
theorem dJ2_putCharsAt_cd4e5_3 : decode cJ2_putCharsAt_cd4e5 3 = .ok (.istore 6, 2) := by decide +kernel
theorem dJ2_putCharsAt_cd4e5_5 : decode cJ2_putCharsAt_cd4e5 5 = .ok (.iload_n 1, 1) := by decide +kernel
theorem dJ2_putCharsAt_cd4e5_6 : decode cJ2_putCharsAt_cd4e5 6 = .ok (.iload 6, 2) := by decide +kernel
theorem dJ2_putCharsAt_cd4e5_8 : decode cJ2_putCharsAt_cd4e5 8 = .ok (.aload_n 0, 1) := by decide +kernel
theorem dJ2_putCharsAt_cd4e5_9 : decode cJ2_putCharsAt_cd4e5 9 = .ok (.invokestatic 96, 3) := by decide +kernel
theorem dJ2_putCharsAt_cd4e5_12 : decode cJ2_putCharsAt_cd4e5 12 = .ok (.aload_n 0, 1) := by decide +kernel
theorem dJ2_putCharsAt_cd4e5_13 : decode cJ2_putCharsAt_cd4e5 13 = .ok (.iload_n 1, 1) := by decide +kernel
theorem dJ2_putCharsAt_cd4e5_14 : decode cJ2_putCharsAt_cd4e5 14 = .ok (.iinc 1 1, 3) := by decide +kernel
theorem dJ2_putCharsAt_cd4e5_17 : decode cJ2_putCharsAt_cd4e5 17 = .ok (.iload_n 2, 1) := by decide +kernel
theorem dJ2_putCharsAt_cd4e5_18 : decode cJ2_putCharsAt_cd4e5 18 = .ok (.invokestatic 111, 3) := by decide +kernel
theorem dJ2_putCharsAt_cd4e5_21 : decode cJ2_putCharsAt_cd4e5 21 = .ok (.aload_n 0, 1) := by decide +kernel
theorem dJ2_putCharsAt_cd4e5_22 : decode cJ2_putCharsAt_cd4e5 22 = .ok (.iload_n 1, 1) := by decide +kernel
theorem dJ2_putCharsAt_cd4e5_23 : decode cJ2_putCharsAt_cd4e5 23 = .ok (.iinc 1 1, 3) := by decide +kernel
theorem dJ2_putCharsAt_cd4e5_26 : decode cJ2_putCharsAt_cd4e5 26 = .ok (.iload_n 3, 1) := by decide +kernel
theorem dJ2_putCharsAt_cd4e5_27 : decode cJ2_putCharsAt_cd4e5 27 = .ok (.invokestatic 111, 3) := by decide +kernel
theorem dJ2_putCharsAt_cd4e5_30 : decode cJ2_putCharsAt_cd4e5 30 = .ok (.aload_n 0, 1) := by decide +kernel
theorem dJ2_putCharsAt_cd4e5_31 : decode cJ2_putCharsAt_cd4e5 31 = .ok (.iload_n 1, 1) := by decide +kernel
theorem dJ2_putCharsAt_cd4e5_32 : decode cJ2_putCharsAt_cd4e5 32 = .ok (.iinc 1 1, 3) := by decide +kernel
theorem dJ2_putCharsAt_cd4e5_35 : decode cJ2_putCharsAt_cd4e5 35 = .ok (.iload 4, 2) := by decide +kernel
theorem dJ2_putCharsAt_cd4e5_37 : decode cJ2_putCharsAt_cd4e5 37 = .ok (.invokestatic 111, 3) := by decide +kernel
theorem dJ2_putCharsAt_cd4e5_40 : decode cJ2_putCharsAt_cd4e5 40 = .ok (.aload_n 0, 1) := by decide +kernel
theorem dJ2_putCharsAt_cd4e5_41 : decode cJ2_putCharsAt_cd4e5 41 = .ok (.iload_n 1, 1) := by decide +kernel
theorem dJ2_putCharsAt_cd4e5_42 : decode cJ2_putCharsAt_cd4e5 42 = .ok (.iinc 1 1, 3) := by decide +kernel
theorem dJ2_putCharsAt_cd4e5_45 : decode cJ2_putCharsAt_cd4e5 45 = .ok (.iload 5, 2) := by decide +kernel
theorem dJ2_putCharsAt_cd4e5_47 : decode cJ2_putCharsAt_cd4e5 47 = .ok (.invokestatic 111, 3) := by decide +kernel
theorem dJ2_putCharsAt_cd4e5_50 : decode cJ2_putCharsAt_cd4e5 50 = .ok (.getstatic 44, 3) := by decide +kernel
theorem dJ2_putCharsAt_cd4e5_53 : decode cJ2_putCharsAt_cd4e5 53 = .ok (.ifCond .ne 17, 3) := by decide +kernel
theorem dJ2_putCharsAt_cd4e5_56 : decode cJ2_putCharsAt_cd4e5 56 = .ok (.iload_n 1, 1) := by decide +kernel
theorem dJ2_putCharsAt_cd4e5_57 : decode cJ2_putCharsAt_cd4e5 57 = .ok (.iload 6, 2) := by decide +kernel
theorem dJ2_putCharsAt_cd4e5_59 : decode cJ2_putCharsAt_cd4e5 59 = .ok (.if_icmp .eq 11, 3) := by decide +kernel
theorem dJ2_putCharsAt_cd4e5_62 : decode cJ2_putCharsAt_cd4e5 62 = .ok (.new 52, 3) := by decide +kernel
theorem dJ2_putCharsAt_cd4e5_65 : decode cJ2_putCharsAt_cd4e5 65 = .ok (.dup, 1) := by decide +kernel
