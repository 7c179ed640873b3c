theorem dX6_open_71 : decode cX6_open 71 = .ok (.getfield 26, 3) := by decide +kernel
theorem dX6_open_74 : decode cX6_open 74 = .ok (.aload_n 0, 1) := by decide +kernel
theorem dX6_open_75 : decode cX6_open 75 = .ok (.getfield 33, 3) := by decide +kernel
theorem dX6_open_78 : decode cX6_open 78 = .ok (.invokevirtual 378, 3) := by decide +kernel
theorem dX6_open_81 : decode cX6_open 81 = .ok (.aload_n 0, 1) := by decide +kernel
theorem dX6_open_82 : decode cX6_open 82 = .ok (.getfield 33, 3) := by decide +kernel
theorem dX6_open_85 : decode cX6_open 85 = .ok (.aload_n 3, 1) := by decide +kernel
theorem dX6_open_86 : decode cX6_open 86 = .ok (.iload_n 2, 1) := by decide +kernel
theorem dX6_open_87 : decode cX6_open 87 = .ok (.invokevirtual 401, 3) := by decide +kernel
theorem dX6_open_90 : decode cX6_open 90 = .ok (.aload_n 3, 1) := by decide +kernel
theorem dX6_open_91 : decode cX6_open 91 = .ok (.aload_n 0, 1) := by decide +kernel
theorem dX6_open_92 : decode cX6_open 92 = .ok (.getfield 58, 3) := by decide +kernel
theorem dX6_open_95 : decode cX6_open 95 = .ok (.invokevirtual 184, 3) := by decide +kernel
theorem dX6_open_98 : decode cX6_open 98 = .ok (.ireturn, 1) := by decide +kernel
set_option maxRecDepth 20000 in
theorem ggX6_lock_X6_needRow : GoodIn wsX6_lock wsX6_needRow := goodIn_ca (goodIn_ca (goodIn_r _ [12, 13, 14, 5, 15, 3, 16, 17, 18, 19, 11, 20, 21, 22, 23, 171, 172, 173, 174, 175, 176, 177, 178, 179, 180, 181, 190, 191, 192, 193, 194, 195, 196, 197, 198, 199, 200, 201, 202, 203, 204, 205, 206, 207, 208] (by decide +kernel) (by decide +kernel)) (goodIn_sub (fun _ h => List.mem_cons_of_mem _ (List.mem_append_left _ (List.mem_append_left _ (List.mem_append_right _ h)))) (by decide +kernel))) (goodIn_sub (fun _ h => List.mem_cons_of_mem _ (List.mem_append_left _ (List.mem_append_right _ h))) (by decide +kernel))
set_option maxRecDepth 20000 in
theorem gX6_lock_X6_needRow : GoodIn wsX6_lock (wsV RX6 172 RX6 yX6_needRow wsX6_needRow) := goodIn_app (goodIn_of _ (by decide +kernel)) ggX6_lock_X6_needRow
set_option maxRecDepth 20000 in
theorem ggX6_lock_X6_solve : GoodIn wsX6_lock wsX6_solve := goodIn_ca (goodIn_r _ [27, 6, 5, 28, 29, 30, 31, 32, 33, 34, 35, 36, 37, 38, 39, 40, 41, 42, 43, 44, 45, 46, 47, 48, 49, 50, 51, 52, 53, 54, 55, 56, 57, 58, 59, 60, 61, 62, 63, 64, 65, 66, 67, 68, 69, 70, 71, 72, 73, 74, 75, 76, 77, 78, 79, 80, 81, 82, 83, 84, 85, 86, 87, 88, 89, 90, 91, 92, 93, 94, 95, 96, 97, 98, 99, 100, 101, 102, 103, 104, 105, 106, 107, 171, 172, 173, 174, 175, 176, 177, 178, 179, 180, 181, 201, 202, 203, 204, 205, 206, 207, 208, 182, 183, 184, 185, 186, 187, 188, 189, 190, 191, 192, 193, 194, 195, 196, 197, 198, 199, 200, 209, 210, 211, 212, 213, 214, 215, 216, 217, 218] (by decide +kernel) (by decide +kernel)) (goodIn_sub (fun _ h => List.mem_cons_of_mem _ (List.mem_append_right _ h)) (by decide +kernel))
set_option maxRecDepth 20000 in
theorem gX6_lock_X6_solve : GoodIn wsX6_lock (wsV RX6 261 RX6 yX6_solve wsX6_solve) := goodIn_app (goodIn_of _ (by decide +kernel)) ggX6_lock_X6_solve
set_option maxRecDepth 20000 in
theorem ggX6_lock_X0_remember : GoodIn wsX6_lock wsX0_remember := goodIn_r _ [112, 113, 114, 115, 116, 57, 58, 59, 117, 118, 119, 74, 120, 121, 122, 123, 36, 37, 38, 76, 124, 125, 126, 127, 128, 129, 130, 131, 66, 132, 133, 134, 135, 69, 136, 137, 70, 138, 81, 139, 140, 219, 220, 221, 201, 202, 203, 204, 205, 206, 207, 208, 209, 210, 211, 212, 213, 214, 215, 216, 217, 218] (by decide +kernel) (by decide +kernel)
set_option maxRecDepth 20000 in
theorem gX6_lock_X0_remember : GoodIn wsX6_lock (wsV RX6 378 RX0 yX0_remember wsX0_remember) := goodIn_app (goodIn_of _ (by decide +kernel)) ggX6_lock_X0_remember
set_option maxRecDepth 20000 in
theorem ggX6_lock_X5_fill : GoodIn wsX6_lock wsX5_fill := goodIn_ca (goodIn_r _ [144, 121, 145, 146, 147, 148, 149, 150, 151, 152, 74, 153, 122, 154, 155, 156, 66, 157, 137, 70, 158, 138, 159, 160, 161, 162, 136, 163, 164, 165, 166, 167, 168, 76, 169, 170, 77, 78, 79, 80, 81, 201, 202, 203, 204, 205, 206, 207, 208, 190, 191, 192, 193, 194, 195, 196, 197, 198, 199, 200, 182, 183, 184, 185, 186, 187, 188, 189, 209, 210, 211, 212, 213, 214, 215, 216, 217, 218] (by decide +kernel) (by decide +kernel)) (goodIn_sub (fun _ h => List.mem_cons_of_mem _ (List.mem_append_right _ h)) (by decide +kernel))
set_option maxRecDepth 20000 in
theorem gX6_lock_X5_fill : GoodIn wsX6_lock (wsV RX6 346 RX5 yX5_fill wsX5_fill) := goodIn_app (goodIn_of _ (by decide +kernel)) ggX6_lock_X5_fill
theorem dX6_lock_0 : decode cX6_lock 0 = .ok (.aload_n 0, 1) := by decide +kernel
theorem dX6_lock_1 : decode cX6_lock 1 = .ok (.iload_n 1, 1) := by decide +kernel
theorem dX6_lock_2 : decode cX6_lock 2 = .ok (.invokevirtual 172, 3) := by decide +kernel
theorem dX6_lock_5 : decode cX6_lock 5 = .ok (.astore_n 2, 1) := by decide +kernel
theorem dX6_lock_6 : decode cX6_lock 6 = .ok (.aload_n 0, 1) := by decide +kernel
theorem dX6_lock_7 : decode cX6_lock 7 = .ok (.aload_n 0, 1) := by decide +kernel
theorem dX6_lock_8 : decode cX6_lock 8 = .ok (.getfield 33, 3) := by decide +kernel
theorem dX6_lock_11 : decode cX6_lock 11 = .ok (.aload_n 2, 1) := by decide +kernel
theorem dX6_lock_12 : decode cX6_lock 12 = .ok (.invokevirtual 261, 3) := by decide +kernel
theorem dX6_lock_15 : decode cX6_lock 15 = .ok (.ifCond .ne 14, 3) := by decide +kernel
theorem dX6_lock_18 : decode cX6_lock 18 = .ok (.new 84, 3) := by decide +kernel
theorem dX6_lock_21 : decode cX6_lock 21 = .ok (.dup, 1) := by decide +kernel
theorem dX6_lock_22 : decode cX6_lock 22 = .ok (.ldc_w 413, 3) := by decide +kernel
theorem dX6_lock_25 : decode cX6_lock 25 = .ok (.invokespecial 88, 3) := by decide +kernel
theorem dX6_lock_28 : decode cX6_lock 28 = .ok (.athrow, 1) := by decide +kernel
theorem dX6_lock_29 : decode cX6_lock 29 = .ok (.aload_n 0, 1) := by decide +kernel
theorem dX6_lock_30 : decode cX6_lock 30 = .ok (.getfield 26, 3) := by decide +kernel
theorem dX6_lock_33 : decode cX6_lock 33 = .ok (.aload_n 0, 1) := by decide +kernel
theorem dX6_lock_34 : decode cX6_lock 34 = .ok (.getfield 33, 3) := by decide +kernel
theorem dX6_lock_37 : decode cX6_lock 37 = .ok (.invokevirtual 378, 3) := by decide +kernel
theorem dX6_lock_40 : decode cX6_lock 40 = .ok (.aload_n 0, 1) := by decide +kernel
theorem dX6_lock_41 : decode cX6_lock 41 = .ok (.getfield 33, 3) := by decide +kernel
theorem dX6_lock_44 : decode cX6_lock 44 = .ok (.aload_n 0, 1) := by decide +kernel
theorem dX6_lock_45 : decode cX6_lock 45 = .ok (.getfield 58, 3) := by decide +kernel
theorem dX6_lock_48 : decode cX6_lock 48 = .ok (.iload_n 1, 1) := by decide +kernel
theorem dX6_lock_49 : decode cX6_lock 49 = .ok (.aload_n 0, 1) := by decide +kernel
theorem dX6_lock_50 : decode cX6_lock 50 = .ok (.getfield 19, 3) := by decide +kernel
theorem dX6_lock_53 : decode cX6_lock 53 = .ok (.invokevirtual 346, 3) := by decide +kernel
theorem dX6_lock_56 : decode cX6_lock 56 = .ok (.aload_n 0, 1) := by decide +kernel
theorem dX6_lock_57 : decode cX6_lock 57 = .ok (.getfield 19, 3) := by decide +kernel
theorem dX6_lock_60 : decode cX6_lock 60 = .ok (.getfield 265, 3) := by decide +kernel
theorem dX6_lock_63 : decode cX6_lock 63 = .ok (.ireturn, 1) := by decide +kernel
set_option maxRecDepth 20000 in
theorem ggX6_unlock_X6_needRow : GoodIn wsX6_unlock wsX6_needRow := goodIn_ca (goodIn_ca (goodIn_r _ [8, 9, 10, 11, 12, 3, 13, 14, 15, 16, 7, 17, 18, 19, 20, 96, 97, 98, 99, 100, 101, 102, 103, 104, 105, 106, 107, 108, 109, 110, 111, 112, 113, 114, 115, 116, 117, 118, 119, 120, 121, 122, 123, 124, 125] (by decide +kernel) (by decide +kernel)) (goodIn_sub (fun _ h => List.mem_cons_of_mem _ (List.mem_append_left _ (List.mem_append_left _ (List.mem_append_right _ h)))) (by decide +kernel))) (goodIn_sub (fun _ h => List.mem_cons_of_mem _ (List.mem_append_left _ (List.mem_append_right _ h))) (by decide +kernel))
set_option maxRecDepth 20000 in
theorem gX6_unlock_X6_needRow : GoodIn wsX6_unlock (wsV RX6 172 RX6 yX6_needRow wsX6_needRow) := goodIn_app (goodIn_of _ (by decide +kernel)) ggX6_unlock_X6_needRow
set_option maxRecDepth 20000 in
theorem ggX6_unlock_X0_remember : GoodIn wsX6_unlock wsX0_remember := goodIn_r _ [25, 26, 27, 28, 29, 30, 31, 32, 33, 34, 35, 36, 37, 38, 39, 40, 41, 42, 43, 44, 45, 46, 47, 48, 49, 50, 51, 52, 53, 54, 55, 56, 57, 58, 59, 60, 61, 62, 63, 64, 65, 126, 127, 128, 118, 119, 120, 121, 122, 123, 124, 125, 86, 87, 88, 89, 90, 91, 92, 93, 94, 95] (by decide +kernel) (by decide +kernel)
set_option maxRecDepth 20000 in
theorem gX6_unlock_X0_remember : GoodIn wsX6_unlock (wsV RX6 378 RX0 yX0_remember wsX0_remember) := goodIn_app (goodIn_of _ (by decide +kernel)) ggX6_unlock_X0_remember
set_option maxRecDepth 20000 in
theorem ggX6_unlock_X5_empty : GoodIn wsX6_unlock wsX5_empty := goodIn_ca (goodIn_r _ [69, 38, 39, 70, 71, 72, 73, 74, 53, 75, 60, 61, 62, 76, 77, 78, 36, 79, 44, 80, 81, 82, 83, 84, 85, 63, 118, 119, 120, 121, 122, 123, 124, 125, 86, 87, 88, 89, 90, 91, 92, 93, 94, 95] (by decide +kernel) (by decide +kernel)) (goodIn_sub (fun _ h => List.mem_cons_of_mem _ (List.mem_append_right _ h)) (by decide +kernel))
set_option maxRecDepth 20000 in
theorem gX6_unlock_X5_empty : GoodIn wsX6_unlock (wsV RX6 329 RX5 yX5_empty wsX5_empty) := goodIn_app (goodIn_of _ (by decide +kernel)) ggX6_unlock_X5_empty
theorem dX6_unlock_0 : decode cX6_unlock 0 = .ok (.aload_n 0, 1) := by decide +kernel
theorem dX6_unlock_1 : decode cX6_unlock 1 = .ok (.iload_n 1, 1) := by decide +kernel
theorem dX6_unlock_2 : decode cX6_unlock 2 = .ok (.invokevirtual 172, 3) := by decide +kernel
theorem dX6_unlock_5 : decode cX6_unlock 5 = .ok (.astore_n 2, 1) := by decide +kernel
theorem dX6_unlock_6 : decode cX6_unlock 6 = .ok (.aload_n 2, 1) := by decide +kernel
theorem dX6_unlock_7 : decode cX6_unlock 7 = .ok (.getfield 181, 3) := by decide +kernel
theorem dX6_unlock_10 : decode cX6_unlock 10 = .ok (.istore_n 3, 1) := by decide +kernel
theorem dX6_unlock_11 : decode cX6_unlock 11 = .ok (.aload_n 0, 1) := by decide +kernel
theorem dX6_unlock_12 : decode cX6_unlock 12 = .ok (.getfield 26, 3) := by decide +kernel
theorem dX6_unlock_15 : decode cX6_unlock 15 = .ok (.aload_n 0, 1) := by decide +kernel
theorem dX6_unlock_16 : decode cX6_unlock 16 = .ok (.getfield 33, 3) := by decide +kernel
theorem dX6_unlock_19 : decode cX6_unlock 19 = .ok (.invokevirtual 378, 3) := by decide +kernel
theorem dX6_unlock_22 : decode cX6_unlock 22 = .ok (.aload_n 0, 1) := by decide +kernel
theorem dX6_unlock_23 : decode cX6_unlock 23 = .ok (.getfield 33, 3) := by decide +kernel
theorem dX6_unlock_26 : decode cX6_unlock 26 = .ok (.iload_n 1, 1) := by decide +kernel
theorem dX6_unlock_27 : decode cX6_unlock 27 = .ok (.invokevirtual 329, 3) := by decide +kernel
theorem dX6_unlock_30 : decode cX6_unlock 30 = .ok (.iload_n 3, 1) := by decide +kernel
theorem dX6_unlock_31 : decode cX6_unlock 31 = .ok (.ireturn, 1) := by decide +kernel
set_option maxRecDepth 20000 in
theorem ggX6_relock_X6_needRow : GoodIn wsX6_relock wsX6_needRow := goodIn_ca (goodIn_ca (goodIn_r _ [14, 15, 16, 7, 17, 4, 5, 18, 19, 20, 13, 21, 22, 23, 24, 186, 187, 188, 189, 190, 191, 192, 193, 194, 195, 196, 213, 214, 215, 216, 217, 218, 219, 220, 221, 222, 223, 197, 198, 199, 200, 201, 202, 203, 204] (by decide +kernel) (by decide +kernel)) (goodIn_sub (fun _ h => List.mem_cons_of_mem _ (List.mem_append_left _ (List.mem_append_left _ (List.mem_append_right _ h)))) (by decide +kernel))) (goodIn_sub (fun _ h => List.mem_cons_of_mem _ (List.mem_append_left _ (List.mem_append_right _ h))) (by decide +kernel))
set_option maxRecDepth 20000 in
theorem gX6_relock_X6_needRow : GoodIn wsX6_relock (wsV RX6 172 RX6 yX6_needRow wsX6_needRow) := goodIn_app (goodIn_of _ (by decide +kernel)) ggX6_relock_X6_needRow
set_option maxRecDepth 20000 in
theorem ggX6_relock_X5_copyFrom : GoodIn wsX6_relock wsX5_copyFrom := goodIn_r _ [29, 30, 31, 32, 33, 34, 35, 36, 37, 38, 39, 40, 41, 42, 43, 44, 45, 46, 47, 48, 49, 50, 51, 52, 53, 54, 55, 56, 57, 197, 198, 199, 200, 201, 202, 203, 204, 224, 225, 226, 227, 228, 229, 230, 231, 232, 233] (by decide +kernel) (by decide +kernel)
set_option maxRecDepth 20000 in
theorem gX6_relock_X5_copyFrom : GoodIn wsX6_relock (wsV RX6 95 RX5 yX5_copyFrom wsX5_copyFrom) := goodIn_app (goodIn_of _ (by decide +kernel)) ggX6_relock_X5_copyFrom
set_option maxRecDepth 20000 in
theorem ggX6_relock_X5_empty : GoodIn wsX6_relock wsX5_empty := goodIn_ca (goodIn_r _ [61, 30, 31, 62, 63, 64, 65, 66, 45, 67, 52, 53, 54, 68, 69, 70, 28, 71, 36, 72, 73, 74, 75, 76, 77, 55, 197, 198, 199, 200, 201, 202, 203, 204, 224, 225, 226, 227, 228, 229, 230, 231, 232, 233] (by decide +kernel) (by decide +kernel)) (goodIn_sub (fun _ h => List.mem_cons_of_mem _ (List.mem_append_right _ h)) (by decide +kernel))
set_option maxRecDepth 20000 in
theorem gX6_relock_X5_empty : GoodIn wsX6_relock (wsV RX6 329 RX5 yX5_empty wsX5_empty) := goodIn_app (goodIn_of _ (by decide +kernel)) ggX6_relock_X5_empty
set_option maxRecDepth 20000 in
theorem ggX6_relock_X6_solve : GoodIn wsX6_relock wsX6_solve := goodIn_ca (goodIn_r _ [81, 8, 7, 82, 83, 84, 85, 86, 87, 88, 89, 33, 34, 35, 90, 91, 92, 93, 94, 95, 96, 97, 98, 99, 100, 101, 102, 103, 104, 105, 106, 107, 108, 109, 110, 111, 112, 113, 114, 115, 116, 45, 117, 118, 50, 53, 119, 120, 121, 28, 122, 36, 74, 75, 76, 77, 55, 123, 124, 125, 126, 127, 128, 129, 130, 131, 132, 133, 134, 135, 136, 137, 138, 139, 140, 141, 142, 143, 144, 145, 146, 147, 148, 186, 187, 188, 189, 190, 191, 192, 193, 194, 195, 196, 197, 198, 199, 200, 201, 202, 203, 204, 205, 206, 207, 208, 209, 210, 211, 212, 213, 214, 215, 216, 217, 218, 219, 220, 221, 222, 223, 224, 225, 226, 227, 228, 229, 230, 231, 232, 233] (by decide +kernel) (by decide +kernel)) (goodIn_sub (fun _ h => List.mem_cons_of_mem _ (List.mem_append_right _ h)) (by decide +kernel))
set_option maxRecDepth 20000 in
theorem gX6_relock_X6_solve : GoodIn wsX6_relock (wsV RX6 261 RX6 yX6_solve wsX6_solve) := goodIn_app (goodIn_of _ (by decide +kernel)) ggX6_relock_X6_solve
set_option maxRecDepth 20000 in
theorem ggX6_relock_X0_remember : GoodIn wsX6_relock wsX0_remember := goodIn_r _ [153, 154, 155, 156, 157, 108, 109, 110, 158, 26, 27, 28, 29, 30, 31, 32, 33, 34, 35, 36, 37, 38, 39, 40, 41, 42, 43, 44, 45, 46, 47, 48, 49, 50, 51, 52, 53, 54, 55, 56, 57, 234, 235, 236, 197, 198, 199, 200, 201, 202, 203, 204, 224, 225, 226, 227, 228, 229, 230, 231, 232, 233] (by decide +kernel) (by decide +kernel)
set_option maxRecDepth 20000 in
theorem gX6_relock_X0_remember : GoodIn wsX6_relock (wsV RX6 378 RX0 yX0_remember wsX0_remember) := goodIn_app (goodIn_of _ (by decide +kernel)) ggX6_relock_X0_remember
set_option maxRecDepth 20000 in
theorem ggX6_relock_X5_fill : GoodIn wsX6_relock wsX5_fill := goodIn_ca (goodIn_r _ [162, 30, 163, 164, 165, 166, 63, 167, 168, 169, 28, 170, 31, 171, 172, 173, 45, 174, 52, 53, 175, 54, 176, 177, 178, 179, 51, 180, 181, 182, 183, 184, 185, 36, 72, 73, 74, 75, 76, 77, 55, 197, 198, 199, 200, 201, 202, 203, 204, 213, 214, 215, 216, 217, 218, 219, 220, 221, 222, 223, 205, 206, 207, 208, 209, 210, 211, 212, 224, 225, 226, 227, 228, 229, 230, 231, 232, 233] (by decide +kernel) (by decide +kernel)) (goodIn_sub (fun _ h => List.mem_cons_of_mem _ (List.mem_append_right _ h)) (by decide +kernel))
set_option maxRecDepth 20000 in
theorem gX6_relock_X5_fill : GoodIn wsX6_relock (wsV RX6 346 RX5 yX5_fill wsX5_fill) := goodIn_app (goodIn_of _ (by decide +kernel)) ggX6_relock_X5_fill
theorem dX6_relock_0 : decode cX6_relock 0 = .ok (.aload_n 0, 1) := by decide +kernel
theorem dX6_relock_1 : decode cX6_relock 1 = .ok (.iload_n 1, 1) := by decide +kernel
theorem dX6_relock_2 : decode cX6_relock 2 = .ok (.invokevirtual 172, 3) := by decide +kernel
theorem dX6_relock_5 : decode cX6_relock 5 = .ok (.pop, 1) := by decide +kernel
theorem dX6_relock_6 : decode cX6_relock 6 = .ok (.aload_n 0, 1) := by decide +kernel
theorem dX6_relock_7 : decode cX6_relock 7 = .ok (.getfield 37, 3) := by decide +kernel
theorem dX6_relock_10 : decode cX6_relock 10 = .ok (.aload_n 0, 1) := by decide +kernel
theorem dX6_relock_11 : decode cX6_relock 11 = .ok (.getfield 33, 3) := by decide +kernel
theorem dX6_relock_14 : decode cX6_relock 14 = .ok (.invokevirtual 95, 3) := by decide +kernel
theorem dX6_relock_17 : decode cX6_relock 17 = .ok (.aload_n 0, 1) := by decide +kernel
theorem dX6_relock_18 : decode cX6_relock 18 = .ok (.getfield 37, 3) := by decide +kernel
theorem dX6_relock_21 : decode cX6_relock 21 = .ok (.iload_n 1, 1) := by decide +kernel
theorem dX6_relock_22 : decode cX6_relock 22 = .ok (.invokevirtual 329, 3) := by decide +kernel
theorem dX6_relock_25 : decode cX6_relock 25 = .ok (.aload_n 0, 1) := by decide +kernel
theorem dX6_relock_26 : decode cX6_relock 26 = .ok (.aload_n 0, 1) := by decide +kernel
theorem dX6_relock_27 : decode cX6_relock 27 = .ok (.getfield 37, 3) := by decide +kernel
theorem dX6_relock_30 : decode cX6_relock 30 = .ok (.aload_n 0, 1) := by decide +kernel
theorem dX6_relock_31 : decode cX6_relock 31 = .ok (.getfield 37, 3) := by decide +kernel
theorem dX6_relock_34 : decode cX6_relock 34 = .ok (.getfield 246, 3) := by decide +kernel
theorem dX6_relock_37 : decode cX6_relock 37 = .ok (.iload_n 1, 1) := by decide +kernel
theorem dX6_relock_38 : decode cX6_relock 38 = .ok (.aaload, 1) := by decide +kernel
theorem dX6_relock_39 : decode cX6_relock 39 = .ok (.invokevirtual 261, 3) := by decide +kernel
theorem dX6_relock_42 : decode cX6_relock 42 = .ok (.ifCond .ne 14, 3) := by decide +kernel
theorem dX6_relock_45 : decode cX6_relock 45 = .ok (.new 84, 3) := by decide +kernel
theorem dX6_relock_48 : decode cX6_relock 48 = .ok (.dup, 1) := by decide +kernel
theorem dX6_relock_49 : decode cX6_relock 49 = .ok (.ldc_w 413, 3) := by decide +kernel
theorem dX6_relock_52 : decode cX6_relock 52 = .ok (.invokespecial 88, 3) := by decide +kernel
theorem dX6_relock_55 : decode cX6_relock 55 = .ok (.athrow, 1) := by decide +kernel
theorem dX6_relock_56 : decode cX6_relock 56 = .ok (.aload_n 0, 1) := by decide +kernel
theorem dX6_relock_57 : decode cX6_relock 57 = .ok (.getfield 26, 3) := by decide +kernel
theorem dX6_relock_60 : decode cX6_relock 60 = .ok (.aload_n 0, 1) := by decide +kernel
theorem dX6_relock_61 : decode cX6_relock 61 = .ok (.getfield 33, 3) := by decide +kernel
theorem dX6_relock_64 : decode cX6_relock 64 = .ok (.invokevirtual 378, 3) := by decide +kernel
theorem dX6_relock_67 : decode cX6_relock 67 = .ok (.aload_n 0, 1) := by decide +kernel
theorem dX6_relock_68 : decode cX6_relock 68 = .ok (.getfield 33, 3) := by decide +kernel
theorem dX6_relock_71 : decode cX6_relock 71 = .ok (.iload_n 1, 1) := by decide +kernel
theorem dX6_relock_72 : decode cX6_relock 72 = .ok (.invokevirtual 329, 3) := by decide +kernel
theorem dX6_relock_75 : decode cX6_relock 75 = .ok (.aload_n 0, 1) := by decide +kernel
theorem dX6_relock_76 : decode cX6_relock 76 = .ok (.getfield 33, 3) := by decide +kernel
theorem dX6_relock_79 : decode cX6_relock 79 = .ok (.aload_n 0, 1) := by decide +kernel
theorem dX6_relock_80 : decode cX6_relock 80 = .ok (.getfield 58, 3) := by decide +kernel
theorem dX6_relock_83 : decode cX6_relock 83 = .ok (.iload_n 1, 1) := by decide +kernel
theorem dX6_relock_84 : decode cX6_relock 84 = .ok (.aload_n 0, 1) := by decide +kernel
theorem dX6_relock_85 : decode cX6_relock 85 = .ok (.getfield 19, 3) := by decide +kernel
theorem dX6_relock_88 : decode cX6_relock 88 = .ok (.invokevirtual 346, 3) := by decide +kernel
theorem dX6_relock_91 : decode cX6_relock 91 = .ok (.aload_n 0, 1) := by decide +kernel
theorem dX6_relock_92 : decode cX6_relock 92 = .ok (.getfield 19, 3) := by decide +kernel
theorem dX6_relock_95 : decode cX6_relock 95 = .ok (.getfield 265, 3) := by decide +kernel
theorem dX6_relock_98 : decode cX6_relock 98 = .ok (.ireturn, 1) := by decide +kernel
set_option maxRecDepth 20000 in
theorem ggX6_tighten_X6_needRow : GoodIn wsX6_tighten wsX6_needRow := goodIn_ca (goodIn_ca (goodIn_r _ [18, 19, 20, 6, 21, 4, 22, 23, 24, 25, 17, 26, 27, 28, 29, 78, 79, 80, 81, 82, 83, 84, 85, 86, 87, 88, 99, 100, 101, 102, 103, 104, 105, 106, 107, 108, 109, 110, 111, 112, 113, 114, 115, 116, 117] (by decide +kernel) (by decide +kernel)) (goodIn_sub (fun _ h => List.mem_cons_of_mem _ (List.mem_append_left _ (List.mem_append_right _ h))) (by decide +kernel))) (goodIn_sub (fun _ h => List.mem_cons_of_mem _ (List.mem_append_right _ h)) (by decide +kernel))
set_option maxRecDepth 20000 in
theorem gX6_tighten_X6_needRow : GoodIn wsX6_tighten (wsV RX6 172 RX6 yX6_needRow wsX6_needRow) := goodIn_app (goodIn_of _ (by decide +kernel)) ggX6_tighten_X6_needRow
set_option maxRecDepth 20000 in
theorem ggX6_tighten_X3_hasQuoin : GoodIn wsX6_tighten wsX3_hasQuoin := goodIn_r _ [34, 35, 89, 90, 91, 92, 93, 94, 95, 96, 97, 98] (by decide +kernel) (by decide +kernel)
set_option maxRecDepth 20000 in
theorem gX6_tighten_X3_hasQuoin : GoodIn wsX6_tighten (wsV RX6 199 RX3 yX3_hasQuoin wsX3_hasQuoin) := goodIn_app (goodIn_of _ (by decide +kernel)) ggX6_tighten_X3_hasQuoin
set_option maxRecDepth 20000 in
theorem ggX6_tighten_X0_remember : GoodIn wsX6_tighten wsX0_remember := goodIn_r _ [40, 41, 42, 43, 44, 45, 12, 46, 47, 48, 49, 50, 51, 52, 53, 54, 55, 56, 57, 58, 59, 60, 61, 62, 63, 64, 65, 66, 33, 67, 68, 69, 70, 71, 72, 73, 74, 75, 35, 76, 77, 118, 119, 120, 110, 111, 112, 113, 114, 115, 116, 117, 89, 90, 91, 92, 93, 94, 95, 96, 97, 98] (by decide +kernel) (by decide +kernel)
set_option maxRecDepth 20000 in
theorem gX6_tighten_X0_remember : GoodIn wsX6_tighten (wsV RX6 378 RX0 yX0_remember wsX0_remember) := goodIn_app (goodIn_of _ (by decide +kernel)) ggX6_tighten_X0_remember
theorem dX6_tighten_0 : decode cX6_tighten 0 = .ok (.aload_n 0, 1) := by decide +kernel
theorem dX6_tighten_1 : decode cX6_tighten 1 = .ok (.iload_n 1, 1) := by decide +kernel
theorem dX6_tighten_2 : decode cX6_tighten 2 = .ok (.invokevirtual 172, 3) := by decide +kernel
theorem dX6_tighten_5 : decode cX6_tighten 5 = .ok (.astore_n 2, 1) := by decide +kernel
theorem dX6_tighten_6 : decode cX6_tighten 6 = .ok (.aload_n 2, 1) := by decide +kernel
theorem dX6_tighten_7 : decode cX6_tighten 7 = .ok (.invokevirtual 199, 3) := by decide +kernel
theorem dX6_tighten_10 : decode cX6_tighten 10 = .ok (.ifCond .ne 14, 3) := by decide +kernel
theorem dX6_tighten_13 : decode cX6_tighten 13 = .ok (.new 84, 3) := by decide +kernel
theorem dX6_tighten_16 : decode cX6_tighten 16 = .ok (.dup, 1) := by decide +kernel
theorem dX6_tighten_17 : decode cX6_tighten 17 = .ok (.ldc_w 415, 3) := by decide +kernel
theorem dX6_tighten_20 : decode cX6_tighten 20 = .ok (.invokespecial 88, 3) := by decide +kernel
theorem dX6_tighten_23 : decode cX6_tighten 23 = .ok (.athrow, 1) := by decide +kernel
theorem dX6_tighten_24 : decode cX6_tighten 24 = .ok (.aload_n 0, 1) := by decide +kernel
theorem dX6_tighten_25 : decode cX6_tighten 25 = .ok (.getfield 26, 3) := by decide +kernel
theorem dX6_tighten_28 : decode cX6_tighten 28 = .ok (.aload_n 0, 1) := by decide +kernel
theorem dX6_tighten_29 : decode cX6_tighten 29 = .ok (.getfield 33, 3) := by decide +kernel
theorem dX6_tighten_32 : decode cX6_tighten 32 = .ok (.invokevirtual 378, 3) := by decide +kernel
theorem dX6_tighten_35 : decode cX6_tighten 35 = .ok (.aload_n 2, 1) := by decide +kernel
theorem dX6_tighten_36 : decode cX6_tighten 36 = .ok (.getfield 187, 3) := by decide +kernel
theorem dX6_tighten_39 : decode cX6_tighten 39 = .ok (.aload_n 0, 1) := by decide +kernel
theorem dX6_tighten_40 : decode cX6_tighten 40 = .ok (.getfield 58, 3) := by decide +kernel
theorem dX6_tighten_43 : decode cX6_tighten 43 = .ok (.getfield 158, 3) := by decide +kernel
theorem dX6_tighten_46 : decode cX6_tighten 46 = .ok (.if_icmp .ge 48, 3) := by decide +kernel
theorem dX6_tighten_49 : decode cX6_tighten 49 = .ok (.aload_n 2, 1) := by decide +kernel
theorem dX6_tighten_50 : decode cX6_tighten 50 = .ok (.getfield 190, 3) := by decide +kernel
theorem dX6_tighten_53 : decode cX6_tighten 53 = .ok (.ifCond .le 41, 3) := by decide +kernel
theorem dX6_tighten_56 : decode cX6_tighten 56 = .ok (.aload_n 2, 1) := by decide +kernel
theorem dX6_tighten_57 : decode cX6_tighten 57 = .ok (.dup, 1) := by decide +kernel
theorem dX6_tighten_58 : decode cX6_tighten 58 = .ok (.getfield 187, 3) := by decide +kernel
theorem dX6_tighten_61 : decode cX6_tighten 61 = .ok (.iconst 1, 1) := by decide +kernel
theorem dX6_tighten_62 : decode cX6_tighten 62 = .ok (.iadd, 1) := by decide +kernel
theorem dX6_tighten_63 : decode cX6_tighten 63 = .ok (.putfield 187, 3) := by decide +kernel
theorem dX6_tighten_66 : decode cX6_tighten 66 = .ok (.aload_n 2, 1) := by decide +kernel
theorem dX6_tighten_67 : decode cX6_tighten 67 = .ok (.dup, 1) := by decide +kernel
theorem dX6_tighten_68 : decode cX6_tighten 68 = .ok (.getfield 203, 3) := by decide +kernel
theorem dX6_tighten_71 : decode cX6_tighten 71 = .ok (.iconst 1, 1) := by decide +kernel
theorem dX6_tighten_72 : decode cX6_tighten 72 = .ok (.iadd, 1) := by decide +kernel
theorem dX6_tighten_73 : decode cX6_tighten 73 = .ok (.putfield 203, 3) := by decide +kernel
theorem dX6_tighten_76 : decode cX6_tighten 76 = .ok (.aload_n 2, 1) := by decide +kernel
theorem dX6_tighten_77 : decode cX6_tighten 77 = .ok (.iconst 0, 1) := by decide +kernel
theorem dX6_tighten_78 : decode cX6_tighten 78 = .ok (.aload_n 2, 1) := by decide +kernel
theorem dX6_tighten_79 : decode cX6_tighten 79 = .ok (.getfield 190, 3) := by decide +kernel
theorem dX6_tighten_82 : decode cX6_tighten 82 = .ok (.bipush 10, 2) := by decide +kernel
theorem dX6_tighten_84 : decode cX6_tighten 84 = .ok (.isub, 1) := by decide +kernel
theorem dX6_tighten_85 : decode cX6_tighten 85 = .ok (.invokestatic 300, 3) := by decide +kernel
theorem dX6_tighten_88 : decode cX6_tighten 88 = .ok (.putfield 190, 3) := by decide +kernel
theorem dX6_tighten_91 : decode cX6_tighten 91 = .ok (.goto (-56), 3) := by decide +kernel
theorem dX6_tighten_94 : decode cX6_tighten 94 = .ok (.aload_n 2, 1) := by decide +kernel
theorem dX6_tighten_95 : decode cX6_tighten 95 = .ok (.getfield 190, 3) := by decide +kernel
theorem dX6_tighten_98 : decode cX6_tighten 98 = .ok (.ireturn, 1) := by decide +kernel
set_option maxRecDepth 20000 in
theorem ggX6_print_X6_needChase : GoodIn wsX6_print wsX6_needChase := goodIn_ca (goodIn_r _ [8, 9, 10, 11, 128, 129, 130, 131, 132, 133, 134, 135, 136, 137, 138] (by decide +kernel) (by decide +kernel)) (goodIn_sub (fun _ h => List.mem_cons_of_mem _ (List.mem_append_left _ (List.mem_append_left _ (List.mem_append_right _ h)))) (by decide +kernel))
set_option maxRecDepth 20000 in
theorem gX6_print_X6_needChase : GoodIn wsX6_print (wsV RX6 112 RX6 yX6_needChase wsX6_needChase) := goodIn_app (goodIn_of _ (by decide +kernel)) ggX6_print_X6_needChase
set_option maxRecDepth 20000 in
theorem ggX6_print_X6_needTurns : GoodIn wsX6_print wsX6_needTurns := goodIn_ca (goodIn_r _ [14, 15, 16] (by decide +kernel) (by decide +kernel)) (goodIn_sub (fun _ h => List.mem_cons_of_mem _ (List.mem_append_left _ (List.mem_append_right _ h))) (by decide +kernel))
set_option maxRecDepth 20000 in
theorem gX6_print_X6_needTurns : GoodIn wsX6_print (va_wsS RX6 417 yX6_needTurns wsX6_needTurns) := goodIn_app (goodIn_of _ (by decide +kernel)) ggX6_print_X6_needTurns
set_option maxRecDepth 20000 in
theorem ggX6_print_X0_remember : GoodIn wsX6_print wsX0_remember := goodIn_r _ [21, 22, 23, 24, 25, 26, 27, 28, 29, 30, 31, 32, 33, 34, 35, 36, 37, 38, 39, 40, 41, 42, 43, 44, 45, 46, 47, 48, 49, 50, 51, 52, 53, 54, 55, 56, 57, 58, 59, 60, 61, 139, 140, 141, 142, 143, 144, 145, 146, 147, 148, 149, 150, 151, 152, 153, 154, 155, 156, 157, 158, 159] (by decide +kernel) (by decide +kernel)
set_option maxRecDepth 20000 in
theorem gX6_print_X0_remember : GoodIn wsX6_print (wsV RX6 378 RX0 yX0_remember wsX0_remember) := goodIn_app (goodIn_of _ (by decide +kernel)) ggX6_print_X0_remember
set_option maxRecDepth 20000 in
theorem ggX6_print_X5_impressOften : GoodIn wsX6_print wsX5_impressOften := goodIn_ca (goodIn_r _ [65, 42, 66, 67, 68, 32, 69, 34, 70, 41, 71, 72, 73, 49, 74, 75, 53, 76, 77, 78, 79, 80, 81, 44, 45, 82, 83, 84, 85, 61, 86, 87, 88, 89, 90, 59, 60, 91, 92, 93, 94, 95, 54, 57, 96, 97, 98, 99, 100, 101, 102, 103, 104, 105, 106, 107, 35, 108, 109, 110, 111, 112, 56, 58, 113, 114, 115, 116, 40, 117, 118, 119, 120, 121, 122, 123, 124, 125, 126, 127, 142, 143, 144, 145, 146, 147, 148, 149, 150, 151, 152, 153, 154, 155, 156, 157, 158, 159, 160, 161, 162, 163, 164, 165, 166, 167, 168, 169, 170] (by decide +kernel) (by decide +kernel)) (goodIn_sub (fun _ h => List.mem_cons_of_mem _ (List.mem_append_right _ h)) (by decide +kernel))
set_option maxRecDepth 20000 in
theorem gX6_print_X5_impressOften : GoodIn wsX6_print (wsV RX6 342 RX5 yX5_impressOften wsX5_impressOften) := goodIn_app (goodIn_of _ (by decide +kernel)) ggX6_print_X5_impressOften
theorem dX6_print_0 : decode cX6_print 0 = .ok (.aload_n 0, 1) := by decide +kernel
theorem dX6_print_1 : decode cX6_print 1 = .ok (.invokevirtual 112, 3) := by decide +kernel
theorem dX6_print_4 : decode cX6_print 4 = .ok (.iload_n 1, 1) := by decide +kernel
theorem dX6_print_5 : decode cX6_print 5 = .ok (.invokestatic 417, 3) := by decide +kernel
theorem dX6_print_8 : decode cX6_print 8 = .ok (.aload_n 0, 1) := by decide +kernel
theorem dX6_print_9 : decode cX6_print 9 = .ok (.getfield 26, 3) := by decide +kernel
theorem dX6_print_12 : decode cX6_print 12 = .ok (.aload_n 0, 1) := by decide +kernel
theorem dX6_print_13 : decode cX6_print 13 = .ok (.getfield 33, 3) := by decide +kernel
theorem dX6_print_16 : decode cX6_print 16 = .ok (.invokevirtual 378, 3) := by decide +kernel
theorem dX6_print_19 : decode cX6_print 19 = .ok (.aload_n 0, 1) := by decide +kernel
theorem dX6_print_20 : decode cX6_print 20 = .ok (.getfield 33, 3) := by decide +kernel
theorem dX6_print_23 : decode cX6_print 23 = .ok (.aload_n 0, 1) := by decide +kernel
theorem dX6_print_24 : decode cX6_print 24 = .ok (.getfield 58, 3) := by decide +kernel
theorem dX6_print_27 : decode cX6_print 27 = .ok (.iload_n 1, 1) := by decide +kernel
theorem dX6_print_28 : decode cX6_print 28 = .ok (.invokevirtual 342, 3) := by decide +kernel
theorem dX6_print_31 : decode cX6_print 31 = .ok (.ireturn, 1) := by decide +kernel
set_option maxRecDepth 20000 in
theorem ggX6_rest_X6_needChase : GoodIn wsX6_rest wsX6_needChase := goodIn_ca (goodIn_r _ [8, 9, 10, 11, 122, 123, 124, 125, 126, 127, 128, 129, 130, 131, 132] (by decide +kernel) (by decide +kernel)) (goodIn_sub (fun _ h => List.mem_cons_of_mem _ (List.mem_append_left _ (List.mem_append_left _ (List.mem_append_right _ h)))) (by decide +kernel))
set_option maxRecDepth 20000 in
theorem gX6_rest_X6_needChase : GoodIn wsX6_rest (wsV RX6 112 RX6 yX6_needChase wsX6_needChase) := goodIn_app (goodIn_of _ (by decide +kernel)) ggX6_rest_X6_needChase
set_option maxRecDepth 20000 in
theorem ggX6_rest_X6_needTurns : GoodIn wsX6_rest wsX6_needTurns := goodIn_ca (goodIn_r _ [14, 15, 16] (by decide +kernel) (by decide +kernel)) (goodIn_sub (fun _ h => List.mem_cons_of_mem _ (List.mem_append_left _ (List.mem_append_right _ h))) (by decide +kernel))
set_option maxRecDepth 20000 in
theorem gX6_rest_X6_needTurns : GoodIn wsX6_rest (va_wsS RX6 417 yX6_needTurns wsX6_needTurns) := goodIn_app (goodIn_of _ (by decide +kernel)) ggX6_rest_X6_needTurns
set_option maxRecDepth 20000 in
theorem ggX6_rest_X0_remember : GoodIn wsX6_rest wsX0_remember := goodIn_r _ [21, 22, 23, 24, 25, 26, 27, 28, 29, 30, 31, 32, 33, 34, 35, 36, 37, 38, 39, 40, 41, 42, 43, 44, 45, 46, 47, 48, 49, 50, 51, 52, 53, 54, 55, 56, 57, 58, 59, 60, 61, 133, 134, 135, 136, 137, 138, 139, 140, 141, 142, 143, 144, 145, 146, 147, 148, 149, 150, 151, 152, 153] (by decide +kernel) (by decide +kernel)
set_option maxRecDepth 20000 in
theorem gX6_rest_X0_remember : GoodIn wsX6_rest (wsV RX6 378 RX0 yX0_remember wsX0_remember) := goodIn_app (goodIn_of _ (by decide +kernel)) ggX6_rest_X0_remember
set_option maxRecDepth 20000 in
theorem ggX6_rest_X5_passDay : GoodIn wsX6_rest wsX5_passDay := goodIn_ca (goodIn_r _ [65, 34, 66, 43, 67, 68, 69, 49, 70, 71, 72, 73, 74, 75, 76, 77, 58, 78, 79, 80, 32, 81, 82, 83, 44, 45, 84, 85, 86, 87, 61, 88, 89, 90, 91, 92, 59, 60, 93, 94, 95, 96, 97, 54, 57, 98, 99, 100, 101, 102, 103, 104, 105, 53, 106, 107, 108, 109, 35, 110, 111, 112, 113, 114, 56, 115, 116, 117, 118, 40, 119, 120, 121, 136, 137, 138, 139, 140, 141, 142, 143, 144, 145, 146, 147, 148, 149, 150, 151, 152, 153, 154, 155, 156, 157, 158, 159, 160, 161, 162, 163, 164] (by decide +kernel) (by decide +kernel)) (goodIn_sub (fun _ h => List.mem_cons_of_mem _ (List.mem_append_right _ h)) (by decide +kernel))
set_option maxRecDepth 20000 in
theorem gX6_rest_X5_passDay : GoodIn wsX6_rest (wsV RX6 420 RX5 yX5_passDay wsX5_passDay) := goodIn_app (goodIn_of _ (by decide +kernel)) ggX6_rest_X5_passDay
theorem dX6_rest_0 : decode cX6_rest 0 = .ok (.aload_n 0, 1) := by decide +kernel
theorem dX6_rest_1 : decode cX6_rest 1 = .ok (.invokevirtual 112, 3) := by decide +kernel
theorem dX6_rest_4 : decode cX6_rest 4 = .ok (.iload_n 1, 1) := by decide +kernel
theorem dX6_rest_5 : decode cX6_rest 5 = .ok (.invokestatic 417, 3) := by decide +kernel
theorem dX6_rest_8 : decode cX6_rest 8 = .ok (.aload_n 0, 1) := by decide +kernel
theorem dX6_rest_9 : decode cX6_rest 9 = .ok (.getfield 26, 3) := by decide +kernel
theorem dX6_rest_12 : decode cX6_rest 12 = .ok (.aload_n 0, 1) := by decide +kernel
theorem dX6_rest_13 : decode cX6_rest 13 = .ok (.getfield 33, 3) := by decide +kernel
theorem dX6_rest_16 : decode cX6_rest 16 = .ok (.invokevirtual 378, 3) := by decide +kernel
theorem dX6_rest_19 : decode cX6_rest 19 = .ok (.iconst 0, 1) := by decide +kernel
theorem dX6_rest_20 : decode cX6_rest 20 = .ok (.istore_n 2, 1) := by decide +kernel
theorem dX6_rest_21 : decode cX6_rest 21 = .ok (.iconst 0, 1) := by decide +kernel
theorem dX6_rest_22 : decode cX6_rest 22 = .ok (.istore_n 3, 1) := by decide +kernel
theorem dX6_rest_23 : decode cX6_rest 23 = .ok (.iload_n 3, 1) := by decide +kernel
theorem dX6_rest_24 : decode cX6_rest 24 = .ok (.iload_n 1, 1) := by decide +kernel
theorem dX6_rest_25 : decode cX6_rest 25 = .ok (.if_icmp .ge 23, 3) := by decide +kernel
theorem dX6_rest_28 : decode cX6_rest 28 = .ok (.iload_n 2, 1) := by decide +kernel
theorem dX6_rest_29 : decode cX6_rest 29 = .ok (.aload_n 0, 1) := by decide +kernel
theorem dX6_rest_30 : decode cX6_rest 30 = .ok (.getfield 33, 3) := by decide +kernel
theorem dX6_rest_33 : decode cX6_rest 33 = .ok (.aload_n 0, 1) := by decide +kernel
theorem dX6_rest_34 : decode cX6_rest 34 = .ok (.getfield 58, 3) := by decide +kernel
theorem dX6_rest_37 : decode cX6_rest 37 = .ok (.invokevirtual 420, 3) := by decide +kernel
theorem dX6_rest_40 : decode cX6_rest 40 = .ok (.iadd, 1) := by decide +kernel
theorem dX6_rest_41 : decode cX6_rest 41 = .ok (.istore_n 2, 1) := by decide +kernel
theorem dX6_rest_42 : decode cX6_rest 42 = .ok (.iinc 3 1, 3) := by decide +kernel
theorem dX6_rest_45 : decode cX6_rest 45 = .ok (.goto (-22), 3) := by decide +kernel
theorem dX6_rest_48 : decode cX6_rest 48 = .ok (.iload_n 2, 1) := by decide +kernel
theorem dX6_rest_49 : decode cX6_rest 49 = .ok (.ireturn, 1) := by decide +kernel
set_option maxRecDepth 20000 in
theorem ggX6_buy_X6_needChase : GoodIn wsX6_buy wsX6_needChase := goodIn_ca (goodIn_r _ [10, 11, 12, 13, 67, 68, 69, 70, 71, 72, 73, 74, 75, 76, 77] (by decide +kernel) (by decide +kernel)) (goodIn_sub (fun _ h => List.mem_cons_of_mem _ (List.mem_append_left _ (List.mem_append_right _ h))) (by decide +kernel))
set_option maxRecDepth 20000 in
theorem gX6_buy_X6_needChase : GoodIn wsX6_buy (wsV RX6 112 RX6 yX6_needChase wsX6_needChase) := goodIn_app (goodIn_of _ (by decide +kernel)) ggX6_buy_X6_needChase
set_option maxRecDepth 20000 in
theorem ggX6_buy_X6_needKind : GoodIn wsX6_buy wsX6_needKind := goodIn_ca (goodIn_r _ [17, 18, 19, 20, 21, 67, 68, 69, 70, 71, 72, 73, 74, 75, 76, 77, 86, 87, 88, 89, 90, 91, 92, 93, 94, 95, 96] (by decide +kernel) (by decide +kernel)) (goodIn_sub (fun _ h => List.mem_cons_of_mem _ (List.mem_append_right _ h)) (by decide +kernel))
set_option maxRecDepth 20000 in
theorem gX6_buy_X6_needKind : GoodIn wsX6_buy (wsV RX6 219 RX6 yX6_needKind wsX6_needKind) := goodIn_app (goodIn_of _ (by decide +kernel)) ggX6_buy_X6_needKind
set_option maxRecDepth 20000 in
theorem ggX6_buy_X0_remember : GoodIn wsX6_buy wsX0_remember := goodIn_r _ [26, 27, 28, 29, 30, 31, 32, 33, 34, 35, 36, 37, 38, 39, 40, 41, 42, 43, 44, 45, 46, 47, 48, 49, 50, 51, 52, 53, 54, 55, 56, 57, 58, 59, 60, 61, 62, 63, 64, 65, 66, 97, 98, 99, 78, 79, 80, 81, 82, 83, 84, 85, 100, 101, 102, 103, 104, 105, 106, 107, 108, 109] (by decide +kernel) (by decide +kernel)
set_option maxRecDepth 20000 in
theorem gX6_buy_X0_remember : GoodIn wsX6_buy (wsV RX6 378 RX0 yX0_remember wsX0_remember) := goodIn_app (goodIn_of _ (by decide +kernel)) ggX6_buy_X0_remember
theorem dX6_buy_0 : decode cX6_buy 0 = .ok (.aload_n 0, 1) := by decide +kernel
theorem dX6_buy_1 : decode cX6_buy 1 = .ok (.invokevirtual 112, 3) := by decide +kernel
theorem dX6_buy_4 : decode cX6_buy 4 = .ok (.aload_n 0, 1) := by decide +kernel
theorem dX6_buy_5 : decode cX6_buy 5 = .ok (.iload_n 1, 1) := by decide +kernel
theorem dX6_buy_6 : decode cX6_buy 6 = .ok (.invokevirtual 219, 3) := by decide +kernel
theorem dX6_buy_9 : decode cX6_buy 9 = .ok (.iload_n 2, 1) := by decide +kernel
theorem dX6_buy_10 : decode cX6_buy 10 = .ok (.iconst 1, 1) := by decide +kernel
theorem dX6_buy_11 : decode cX6_buy 11 = .ok (.if_icmp .lt 25, 3) := by decide +kernel
theorem dX6_buy_14 : decode cX6_buy 14 = .ok (.iload_n 2, 1) := by decide +kernel
theorem dX6_buy_15 : decode cX6_buy 15 = .ok (.bipush 99, 2) := by decide +kernel
theorem dX6_buy_17 : decode cX6_buy 17 = .ok (.if_icmp .gt 19, 3) := by decide +kernel
theorem dX6_buy_20 : decode cX6_buy 20 = .ok (.aload_n 0, 1) := by decide +kernel
theorem dX6_buy_21 : decode cX6_buy 21 = .ok (.getfield 33, 3) := by decide +kernel
theorem dX6_buy_24 : decode cX6_buy 24 = .ok (.getfield 230, 3) := by decide +kernel
theorem dX6_buy_27 : decode cX6_buy 27 = .ok (.iload_n 1, 1) := by decide +kernel
theorem dX6_buy_28 : decode cX6_buy 28 = .ok (.iaload, 1) := by decide +kernel
theorem dX6_buy_29 : decode cX6_buy 29 = .ok (.bipush 99, 2) := by decide +kernel
theorem dX6_buy_31 : decode cX6_buy 31 = .ok (.iload_n 2, 1) := by decide +kernel
theorem dX6_buy_32 : decode cX6_buy 32 = .ok (.isub, 1) := by decide +kernel
theorem dX6_buy_33 : decode cX6_buy 33 = .ok (.if_icmp .le 14, 3) := by decide +kernel
theorem dX6_buy_36 : decode cX6_buy 36 = .ok (.new 84, 3) := by decide +kernel
theorem dX6_buy_39 : decode cX6_buy 39 = .ok (.dup, 1) := by decide +kernel
theorem dX6_buy_40 : decode cX6_buy 40 = .ok (.ldc_w 423, 3) := by decide +kernel
theorem dX6_buy_43 : decode cX6_buy 43 = .ok (.invokespecial 88, 3) := by decide +kernel
theorem dX6_buy_46 : decode cX6_buy 46 = .ok (.athrow, 1) := by decide +kernel
theorem dX6_buy_47 : decode cX6_buy 47 = .ok (.aload_n 0, 1) := by decide +kernel
theorem dX6_buy_48 : decode cX6_buy 48 = .ok (.getfield 26, 3) := by decide +kernel
theorem dX6_buy_51 : decode cX6_buy 51 = .ok (.aload_n 0, 1) := by decide +kernel
theorem dX6_buy_52 : decode cX6_buy 52 = .ok (.getfield 33, 3) := by decide +kernel
theorem dX6_buy_55 : decode cX6_buy 55 = .ok (.invokevirtual 378, 3) := by decide +kernel
theorem dX6_buy_58 : decode cX6_buy 58 = .ok (.aload_n 0, 1) := by decide +kernel
theorem dX6_buy_59 : decode cX6_buy 59 = .ok (.getfield 33, 3) := by decide +kernel
theorem dX6_buy_62 : decode cX6_buy 62 = .ok (.getfield 230, 3) := by decide +kernel
theorem dX6_buy_65 : decode cX6_buy 65 = .ok (.iload_n 1, 1) := by decide +kernel
theorem dX6_buy_66 : decode cX6_buy 66 = .ok (.dup2, 1) := by decide +kernel
theorem dX6_buy_67 : decode cX6_buy 67 = .ok (.iaload, 1) := by decide +kernel
theorem dX6_buy_68 : decode cX6_buy 68 = .ok (.iload_n 2, 1) := by decide +kernel
theorem dX6_buy_69 : decode cX6_buy 69 = .ok (.iadd, 1) := by decide +kernel
theorem dX6_buy_70 : decode cX6_buy 70 = .ok (.iastore, 1) := by decide +kernel
theorem dX6_buy_71 : decode cX6_buy 71 = .ok (.aload_n 0, 1) := by decide +kernel
theorem dX6_buy_72 : decode cX6_buy 72 = .ok (.getfield 33, 3) := by decide +kernel
theorem dX6_buy_75 : decode cX6_buy 75 = .ok (.getfield 230, 3) := by decide +kernel
theorem dX6_buy_78 : decode cX6_buy 78 = .ok (.iload_n 1, 1) := by decide +kernel
theorem dX6_buy_79 : decode cX6_buy 79 = .ok (.iaload, 1) := by decide +kernel
theorem dX6_buy_80 : decode cX6_buy 80 = .ok (.ireturn, 1) := by decide +kernel
set_option maxRecDepth 20000 in
theorem ggX6_undo_X0_bringBack : GoodIn wsX6_undo wsX0_bringBack := goodIn_r _ [10, 11, 12, 13, 14, 15, 16, 17, 18, 19, 20, 21, 22, 23, 24, 25, 26, 27, 28, 29, 30, 31, 32, 33, 34, 35, 36, 37, 38, 39, 40, 41, 42, 43, 44, 45, 46, 58, 59, 60, 61, 62, 63, 64, 65, 66, 67, 68, 69, 70, 71, 72, 73, 74, 75, 76, 77, 78] (by decide +kernel) (by decide +kernel)
set_option maxRecDepth 20000 in
theorem gX6_undo_X0_bringBack : GoodIn wsX6_undo (wsV RX6 433 RX0 yX0_bringBack wsX0_bringBack) := goodIn_app (goodIn_of _ (by decide +kernel)) ggX6_undo_X0_bringBack
theorem dX6_undo_0 : decode cX6_undo 0 = .ok (.aload_n 0, 1) := by decide +kernel
theorem dX6_undo_1 : decode cX6_undo 1 = .ok (.getfield 26, 3) := by decide +kernel
theorem dX6_undo_4 : decode cX6_undo 4 = .ok (.getfield 425, 3) := by decide +kernel
theorem dX6_undo_7 : decode cX6_undo 7 = .ok (.ifCond .ne 14, 3) := by decide +kernel
theorem dX6_undo_10 : decode cX6_undo 10 = .ok (.new 428, 3) := by decide +kernel
theorem dX6_undo_13 : decode cX6_undo 13 = .ok (.dup, 1) := by decide +kernel
theorem dX6_undo_14 : decode cX6_undo 14 = .ok (.ldc_w 430, 3) := by decide +kernel
theorem dX6_undo_17 : decode cX6_undo 17 = .ok (.invokespecial 432, 3) := by decide +kernel
theorem dX6_undo_20 : decode cX6_undo 20 = .ok (.athrow, 1) := by decide +kernel
theorem dX6_undo_21 : decode cX6_undo 21 = .ok (.aload_n 0, 1) := by decide +kernel
theorem dX6_undo_22 : decode cX6_undo 22 = .ok (.getfield 26, 3) := by decide +kernel
theorem dX6_undo_25 : decode cX6_undo 25 = .ok (.aload_n 0, 1) := by decide +kernel
theorem dX6_undo_26 : decode cX6_undo 26 = .ok (.getfield 33, 3) := by decide +kernel
theorem dX6_undo_29 : decode cX6_undo 29 = .ok (.invokevirtual 433, 3) := by decide +kernel
theorem dX6_undo_32 : decode cX6_undo 32 = .ok (.aload_n 0, 1) := by decide +kernel
theorem dX6_undo_33 : decode cX6_undo 33 = .ok (.getfield 26, 3) := by decide +kernel
theorem dX6_undo_36 : decode cX6_undo 36 = .ok (.getfield 425, 3) := by decide +kernel
theorem dX6_undo_39 : decode cX6_undo 39 = .ok (.ireturn, 1) := by decide +kernel
theorem dX6_undoable_0 : decode cX6_undoable 0 = .ok (.aload_n 0, 1) := by decide +kernel
theorem dX6_undoable_1 : decode cX6_undoable 1 = .ok (.getfield 26, 3) := by decide +kernel
theorem dX6_undoable_4 : decode cX6_undoable 4 = .ok (.getfield 425, 3) := by decide +kernel
theorem dX6_undoable_7 : decode cX6_undoable 7 = .ok (.ireturn, 1) := by decide +kernel
set_option maxRecDepth 20000 in
theorem ggX6_save_X6_needChase : GoodIn wsX6_save wsX6_needChase := goodIn_ca (goodIn_r _ [9, 10, 11, 12, 51, 52, 53, 54, 55, 56, 57, 58, 59, 60, 61] (by decide +kernel) (by decide +kernel)) (goodIn_sub (fun _ h => List.mem_cons_of_mem _ (List.mem_append_left _ (List.mem_append_right _ h))) (by decide +kernel))
set_option maxRecDepth 20000 in
theorem gX6_save_X6_needChase : GoodIn wsX6_save (wsV RX6 112 RX6 yX6_needChase wsX6_needChase) := goodIn_app (goodIn_of _ (by decide +kernel)) ggX6_save_X6_needChase
set_option maxRecDepth 20000 in
theorem ggX6_save_X6_needIndex : GoodIn wsX6_save wsX6_needIndex := goodIn_ca (goodIn_r _ [15, 16, 17] (by decide +kernel) (by decide +kernel)) (goodIn_sub (fun _ h => List.mem_cons_of_mem _ (List.mem_append_right _ h)) (by decide +kernel))
set_option maxRecDepth 20000 in
theorem gX6_save_X6_needIndex : GoodIn wsX6_save (va_wsS RX6 208 yX6_needIndex wsX6_needIndex) := goodIn_app (goodIn_of _ (by decide +kernel)) ggX6_save_X6_needIndex
set_option maxRecDepth 20000 in
theorem ggX6_save_X5_copyFrom : GoodIn wsX6_save wsX5_copyFrom := goodIn_r _ [22, 23, 24, 25, 26, 27, 28, 29, 30, 31, 32, 33, 34, 35, 36, 37, 38, 39, 40, 41, 42, 43, 44, 45, 46, 47, 48, 49, 50, 62, 63, 64, 65, 66, 67, 68, 69, 70, 71, 72, 73, 74, 75, 76, 77, 78, 79] (by decide +kernel) (by decide +kernel)
set_option maxRecDepth 20000 in
theorem gX6_save_X5_copyFrom : GoodIn wsX6_save (wsV RX6 95 RX5 yX5_copyFrom wsX5_copyFrom) := goodIn_app (goodIn_of _ (by decide +kernel)) ggX6_save_X5_copyFrom
theorem dX6_save_0 : decode cX6_save 0 = .ok (.aload_n 0, 1) := by decide +kernel
theorem dX6_save_1 : decode cX6_save 1 = .ok (.invokevirtual 112, 3) := by decide +kernel
theorem dX6_save_4 : decode cX6_save 4 = .ok (.iload_n 1, 1) := by decide +kernel
theorem dX6_save_5 : decode cX6_save 5 = .ok (.iconst 2, 1) := by decide +kernel
theorem dX6_save_6 : decode cX6_save 6 = .ok (.invokestatic 208, 3) := by decide +kernel
theorem dX6_save_9 : decode cX6_save 9 = .ok (.aload_n 0, 1) := by decide +kernel
theorem dX6_save_10 : decode cX6_save 10 = .ok (.getfield 40, 3) := by decide +kernel
theorem dX6_save_13 : decode cX6_save 13 = .ok (.iload_n 1, 1) := by decide +kernel
theorem dX6_save_14 : decode cX6_save 14 = .ok (.aaload, 1) := by decide +kernel
theorem dX6_save_15 : decode cX6_save 15 = .ok (.aload_n 0, 1) := by decide +kernel
theorem dX6_save_16 : decode cX6_save 16 = .ok (.getfield 33, 3) := by decide +kernel
theorem dX6_save_19 : decode cX6_save 19 = .ok (.invokevirtual 95, 3) := by decide +kernel
theorem dX6_save_22 : decode cX6_save 22 = .ok (.aload_n 0, 1) := by decide +kernel
theorem dX6_save_23 : decode cX6_save 23 = .ok (.getfield 44, 3) := by decide +kernel
theorem dX6_save_26 : decode cX6_save 26 = .ok (.iload_n 1, 1) := by decide +kernel
theorem dX6_save_27 : decode cX6_save 27 = .ok (.iconst 1, 1) := by decide +kernel
theorem dX6_save_28 : decode cX6_save 28 = .ok (.bastore, 1) := by decide +kernel
theorem dX6_save_29 : decode cX6_save 29 = .ok (.aload_n 0, 1) := by decide +kernel
theorem dX6_save_30 : decode cX6_save 30 = .ok (.getfield 33, 3) := by decide +kernel
theorem dX6_save_33 : decode cX6_save 33 = .ok (.getfield 132, 3) := by decide +kernel
theorem dX6_save_36 : decode cX6_save 36 = .ok (.ireturn, 1) := by decide +kernel
set_option maxRecDepth 20000 in
theorem ggX6_restore_X6_needIndex : GoodIn wsX6_restore wsX6_needIndex := goodIn_ca (goodIn_r _ [11, 12, 13] (by decide +kernel) (by decide +kernel)) (goodIn_sub (fun _ h => List.mem_cons_of_mem _ (List.mem_append_right _ h)) (by decide +kernel))
set_option maxRecDepth 20000 in
theorem gX6_restore_X6_needIndex : GoodIn wsX6_restore (va_wsS RX6 208 yX6_needIndex wsX6_needIndex) := goodIn_app (goodIn_of _ (by decide +kernel)) ggX6_restore_X6_needIndex
set_option maxRecDepth 20000 in
theorem ggX6_restore_X5_copyFrom : GoodIn wsX6_restore wsX5_copyFrom := goodIn_r _ [18, 19, 20, 21, 22, 23, 24, 25, 26, 27, 28, 29, 30, 31, 32, 33, 34, 35, 36, 37, 38, 39, 40, 41, 42, 43, 44, 45, 46, 64, 65, 66, 67, 68, 69, 70, 71, 72, 73, 74, 75, 76, 77, 78, 79, 80, 81] (by decide +kernel) (by decide +kernel)
set_option maxRecDepth 20000 in
theorem gX6_restore_X5_copyFrom : GoodIn wsX6_restore (wsV RX6 95 RX5 yX5_copyFrom wsX5_copyFrom) := goodIn_app (goodIn_of _ (by decide +kernel)) ggX6_restore_X5_copyFrom
set_option maxRecDepth 20000 in
theorem ggX6_restore_X0_clear : GoodIn wsX6_restore wsX0_clear := goodIn_r _ [51, 52, 82, 83, 84] (by decide +kernel) (by decide +kernel)
set_option maxRecDepth 20000 in
theorem gX6_restore_X0_clear : GoodIn wsX6_restore (wsV RX6 99 RX0 yX0_clear wsX0_clear) := goodIn_app (goodIn_of _ (by decide +kernel)) ggX6_restore_X0_clear
theorem dX6_restore_0 : decode cX6_restore 0 = .ok (.iload_n 1, 1) := by decide +kernel
theorem dX6_restore_1 : decode cX6_restore 1 = .ok (.iconst 2, 1) := by decide +kernel
theorem dX6_restore_2 : decode cX6_restore 2 = .ok (.invokestatic 208, 3) := by decide +kernel
theorem dX6_restore_5 : decode cX6_restore 5 = .ok (.aload_n 0, 1) := by decide +kernel
theorem dX6_restore_6 : decode cX6_restore 6 = .ok (.getfield 44, 3) := by decide +kernel
theorem dX6_restore_9 : decode cX6_restore 9 = .ok (.iload_n 1, 1) := by decide +kernel
theorem dX6_restore_10 : decode cX6_restore 10 = .ok (.baload, 1) := by decide +kernel
theorem dX6_restore_11 : decode cX6_restore 11 = .ok (.ifCond .ne 14, 3) := by decide +kernel
theorem dX6_restore_14 : decode cX6_restore 14 = .ok (.new 428, 3) := by decide +kernel
theorem dX6_restore_17 : decode cX6_restore 17 = .ok (.dup, 1) := by decide +kernel
theorem dX6_restore_18 : decode cX6_restore 18 = .ok (.ldc_w 436, 3) := by decide +kernel
theorem dX6_restore_21 : decode cX6_restore 21 = .ok (.invokespecial 432, 3) := by decide +kernel
theorem dX6_restore_24 : decode cX6_restore 24 = .ok (.athrow, 1) := by decide +kernel
theorem dX6_restore_25 : decode cX6_restore 25 = .ok (.aload_n 0, 1) := by decide +kernel
theorem dX6_restore_26 : decode cX6_restore 26 = .ok (.getfield 33, 3) := by decide +kernel
theorem dX6_restore_29 : decode cX6_restore 29 = .ok (.aload_n 0, 1) := by decide +kernel
theorem dX6_restore_30 : decode cX6_restore 30 = .ok (.getfield 40, 3) := by decide +kernel
theorem dX6_restore_33 : decode cX6_restore 33 = .ok (.iload_n 1, 1) := by decide +kernel
theorem dX6_restore_34 : decode cX6_restore 34 = .ok (.aaload, 1) := by decide +kernel
theorem dX6_restore_35 : decode cX6_restore 35 = .ok (.invokevirtual 95, 3) := by decide +kernel
theorem dX6_restore_38 : decode cX6_restore 38 = .ok (.aload_n 0, 1) := by decide +kernel
theorem dX6_restore_39 : decode cX6_restore 39 = .ok (.getfield 26, 3) := by decide +kernel
theorem dX6_restore_42 : decode cX6_restore 42 = .ok (.invokevirtual 99, 3) := by decide +kernel
theorem dX6_restore_45 : decode cX6_restore 45 = .ok (.aload_n 0, 1) := by decide +kernel
theorem dX6_restore_46 : decode cX6_restore 46 = .ok (.getfield 33, 3) := by decide +kernel
theorem dX6_restore_49 : decode cX6_restore 49 = .ok (.getfield 132, 3) := by decide +kernel
theorem dX6_restore_52 : decode cX6_restore 52 = .ok (.ireturn, 1) := by decide +kernel
theorem dX6_needChase_0 : decode cX6_needChase 0 = .ok (.aload_n 0, 1) := by decide +kernel
theorem dX6_needChase_1 : decode cX6_needChase 1 = .ok (.getfield 102, 3) := by decide +kernel
theorem dX6_needChase_4 : decode cX6_needChase 4 = .ok (.ifCond .ne 14, 3) := by decide +kernel
theorem dX6_needChase_7 : decode cX6_needChase 7 = .ok (.new 428, 3) := by decide +kernel
theorem dX6_needChase_10 : decode cX6_needChase 10 = .ok (.dup, 1) := by decide +kernel
theorem dX6_needChase_11 : decode cX6_needChase 11 = .ok (.ldc_w 438, 3) := by decide +kernel
theorem dX6_needChase_14 : decode cX6_needChase 14 = .ok (.invokespecial 432, 3) := by decide +kernel
theorem dX6_needChase_17 : decode cX6_needChase 17 = .ok (.athrow, 1) := by decide +kernel
theorem dX6_needChase_18 : decode cX6_needChase 18 = .ok (.return_, 1) := by decide +kernel
set_option maxRecDepth 20000 in
theorem ggX6_needRow_X6_needChase : GoodIn wsX6_needRow wsX6_needChase := goodIn_ca (goodIn_r _ [11, 12, 13, 14, 15, 16, 17, 18, 19, 20, 21, 22, 23, 24, 25] (by decide +kernel) (by decide +kernel)) (goodIn_sub (fun _ h => List.mem_cons_of_mem _ (List.mem_append_right _ h)) (by decide +kernel))
set_option maxRecDepth 20000 in
theorem gX6_needRow_X6_needChase : GoodIn wsX6_needRow (wsV RX6 112 RX6 yX6_needChase wsX6_needChase) := goodIn_app (goodIn_of _ (by decide +kernel)) ggX6_needRow_X6_needChase
theorem dX6_needRow_0 : decode cX6_needRow 0 = .ok (.aload_n 0, 1) := by decide +kernel
theorem dX6_needRow_1 : decode cX6_needRow 1 = .ok (.invokevirtual 112, 3) := by decide +kernel
theorem dX6_needRow_4 : decode cX6_needRow 4 = .ok (.iload_n 1, 1) := by decide +kernel
theorem dX6_needRow_5 : decode cX6_needRow 5 = .ok (.ifCond .lt 20, 3) := by decide +kernel
theorem dX6_needRow_8 : decode cX6_needRow 8 = .ok (.iload_n 1, 1) := by decide +kernel
theorem dX6_needRow_9 : decode cX6_needRow 9 = .ok (.aload_n 0, 1) := by decide +kernel
theorem dX6_needRow_10 : decode cX6_needRow 10 = .ok (.getfield 58, 3) := by decide +kernel
theorem dX6_needRow_13 : decode cX6_needRow 13 = .ok (.getfield 115, 3) := by decide +kernel
theorem dX6_needRow_16 : decode cX6_needRow 16 = .ok (.if_icmp .ge 9, 3) := by decide +kernel
theorem dX6_needRow_19 : decode cX6_needRow 19 = .ok (.iload_n 1, 1) := by decide +kernel
theorem dX6_needRow_20 : decode cX6_needRow 20 = .ok (.bipush 8, 2) := by decide +kernel
theorem dX6_needRow_22 : decode cX6_needRow 22 = .ok (.if_icmp .lt 14, 3) := by decide +kernel
theorem dX6_needRow_25 : decode cX6_needRow 25 = .ok (.new 73, 3) := by decide +kernel
theorem dX6_needRow_28 : decode cX6_needRow 28 = .ok (.dup, 1) := by decide +kernel
theorem dX6_needRow_29 : decode cX6_needRow 29 = .ok (.ldc_w 440, 3) := by decide +kernel
theorem dX6_needRow_32 : decode cX6_needRow 32 = .ok (.invokespecial 77, 3) := by decide +kernel
theorem dX6_needRow_35 : decode cX6_needRow 35 = .ok (.athrow, 1) := by decide +kernel
theorem dX6_needRow_36 : decode cX6_needRow 36 = .ok (.aload_n 0, 1) := by decide +kernel
theorem dX6_needRow_37 : decode cX6_needRow 37 = .ok (.getfield 33, 3) := by decide +kernel
theorem dX6_needRow_40 : decode cX6_needRow 40 = .ok (.getfield 246, 3) := by decide +kernel
theorem dX6_needRow_43 : decode cX6_needRow 43 = .ok (.iload_n 1, 1) := by decide +kernel
theorem dX6_needRow_44 : decode cX6_needRow 44 = .ok (.aaload, 1) := by decide +kernel
theorem dX6_needRow_45 : decode cX6_needRow 45 = .ok (.areturn, 1) := by decide +kernel
theorem dX6_needKind_0 : decode cX6_needKind 0 = .ok (.iload_n 1, 1) := by decide +kernel
theorem dX6_needKind_1 : decode cX6_needKind 1 = .ok (.ifCond .lt 20, 3) := by decide +kernel
theorem dX6_needKind_4 : decode cX6_needKind 4 = .ok (.iload_n 1, 1) := by decide +kernel
theorem dX6_needKind_5 : decode cX6_needKind 5 = .ok (.aload_n 0, 1) := by decide +kernel
theorem dX6_needKind_6 : decode cX6_needKind 6 = .ok (.getfield 58, 3) := by decide +kernel
theorem dX6_needKind_9 : decode cX6_needKind 9 = .ok (.getfield 92, 3) := by decide +kernel
theorem dX6_needKind_12 : decode cX6_needKind 12 = .ok (.if_icmp .ge 9, 3) := by decide +kernel
theorem dX6_needKind_15 : decode cX6_needKind 15 = .ok (.iload_n 1, 1) := by decide +kernel
theorem dX6_needKind_16 : decode cX6_needKind 16 = .ok (.bipush 10, 2) := by decide +kernel
theorem dX6_needKind_18 : decode cX6_needKind 18 = .ok (.if_icmp .lt 14, 3) := by decide +kernel
theorem dX6_needKind_21 : decode cX6_needKind 21 = .ok (.new 73, 3) := by decide +kernel
theorem dX6_needKind_24 : decode cX6_needKind 24 = .ok (.dup, 1) := by decide +kernel
theorem dX6_needKind_25 : decode cX6_needKind 25 = .ok (.ldc_w 442, 3) := by decide +kernel
theorem dX6_needKind_28 : decode cX6_needKind 28 = .ok (.invokespecial 77, 3) := by decide +kernel
theorem dX6_needKind_31 : decode cX6_needKind 31 = .ok (.athrow, 1) := by decide +kernel
theorem dX6_needKind_32 : decode cX6_needKind 32 = .ok (.return_, 1) := by decide +kernel
theorem dX6_needIndex_0 : decode cX6_needIndex 0 = .ok (.iload_n 0, 1) := by decide +kernel
theorem dX6_needIndex_1 : decode cX6_needIndex 1 = .ok (.ifCond .lt 8, 3) := by decide +kernel
theorem dX6_needIndex_4 : decode cX6_needIndex 4 = .ok (.iload_n 0, 1) := by decide +kernel
theorem dX6_needIndex_5 : decode cX6_needIndex 5 = .ok (.iload_n 1, 1) := by decide +kernel
theorem dX6_needIndex_6 : decode cX6_needIndex 6 = .ok (.if_icmp .lt 14, 3) := by decide +kernel
theorem dX6_needIndex_9 : decode cX6_needIndex 9 = .ok (.new 73, 3) := by decide +kernel
theorem dX6_needIndex_12 : decode cX6_needIndex 12 = .ok (.dup, 1) := by decide +kernel
theorem dX6_needIndex_13 : decode cX6_needIndex 13 = .ok (.ldc_w 444, 3) := by decide +kernel
theorem dX6_needIndex_16 : decode cX6_needIndex 16 = .ok (.invokespecial 77, 3) := by decide +kernel
theorem dX6_needIndex_19 : decode cX6_needIndex 19 = .ok (.athrow, 1) := by decide +kernel
theorem dX6_needIndex_20 : decode cX6_needIndex 20 = .ok (.return_, 1) := by decide +kernel
theorem dX6_needBlockLength_0 : decode cX6_needBlockLength 0 = .ok (.iload_n 0, 1) := by decide +kernel
theorem dX6_needBlockLength_1 : decode cX6_needBlockLength 1 = .ok (.iconst 1, 1) := by decide +kernel
theorem dX6_needBlockLength_2 : decode cX6_needBlockLength 2 = .ok (.if_icmp .lt 10, 3) := by decide +kernel
theorem dX6_needBlockLength_5 : decode cX6_needBlockLength 5 = .ok (.iload_n 0, 1) := by decide +kernel
theorem dX6_needBlockLength_6 : decode cX6_needBlockLength 6 = .ok (.sipush 200, 3) := by decide +kernel
theorem dX6_needBlockLength_9 : decode cX6_needBlockLength 9 = .ok (.if_icmp .le 14, 3) := by decide +kernel
theorem dX6_needBlockLength_12 : decode cX6_needBlockLength 12 = .ok (.new 84, 3) := by decide +kernel
theorem dX6_needBlockLength_15 : decode cX6_needBlockLength 15 = .ok (.dup, 1) := by decide +kernel
theorem dX6_needBlockLength_16 : decode cX6_needBlockLength 16 = .ok (.ldc_w 446, 3) := by decide +kernel
theorem dX6_needBlockLength_19 : decode cX6_needBlockLength 19 = .ok (.invokespecial 88, 3) := by decide +kernel
theorem dX6_needBlockLength_22 : decode cX6_needBlockLength 22 = .ok (.athrow, 1) := by decide +kernel
theorem dX6_needBlockLength_23 : decode cX6_needBlockLength 23 = .ok (.return_, 1) := by decide +kernel
theorem dX6_needTurns_0 : decode cX6_needTurns 0 = .ok (.iload_n 0, 1) := by decide +kernel
theorem dX6_needTurns_1 : decode cX6_needTurns 1 = .ok (.iconst 1, 1) := by decide +kernel
theorem dX6_needTurns_2 : decode cX6_needTurns 2 = .ok (.if_icmp .lt 9, 3) := by decide +kernel
theorem dX6_needTurns_5 : decode cX6_needTurns 5 = .ok (.iload_n 0, 1) := by decide +kernel
theorem dX6_needTurns_6 : decode cX6_needTurns 6 = .ok (.bipush 100, 2) := by decide +kernel
theorem dX6_needTurns_8 : decode cX6_needTurns 8 = .ok (.if_icmp .le 14, 3) := by decide +kernel
theorem dX6_needTurns_11 : decode cX6_needTurns 11 = .ok (.new 84, 3) := by decide +kernel
theorem dX6_needTurns_14 : decode cX6_needTurns 14 = .ok (.dup, 1) := by decide +kernel
theorem dX6_needTurns_15 : decode cX6_needTurns 15 = .ok (.ldc_w 448, 3) := by decide +kernel
theorem dX6_needTurns_18 : decode cX6_needTurns 18 = .ok (.invokespecial 88, 3) := by decide +kernel
theorem dX6_needTurns_21 : decode cX6_needTurns 21 = .ok (.athrow, 1) := by decide +kernel
theorem dX6_needTurns_22 : decode cX6_needTurns 22 = .ok (.return_, 1) := by decide +kernel
theorem dX7_init_0 : decode cX7_init 0 = .ok (.aload_n 0, 1) := by decide +kernel
theorem dX7_init_1 : decode cX7_init 1 = .ok (.invokespecial 1, 3) := by decide +kernel
theorem dX7_init_4 : decode cX7_init 4 = .ok (.aload_n 0, 1) := by decide +kernel
theorem dX7_init_5 : decode cX7_init 5 = .ok (.bipush 10, 2) := by decide +kernel
theorem dX7_init_7 : decode cX7_init 7 = .ok (.newarray .boolean, 2) := by decide +kernel
theorem dX7_init_9 : decode cX7_init 9 = .ok (.putfield 7, 3) := by decide +kernel
theorem dX7_init_12 : decode cX7_init 12 = .ok (.aload_n 0, 1) := by decide +kernel
theorem dX7_init_13 : decode cX7_init 13 = .ok (.bipush 10, 2) := by decide +kernel
theorem dX7_init_15 : decode cX7_init 15 = .ok (.newarray .int, 2) := by decide +kernel
theorem dX7_init_17 : decode cX7_init 17 = .ok (.putfield 13, 3) := by decide +kernel
theorem dX7_init_20 : decode cX7_init 20 = .ok (.aload_n 0, 1) := by decide +kernel
theorem dX7_init_21 : decode cX7_init 21 = .ok (.sipush 4112, 3) := by decide +kernel
theorem dX7_init_24 : decode cX7_init 24 = .ok (.newarray .int, 2) := by decide +kernel
theorem dX7_init_26 : decode cX7_init 26 = .ok (.putfield 17, 3) := by decide +kernel
theorem dX7_init_29 : decode cX7_init 29 = .ok (.aload_n 0, 1) := by decide +kernel
theorem dX7_init_30 : decode cX7_init 30 = .ok (.sipush 4112, 3) := by decide +kernel
theorem dX7_init_33 : decode cX7_init 33 = .ok (.newarray .int, 2) := by decide +kernel
theorem dX7_init_35 : decode cX7_init 35 = .ok (.putfield 20, 3) := by decide +kernel
theorem dX7_init_38 : decode cX7_init 38 = .ok (.aload_n 0, 1) := by decide +kernel
theorem dX7_init_39 : decode cX7_init 39 = .ok (.ldc 23, 2) := by decide +kernel
theorem dX7_init_41 : decode cX7_init 41 = .ok (.newarray .int, 2) := by decide +kernel
theorem dX7_init_43 : decode cX7_init 43 = .ok (.putfield 24, 3) := by decide +kernel
theorem dX7_init_46 : decode cX7_init 46 = .ok (.aload_n 0, 1) := by decide +kernel
theorem dX7_init_47 : decode cX7_init 47 = .ok (.iconst 2, 1) := by decide +kernel
theorem dX7_init_48 : decode cX7_init 48 = .ok (.newarray .boolean, 2) := by decide +kernel
theorem dX7_init_50 : decode cX7_init 50 = .ok (.putfield 27, 3) := by decide +kernel
theorem dX7_init_53 : decode cX7_init 53 = .ok (.aload_n 0, 1) := by decide +kernel
theorem dX7_init_54 : decode cX7_init 54 = .ok (.sipush 500, 3) := by decide +kernel
theorem dX7_init_57 : decode cX7_init 57 = .ok (.newarray .int, 2) := by decide +kernel
theorem dX7_init_59 : decode cX7_init 59 = .ok (.putfield 30, 3) := by decide +kernel
theorem dX7_init_62 : decode cX7_init 62 = .ok (.aload_n 0, 1) := by decide +kernel
theorem dX7_init_63 : decode cX7_init 63 = .ok (.iconst (-1), 1) := by decide +kernel
theorem dX7_init_64 : decode cX7_init 64 = .ok (.putfield 33, 3) := by decide +kernel
theorem dX7_init_67 : decode cX7_init 67 = .ok (.aload_n 0, 1) := by decide +kernel
theorem dX7_init_68 : decode cX7_init 68 = .ok (.sipush 4112, 3) := by decide +kernel
theorem dX7_init_71 : decode cX7_init 71 = .ok (.newarray .int, 2) := by decide +kernel
theorem dX7_init_73 : decode cX7_init 73 = .ok (.putfield 37, 3) := by decide +kernel
theorem dX7_init_76 : decode cX7_init 76 = .ok (.aload_n 0, 1) := by decide +kernel
theorem dX7_init_77 : decode cX7_init 77 = .ok (.bipush 8, 2) := by decide +kernel
theorem dX7_init_79 : decode cX7_init 79 = .ok (.newarray .int, 2) := by decide +kernel
theorem dX7_init_81 : decode cX7_init 81 = .ok (.putfield 40, 3) := by decide +kernel
theorem dX7_init_84 : decode cX7_init 84 = .ok (.aload_n 0, 1) := by decide +kernel
theorem dX7_init_85 : decode cX7_init 85 = .ok (.bipush 10, 2) := by decide +kernel
theorem dX7_init_87 : decode cX7_init 87 = .ok (.newarray .int, 2) := by decide +kernel
theorem dX7_init_89 : decode cX7_init 89 = .ok (.putfield 43, 3) := by decide +kernel
theorem dX7_init_92 : decode cX7_init 92 = .ok (.aload_n 0, 1) := by decide +kernel
theorem dX7_init_93 : decode cX7_init 93 = .ok (.bipush 10, 2) := by decide +kernel
theorem dX7_init_95 : decode cX7_init 95 = .ok (.newarray .boolean, 2) := by decide +kernel
theorem dX7_init_97 : decode cX7_init 97 = .ok (.putfield 46, 3) := by decide +kernel
theorem dX7_init_100 : decode cX7_init 100 = .ok (.aload_n 0, 1) := by decide +kernel
theorem dX7_init_101 : decode cX7_init 101 = .ok (.bipush 10, 2) := by decide +kernel
theorem dX7_init_103 : decode cX7_init 103 = .ok (.newarray .int, 2) := by decide +kernel
theorem dX7_init_105 : decode cX7_init 105 = .ok (.putfield 49, 3) := by decide +kernel
theorem dX7_init_108 : decode cX7_init 108 = .ok (.aload_n 0, 1) := by decide +kernel
theorem dX7_init_109 : decode cX7_init 109 = .ok (.sipush 5511, 3) := by decide +kernel
theorem dX7_init_112 : decode cX7_init 112 = .ok (.newarray .int, 2) := by decide +kernel
theorem dX7_init_114 : decode cX7_init 114 = .ok (.putfield 52, 3) := by decide +kernel
theorem dX7_init_117 : decode cX7_init 117 = .ok (.aload_n 0, 1) := by decide +kernel
theorem dX7_init_118 : decode cX7_init 118 = .ok (.bipush 10, 2) := by decide +kernel
theorem dX7_init_120 : decode cX7_init 120 = .ok (.newarray .int, 2) := by decide +kernel
theorem dX7_init_122 : decode cX7_init 122 = .ok (.putfield 55, 3) := by decide +kernel
theorem dX7_init_125 : decode cX7_init 125 = .ok (.aload_n 0, 1) := by decide +kernel
theorem dX7_init_126 : decode cX7_init 126 = .ok (.iconst (-1), 1) := by decide +kernel
theorem dX7_init_127 : decode cX7_init 127 = .ok (.putfield 58, 3) := by decide +kernel
theorem dX7_init_130 : decode cX7_init 130 = .ok (.aload_n 0, 1) := by decide +kernel
theorem dX7_init_131 : decode cX7_init 131 = .ok (.sipush 501, 3) := by decide +kernel
theorem dX7_init_134 : decode cX7_init 134 = .ok (.newarray .int, 2) := by decide +kernel
theorem dX7_init_136 : decode cX7_init 136 = .ok (.putfield 61, 3) := by decide +kernel
theorem dX7_init_139 : decode cX7_init 139 = .ok (.aload_n 0, 1) := by decide +kernel
theorem dX7_init_140 : decode cX7_init 140 = .ok (.sipush 3000, 3) := by decide +kernel
theorem dX7_init_143 : decode cX7_init 143 = .ok (.newarray .int, 2) := by decide +kernel
theorem dX7_init_145 : decode cX7_init 145 = .ok (.putfield 64, 3) := by decide +kernel
theorem dX7_init_148 : decode cX7_init 148 = .ok (.return_, 1) := by decide +kernel
theorem dX7_thrown_0 : decode cX7_thrown 0 = .ok (.aload_n 0, 1) := by decide +kernel
theorem dX7_thrown_1 : decode cX7_thrown 1 = .ok (.getfield 67, 3) := by decide +kernel
theorem dX7_thrown_4 : decode cX7_thrown 4 = .ok (.ireturn, 1) := by decide +kernel
theorem dX7_in_0 : decode cX7_in 0 = .ok (.iload_n 0, 1) := by decide +kernel
theorem dX7_in_1 : decode cX7_in 1 = .ok (.iload_n 1, 1) := by decide +kernel
theorem dX7_in_2 : decode cX7_in 2 = .ok (.if_icmp .lt 12, 3) := by decide +kernel
theorem dX7_in_5 : decode cX7_in 5 = .ok (.iload_n 0, 1) := by decide +kernel
theorem dX7_in_6 : decode cX7_in 6 = .ok (.iload_n 2, 1) := by decide +kernel
theorem dX7_in_7 : decode cX7_in 7 = .ok (.if_icmp .gt 7, 3) := by decide +kernel
theorem dX7_in_10 : decode cX7_in 10 = .ok (.iconst 1, 1) := by decide +kernel
theorem dX7_in_11 : decode cX7_in 11 = .ok (.goto 4, 3) := by decide +kernel
theorem dX7_in_14 : decode cX7_in 14 = .ok (.iconst 0, 1) := by decide +kernel
theorem dX7_in_15 : decode cX7_in 15 = .ok (.ireturn, 1) := by decide +kernel
theorem dX7_flag_0 : decode cX7_flag 0 = .ok (.iload_n 0, 1) := by decide +kernel
theorem dX7_flag_1 : decode cX7_flag 1 = .ok (.ifCond .eq 7, 3) := by decide +kernel
theorem dX7_flag_4 : decode cX7_flag 4 = .ok (.iconst 1, 1) := by decide +kernel
theorem dX7_flag_5 : decode cX7_flag 5 = .ok (.goto 4, 3) := by decide +kernel
theorem dX7_flag_8 : decode cX7_flag 8 = .ok (.iconst 0, 1) := by decide +kernel
theorem dX7_flag_9 : decode cX7_flag 9 = .ok (.ireturn, 1) := by decide +kernel
theorem dX7_refuse_0 : decode cX7_refuse 0 = .ok (.aload_n 0, 1) := by decide +kernel
theorem dX7_refuse_1 : decode cX7_refuse 1 = .ok (.getfield 67, 3) := by decide +kernel
theorem dX7_refuse_4 : decode cX7_refuse 4 = .ok (.ifCond .ne 12, 3) := by decide +kernel
theorem dX7_refuse_7 : decode cX7_refuse 7 = .ok (.iload_n 1, 1) := by decide +kernel
theorem dX7_refuse_8 : decode cX7_refuse 8 = .ok (.ifCond .eq 8, 3) := by decide +kernel
theorem dX7_refuse_11 : decode cX7_refuse 11 = .ok (.aload_n 0, 1) := by decide +kernel
theorem dX7_refuse_12 : decode cX7_refuse 12 = .ok (.iload_n 2, 1) := by decide +kernel
theorem dX7_refuse_13 : decode cX7_refuse 13 = .ok (.putfield 67, 3) := by decide +kernel
theorem dX7_refuse_16 : decode cX7_refuse 16 = .ok (.aload_n 0, 1) := by decide +kernel
theorem dX7_refuse_17 : decode cX7_refuse 17 = .ok (.getfield 67, 3) := by decide +kernel
theorem dX7_refuse_20 : decode cX7_refuse 20 = .ok (.ifCond .eq 7, 3) := by decide +kernel
theorem dX7_refuse_23 : decode cX7_refuse 23 = .ok (.iconst 1, 1) := by decide +kernel
theorem dX7_refuse_24 : decode cX7_refuse 24 = .ok (.goto 4, 3) := by decide +kernel
theorem dX7_refuse_27 : decode cX7_refuse 27 = .ok (.iconst 0, 1) := by decide +kernel
theorem dX7_refuse_28 : decode cX7_refuse 28 = .ok (.ireturn, 1) := by decide +kernel
set_option maxRecDepth 20000 in
theorem ggX7_notLoaded_X7_refuse : GoodIn wsX7_notLoaded wsX7_refuse := goodIn_r _ [7, 1, 8, 9, 10, 11, 12, 13, 14, 15, 16, 17, 18, 19, 20, 21, 22, 23, 24, 25, 26, 27, 28, 29, 30, 31, 32, 33, 34, 35, 36, 37, 38, 39, 40, 41, 42, 43, 44, 45, 46, 47, 48] (by decide +kernel) (by decide +kernel)
set_option maxRecDepth 20000 in
theorem gX7_notLoaded_X7_refuse : GoodIn wsX7_notLoaded (wsV RX7 74 RX7 yX7_refuse wsX7_refuse) := goodIn_app (goodIn_of _ (by decide +kernel)) ggX7_notLoaded_X7_refuse
theorem dX7_notLoaded_0 : decode cX7_notLoaded 0 = .ok (.aload_n 0, 1) := by decide +kernel
theorem dX7_notLoaded_1 : decode cX7_notLoaded 1 = .ok (.iconst 0, 1) := by decide +kernel
theorem dX7_notLoaded_2 : decode cX7_notLoaded 2 = .ok (.putfield 67, 3) := by decide +kernel
theorem dX7_notLoaded_5 : decode cX7_notLoaded 5 = .ok (.aload_n 0, 1) := by decide +kernel
theorem dX7_notLoaded_6 : decode cX7_notLoaded 6 = .ok (.aload_n 0, 1) := by decide +kernel
theorem dX7_notLoaded_7 : decode cX7_notLoaded 7 = .ok (.getfield 70, 3) := by decide +kernel
theorem dX7_notLoaded_10 : decode cX7_notLoaded 10 = .ok (.ifCond .ne 7, 3) := by decide +kernel
theorem dX7_notLoaded_13 : decode cX7_notLoaded 13 = .ok (.iconst 1, 1) := by decide +kernel
theorem dX7_notLoaded_14 : decode cX7_notLoaded 14 = .ok (.goto 4, 3) := by decide +kernel
theorem dX7_notLoaded_17 : decode cX7_notLoaded 17 = .ok (.iconst 0, 1) := by decide +kernel
theorem dX7_notLoaded_18 : decode cX7_notLoaded 18 = .ok (.iconst 1, 1) := by decide +kernel
theorem dX7_notLoaded_19 : decode cX7_notLoaded 19 = .ok (.invokevirtual 74, 3) := by decide +kernel
theorem dX7_notLoaded_22 : decode cX7_notLoaded 22 = .ok (.ireturn, 1) := by decide +kernel
theorem dX7_append_0 : decode cX7_append 0 = .ok (.aload_n 0, 1) := by decide +kernel
theorem dX7_append_1 : decode cX7_append 1 = .ok (.iconst 0, 1) := by decide +kernel
theorem dX7_append_2 : decode cX7_append 2 = .ok (.putfield 67, 3) := by decide +kernel
theorem dX7_append_5 : decode cX7_append 5 = .ok (.aload_n 0, 1) := by decide +kernel
theorem dX7_append_6 : decode cX7_append 6 = .ok (.getfield 78, 3) := by decide +kernel
theorem dX7_append_9 : decode cX7_append 9 = .ok (.bipush 20, 2) := by decide +kernel
theorem dX7_append_11 : decode cX7_append 11 = .ok (.iadd, 1) := by decide +kernel
theorem dX7_append_12 : decode cX7_append 12 = .ok (.sipush 500, 3) := by decide +kernel
theorem dX7_append_15 : decode cX7_append 15 = .ok (.if_icmp .le 5, 3) := by decide +kernel
theorem dX7_append_18 : decode cX7_append 18 = .ok (.iconst (-1), 1) := by decide +kernel
theorem dX7_append_19 : decode cX7_append 19 = .ok (.ireturn, 1) := by decide +kernel
theorem dX7_append_20 : decode cX7_append 20 = .ok (.iconst 0, 1) := by decide +kernel
theorem dX7_append_21 : decode cX7_append 21 = .ok (.istore 6, 2) := by decide +kernel
theorem dX7_append_23 : decode cX7_append 23 = .ok (.iload 6, 2) := by decide +kernel
theorem dX7_append_25 : decode cX7_append 25 = .ok (.bipush 20, 2) := by decide +kernel
theorem dX7_append_27 : decode cX7_append 27 = .ok (.if_icmp .ge 86, 3) := by decide +kernel
theorem dX7_append_30 : decode cX7_append 30 = .ok (.iload 6, 2) := by decide +kernel
theorem dX7_append_32 : decode cX7_append 32 = .ok (.iconst 4, 1) := by decide +kernel
theorem dX7_append_33 : decode cX7_append 33 = .ok (.if_icmp .ge 7, 3) := by decide +kernel
theorem dX7_append_36 : decode cX7_append 36 = .ok (.iload_n 1, 1) := by decide +kernel
theorem dX7_append_37 : decode cX7_append 37 = .ok (.goto 39, 3) := by decide +kernel
theorem dX7_append_40 : decode cX7_append 40 = .ok (.iload 6, 2) := by decide +kernel
theorem dX7_append_42 : decode cX7_append 42 = .ok (.bipush 8, 2) := by decide +kernel
theorem dX7_append_44 : decode cX7_append 44 = .ok (.if_icmp .ge 7, 3) := by decide +kernel
theorem dX7_append_47 : decode cX7_append 47 = .ok (.iload_n 2, 1) := by decide +kernel
theorem dX7_append_48 : decode cX7_append 48 = .ok (.goto 28, 3) := by decide +kernel
theorem dX7_append_51 : decode cX7_append 51 = .ok (.iload 6, 2) := by decide +kernel
theorem dX7_append_53 : decode cX7_append 53 = .ok (.bipush 12, 2) := by decide +kernel
theorem dX7_append_55 : decode cX7_append 55 = .ok (.if_icmp .ge 7, 3) := by decide +kernel
theorem dX7_append_58 : decode cX7_append 58 = .ok (.iload_n 3, 1) := by decide +kernel
theorem dX7_append_59 : decode cX7_append 59 = .ok (.goto 17, 3) := by decide +kernel
theorem dX7_append_62 : decode cX7_append 62 = .ok (.iload 6, 2) := by decide +kernel
theorem dX7_append_64 : decode cX7_append 64 = .ok (.bipush 16, 2) := by decide +kernel
theorem dX7_append_66 : decode cX7_append 66 = .ok (.if_icmp .ge 8, 3) := by decide +kernel
theorem dX7_append_69 : decode cX7_append 69 = .ok (.iload 4, 2) := by decide +kernel
theorem dX7_append_71 : decode cX7_append 71 = .ok (.goto 5, 3) := by decide +kernel
theorem dX7_append_74 : decode cX7_append 74 = .ok (.iload 5, 2) := by decide +kernel
theorem dX7_append_76 : decode cX7_append 76 = .ok (.istore 7, 2) := by decide +kernel
theorem dX7_append_78 : decode cX7_append 78 = .ok (.aload_n 0, 1) := by decide +kernel
theorem dX7_append_79 : decode cX7_append 79 = .ok (.getfield 30, 3) := by decide +kernel
theorem dX7_append_82 : decode cX7_append 82 = .ok (.aload_n 0, 1) := by decide +kernel
theorem dX7_append_83 : decode cX7_append 83 = .ok (.getfield 78, 3) := by decide +kernel
theorem dX7_append_86 : decode cX7_append 86 = .ok (.iload 6, 2) := by decide +kernel
theorem dX7_append_88 : decode cX7_append 88 = .ok (.iadd, 1) := by decide +kernel
theorem dX7_append_89 : decode cX7_append 89 = .ok (.iload 7, 2) := by decide +kernel
theorem dX7_append_91 : decode cX7_append 91 = .ok (.bipush 24, 2) := by decide +kernel
theorem dX7_append_93 : decode cX7_append 93 = .ok (.bipush 8, 2) := by decide +kernel
theorem dX7_append_95 : decode cX7_append 95 = .ok (.iload 6, 2) := by decide +kernel
theorem dX7_append_97 : decode cX7_append 97 = .ok (.iconst 4, 1) := by decide +kernel
theorem dX7_append_98 : decode cX7_append 98 = .ok (.irem, 1) := by decide +kernel
theorem dX7_append_99 : decode cX7_append 99 = .ok (.imul, 1) := by decide +kernel
theorem dX7_append_100 : decode cX7_append 100 = .ok (.isub, 1) := by decide +kernel
theorem dX7_append_101 : decode cX7_append 101 = .ok (.ishr, 1) := by decide +kernel
theorem dX7_append_102 : decode cX7_append 102 = .ok (.sipush 255, 3) := by decide +kernel
theorem dX7_append_105 : decode cX7_append 105 = .ok (.iand, 1) := by decide +kernel
theorem dX7_append_106 : decode cX7_append 106 = .ok (.iastore, 1) := by decide +kernel
theorem dX7_append_107 : decode cX7_append 107 = .ok (.iinc 6 1, 3) := by decide +kernel
theorem dX7_append_110 : decode cX7_append 110 = .ok (.goto (-87), 3) := by decide +kernel
theorem dX7_append_113 : decode cX7_append 113 = .ok (.aload_n 0, 1) := by decide +kernel
theorem dX7_append_114 : decode cX7_append 114 = .ok (.dup, 1) := by decide +kernel
theorem dX7_append_115 : decode cX7_append 115 = .ok (.getfield 78, 3) := by decide +kernel
theorem dX7_append_118 : decode cX7_append 118 = .ok (.bipush 20, 2) := by decide +kernel
theorem dX7_append_120 : decode cX7_append 120 = .ok (.iadd, 1) := by decide +kernel
theorem dX7_append_121 : decode cX7_append 121 = .ok (.putfield 78, 3) := by decide +kernel
theorem dX7_append_124 : decode cX7_append 124 = .ok (.aload_n 0, 1) := by decide +kernel
theorem dX7_append_125 : decode cX7_append 125 = .ok (.getfield 78, 3) := by decide +kernel
theorem dX7_append_128 : decode cX7_append 128 = .ok (.ireturn, 1) := by decide +kernel
theorem dX7_buffered_0 : decode cX7_buffered 0 = .ok (.aload_n 0, 1) := by decide +kernel
theorem dX7_buffered_1 : decode cX7_buffered 1 = .ok (.iconst 0, 1) := by decide +kernel
theorem dX7_buffered_2 : decode cX7_buffered 2 = .ok (.putfield 67, 3) := by decide +kernel
theorem dX7_buffered_5 : decode cX7_buffered 5 = .ok (.aload_n 0, 1) := by decide +kernel
theorem dX7_buffered_6 : decode cX7_buffered 6 = .ok (.getfield 78, 3) := by decide +kernel
theorem dX7_buffered_9 : decode cX7_buffered 9 = .ok (.ireturn, 1) := by decide +kernel
theorem dX7_parseError_0 : decode cX7_parseError 0 = .ok (.aload_n 0, 1) := by decide +kernel
theorem dX7_parseError_1 : decode cX7_parseError 1 = .ok (.iconst 0, 1) := by decide +kernel
theorem dX7_parseError_2 : decode cX7_parseError 2 = .ok (.putfield 67, 3) := by decide +kernel
theorem dX7_parseError_5 : decode cX7_parseError 5 = .ok (.aload_n 0, 1) := by decide +kernel
theorem dX7_parseError_6 : decode cX7_parseError 6 = .ok (.getfield 81, 3) := by decide +kernel
theorem dX7_parseError_9 : decode cX7_parseError 9 = .ok (.ireturn, 1) := by decide +kernel
theorem dX7_errorPosition_0 : decode cX7_errorPosition 0 = .ok (.aload_n 0, 1) := by decide +kernel
theorem dX7_errorPosition_1 : decode cX7_errorPosition 1 = .ok (.iconst 0, 1) := by decide +kernel
theorem dX7_errorPosition_2 : decode cX7_errorPosition 2 = .ok (.putfield 67, 3) := by decide +kernel
theorem dX7_errorPosition_5 : decode cX7_errorPosition 5 = .ok (.aload_n 0, 1) := by decide +kernel
theorem dX7_errorPosition_6 : decode cX7_errorPosition 6 = .ok (.getfield 33, 3) := by decide +kernel
theorem dX7_errorPosition_9 : decode cX7_errorPosition 9 = .ok (.ireturn, 1) := by decide +kernel
theorem dX7_seen_0 : decode cX7_seen 0 = .ok (.iload_n 1, 1) := by decide +kernel
theorem dX7_seen_1 : decode cX7_seen 1 = .ok (.aload_n 0, 1) := by decide +kernel
theorem dX7_seen_2 : decode cX7_seen 2 = .ok (.getfield 84, 3) := by decide +kernel
theorem dX7_seen_5 : decode cX7_seen 5 = .ok (.if_icmp .ge 12, 3) := by decide +kernel
theorem dX7_seen_8 : decode cX7_seen 8 = .ok (.aload_n 0, 1) := by decide +kernel
theorem dX7_seen_9 : decode cX7_seen 9 = .ok (.getfield 30, 3) := by decide +kernel
theorem dX7_seen_12 : decode cX7_seen 12 = .ok (.iload_n 1, 1) := by decide +kernel
theorem dX7_seen_13 : decode cX7_seen 13 = .ok (.iaload, 1) := by decide +kernel
theorem dX7_seen_14 : decode cX7_seen 14 = .ok (.goto 4, 3) := by decide +kernel
theorem dX7_seen_17 : decode cX7_seen 17 = .ok (.iconst (-1), 1) := by decide +kernel
theorem dX7_seen_18 : decode cX7_seen 18 = .ok (.ireturn, 1) := by decide +kernel
theorem dX7_isSmall_0 : decode cX7_isSmall 0 = .ok (.iload_n 0, 1) := by decide +kernel
theorem dX7_isSmall_1 : decode cX7_isSmall 1 = .ok (.bipush 97, 2) := by decide +kernel
theorem dX7_isSmall_3 : decode cX7_isSmall 3 = .ok (.if_icmp .lt 13, 3) := by decide +kernel
theorem dX7_isSmall_6 : decode cX7_isSmall 6 = .ok (.iload_n 0, 1) := by decide +kernel
theorem dX7_isSmall_7 : decode cX7_isSmall 7 = .ok (.bipush 122, 2) := by decide +kernel
theorem dX7_isSmall_9 : decode cX7_isSmall 9 = .ok (.if_icmp .gt 7, 3) := by decide +kernel
theorem dX7_isSmall_12 : decode cX7_isSmall 12 = .ok (.iconst 1, 1) := by decide +kernel
theorem dX7_isSmall_13 : decode cX7_isSmall 13 = .ok (.goto 4, 3) := by decide +kernel
theorem dX7_isSmall_16 : decode cX7_isSmall 16 = .ok (.iconst 0, 1) := by decide +kernel
theorem dX7_isSmall_17 : decode cX7_isSmall 17 = .ok (.ireturn, 1) := by decide +kernel
theorem dX7_isDigit_0 : decode cX7_isDigit 0 = .ok (.iload_n 0, 1) := by decide +kernel
theorem dX7_isDigit_1 : decode cX7_isDigit 1 = .ok (.bipush 48, 2) := by decide +kernel
theorem dX7_isDigit_3 : decode cX7_isDigit 3 = .ok (.if_icmp .lt 13, 3) := by decide +kernel
theorem dX7_isDigit_6 : decode cX7_isDigit 6 = .ok (.iload_n 0, 1) := by decide +kernel
theorem dX7_isDigit_7 : decode cX7_isDigit 7 = .ok (.bipush 57, 2) := by decide +kernel
theorem dX7_isDigit_9 : decode cX7_isDigit 9 = .ok (.if_icmp .gt 7, 3) := by decide +kernel
theorem dX7_isDigit_12 : decode cX7_isDigit 12 = .ok (.iconst 1, 1) := by decide +kernel
theorem dX7_isDigit_13 : decode cX7_isDigit 13 = .ok (.goto 4, 3) := by decide +kernel
theorem dX7_isDigit_16 : decode cX7_isDigit 16 = .ok (.iconst 0, 1) := by decide +kernel
theorem dX7_isDigit_17 : decode cX7_isDigit 17 = .ok (.ireturn, 1) := by decide +kernel
set_option maxRecDepth 20000 in
theorem ggX7_token_X7_seen : GoodIn wsX7_token wsX7_seen := goodIn_ca (goodIn_r _ [9, 10, 11, 18, 19, 20, 21, 22, 23, 24, 25, 26, 27, 28, 29, 30, 31, 32, 33, 34, 35, 36, 37, 38, 39, 40, 41, 42, 43, 44, 45, 46, 47, 48, 49, 50, 51, 52, 53, 54, 55, 56, 57, 58] (by decide +kernel) (by decide +kernel)) (goodIn_sub (fun _ h => List.mem_cons_of_mem _ (List.mem_append_right _ h)) (by decide +kernel))
set_option maxRecDepth 20000 in
theorem gX7_token_X7_seen : GoodIn wsX7_token (wsV RX7 90 RX7 yX7_seen wsX7_seen) := goodIn_app (goodIn_of _ (by decide +kernel)) ggX7_token_X7_seen
set_option maxRecDepth 20000 in
theorem ggX7_token_X7_isSmall : GoodIn wsX7_token wsX7_isSmall := goodIn_r _ [14] (by decide +kernel) (by decide +kernel)
set_option maxRecDepth 20000 in
theorem gX7_token_X7_isSmall : GoodIn wsX7_token (va_wsS RX7 100 yX7_isSmall wsX7_isSmall) := goodIn_app (goodIn_of _ (by decide +kernel)) ggX7_token_X7_isSmall
set_option maxRecDepth 20000 in
theorem ggX7_token_X7_isDigit : GoodIn wsX7_token wsX7_isDigit := goodIn_r _ [17] (by decide +kernel) (by decide +kernel)
set_option maxRecDepth 20000 in
theorem gX7_token_X7_isDigit : GoodIn wsX7_token (va_wsS RX7 104 yX7_isDigit wsX7_isDigit) := goodIn_app (goodIn_of _ (by decide +kernel)) ggX7_token_X7_isDigit
theorem dX7_token_0 : decode cX7_token 0 = .ok (.aload_n 0, 1) := by decide +kernel
theorem dX7_token_1 : decode cX7_token 1 = .ok (.aload_n 0, 1) := by decide +kernel
theorem dX7_token_2 : decode cX7_token 2 = .ok (.getfield 87, 3) := by decide +kernel
theorem dX7_token_5 : decode cX7_token 5 = .ok (.invokevirtual 90, 3) := by decide +kernel
theorem dX7_token_8 : decode cX7_token 8 = .ok (.bipush 32, 2) := by decide +kernel
theorem dX7_token_10 : decode cX7_token 10 = .ok (.if_icmp .ne 16, 3) := by decide +kernel
theorem dX7_token_13 : decode cX7_token 13 = .ok (.aload_n 0, 1) := by decide +kernel
theorem dX7_token_14 : decode cX7_token 14 = .ok (.dup, 1) := by decide +kernel
theorem dX7_token_15 : decode cX7_token 15 = .ok (.getfield 87, 3) := by decide +kernel
theorem dX7_token_18 : decode cX7_token 18 = .ok (.iconst 1, 1) := by decide +kernel
theorem dX7_token_19 : decode cX7_token 19 = .ok (.iadd, 1) := by decide +kernel
theorem dX7_token_20 : decode cX7_token 20 = .ok (.putfield 87, 3) := by decide +kernel
theorem dX7_token_23 : decode cX7_token 23 = .ok (.goto (-23), 3) := by decide +kernel
theorem dX7_token_26 : decode cX7_token 26 = .ok (.aload_n 0, 1) := by decide +kernel
theorem dX7_token_27 : decode cX7_token 27 = .ok (.aload_n 0, 1) := by decide +kernel
theorem dX7_token_28 : decode cX7_token 28 = .ok (.getfield 87, 3) := by decide +kernel
theorem dX7_token_31 : decode cX7_token 31 = .ok (.putfield 94, 3) := by decide +kernel
theorem dX7_token_34 : decode cX7_token 34 = .ok (.aload_n 0, 1) := by decide +kernel
theorem dX7_token_35 : decode cX7_token 35 = .ok (.aload_n 0, 1) := by decide +kernel
theorem dX7_token_36 : decode cX7_token 36 = .ok (.getfield 87, 3) := by decide +kernel
theorem dX7_token_39 : decode cX7_token 39 = .ok (.invokevirtual 90, 3) := by decide +kernel
theorem dX7_token_42 : decode cX7_token 42 = .ok (.istore_n 1, 1) := by decide +kernel
theorem dX7_token_43 : decode cX7_token 43 = .ok (.iload_n 1, 1) := by decide +kernel
theorem dX7_token_44 : decode cX7_token 44 = .ok (.iconst (-1), 1) := by decide +kernel
theorem dX7_token_45 : decode cX7_token 45 = .ok (.if_icmp .ne 11, 3) := by decide +kernel
theorem dX7_token_48 : decode cX7_token 48 = .ok (.aload_n 0, 1) := by decide +kernel
theorem dX7_token_49 : decode cX7_token 49 = .ok (.iconst 0, 1) := by decide +kernel
theorem dX7_token_50 : decode cX7_token 50 = .ok (.putfield 97, 3) := by decide +kernel
theorem dX7_token_53 : decode cX7_token 53 = .ok (.goto 192, 3) := by decide +kernel
theorem dX7_token_56 : decode cX7_token 56 = .ok (.iload_n 1, 1) := by decide +kernel
theorem dX7_token_57 : decode cX7_token 57 = .ok (.invokestatic 100, 3) := by decide +kernel
theorem dX7_token_60 : decode cX7_token 60 = .ok (.ifCond .eq 56, 3) := by decide +kernel
theorem dX7_token_63 : decode cX7_token 63 = .ok (.aload_n 0, 1) := by decide +kernel
theorem dX7_token_64 : decode cX7_token 64 = .ok (.aload_n 0, 1) := by decide +kernel
theorem dX7_token_65 : decode cX7_token 65 = .ok (.getfield 87, 3) := by decide +kernel
theorem dX7_token_68 : decode cX7_token 68 = .ok (.invokevirtual 90, 3) := by decide +kernel
theorem dX7_token_71 : decode cX7_token 71 = .ok (.invokestatic 100, 3) := by decide +kernel
theorem dX7_token_74 : decode cX7_token 74 = .ok (.ifCond .eq 16, 3) := by decide +kernel
theorem dX7_token_77 : decode cX7_token 77 = .ok (.aload_n 0, 1) := by decide +kernel
theorem dX7_token_78 : decode cX7_token 78 = .ok (.dup, 1) := by decide +kernel
theorem dX7_token_79 : decode cX7_token 79 = .ok (.getfield 87, 3) := by decide +kernel
theorem dX7_token_82 : decode cX7_token 82 = .ok (.iconst 1, 1) := by decide +kernel
theorem dX7_token_83 : decode cX7_token 83 = .ok (.iadd, 1) := by decide +kernel
theorem dX7_token_84 : decode cX7_token 84 = .ok (.putfield 87, 3) := by decide +kernel
theorem dX7_token_87 : decode cX7_token 87 = .ok (.goto (-24), 3) := by decide +kernel
theorem dX7_token_90 : decode cX7_token 90 = .ok (.aload_n 0, 1) := by decide +kernel
theorem dX7_token_91 : decode cX7_token 91 = .ok (.aload_n 0, 1) := by decide +kernel
theorem dX7_token_92 : decode cX7_token 92 = .ok (.getfield 87, 3) := by decide +kernel
theorem dX7_token_95 : decode cX7_token 95 = .ok (.aload_n 0, 1) := by decide +kernel
theorem dX7_token_96 : decode cX7_token 96 = .ok (.getfield 94, 3) := by decide +kernel
theorem dX7_token_99 : decode cX7_token 99 = .ok (.isub, 1) := by decide +kernel
theorem dX7_token_100 : decode cX7_token 100 = .ok (.bipush 6, 2) := by decide +kernel
theorem dX7_token_102 : decode cX7_token 102 = .ok (.if_icmp .le 7, 3) := by decide +kernel
theorem dX7_token_105 : decode cX7_token 105 = .ok (.iconst 4, 1) := by decide +kernel
theorem dX7_token_106 : decode cX7_token 106 = .ok (.goto 4, 3) := by decide +kernel
theorem dX7_token_109 : decode cX7_token 109 = .ok (.iconst 1, 1) := by decide +kernel
theorem dX7_token_110 : decode cX7_token 110 = .ok (.putfield 97, 3) := by decide +kernel
theorem dX7_token_113 : decode cX7_token 113 = .ok (.goto 132, 3) := by decide +kernel
theorem dX7_token_116 : decode cX7_token 116 = .ok (.iload_n 1, 1) := by decide +kernel
theorem dX7_token_117 : decode cX7_token 117 = .ok (.invokestatic 104, 3) := by decide +kernel
theorem dX7_token_120 : decode cX7_token 120 = .ok (.ifCond .eq 100, 3) := by decide +kernel
theorem dX7_token_123 : decode cX7_token 123 = .ok (.aload_n 0, 1) := by decide +kernel
theorem dX7_token_124 : decode cX7_token 124 = .ok (.iconst 0, 1) := by decide +kernel
theorem dX7_token_125 : decode cX7_token 125 = .ok (.putfield 107, 3) := by decide +kernel
theorem dX7_token_128 : decode cX7_token 128 = .ok (.aload_n 0, 1) := by decide +kernel
theorem dX7_token_129 : decode cX7_token 129 = .ok (.aload_n 0, 1) := by decide +kernel
theorem dX7_token_130 : decode cX7_token 130 = .ok (.getfield 87, 3) := by decide +kernel
theorem dX7_token_133 : decode cX7_token 133 = .ok (.invokevirtual 90, 3) := by decide +kernel
theorem dX7_token_136 : decode cX7_token 136 = .ok (.invokestatic 104, 3) := by decide +kernel
theorem dX7_token_139 : decode cX7_token 139 = .ok (.ifCond .eq 56, 3) := by decide +kernel
theorem dX7_token_142 : decode cX7_token 142 = .ok (.aload_n 0, 1) := by decide +kernel
theorem dX7_token_143 : decode cX7_token 143 = .ok (.aload_n 0, 1) := by decide +kernel
theorem dX7_token_144 : decode cX7_token 144 = .ok (.getfield 87, 3) := by decide +kernel
theorem dX7_token_147 : decode cX7_token 147 = .ok (.aload_n 0, 1) := by decide +kernel
theorem dX7_token_148 : decode cX7_token 148 = .ok (.getfield 94, 3) := by decide +kernel
theorem dX7_token_151 : decode cX7_token 151 = .ok (.isub, 1) := by decide +kernel
theorem dX7_token_152 : decode cX7_token 152 = .ok (.iconst 3, 1) := by decide +kernel
theorem dX7_token_153 : decode cX7_token 153 = .ok (.if_icmp .ge 25, 3) := by decide +kernel
theorem dX7_token_156 : decode cX7_token 156 = .ok (.bipush 10, 2) := by decide +kernel
theorem dX7_token_158 : decode cX7_token 158 = .ok (.aload_n 0, 1) := by decide +kernel
theorem dX7_token_159 : decode cX7_token 159 = .ok (.getfield 107, 3) := by decide +kernel
theorem dX7_token_162 : decode cX7_token 162 = .ok (.imul, 1) := by decide +kernel
theorem dX7_token_163 : decode cX7_token 163 = .ok (.aload_n 0, 1) := by decide +kernel
theorem dX7_token_164 : decode cX7_token 164 = .ok (.aload_n 0, 1) := by decide +kernel
theorem dX7_token_165 : decode cX7_token 165 = .ok (.getfield 87, 3) := by decide +kernel
theorem dX7_token_168 : decode cX7_token 168 = .ok (.invokevirtual 90, 3) := by decide +kernel
theorem dX7_token_171 : decode cX7_token 171 = .ok (.iadd, 1) := by decide +kernel
theorem dX7_token_172 : decode cX7_token 172 = .ok (.bipush 48, 2) := by decide +kernel
theorem dX7_token_174 : decode cX7_token 174 = .ok (.isub, 1) := by decide +kernel
theorem dX7_token_175 : decode cX7_token 175 = .ok (.goto 4, 3) := by decide +kernel
theorem dX7_token_178 : decode cX7_token 178 = .ok (.iconst 0, 1) := by decide +kernel
theorem dX7_token_179 : decode cX7_token 179 = .ok (.putfield 107, 3) := by decide +kernel
theorem dX7_token_182 : decode cX7_token 182 = .ok (.aload_n 0, 1) := by decide +kernel
theorem dX7_token_183 : decode cX7_token 183 = .ok (.dup, 1) := by decide +kernel
theorem dX7_token_184 : decode cX7_token 184 = .ok (.getfield 87, 3) := by decide +kernel
theorem dX7_token_187 : decode cX7_token 187 = .ok (.iconst 1, 1) := by decide +kernel
theorem dX7_token_188 : decode cX7_token 188 = .ok (.iadd, 1) := by decide +kernel
theorem dX7_token_189 : decode cX7_token 189 = .ok (.putfield 87, 3) := by decide +kernel
theorem dX7_token_192 : decode cX7_token 192 = .ok (.goto (-64), 3) := by decide +kernel
theorem dX7_token_195 : decode cX7_token 195 = .ok (.aload_n 0, 1) := by decide +kernel
theorem dX7_token_196 : decode cX7_token 196 = .ok (.aload_n 0, 1) := by decide +kernel
theorem dX7_token_197 : decode cX7_token 197 = .ok (.getfield 87, 3) := by decide +kernel
theorem dX7_token_200 : decode cX7_token 200 = .ok (.aload_n 0, 1) := by decide +kernel
theorem dX7_token_201 : decode cX7_token 201 = .ok (.getfield 94, 3) := by decide +kernel
theorem dX7_token_204 : decode cX7_token 204 = .ok (.isub, 1) := by decide +kernel
theorem dX7_token_205 : decode cX7_token 205 = .ok (.iconst 3, 1) := by decide +kernel
theorem dX7_token_206 : decode cX7_token 206 = .ok (.if_icmp .le 7, 3) := by decide +kernel
theorem dX7_token_209 : decode cX7_token 209 = .ok (.iconst 4, 1) := by decide +kernel
theorem dX7_token_210 : decode cX7_token 210 = .ok (.goto 4, 3) := by decide +kernel
theorem dX7_token_213 : decode cX7_token 213 = .ok (.iconst 2, 1) := by decide +kernel
theorem dX7_token_214 : decode cX7_token 214 = .ok (.putfield 97, 3) := by decide +kernel
theorem dX7_token_217 : decode cX7_token 217 = .ok (.goto 28, 3) := by decide +kernel
theorem dX7_token_220 : decode cX7_token 220 = .ok (.aload_n 0, 1) := by decide +kernel
theorem dX7_token_221 : decode cX7_token 221 = .ok (.iload_n 1, 1) := by decide +kernel
theorem dX7_token_222 : decode cX7_token 222 = .ok (.bipush 59, 2) := by decide +kernel
theorem dX7_token_224 : decode cX7_token 224 = .ok (.if_icmp .ne 7, 3) := by decide +kernel
theorem dX7_token_227 : decode cX7_token 227 = .ok (.iconst 3, 1) := by decide +kernel
theorem dX7_token_228 : decode cX7_token 228 = .ok (.goto 4, 3) := by decide +kernel
theorem dX7_token_231 : decode cX7_token 231 = .ok (.iconst 4, 1) := by decide +kernel
theorem dX7_token_232 : decode cX7_token 232 = .ok (.putfield 97, 3) := by decide +kernel
theorem dX7_token_235 : decode cX7_token 235 = .ok (.aload_n 0, 1) := by decide +kernel
theorem dX7_token_236 : decode cX7_token 236 = .ok (.dup, 1) := by decide +kernel
theorem dX7_token_237 : decode cX7_token 237 = .ok (.getfield 87, 3) := by decide +kernel
theorem dX7_token_240 : decode cX7_token 240 = .ok (.iconst 1, 1) := by decide +kernel
theorem dX7_token_241 : decode cX7_token 241 = .ok (.iadd, 1) := by decide +kernel
theorem dX7_token_242 : decode cX7_token 242 = .ok (.putfield 87, 3) := by decide +kernel
theorem dX7_token_245 : decode cX7_token 245 = .ok (.return_, 1) := by decide +kernel
theorem dX7_fails_0 : decode cX7_fails 0 = .ok (.aload_n 0, 1) := by decide +kernel
theorem dX7_fails_1 : decode cX7_fails 1 = .ok (.getfield 110, 3) := by decide +kernel
theorem dX7_fails_4 : decode cX7_fails 4 = .ok (.ifCond .ne 16, 3) := by decide +kernel
theorem dX7_fails_7 : decode cX7_fails 7 = .ok (.aload_n 0, 1) := by decide +kernel
theorem dX7_fails_8 : decode cX7_fails 8 = .ok (.iload_n 1, 1) := by decide +kernel
theorem dX7_fails_9 : decode cX7_fails 9 = .ok (.putfield 110, 3) := by decide +kernel
theorem dX7_fails_12 : decode cX7_fails 12 = .ok (.aload_n 0, 1) := by decide +kernel
theorem dX7_fails_13 : decode cX7_fails 13 = .ok (.aload_n 0, 1) := by decide +kernel
theorem dX7_fails_14 : decode cX7_fails 14 = .ok (.getfield 94, 3) := by decide +kernel
theorem dX7_fails_17 : decode cX7_fails 17 = .ok (.putfield 113, 3) := by decide +kernel
theorem dX7_fails_20 : decode cX7_fails 20 = .ok (.return_, 1) := by decide +kernel
set_option maxRecDepth 20000 in
theorem ggX7_failsIf_X7_fails : GoodIn wsX7_failsIf wsX7_fails := goodIn_r _ [5, 6, 7, 8, 9, 10, 11, 12, 13, 14, 15, 16, 17, 18, 19, 20, 21, 22, 23, 24, 25, 26, 27, 28, 29, 30, 31, 32, 33, 34, 35, 36, 37, 38, 39, 40, 41, 42, 43, 44, 45, 46, 47, 48, 49] (by decide +kernel) (by decide +kernel)
set_option maxRecDepth 20000 in
theorem gX7_failsIf_X7_fails : GoodIn wsX7_failsIf (wsV RX7 116 RX7 yX7_fails wsX7_fails) := goodIn_app (goodIn_of _ (by decide +kernel)) ggX7_failsIf_X7_fails
theorem dX7_failsIf_0 : decode cX7_failsIf 0 = .ok (.iload_n 1, 1) := by decide +kernel
theorem dX7_failsIf_1 : decode cX7_failsIf 1 = .ok (.ifCond .eq 8, 3) := by decide +kernel
theorem dX7_failsIf_4 : decode cX7_failsIf 4 = .ok (.aload_n 0, 1) := by decide +kernel
theorem dX7_failsIf_5 : decode cX7_failsIf 5 = .ok (.iload_n 2, 1) := by decide +kernel
theorem dX7_failsIf_6 : decode cX7_failsIf 6 = .ok (.invokevirtual 116, 3) := by decide +kernel
theorem dX7_failsIf_9 : decode cX7_failsIf 9 = .ok (.return_, 1) := by decide +kernel
set_option maxRecDepth 20000 in
theorem ggX7_goesOn_X7_token : GoodIn wsX7_goesOn wsX7_token := goodIn_ca (goodIn_r _ [6, 7, 8, 9, 10, 11, 12, 13, 5, 14, 15, 16, 17, 18, 19, 20, 21, 22, 23, 24, 25, 26, 27, 28, 29, 30, 31, 32, 33, 34, 35, 36, 37, 38, 39, 40, 41, 42, 43, 44, 45, 46, 47, 48, 49, 50, 51, 52, 53, 54, 55, 56, 57, 58, 59, 60, 61, 62, 63] (by decide +kernel) (by decide +kernel)) (goodIn_sub (fun _ h => List.mem_cons_of_mem _ (List.mem_append_right _ h)) (by decide +kernel))
set_option maxRecDepth 20000 in
theorem gX7_goesOn_X7_token : GoodIn wsX7_goesOn (wsV RX7 120 RX7 yX7_token wsX7_token) := goodIn_app (goodIn_of _ (by decide +kernel)) ggX7_goesOn_X7_token
theorem dX7_goesOn_0 : decode cX7_goesOn 0 = .ok (.aload_n 0, 1) := by decide +kernel
theorem dX7_goesOn_1 : decode cX7_goesOn 1 = .ok (.getfield 110, 3) := by decide +kernel
theorem dX7_goesOn_4 : decode cX7_goesOn 4 = .ok (.ifCond .ne 7, 3) := by decide +kernel
theorem dX7_goesOn_7 : decode cX7_goesOn 7 = .ok (.aload_n 0, 1) := by decide +kernel
theorem dX7_goesOn_8 : decode cX7_goesOn 8 = .ok (.invokevirtual 120, 3) := by decide +kernel
theorem dX7_goesOn_11 : decode cX7_goesOn 11 = .ok (.return_, 1) := by decide +kernel
set_option maxRecDepth 20000 in
theorem ggX7_isWord_J0_length_8abf5 : GoodIn wsX7_isWord wsJ0_length_8abf5 := goodIn_r _ [9, 10, 11, 12, 13, 8, 14, 15, 16, 102, 103, 104, 105] (by decide +kernel) (by decide +kernel)
set_option maxRecDepth 20000 in
theorem gX7_isWord_J0_length_8abf5 : GoodIn wsX7_isWord (wsV RX7 123 RJ0 yJ0_length_8abf5 wsJ0_length_8abf5) := goodIn_app (goodIn_of _ (by decide +kernel)) ggX7_isWord_J0_length_8abf5
set_option maxRecDepth 20000 in
theorem ggX7_isWord_X7_seen : GoodIn wsX7_isWord wsX7_seen := goodIn_ca (goodIn_r _ [21, 22, 23, 61, 62, 63, 64, 65, 66, 67, 68, 69, 70, 71, 72, 73, 74, 75, 76, 77, 78, 79, 80, 81, 82, 83, 84, 85, 86, 87, 88, 89, 90, 91, 92, 93, 94, 95, 96, 97, 98, 99, 100, 101] (by decide +kernel) (by decide +kernel)) (goodIn_sub (fun _ h => List.mem_cons_of_mem _ (List.mem_append_right _ h)) (by decide +kernel))
set_option maxRecDepth 20000 in
theorem gX7_isWord_X7_seen : GoodIn wsX7_isWord (wsV RX7 90 RX7 yX7_seen wsX7_seen) := goodIn_app (goodIn_of _ (by decide +kernel)) ggX7_isWord_X7_seen
set_option maxRecDepth 20000 in
theorem ggX7_isWord_J0_charAt_5068e : GoodIn wsX7_isWord wsJ0_charAt_5068e := goodIn_r _ [27, 10, 28, 29, 30, 8, 31, 15, 16, 32, 33, 34, 35, 36, 37, 38, 39, 40, 41, 42, 43, 44, 45, 46, 47, 48, 49, 50, 51, 52, 53, 54, 55, 56, 57, 58, 59, 60, 102, 103, 104, 105] (by decide +kernel) (by decide +kernel)
set_option maxRecDepth 20000 in
theorem gX7_isWord_J0_charAt_5068e : GoodIn wsX7_isWord (wsV RX7 128 RJ0 yJ0_charAt_5068e wsJ0_charAt_5068e) := goodIn_app (goodIn_of _ (by decide +kernel)) ggX7_isWord_J0_charAt_5068e
theorem dX7_isWord_0 : decode cX7_isWord 0 = .ok (.aload_n 0, 1) := by decide +kernel
theorem dX7_isWord_1 : decode cX7_isWord 1 = .ok (.getfield 110, 3) := by decide +kernel
theorem dX7_isWord_4 : decode cX7_isWord 4 = .ok (.ifCond .ne 27, 3) := by decide +kernel
theorem dX7_isWord_7 : decode cX7_isWord 7 = .ok (.aload_n 0, 1) := by decide +kernel
theorem dX7_isWord_8 : decode cX7_isWord 8 = .ok (.getfield 97, 3) := by decide +kernel
theorem dX7_isWord_11 : decode cX7_isWord 11 = .ok (.iconst 1, 1) := by decide +kernel
theorem dX7_isWord_12 : decode cX7_isWord 12 = .ok (.if_icmp .ne 19, 3) := by decide +kernel
theorem dX7_isWord_15 : decode cX7_isWord 15 = .ok (.aload_n 0, 1) := by decide +kernel
theorem dX7_isWord_16 : decode cX7_isWord 16 = .ok (.getfield 87, 3) := by decide +kernel
theorem dX7_isWord_19 : decode cX7_isWord 19 = .ok (.aload_n 0, 1) := by decide +kernel
theorem dX7_isWord_20 : decode cX7_isWord 20 = .ok (.getfield 94, 3) := by decide +kernel
theorem dX7_isWord_23 : decode cX7_isWord 23 = .ok (.isub, 1) := by decide +kernel
theorem dX7_isWord_24 : decode cX7_isWord 24 = .ok (.aload_n 1, 1) := by decide +kernel
theorem dX7_isWord_25 : decode cX7_isWord 25 = .ok (.invokevirtual 123, 3) := by decide +kernel
theorem dX7_isWord_28 : decode cX7_isWord 28 = .ok (.if_icmp .eq 5, 3) := by decide +kernel
theorem dX7_isWord_31 : decode cX7_isWord 31 = .ok (.iconst 0, 1) := by decide +kernel
theorem dX7_isWord_32 : decode cX7_isWord 32 = .ok (.ireturn, 1) := by decide +kernel
theorem dX7_isWord_33 : decode cX7_isWord 33 = .ok (.iconst 0, 1) := by decide +kernel
theorem dX7_isWord_34 : decode cX7_isWord 34 = .ok (.istore_n 2, 1) := by decide +kernel
theorem dX7_isWord_35 : decode cX7_isWord 35 = .ok (.iload_n 2, 1) := by decide +kernel
theorem dX7_isWord_36 : decode cX7_isWord 36 = .ok (.aload_n 1, 1) := by decide +kernel
theorem dX7_isWord_37 : decode cX7_isWord 37 = .ok (.invokevirtual 123, 3) := by decide +kernel
theorem dX7_isWord_40 : decode cX7_isWord 40 = .ok (.if_icmp .ge 29, 3) := by decide +kernel
theorem dX7_isWord_43 : decode cX7_isWord 43 = .ok (.aload_n 0, 1) := by decide +kernel
theorem dX7_isWord_44 : decode cX7_isWord 44 = .ok (.aload_n 0, 1) := by decide +kernel
theorem dX7_isWord_45 : decode cX7_isWord 45 = .ok (.getfield 94, 3) := by decide +kernel
theorem dX7_isWord_48 : decode cX7_isWord 48 = .ok (.iload_n 2, 1) := by decide +kernel
theorem dX7_isWord_49 : decode cX7_isWord 49 = .ok (.iadd, 1) := by decide +kernel
theorem dX7_isWord_50 : decode cX7_isWord 50 = .ok (.invokevirtual 90, 3) := by decide +kernel
theorem dX7_isWord_53 : decode cX7_isWord 53 = .ok (.aload_n 1, 1) := by decide +kernel
theorem dX7_isWord_54 : decode cX7_isWord 54 = .ok (.iload_n 2, 1) := by decide +kernel
theorem dX7_isWord_55 : decode cX7_isWord 55 = .ok (.invokevirtual 128, 3) := by decide +kernel
theorem dX7_isWord_58 : decode cX7_isWord 58 = .ok (.if_icmp .eq 5, 3) := by decide +kernel
theorem dX7_isWord_61 : decode cX7_isWord 61 = .ok (.iconst 0, 1) := by decide +kernel
theorem dX7_isWord_62 : decode cX7_isWord 62 = .ok (.ireturn, 1) := by decide +kernel
theorem dX7_isWord_63 : decode cX7_isWord 63 = .ok (.iinc 2 1, 3) := by decide +kernel
theorem dX7_isWord_66 : decode cX7_isWord 66 = .ok (.goto (-31), 3) := by decide +kernel
theorem dX7_isWord_69 : decode cX7_isWord 69 = .ok (.iconst 1, 1) := by decide +kernel
theorem dX7_isWord_70 : decode cX7_isWord 70 = .ok (.ireturn, 1) := by decide +kernel
set_option maxRecDepth 20000 in
theorem ggX7_word_X7_isWord : GoodIn wsX7_word wsX7_isWord := goodIn_ca (goodIn_r _ [5, 6, 7, 8, 9, 10, 11, 12, 13, 14, 15, 16, 17, 18, 19, 20, 21, 22, 23, 24, 4, 25, 26, 27, 28, 29, 30, 31, 32, 33, 34, 35, 36, 37, 38, 39, 40, 41, 42, 43, 44, 45, 46, 47, 48, 49, 50, 51, 52, 53, 54, 55, 56, 57, 58, 59, 60, 61, 62, 63, 64, 89, 90, 91, 92, 93, 94, 95, 96, 97, 98, 99, 100, 101, 102, 103, 104, 105, 106, 107, 108, 109, 110, 111, 112, 113, 114, 115, 116, 117, 118, 119, 120, 121, 122, 123, 124, 125, 126, 127, 128, 129, 130, 131, 132, 133] (by decide +kernel) (by decide +kernel)) (goodIn_sub (fun _ h => List.mem_cons_of_mem _ (List.mem_append_right _ h)) (by decide +kernel))
set_option maxRecDepth 20000 in
theorem gX7_word_X7_isWord : GoodIn wsX7_word (wsV RX7 132 RX7 yX7_isWord wsX7_isWord) := goodIn_app (goodIn_of _ (by decide +kernel)) ggX7_word_X7_isWord
set_option maxRecDepth 20000 in
theorem ggX7_word_X7_failsIf : GoodIn wsX7_word wsX7_failsIf := goodIn_r _ [68, 69, 70, 71, 4, 72, 6, 9, 73, 89, 90, 91, 92, 93, 94, 95, 96, 97, 98, 99, 100, 101, 102, 103, 104, 105, 106, 107, 108, 109, 110, 111, 112, 113, 114, 115, 116, 117, 118, 119, 120, 121, 122, 123, 124, 125, 126, 127, 128, 129] (by decide +kernel) (by decide +kernel)
set_option maxRecDepth 20000 in
theorem gX7_word_X7_failsIf : GoodIn wsX7_word (wsV RX7 136 RX7 yX7_failsIf wsX7_failsIf) := goodIn_app (goodIn_of _ (by decide +kernel)) ggX7_word_X7_failsIf
set_option maxRecDepth 20000 in
theorem ggX7_word_X7_goesOn : GoodIn wsX7_word wsX7_goesOn := goodIn_ca (goodIn_r _ [77, 6, 78, 79, 80, 4, 81, 8, 9, 7, 82, 22, 23, 24, 25, 26, 27, 83, 84, 85, 86, 87, 88, 89, 90, 91, 92, 93, 94, 95, 96, 97, 98, 99, 100, 101, 102, 103, 104, 105, 106, 107, 108, 109, 110, 111, 112, 113, 114, 115, 116, 117, 118, 119, 120, 121, 122, 123, 124, 125, 126, 127, 128, 129] (by decide +kernel) (by decide +kernel)) (goodIn_sub (fun _ h => List.mem_cons_of_mem _ (List.mem_append_right _ h)) (by decide +kernel))
set_option maxRecDepth 20000 in
theorem gX7_word_X7_goesOn : GoodIn wsX7_word (wsV RX7 140 RX7 yX7_goesOn wsX7_goesOn) := goodIn_app (goodIn_of _ (by decide +kernel)) ggX7_word_X7_goesOn
theorem dX7_word_0 : decode cX7_word 0 = .ok (.aload_n 0, 1) := by decide +kernel
theorem dX7_word_1 : decode cX7_word 1 = .ok (.aload_n 0, 1) := by decide +kernel
theorem dX7_word_2 : decode cX7_word 2 = .ok (.aload_n 1, 1) := by decide +kernel
theorem dX7_word_3 : decode cX7_word 3 = .ok (.invokevirtual 132, 3) := by decide +kernel
theorem dX7_word_6 : decode cX7_word 6 = .ok (.ifCond .ne 7, 3) := by decide +kernel
theorem dX7_word_9 : decode cX7_word 9 = .ok (.iconst 1, 1) := by decide +kernel
theorem dX7_word_10 : decode cX7_word 10 = .ok (.goto 4, 3) := by decide +kernel
theorem dX7_word_13 : decode cX7_word 13 = .ok (.iconst 0, 1) := by decide +kernel
theorem dX7_word_14 : decode cX7_word 14 = .ok (.iconst 1, 1) := by decide +kernel
theorem dX7_word_15 : decode cX7_word 15 = .ok (.invokevirtual 136, 3) := by decide +kernel
theorem dX7_word_18 : decode cX7_word 18 = .ok (.aload_n 0, 1) := by decide +kernel
theorem dX7_word_19 : decode cX7_word 19 = .ok (.invokevirtual 140, 3) := by decide +kernel
theorem dX7_word_22 : decode cX7_word 22 = .ok (.return_, 1) := by decide +kernel
set_option maxRecDepth 20000 in
theorem ggX7_looks_X7_fails : GoodIn wsX7_looks wsX7_fails := goodIn_r _ [8, 3, 9, 10, 14, 15, 16, 17, 18, 19, 20, 21, 22, 23, 24, 25, 26, 27, 28, 29, 30, 31, 32, 33, 34, 35, 36, 37, 38, 39, 40, 41, 42, 43, 44, 45, 46, 47, 48, 49, 50, 51, 52, 53, 54] (by decide +kernel) (by decide +kernel)
set_option maxRecDepth 20000 in
theorem gX7_looks_X7_fails : GoodIn wsX7_looks (wsV RX7 116 RX7 yX7_fails wsX7_fails) := goodIn_app (goodIn_of _ (by decide +kernel)) ggX7_looks_X7_fails
set_option maxRecDepth 20000 in
theorem ggX7_looks_X7_in : GoodIn wsX7_looks wsX7_in := goodIn_r _ [13] (by decide +kernel) (by decide +kernel)
set_option maxRecDepth 20000 in
theorem gX7_looks_X7_in : GoodIn wsX7_looks (va_wsS RX7 143 yX7_in wsX7_in) := goodIn_app (goodIn_of _ (by decide +kernel)) ggX7_looks_X7_in
theorem dX7_looks_0 : decode cX7_looks 0 = .ok (.aload_n 0, 1) := by decide +kernel
theorem dX7_looks_1 : decode cX7_looks 1 = .ok (.getfield 97, 3) := by decide +kernel
theorem dX7_looks_4 : decode cX7_looks 4 = .ok (.iconst 2, 1) := by decide +kernel
theorem dX7_looks_5 : decode cX7_looks 5 = .ok (.if_icmp .eq 11, 3) := by decide +kernel
theorem dX7_looks_8 : decode cX7_looks 8 = .ok (.aload_n 0, 1) := by decide +kernel
theorem dX7_looks_9 : decode cX7_looks 9 = .ok (.iconst 1, 1) := by decide +kernel
theorem dX7_looks_10 : decode cX7_looks 10 = .ok (.invokevirtual 116, 3) := by decide +kernel
theorem dX7_looks_13 : decode cX7_looks 13 = .ok (.goto 20, 3) := by decide +kernel
theorem dX7_looks_16 : decode cX7_looks 16 = .ok (.aload_n 0, 1) := by decide +kernel
theorem dX7_looks_17 : decode cX7_looks 17 = .ok (.getfield 107, 3) := by decide +kernel
theorem dX7_looks_20 : decode cX7_looks 20 = .ok (.iload_n 1, 1) := by decide +kernel
theorem dX7_looks_21 : decode cX7_looks 21 = .ok (.iload_n 2, 1) := by decide +kernel
theorem dX7_looks_22 : decode cX7_looks 22 = .ok (.invokestatic 143, 3) := by decide +kernel
theorem dX7_looks_25 : decode cX7_looks 25 = .ok (.ifCond .ne 8, 3) := by decide +kernel
theorem dX7_looks_28 : decode cX7_looks 28 = .ok (.aload_n 0, 1) := by decide +kernel
theorem dX7_looks_29 : decode cX7_looks 29 = .ok (.iconst 2, 1) := by decide +kernel
theorem dX7_looks_30 : decode cX7_looks 30 = .ok (.invokevirtual 116, 3) := by decide +kernel
theorem dX7_looks_33 : decode cX7_looks 33 = .ok (.aload_n 0, 1) := by decide +kernel
theorem dX7_looks_34 : decode cX7_looks 34 = .ok (.getfield 110, 3) := by decide +kernel
theorem dX7_looks_37 : decode cX7_looks 37 = .ok (.ifCond .eq 7, 3) := by decide +kernel
theorem dX7_looks_40 : decode cX7_looks 40 = .ok (.iload_n 1, 1) := by decide +kernel
theorem dX7_looks_41 : decode cX7_looks 41 = .ok (.goto 7, 3) := by decide +kernel
theorem dX7_looks_44 : decode cX7_looks 44 = .ok (.aload_n 0, 1) := by decide +kernel
theorem dX7_looks_45 : decode cX7_looks 45 = .ok (.getfield 107, 3) := by decide +kernel
theorem dX7_looks_48 : decode cX7_looks 48 = .ok (.ireturn, 1) := by decide +kernel
set_option maxRecDepth 20000 in
theorem ggX7_takes_X7_looks : GoodIn wsX7_takes wsX7_looks := goodIn_r _ [5, 6, 7, 8, 9, 10, 11, 4, 12, 13, 14, 15, 16, 17, 39, 40, 41, 42, 43, 44, 45, 46, 47, 48, 49, 50, 51, 52, 53, 54, 55, 56, 57, 58, 59, 60, 61, 62, 63, 64, 65, 66, 67, 68, 69, 70, 71, 72, 73, 74, 75, 76, 77, 78, 79] (by decide +kernel) (by decide +kernel)
set_option maxRecDepth 20000 in
theorem gX7_takes_X7_looks : GoodIn wsX7_takes (wsV RX7 147 RX7 yX7_looks wsX7_looks) := goodIn_app (goodIn_of _ (by decide +kernel)) ggX7_takes_X7_looks
set_option maxRecDepth 20000 in
theorem ggX7_takes_X7_goesOn : GoodIn wsX7_takes wsX7_goesOn := goodIn_ca (goodIn_r _ [21, 8, 22, 23, 24, 4, 25, 26, 13, 6, 7, 27, 28, 29, 30, 31, 32, 33, 34, 35, 36, 37, 38, 39, 40, 41, 42, 43, 44, 45, 46, 47, 48, 49, 50, 51, 52, 53, 54, 55, 56, 57, 58, 59, 60, 61, 62, 63, 64, 65, 66, 67, 68, 69, 70, 71, 72, 73, 74, 75, 76, 77, 78, 79] (by decide +kernel) (by decide +kernel)) (goodIn_sub (fun _ h => List.mem_cons_of_mem _ (List.mem_append_right _ h)) (by decide +kernel))
set_option maxRecDepth 20000 in
theorem gX7_takes_X7_goesOn : GoodIn wsX7_takes (wsV RX7 140 RX7 yX7_goesOn wsX7_goesOn) := goodIn_app (goodIn_of _ (by decide +kernel)) ggX7_takes_X7_goesOn
theorem dX7_takes_0 : decode cX7_takes 0 = .ok (.aload_n 0, 1) := by decide +kernel
theorem dX7_takes_1 : decode cX7_takes 1 = .ok (.iload_n 1, 1) := by decide +kernel
theorem dX7_takes_2 : decode cX7_takes 2 = .ok (.iload_n 2, 1) := by decide +kernel
theorem dX7_takes_3 : decode cX7_takes 3 = .ok (.invokevirtual 147, 3) := by decide +kernel
theorem dX7_takes_6 : decode cX7_takes 6 = .ok (.istore_n 3, 1) := by decide +kernel
theorem dX7_takes_7 : decode cX7_takes 7 = .ok (.aload_n 0, 1) := by decide +kernel
theorem dX7_takes_8 : decode cX7_takes 8 = .ok (.invokevirtual 140, 3) := by decide +kernel
theorem dX7_takes_11 : decode cX7_takes 11 = .ok (.iload_n 3, 1) := by decide +kernel
theorem dX7_takes_12 : decode cX7_takes 12 = .ok (.ireturn, 1) := by decide +kernel
theorem dX7_holds_0 : decode cX7_holds 0 = .ok (.iconst 0, 1) := by decide +kernel
theorem dX7_holds_1 : decode cX7_holds 1 = .ok (.istore_n 1, 1) := by decide +kernel
theorem dX7_holds_2 : decode cX7_holds 2 = .ok (.iload_n 1, 1) := by decide +kernel
theorem dX7_holds_3 : decode cX7_holds 3 = .ok (.sipush 4112, 3) := by decide +kernel
theorem dX7_holds_6 : decode cX7_holds 6 = .ok (.if_icmp .ge 21, 3) := by decide +kernel
theorem dX7_holds_9 : decode cX7_holds 9 = .ok (.aload_n 0, 1) := by decide +kernel
theorem dX7_holds_10 : decode cX7_holds 10 = .ok (.getfield 37, 3) := by decide +kernel
theorem dX7_holds_13 : decode cX7_holds 13 = .ok (.iload_n 1, 1) := by decide +kernel
theorem dX7_holds_14 : decode cX7_holds 14 = .ok (.aload_n 0, 1) := by decide +kernel
theorem dX7_holds_15 : decode cX7_holds 15 = .ok (.getfield 17, 3) := by decide +kernel
theorem dX7_holds_18 : decode cX7_holds 18 = .ok (.iload_n 1, 1) := by decide +kernel
theorem dX7_holds_19 : decode cX7_holds 19 = .ok (.iaload, 1) := by decide +kernel
theorem dX7_holds_20 : decode cX7_holds 20 = .ok (.iastore, 1) := by decide +kernel
theorem dX7_holds_21 : decode cX7_holds 21 = .ok (.iinc 1 1, 3) := by decide +kernel
theorem dX7_holds_24 : decode cX7_holds 24 = .ok (.goto (-22), 3) := by decide +kernel
theorem dX7_holds_27 : decode cX7_holds 27 = .ok (.iconst 0, 1) := by decide +kernel
theorem dX7_holds_28 : decode cX7_holds 28 = .ok (.istore_n 1, 1) := by decide +kernel
theorem dX7_holds_29 : decode cX7_holds 29 = .ok (.iload_n 1, 1) := by decide +kernel
theorem dX7_holds_30 : decode cX7_holds 30 = .ok (.bipush 10, 2) := by decide +kernel
theorem dX7_holds_32 : decode cX7_holds 32 = .ok (.if_icmp .ge 33, 3) := by decide +kernel
theorem dX7_holds_35 : decode cX7_holds 35 = .ok (.aload_n 0, 1) := by decide +kernel
theorem dX7_holds_36 : decode cX7_holds 36 = .ok (.getfield 43, 3) := by decide +kernel
theorem dX7_holds_39 : decode cX7_holds 39 = .ok (.iload_n 1, 1) := by decide +kernel
theorem dX7_holds_40 : decode cX7_holds 40 = .ok (.aload_n 0, 1) := by decide +kernel
theorem dX7_holds_41 : decode cX7_holds 41 = .ok (.getfield 13, 3) := by decide +kernel
theorem dX7_holds_44 : decode cX7_holds 44 = .ok (.iload_n 1, 1) := by decide +kernel
theorem dX7_holds_45 : decode cX7_holds 45 = .ok (.iaload, 1) := by decide +kernel
theorem dX7_holds_46 : decode cX7_holds 46 = .ok (.iastore, 1) := by decide +kernel
theorem dX7_holds_47 : decode cX7_holds 47 = .ok (.aload_n 0, 1) := by decide +kernel
theorem dX7_holds_48 : decode cX7_holds 48 = .ok (.getfield 46, 3) := by decide +kernel
theorem dX7_holds_51 : decode cX7_holds 51 = .ok (.iload_n 1, 1) := by decide +kernel
theorem dX7_holds_52 : decode cX7_holds 52 = .ok (.aload_n 0, 1) := by decide +kernel
theorem dX7_holds_53 : decode cX7_holds 53 = .ok (.getfield 7, 3) := by decide +kernel
theorem dX7_holds_56 : decode cX7_holds 56 = .ok (.iload_n 1, 1) := by decide +kernel
theorem dX7_holds_57 : decode cX7_holds 57 = .ok (.baload, 1) := by decide +kernel
theorem dX7_holds_58 : decode cX7_holds 58 = .ok (.bastore, 1) := by decide +kernel
theorem dX7_holds_59 : decode cX7_holds 59 = .ok (.iinc 1 1, 3) := by decide +kernel
theorem dX7_holds_62 : decode cX7_holds 62 = .ok (.goto (-33), 3) := by decide +kernel
theorem dX7_holds_65 : decode cX7_holds 65 = .ok (.aload_n 0, 1) := by decide +kernel
theorem dX7_holds_66 : decode cX7_holds 66 = .ok (.getfield 40, 3) := by decide +kernel
theorem dX7_holds_69 : decode cX7_holds 69 = .ok (.iconst 0, 1) := by decide +kernel
theorem dX7_holds_70 : decode cX7_holds 70 = .ok (.aload_n 0, 1) := by decide +kernel
theorem dX7_holds_71 : decode cX7_holds 71 = .ok (.getfield 151, 3) := by decide +kernel
theorem dX7_holds_74 : decode cX7_holds 74 = .ok (.iastore, 1) := by decide +kernel
theorem dX7_holds_75 : decode cX7_holds 75 = .ok (.aload_n 0, 1) := by decide +kernel
theorem dX7_holds_76 : decode cX7_holds 76 = .ok (.getfield 40, 3) := by decide +kernel
theorem dX7_holds_79 : decode cX7_holds 79 = .ok (.iconst 1, 1) := by decide +kernel
theorem dX7_holds_80 : decode cX7_holds 80 = .ok (.aload_n 0, 1) := by decide +kernel
theorem dX7_holds_81 : decode cX7_holds 81 = .ok (.getfield 154, 3) := by decide +kernel
theorem dX7_holds_84 : decode cX7_holds 84 = .ok (.iastore, 1) := by decide +kernel
theorem dX7_holds_85 : decode cX7_holds 85 = .ok (.aload_n 0, 1) := by decide +kernel
theorem dX7_holds_86 : decode cX7_holds 86 = .ok (.getfield 40, 3) := by decide +kernel
theorem dX7_holds_89 : decode cX7_holds 89 = .ok (.iconst 2, 1) := by decide +kernel
theorem dX7_holds_90 : decode cX7_holds 90 = .ok (.aload_n 0, 1) := by decide +kernel
theorem dX7_holds_91 : decode cX7_holds 91 = .ok (.getfield 157, 3) := by decide +kernel
theorem dX7_holds_94 : decode cX7_holds 94 = .ok (.iastore, 1) := by decide +kernel
theorem dX7_holds_95 : decode cX7_holds 95 = .ok (.aload_n 0, 1) := by decide +kernel
theorem dX7_holds_96 : decode cX7_holds 96 = .ok (.getfield 40, 3) := by decide +kernel
theorem dX7_holds_99 : decode cX7_holds 99 = .ok (.iconst 3, 1) := by decide +kernel
theorem dX7_holds_100 : decode cX7_holds 100 = .ok (.aload_n 0, 1) := by decide +kernel
theorem dX7_holds_101 : decode cX7_holds 101 = .ok (.getfield 160, 3) := by decide +kernel
theorem dX7_holds_104 : decode cX7_holds 104 = .ok (.iastore, 1) := by decide +kernel
theorem dX7_holds_105 : decode cX7_holds 105 = .ok (.aload_n 0, 1) := by decide +kernel
theorem dX7_holds_106 : decode cX7_holds 106 = .ok (.getfield 40, 3) := by decide +kernel
theorem dX7_holds_109 : decode cX7_holds 109 = .ok (.iconst 4, 1) := by decide +kernel
theorem dX7_holds_110 : decode cX7_holds 110 = .ok (.aload_n 0, 1) := by decide +kernel
theorem dX7_holds_111 : decode cX7_holds 111 = .ok (.getfield 163, 3) := by decide +kernel
theorem dX7_holds_114 : decode cX7_holds 114 = .ok (.iastore, 1) := by decide +kernel
theorem dX7_holds_115 : decode cX7_holds 115 = .ok (.aload_n 0, 1) := by decide +kernel
theorem dX7_holds_116 : decode cX7_holds 116 = .ok (.getfield 40, 3) := by decide +kernel
theorem dX7_holds_119 : decode cX7_holds 119 = .ok (.iconst 5, 1) := by decide +kernel
theorem dX7_holds_120 : decode cX7_holds 120 = .ok (.aload_n 0, 1) := by decide +kernel
theorem dX7_holds_121 : decode cX7_holds 121 = .ok (.getfield 166, 3) := by decide +kernel
theorem dX7_holds_124 : decode cX7_holds 124 = .ok (.iastore, 1) := by decide +kernel
theorem dX7_holds_125 : decode cX7_holds 125 = .ok (.aload_n 0, 1) := by decide +kernel
theorem dX7_holds_126 : decode cX7_holds 126 = .ok (.getfield 40, 3) := by decide +kernel
theorem dX7_holds_129 : decode cX7_holds 129 = .ok (.bipush 6, 2) := by decide +kernel
theorem dX7_holds_131 : decode cX7_holds 131 = .ok (.aload_n 0, 1) := by decide +kernel
theorem dX7_holds_132 : decode cX7_holds 132 = .ok (.getfield 169, 3) := by decide +kernel
theorem dX7_holds_135 : decode cX7_holds 135 = .ok (.iastore, 1) := by decide +kernel
theorem dX7_holds_136 : decode cX7_holds 136 = .ok (.aload_n 0, 1) := by decide +kernel
theorem dX7_holds_137 : decode cX7_holds 137 = .ok (.getfield 40, 3) := by decide +kernel
theorem dX7_holds_140 : decode cX7_holds 140 = .ok (.bipush 7, 2) := by decide +kernel
theorem dX7_holds_142 : decode cX7_holds 142 = .ok (.aload_n 0, 1) := by decide +kernel
theorem dX7_holds_143 : decode cX7_holds 143 = .ok (.getfield 172, 3) := by decide +kernel
theorem dX7_holds_146 : decode cX7_holds 146 = .ok (.iastore, 1) := by decide +kernel
theorem dX7_holds_147 : decode cX7_holds 147 = .ok (.return_, 1) := by decide +kernel
theorem dX7_laysBack_0 : decode cX7_laysBack 0 = .ok (.iconst 0, 1) := by decide +kernel
theorem dX7_laysBack_1 : decode cX7_laysBack 1 = .ok (.istore_n 1, 1) := by decide +kernel
theorem dX7_laysBack_2 : decode cX7_laysBack 2 = .ok (.iload_n 1, 1) := by decide +kernel
theorem dX7_laysBack_3 : decode cX7_laysBack 3 = .ok (.sipush 4112, 3) := by decide +kernel
theorem dX7_laysBack_6 : decode cX7_laysBack 6 = .ok (.if_icmp .ge 21, 3) := by decide +kernel
theorem dX7_laysBack_9 : decode cX7_laysBack 9 = .ok (.aload_n 0, 1) := by decide +kernel
theorem dX7_laysBack_10 : decode cX7_laysBack 10 = .ok (.getfield 17, 3) := by decide +kernel
theorem dX7_laysBack_13 : decode cX7_laysBack 13 = .ok (.iload_n 1, 1) := by decide +kernel
theorem dX7_laysBack_14 : decode cX7_laysBack 14 = .ok (.aload_n 0, 1) := by decide +kernel
theorem dX7_laysBack_15 : decode cX7_laysBack 15 = .ok (.getfield 37, 3) := by decide +kernel
theorem dX7_laysBack_18 : decode cX7_laysBack 18 = .ok (.iload_n 1, 1) := by decide +kernel
theorem dX7_laysBack_19 : decode cX7_laysBack 19 = .ok (.iaload, 1) := by decide +kernel
theorem dX7_laysBack_20 : decode cX7_laysBack 20 = .ok (.iastore, 1) := by decide +kernel
theorem dX7_laysBack_21 : decode cX7_laysBack 21 = .ok (.iinc 1 1, 3) := by decide +kernel
theorem dX7_laysBack_24 : decode cX7_laysBack 24 = .ok (.goto (-22), 3) := by decide +kernel
theorem dX7_laysBack_27 : decode cX7_laysBack 27 = .ok (.iconst 0, 1) := by decide +kernel
theorem dX7_laysBack_28 : decode cX7_laysBack 28 = .ok (.istore_n 1, 1) := by decide +kernel
theorem dX7_laysBack_29 : decode cX7_laysBack 29 = .ok (.iload_n 1, 1) := by decide +kernel
theorem dX7_laysBack_30 : decode cX7_laysBack 30 = .ok (.bipush 10, 2) := by decide +kernel
theorem dX7_laysBack_32 : decode cX7_laysBack 32 = .ok (.if_icmp .ge 33, 3) := by decide +kernel
theorem dX7_laysBack_35 : decode cX7_laysBack 35 = .ok (.aload_n 0, 1) := by decide +kernel
theorem dX7_laysBack_36 : decode cX7_laysBack 36 = .ok (.getfield 13, 3) := by decide +kernel
theorem dX7_laysBack_39 : decode cX7_laysBack 39 = .ok (.iload_n 1, 1) := by decide +kernel
theorem dX7_laysBack_40 : decode cX7_laysBack 40 = .ok (.aload_n 0, 1) := by decide +kernel
theorem dX7_laysBack_41 : decode cX7_laysBack 41 = .ok (.getfield 43, 3) := by decide +kernel
theorem dX7_laysBack_44 : decode cX7_laysBack 44 = .ok (.iload_n 1, 1) := by decide +kernel
theorem dX7_laysBack_45 : decode cX7_laysBack 45 = .ok (.iaload, 1) := by decide +kernel
theorem dX7_laysBack_46 : decode cX7_laysBack 46 = .ok (.iastore, 1) := by decide +kernel
theorem dX7_laysBack_47 : decode cX7_laysBack 47 = .ok (.aload_n 0, 1) := by decide +kernel
theorem dX7_laysBack_48 : decode cX7_laysBack 48 = .ok (.getfield 7, 3) := by decide +kernel
theorem dX7_laysBack_51 : decode cX7_laysBack 51 = .ok (.iload_n 1, 1) := by decide +kernel
theorem dX7_laysBack_52 : decode cX7_laysBack 52 = .ok (.aload_n 0, 1) := by decide +kernel
theorem dX7_laysBack_53 : decode cX7_laysBack 53 = .ok (.getfield 46, 3) := by decide +kernel
theorem dX7_laysBack_56 : decode cX7_laysBack 56 = .ok (.iload_n 1, 1) := by decide +kernel
theorem dX7_laysBack_57 : decode cX7_laysBack 57 = .ok (.baload, 1) := by decide +kernel
theorem dX7_laysBack_58 : decode cX7_laysBack 58 = .ok (.bastore, 1) := by decide +kernel
theorem dX7_laysBack_59 : decode cX7_laysBack 59 = .ok (.iinc 1 1, 3) := by decide +kernel
theorem dX7_laysBack_62 : decode cX7_laysBack 62 = .ok (.goto (-33), 3) := by decide +kernel
theorem dX7_laysBack_65 : decode cX7_laysBack 65 = .ok (.aload_n 0, 1) := by decide +kernel
theorem dX7_laysBack_66 : decode cX7_laysBack 66 = .ok (.aload_n 0, 1) := by decide +kernel
theorem dX7_laysBack_67 : decode cX7_laysBack 67 = .ok (.getfield 40, 3) := by decide +kernel
theorem dX7_laysBack_70 : decode cX7_laysBack 70 = .ok (.iconst 0, 1) := by decide +kernel
theorem dX7_laysBack_71 : decode cX7_laysBack 71 = .ok (.iaload, 1) := by decide +kernel
theorem dX7_laysBack_72 : decode cX7_laysBack 72 = .ok (.putfield 151, 3) := by decide +kernel
theorem dX7_laysBack_75 : decode cX7_laysBack 75 = .ok (.aload_n 0, 1) := by decide +kernel
theorem dX7_laysBack_76 : decode cX7_laysBack 76 = .ok (.aload_n 0, 1) := by decide +kernel
theorem dX7_laysBack_77 : decode cX7_laysBack 77 = .ok (.getfield 40, 3) := by decide +kernel
theorem dX7_laysBack_80 : decode cX7_laysBack 80 = .ok (.iconst 1, 1) := by decide +kernel
theorem dX7_laysBack_81 : decode cX7_laysBack 81 = .ok (.iaload, 1) := by decide +kernel
theorem dX7_laysBack_82 : decode cX7_laysBack 82 = .ok (.putfield 154, 3) := by decide +kernel
theorem dX7_laysBack_85 : decode cX7_laysBack 85 = .ok (.aload_n 0, 1) := by decide +kernel
theorem dX7_laysBack_86 : decode cX7_laysBack 86 = .ok (.aload_n 0, 1) := by decide +kernel
theorem dX7_laysBack_87 : decode cX7_laysBack 87 = .ok (.getfield 40, 3) := by decide +kernel
theorem dX7_laysBack_90 : decode cX7_laysBack 90 = .ok (.iconst 2, 1) := by decide +kernel
theorem dX7_laysBack_91 : decode cX7_laysBack 91 = .ok (.iaload, 1) := by decide +kernel
theorem dX7_laysBack_92 : decode cX7_laysBack 92 = .ok (.putfield 157, 3) := by decide +kernel
theorem dX7_laysBack_95 : decode cX7_laysBack 95 = .ok (.aload_n 0, 1) := by decide +kernel
theorem dX7_laysBack_96 : decode cX7_laysBack 96 = .ok (.aload_n 0, 1) := by decide +kernel
theorem dX7_laysBack_97 : decode cX7_laysBack 97 = .ok (.getfield 40, 3) := by decide +kernel
theorem dX7_laysBack_100 : decode cX7_laysBack 100 = .ok (.iconst 3, 1) := by decide +kernel
theorem dX7_laysBack_101 : decode cX7_laysBack 101 = .ok (.iaload, 1) := by decide +kernel
theorem dX7_laysBack_102 : decode cX7_laysBack 102 = .ok (.putfield 160, 3) := by decide +kernel
theorem dX7_laysBack_105 : decode cX7_laysBack 105 = .ok (.aload_n 0, 1) := by decide +kernel
theorem dX7_laysBack_106 : decode cX7_laysBack 106 = .ok (.aload_n 0, 1) := by decide +kernel
theorem dX7_laysBack_107 : decode cX7_laysBack 107 = .ok (.getfield 40, 3) := by decide +kernel
theorem dX7_laysBack_110 : decode cX7_laysBack 110 = .ok (.iconst 4, 1) := by decide +kernel
theorem dX7_laysBack_111 : decode cX7_laysBack 111 = .ok (.iaload, 1) := by decide +kernel
theorem dX7_laysBack_112 : decode cX7_laysBack 112 = .ok (.putfield 163, 3) := by decide +kernel
theorem dX7_laysBack_115 : decode cX7_laysBack 115 = .ok (.aload_n 0, 1) := by decide +kernel
theorem dX7_laysBack_116 : decode cX7_laysBack 116 = .ok (.aload_n 0, 1) := by decide +kernel
theorem dX7_laysBack_117 : decode cX7_laysBack 117 = .ok (.getfield 40, 3) := by decide +kernel
theorem dX7_laysBack_120 : decode cX7_laysBack 120 = .ok (.iconst 5, 1) := by decide +kernel
theorem dX7_laysBack_121 : decode cX7_laysBack 121 = .ok (.iaload, 1) := by decide +kernel
theorem dX7_laysBack_122 : decode cX7_laysBack 122 = .ok (.putfield 166, 3) := by decide +kernel
theorem dX7_laysBack_125 : decode cX7_laysBack 125 = .ok (.aload_n 0, 1) := by decide +kernel
theorem dX7_laysBack_126 : decode cX7_laysBack 126 = .ok (.aload_n 0, 1) := by decide +kernel
theorem dX7_laysBack_127 : decode cX7_laysBack 127 = .ok (.getfield 40, 3) := by decide +kernel
theorem dX7_laysBack_130 : decode cX7_laysBack 130 = .ok (.bipush 6, 2) := by decide +kernel
theorem dX7_laysBack_132 : decode cX7_laysBack 132 = .ok (.iaload, 1) := by decide +kernel
theorem dX7_laysBack_133 : decode cX7_laysBack 133 = .ok (.putfield 169, 3) := by decide +kernel
theorem dX7_laysBack_136 : decode cX7_laysBack 136 = .ok (.aload_n 0, 1) := by decide +kernel
theorem dX7_laysBack_137 : decode cX7_laysBack 137 = .ok (.aload_n 0, 1) := by decide +kernel
theorem dX7_laysBack_138 : decode cX7_laysBack 138 = .ok (.getfield 40, 3) := by decide +kernel
theorem dX7_laysBack_141 : decode cX7_laysBack 141 = .ok (.bipush 7, 2) := by decide +kernel
theorem dX7_laysBack_143 : decode cX7_laysBack 143 = .ok (.iaload, 1) := by decide +kernel
theorem dX7_laysBack_144 : decode cX7_laysBack 144 = .ok (.putfield 172, 3) := by decide +kernel
theorem dX7_laysBack_147 : decode cX7_laysBack 147 = .ok (.return_, 1) := by decide +kernel
set_option maxRecDepth 20000 in
theorem ggX7_clears_X7_puts : GoodIn wsX7_clears wsX7_puts := goodIn_ca (goodIn_r _ [8, 3, 9, 10, 11, 12, 13, 14, 15, 16, 17, 18, 19, 20, 21, 22, 23, 24, 25, 26, 27, 28, 29, 30, 31, 32, 33, 34, 35, 36, 37, 38, 39, 40, 41, 42, 43, 44, 45, 46, 47, 48, 49] (by decide +kernel) (by decide +kernel)) (goodIn_sub (fun _ h => List.mem_cons_of_mem _ (List.mem_append_right _ h)) (by decide +kernel))
set_option maxRecDepth 20000 in
theorem gX7_clears_X7_puts : GoodIn wsX7_clears (wsV RX7 178 RX7 yX7_puts wsX7_puts) := goodIn_app (goodIn_of _ (by decide +kernel)) ggX7_clears_X7_puts
theorem dX7_clears_0 : decode cX7_clears 0 = .ok (.aload_n 0, 1) := by decide +kernel
theorem dX7_clears_1 : decode cX7_clears 1 = .ok (.iconst 0, 1) := by decide +kernel
theorem dX7_clears_2 : decode cX7_clears 2 = .ok (.putfield 172, 3) := by decide +kernel
theorem dX7_clears_5 : decode cX7_clears 5 = .ok (.aload_n 0, 1) := by decide +kernel
theorem dX7_clears_6 : decode cX7_clears 6 = .ok (.iconst 0, 1) := by decide +kernel
theorem dX7_clears_7 : decode cX7_clears 7 = .ok (.putfield 175, 3) := by decide +kernel
theorem dX7_clears_10 : decode cX7_clears 10 = .ok (.iconst 0, 1) := by decide +kernel
theorem dX7_clears_11 : decode cX7_clears 11 = .ok (.istore_n 1, 1) := by decide +kernel
theorem dX7_clears_12 : decode cX7_clears 12 = .ok (.iload_n 1, 1) := by decide +kernel
theorem dX7_clears_13 : decode cX7_clears 13 = .ok (.sipush 4112, 3) := by decide +kernel
theorem dX7_clears_16 : decode cX7_clears 16 = .ok (.if_icmp .ge 16, 3) := by decide +kernel
theorem dX7_clears_19 : decode cX7_clears 19 = .ok (.aload_n 0, 1) := by decide +kernel
theorem dX7_clears_20 : decode cX7_clears 20 = .ok (.getfield 17, 3) := by decide +kernel
theorem dX7_clears_23 : decode cX7_clears 23 = .ok (.iload_n 1, 1) := by decide +kernel
theorem dX7_clears_24 : decode cX7_clears 24 = .ok (.iconst 0, 1) := by decide +kernel
theorem dX7_clears_25 : decode cX7_clears 25 = .ok (.iastore, 1) := by decide +kernel
theorem dX7_clears_26 : decode cX7_clears 26 = .ok (.iinc 1 1, 3) := by decide +kernel
theorem dX7_clears_29 : decode cX7_clears 29 = .ok (.goto (-17), 3) := by decide +kernel
theorem dX7_clears_32 : decode cX7_clears 32 = .ok (.iconst 0, 1) := by decide +kernel
theorem dX7_clears_33 : decode cX7_clears 33 = .ok (.istore_n 1, 1) := by decide +kernel
theorem dX7_clears_34 : decode cX7_clears 34 = .ok (.iload_n 1, 1) := by decide +kernel
theorem dX7_clears_35 : decode cX7_clears 35 = .ok (.bipush 8, 2) := by decide +kernel
theorem dX7_clears_37 : decode cX7_clears 37 = .ok (.if_icmp .ge 16, 3) := by decide +kernel
theorem dX7_clears_40 : decode cX7_clears 40 = .ok (.aload_n 0, 1) := by decide +kernel
theorem dX7_clears_41 : decode cX7_clears 41 = .ok (.iload_n 1, 1) := by decide +kernel
theorem dX7_clears_42 : decode cX7_clears 42 = .ok (.iconst 2, 1) := by decide +kernel
theorem dX7_clears_43 : decode cX7_clears 43 = .ok (.iconst (-1), 1) := by decide +kernel
theorem dX7_clears_44 : decode cX7_clears 44 = .ok (.invokevirtual 178, 3) := by decide +kernel
theorem dX7_clears_47 : decode cX7_clears 47 = .ok (.iinc 1 1, 3) := by decide +kernel
theorem dX7_clears_50 : decode cX7_clears 50 = .ok (.goto (-16), 3) := by decide +kernel
theorem dX7_clears_53 : decode cX7_clears 53 = .ok (.return_, 1) := by decide +kernel
theorem dX7_ofLength_0 : decode cX7_ofLength 0 = .ok (.iconst 0, 1) := by decide +kernel
theorem dX7_ofLength_1 : decode cX7_ofLength 1 = .ok (.istore_n 3, 1) := by decide +kernel
theorem dX7_ofLength_2 : decode cX7_ofLength 2 = .ok (.iload_n 3, 1) := by decide +kernel
theorem dX7_ofLength_3 : decode cX7_ofLength 3 = .ok (.aload_n 0, 1) := by decide +kernel
theorem dX7_ofLength_4 : decode cX7_ofLength 4 = .ok (.getfield 172, 3) := by decide +kernel
theorem dX7_ofLength_7 : decode cX7_ofLength 7 = .ok (.if_icmp .ge 31, 3) := by decide +kernel
theorem dX7_ofLength_10 : decode cX7_ofLength 10 = .ok (.aload_n 0, 1) := by decide +kernel
theorem dX7_ofLength_11 : decode cX7_ofLength 11 = .ok (.getfield 7, 3) := by decide +kernel
theorem dX7_ofLength_14 : decode cX7_ofLength 14 = .ok (.iload_n 3, 1) := by decide +kernel
theorem dX7_ofLength_15 : decode cX7_ofLength 15 = .ok (.baload, 1) := by decide +kernel
theorem dX7_ofLength_16 : decode cX7_ofLength 16 = .ok (.iload_n 1, 1) := by decide +kernel
theorem dX7_ofLength_17 : decode cX7_ofLength 17 = .ok (.if_icmp .ne 15, 3) := by decide +kernel
theorem dX7_ofLength_20 : decode cX7_ofLength 20 = .ok (.aload_n 0, 1) := by decide +kernel
theorem dX7_ofLength_21 : decode cX7_ofLength 21 = .ok (.getfield 13, 3) := by decide +kernel
theorem dX7_ofLength_24 : decode cX7_ofLength 24 = .ok (.iload_n 3, 1) := by decide +kernel
theorem dX7_ofLength_25 : decode cX7_ofLength 25 = .ok (.iaload, 1) := by decide +kernel
theorem dX7_ofLength_26 : decode cX7_ofLength 26 = .ok (.iload_n 2, 1) := by decide +kernel
theorem dX7_ofLength_27 : decode cX7_ofLength 27 = .ok (.if_icmp .ne 5, 3) := by decide +kernel
theorem dX7_ofLength_30 : decode cX7_ofLength 30 = .ok (.iload_n 3, 1) := by decide +kernel
theorem dX7_ofLength_31 : decode cX7_ofLength 31 = .ok (.ireturn, 1) := by decide +kernel
theorem dX7_ofLength_32 : decode cX7_ofLength 32 = .ok (.iinc 3 1, 3) := by decide +kernel
theorem dX7_ofLength_35 : decode cX7_ofLength 35 = .ok (.goto (-33), 3) := by decide +kernel
theorem dX7_ofLength_38 : decode cX7_ofLength 38 = .ok (.iconst (-1), 1) := by decide +kernel
theorem dX7_ofLength_39 : decode cX7_ofLength 39 = .ok (.ireturn, 1) := by decide +kernel
set_option maxRecDepth 20000 in
theorem ggX7_kindLine_X7_failsIf : GoodIn wsX7_kindLine wsX7_failsIf := goodIn_r _ [10, 11, 12, 13, 9, 14, 2, 15, 16, 55, 56, 57, 58, 59, 60, 61, 62, 63, 64, 65, 66, 67, 68, 69, 70, 71, 72, 73, 74, 75, 76, 77, 78, 79, 80, 81, 82, 83, 84, 85, 86, 87, 88, 89, 90, 91, 92, 93, 94, 95] (by decide +kernel) (by decide +kernel)
set_option maxRecDepth 20000 in
theorem gX7_kindLine_X7_failsIf : GoodIn wsX7_kindLine (wsV RX7 136 RX7 yX7_failsIf wsX7_failsIf) := goodIn_app (goodIn_of _ (by decide +kernel)) ggX7_kindLine_X7_failsIf
set_option maxRecDepth 20000 in
theorem ggX7_kindLine_X7_goesOn : GoodIn wsX7_kindLine wsX7_goesOn := goodIn_ca (goodIn_r _ [20, 2, 21, 22, 23, 9, 24, 25, 15, 26, 27, 28, 29, 30, 31, 32, 33, 34, 35, 36, 37, 38, 39, 55, 56, 57, 58, 59, 60, 61, 62, 63, 64, 65, 66, 67, 68, 69, 70, 71, 72, 73, 74, 75, 76, 77, 78, 79, 80, 81, 82, 83, 84, 85, 86, 87, 88, 89, 90, 91, 92, 93, 94, 95] (by decide +kernel) (by decide +kernel)) (goodIn_sub (fun _ h => List.mem_cons_of_mem _ (List.mem_append_right _ h)) (by decide +kernel))
set_option maxRecDepth 20000 in
theorem gX7_kindLine_X7_goesOn : GoodIn wsX7_kindLine (wsV RX7 140 RX7 yX7_goesOn wsX7_goesOn) := goodIn_app (goodIn_of _ (by decide +kernel)) ggX7_kindLine_X7_goesOn
set_option maxRecDepth 20000 in
theorem ggX7_kindLine_X7_looks : GoodIn wsX7_kindLine wsX7_looks := goodIn_r _ [43, 26, 27, 2, 11, 12, 13, 9, 14, 15, 16, 44, 45, 46, 55, 56, 57, 58, 59, 60, 61, 62, 63, 64, 65, 66, 67, 68, 69, 70, 71, 72, 73, 74, 75, 76, 77, 78, 79, 80, 81, 82, 83, 84, 85, 86, 87, 88, 89, 90, 91, 92, 93, 94, 95] (by decide +kernel) (by decide +kernel)
set_option maxRecDepth 20000 in
theorem gX7_kindLine_X7_looks : GoodIn wsX7_kindLine (wsV RX7 147 RX7 yX7_looks wsX7_looks) := goodIn_app (goodIn_of _ (by decide +kernel)) ggX7_kindLine_X7_looks
set_option maxRecDepth 20000 in
theorem ggX7_kindLine_X7_ofLength : GoodIn wsX7_kindLine wsX7_ofLength := goodIn_ca (goodIn_r _ [50, 1, 3, 4, 55, 56, 57, 58, 59, 60, 61, 62, 63, 64, 65, 66, 67, 68, 69, 70, 71, 72, 73, 74, 75, 76, 77, 78, 79, 80, 81, 82, 83, 84, 85, 86, 87, 88, 89, 90, 91, 92, 93, 94, 95] (by decide +kernel) (by decide +kernel)) (goodIn_sub (fun _ h => List.mem_cons_of_mem _ (List.mem_append_right _ h)) (by decide +kernel))
set_option maxRecDepth 20000 in
theorem gX7_kindLine_X7_ofLength : GoodIn wsX7_kindLine (wsV RX7 182 RX7 yX7_ofLength wsX7_ofLength) := goodIn_app (goodIn_of _ (by decide +kernel)) ggX7_kindLine_X7_ofLength
set_option maxRecDepth 20000 in
theorem ggX7_kindLine_X7_takes : GoodIn wsX7_kindLine wsX7_takes := goodIn_ca (goodIn_r _ [54, 40, 41, 42, 9, 43, 26, 27, 2, 11, 12, 13, 14, 15, 16, 44, 45, 46, 17, 18, 19, 20, 21, 22, 23, 24, 25, 28, 29, 30, 31, 32, 33, 34, 35, 36, 37, 38, 39, 55, 56, 57, 58, 59, 60, 61, 62, 63, 64, 65, 66, 67, 68, 69, 70, 71, 72, 73, 74, 75, 76, 77, 78, 79, 80, 81, 82, 83, 84, 85, 86, 87, 88, 89, 90, 91, 92, 93, 94, 95] (by decide +kernel) (by decide +kernel)) (goodIn_sub (fun _ h => List.mem_cons_of_mem _ (List.mem_append_right _ h)) (by decide +kernel))
set_option maxRecDepth 20000 in
theorem gX7_kindLine_X7_takes : GoodIn wsX7_kindLine (wsV RX7 186 RX7 yX7_takes wsX7_takes) := goodIn_app (goodIn_of _ (by decide +kernel)) ggX7_kindLine_X7_takes
theorem dX7_kindLine_0 : decode cX7_kindLine 0 = .ok (.aload_n 0, 1) := by decide +kernel
theorem dX7_kindLine_1 : decode cX7_kindLine 1 = .ok (.aload_n 0, 1) := by decide +kernel
theorem dX7_kindLine_2 : decode cX7_kindLine 2 = .ok (.getfield 172, 3) := by decide +kernel
theorem dX7_kindLine_5 : decode cX7_kindLine 5 = .ok (.bipush 10, 2) := by decide +kernel
theorem dX7_kindLine_7 : decode cX7_kindLine 7 = .ok (.if_icmp .ne 7, 3) := by decide +kernel
theorem dX7_kindLine_10 : decode cX7_kindLine 10 = .ok (.iconst 1, 1) := by decide +kernel
theorem dX7_kindLine_11 : decode cX7_kindLine 11 = .ok (.goto 4, 3) := by decide +kernel
theorem dX7_kindLine_14 : decode cX7_kindLine 14 = .ok (.iconst 0, 1) := by decide +kernel
theorem dX7_kindLine_15 : decode cX7_kindLine 15 = .ok (.iconst 4, 1) := by decide +kernel
theorem dX7_kindLine_16 : decode cX7_kindLine 16 = .ok (.invokevirtual 136, 3) := by decide +kernel
theorem dX7_kindLine_19 : decode cX7_kindLine 19 = .ok (.aload_n 0, 1) := by decide +kernel
theorem dX7_kindLine_20 : decode cX7_kindLine 20 = .ok (.invokevirtual 140, 3) := by decide +kernel
theorem dX7_kindLine_23 : decode cX7_kindLine 23 = .ok (.aload_n 0, 1) := by decide +kernel
theorem dX7_kindLine_24 : decode cX7_kindLine 24 = .ok (.iconst 1, 1) := by decide +kernel
theorem dX7_kindLine_25 : decode cX7_kindLine 25 = .ok (.bipush 99, 2) := by decide +kernel
theorem dX7_kindLine_27 : decode cX7_kindLine 27 = .ok (.invokevirtual 147, 3) := by decide +kernel
theorem dX7_kindLine_30 : decode cX7_kindLine 30 = .ok (.istore_n 2, 1) := by decide +kernel
theorem dX7_kindLine_31 : decode cX7_kindLine 31 = .ok (.aload_n 0, 1) := by decide +kernel
theorem dX7_kindLine_32 : decode cX7_kindLine 32 = .ok (.aload_n 0, 1) := by decide +kernel
theorem dX7_kindLine_33 : decode cX7_kindLine 33 = .ok (.getfield 110, 3) := by decide +kernel
theorem dX7_kindLine_36 : decode cX7_kindLine 36 = .ok (.ifCond .ne 17, 3) := by decide +kernel
theorem dX7_kindLine_39 : decode cX7_kindLine 39 = .ok (.aload_n 0, 1) := by decide +kernel
theorem dX7_kindLine_40 : decode cX7_kindLine 40 = .ok (.iload_n 1, 1) := by decide +kernel
theorem dX7_kindLine_41 : decode cX7_kindLine 41 = .ok (.iload_n 2, 1) := by decide +kernel
theorem dX7_kindLine_42 : decode cX7_kindLine 42 = .ok (.invokevirtual 182, 3) := by decide +kernel
theorem dX7_kindLine_45 : decode cX7_kindLine 45 = .ok (.iconst (-1), 1) := by decide +kernel
theorem dX7_kindLine_46 : decode cX7_kindLine 46 = .ok (.if_icmp .eq 7, 3) := by decide +kernel
theorem dX7_kindLine_49 : decode cX7_kindLine 49 = .ok (.iconst 1, 1) := by decide +kernel
theorem dX7_kindLine_50 : decode cX7_kindLine 50 = .ok (.goto 4, 3) := by decide +kernel
theorem dX7_kindLine_53 : decode cX7_kindLine 53 = .ok (.iconst 0, 1) := by decide +kernel
theorem dX7_kindLine_54 : decode cX7_kindLine 54 = .ok (.iconst 3, 1) := by decide +kernel
theorem dX7_kindLine_55 : decode cX7_kindLine 55 = .ok (.invokevirtual 136, 3) := by decide +kernel
theorem dX7_kindLine_58 : decode cX7_kindLine 58 = .ok (.aload_n 0, 1) := by decide +kernel
theorem dX7_kindLine_59 : decode cX7_kindLine 59 = .ok (.invokevirtual 140, 3) := by decide +kernel
theorem dX7_kindLine_62 : decode cX7_kindLine 62 = .ok (.aload_n 0, 1) := by decide +kernel
theorem dX7_kindLine_63 : decode cX7_kindLine 63 = .ok (.iconst 0, 1) := by decide +kernel
theorem dX7_kindLine_64 : decode cX7_kindLine 64 = .ok (.bipush 99, 2) := by decide +kernel
theorem dX7_kindLine_66 : decode cX7_kindLine 66 = .ok (.invokevirtual 186, 3) := by decide +kernel
theorem dX7_kindLine_69 : decode cX7_kindLine 69 = .ok (.istore_n 3, 1) := by decide +kernel
theorem dX7_kindLine_70 : decode cX7_kindLine 70 = .ok (.aload_n 0, 1) := by decide +kernel
theorem dX7_kindLine_71 : decode cX7_kindLine 71 = .ok (.getfield 110, 3) := by decide +kernel
theorem dX7_kindLine_74 : decode cX7_kindLine 74 = .ok (.ifCond .ne 46, 3) := by decide +kernel
theorem dX7_kindLine_77 : decode cX7_kindLine 77 = .ok (.aload_n 0, 1) := by decide +kernel
theorem dX7_kindLine_78 : decode cX7_kindLine 78 = .ok (.getfield 7, 3) := by decide +kernel
theorem dX7_kindLine_81 : decode cX7_kindLine 81 = .ok (.aload_n 0, 1) := by decide +kernel
theorem dX7_kindLine_82 : decode cX7_kindLine 82 = .ok (.getfield 172, 3) := by decide +kernel
theorem dX7_kindLine_85 : decode cX7_kindLine 85 = .ok (.iload_n 1, 1) := by decide +kernel
theorem dX7_kindLine_86 : decode cX7_kindLine 86 = .ok (.bastore, 1) := by decide +kernel
theorem dX7_kindLine_87 : decode cX7_kindLine 87 = .ok (.aload_n 0, 1) := by decide +kernel
theorem dX7_kindLine_88 : decode cX7_kindLine 88 = .ok (.getfield 13, 3) := by decide +kernel
theorem dX7_kindLine_91 : decode cX7_kindLine 91 = .ok (.aload_n 0, 1) := by decide +kernel
theorem dX7_kindLine_92 : decode cX7_kindLine 92 = .ok (.getfield 172, 3) := by decide +kernel
theorem dX7_kindLine_95 : decode cX7_kindLine 95 = .ok (.iload_n 2, 1) := by decide +kernel
theorem dX7_kindLine_96 : decode cX7_kindLine 96 = .ok (.iastore, 1) := by decide +kernel
theorem dX7_kindLine_97 : decode cX7_kindLine 97 = .ok (.aload_n 0, 1) := by decide +kernel
theorem dX7_kindLine_98 : decode cX7_kindLine 98 = .ok (.getfield 17, 3) := by decide +kernel
theorem dX7_kindLine_101 : decode cX7_kindLine 101 = .ok (.bipush 6, 2) := by decide +kernel
theorem dX7_kindLine_103 : decode cX7_kindLine 103 = .ok (.aload_n 0, 1) := by decide +kernel
theorem dX7_kindLine_104 : decode cX7_kindLine 104 = .ok (.getfield 172, 3) := by decide +kernel
theorem dX7_kindLine_107 : decode cX7_kindLine 107 = .ok (.iadd, 1) := by decide +kernel
theorem dX7_kindLine_108 : decode cX7_kindLine 108 = .ok (.iload_n 3, 1) := by decide +kernel
theorem dX7_kindLine_109 : decode cX7_kindLine 109 = .ok (.iastore, 1) := by decide +kernel
theorem dX7_kindLine_110 : decode cX7_kindLine 110 = .ok (.aload_n 0, 1) := by decide +kernel
theorem dX7_kindLine_111 : decode cX7_kindLine 111 = .ok (.dup, 1) := by decide +kernel
theorem dX7_kindLine_112 : decode cX7_kindLine 112 = .ok (.getfield 172, 3) := by decide +kernel
theorem dX7_kindLine_115 : decode cX7_kindLine 115 = .ok (.iconst 1, 1) := by decide +kernel
theorem dX7_kindLine_116 : decode cX7_kindLine 116 = .ok (.iadd, 1) := by decide +kernel
theorem dX7_kindLine_117 : decode cX7_kindLine 117 = .ok (.putfield 172, 3) := by decide +kernel
theorem dX7_kindLine_120 : decode cX7_kindLine 120 = .ok (.return_, 1) := by decide +kernel
set_option maxRecDepth 20000 in
theorem ggX7_rowLine_X7_goesOn : GoodIn wsX7_rowLine wsX7_goesOn := goodIn_ca (goodIn_r _ [9, 2, 10, 11, 12, 8, 13, 14, 15, 4, 16, 17, 18, 19, 20, 21, 22, 23, 24, 25, 26, 27, 28, 81, 82, 83, 84, 85, 86, 87, 88, 89, 90, 91, 92, 93, 94, 95, 96, 97, 98, 99, 100, 101, 102, 103, 104, 105, 106, 107, 108, 109, 110, 111, 112, 113, 114, 115, 116, 117, 118, 119, 120, 121] (by decide +kernel) (by decide +kernel)) (goodIn_sub (fun _ h => List.mem_cons_of_mem _ (List.mem_append_right _ h)) (by decide +kernel))
set_option maxRecDepth 20000 in
theorem gX7_rowLine_X7_goesOn : GoodIn wsX7_rowLine (wsV RX7 140 RX7 yX7_goesOn wsX7_goesOn) := goodIn_app (goodIn_of _ (by decide +kernel)) ggX7_rowLine_X7_goesOn
set_option maxRecDepth 20000 in
theorem ggX7_rowLine_X7_looks : GoodIn wsX7_rowLine wsX7_looks := goodIn_r _ [32, 4, 16, 2, 33, 34, 35, 8, 36, 15, 37, 38, 39, 40, 81, 82, 83, 84, 85, 86, 87, 88, 89, 90, 91, 92, 93, 94, 95, 96, 97, 98, 99, 100, 101, 102, 103, 104, 105, 106, 107, 108, 109, 110, 111, 112, 113, 114, 115, 116, 117, 118, 119, 120, 121] (by decide +kernel) (by decide +kernel)
set_option maxRecDepth 20000 in
theorem gX7_rowLine_X7_looks : GoodIn wsX7_rowLine (wsV RX7 147 RX7 yX7_looks wsX7_looks) := goodIn_app (goodIn_of _ (by decide +kernel)) ggX7_rowLine_X7_looks
set_option maxRecDepth 20000 in
theorem ggX7_rowLine_X7_failsIf : GoodIn wsX7_rowLine wsX7_failsIf := goodIn_r _ [44, 33, 34, 35, 8, 36, 2, 15, 37, 81, 82, 83, 84, 85, 86, 87, 88, 89, 90, 91, 92, 93, 94, 95, 96, 97, 98, 99, 100, 101, 102, 103, 104, 105, 106, 107, 108, 109, 110, 111, 112, 113, 114, 115, 116, 117, 118, 119, 120, 121] (by decide +kernel) (by decide +kernel)
set_option maxRecDepth 20000 in
theorem gX7_rowLine_X7_failsIf : GoodIn wsX7_rowLine (wsV RX7 136 RX7 yX7_failsIf wsX7_failsIf) := goodIn_app (goodIn_of _ (by decide +kernel)) ggX7_rowLine_X7_failsIf
set_option maxRecDepth 20000 in
theorem ggX7_rowLine_X7_of : GoodIn wsX7_rowLine wsX7_of := goodIn_ca (goodIn_r _ [48, 49, 81, 82, 83, 84, 85, 86, 87, 88, 89, 90, 91, 92, 93, 94, 95, 96, 97, 98, 99, 100, 101, 102, 103, 104, 105, 106, 107, 108, 109, 110, 111, 112, 113, 114, 115, 116, 117, 118, 119, 120, 121] (by decide +kernel) (by decide +kernel)) (goodIn_sub (fun _ h => List.mem_cons_of_mem _ (List.mem_append_right _ h)) (by decide +kernel))
set_option maxRecDepth 20000 in
theorem gX7_rowLine_X7_of : GoodIn wsX7_rowLine (wsV RX7 189 RX7 yX7_of wsX7_of) := goodIn_app (goodIn_of _ (by decide +kernel)) ggX7_rowLine_X7_of
set_option maxRecDepth 20000 in
theorem ggX7_rowLine_X7_gap : GoodIn wsX7_rowLine wsX7_gap := goodIn_ca (goodIn_r _ [53, 54, 55, 56, 57, 8, 58, 59, 60, 61, 62, 63, 45, 46, 47, 48, 49, 64, 65, 66, 67, 68, 69, 70, 71, 72, 81, 82, 83, 84, 85, 86, 87, 88, 89, 90, 91, 92, 93, 94, 95, 96, 97, 98, 99, 100, 101, 102, 103, 104, 105, 106, 107, 108, 109, 110, 111, 112, 113, 114, 115, 116, 117, 118, 119, 120, 121] (by decide +kernel) (by decide +kernel)) (goodIn_sub (fun _ h => List.mem_cons_of_mem _ (List.mem_append_right _ h)) (by decide +kernel))
set_option maxRecDepth 20000 in
theorem gX7_rowLine_X7_gap : GoodIn wsX7_rowLine (wsV RX7 192 RX7 yX7_gap wsX7_gap) := goodIn_app (goodIn_of _ (by decide +kernel)) ggX7_rowLine_X7_gap
set_option maxRecDepth 20000 in
theorem ggX7_rowLine_X7_adds : GoodIn wsX7_rowLine wsX7_adds := goodIn_ca (goodIn_r _ [76, 45, 46, 47, 8, 48, 49, 77, 78, 79, 80, 81, 82, 83, 84, 85, 86, 87, 88, 89, 90, 91, 92, 93, 94, 95, 96, 97, 98, 99, 100, 101, 102, 103, 104, 105, 106, 107, 108, 109, 110, 111, 112, 113, 114, 115, 116, 117, 118, 119, 120, 121] (by decide +kernel) (by decide +kernel)) (goodIn_sub (fun _ h => List.mem_cons_of_mem _ (List.mem_append_right _ h)) (by decide +kernel))
set_option maxRecDepth 20000 in
theorem gX7_rowLine_X7_adds : GoodIn wsX7_rowLine (wsV RX7 195 RX7 yX7_adds wsX7_adds) := goodIn_app (goodIn_of _ (by decide +kernel)) ggX7_rowLine_X7_adds
theorem dX7_rowLine_0 : decode cX7_rowLine 0 = .ok (.aload_n 0, 1) := by decide +kernel
theorem dX7_rowLine_1 : decode cX7_rowLine 1 = .ok (.invokevirtual 140, 3) := by decide +kernel
theorem dX7_rowLine_4 : decode cX7_rowLine 4 = .ok (.aload_n 0, 1) := by decide +kernel
theorem dX7_rowLine_5 : decode cX7_rowLine 5 = .ok (.iconst 0, 1) := by decide +kernel
theorem dX7_rowLine_6 : decode cX7_rowLine 6 = .ok (.aload_n 0, 1) := by decide +kernel
theorem dX7_rowLine_7 : decode cX7_rowLine 7 = .ok (.getfield 154, 3) := by decide +kernel
theorem dX7_rowLine_10 : decode cX7_rowLine 10 = .ok (.iconst 1, 1) := by decide +kernel
theorem dX7_rowLine_11 : decode cX7_rowLine 11 = .ok (.isub, 1) := by decide +kernel
theorem dX7_rowLine_12 : decode cX7_rowLine 12 = .ok (.invokevirtual 147, 3) := by decide +kernel
theorem dX7_rowLine_15 : decode cX7_rowLine 15 = .ok (.istore_n 1, 1) := by decide +kernel
theorem dX7_rowLine_16 : decode cX7_rowLine 16 = .ok (.aload_n 0, 1) := by decide +kernel
theorem dX7_rowLine_17 : decode cX7_rowLine 17 = .ok (.aload_n 0, 1) := by decide +kernel
theorem dX7_rowLine_18 : decode cX7_rowLine 18 = .ok (.getfield 110, 3) := by decide +kernel
theorem dX7_rowLine_21 : decode cX7_rowLine 21 = .ok (.ifCond .ne 19, 3) := by decide +kernel
theorem dX7_rowLine_24 : decode cX7_rowLine 24 = .ok (.aload_n 0, 1) := by decide +kernel
theorem dX7_rowLine_25 : decode cX7_rowLine 25 = .ok (.getfield 175, 3) := by decide +kernel
theorem dX7_rowLine_28 : decode cX7_rowLine 28 = .ok (.iload_n 1, 1) := by decide +kernel
theorem dX7_rowLine_29 : decode cX7_rowLine 29 = .ok (.ishr, 1) := by decide +kernel
theorem dX7_rowLine_30 : decode cX7_rowLine 30 = .ok (.iconst 1, 1) := by decide +kernel
theorem dX7_rowLine_31 : decode cX7_rowLine 31 = .ok (.iand, 1) := by decide +kernel
theorem dX7_rowLine_32 : decode cX7_rowLine 32 = .ok (.iconst 1, 1) := by decide +kernel
theorem dX7_rowLine_33 : decode cX7_rowLine 33 = .ok (.if_icmp .ne 7, 3) := by decide +kernel
theorem dX7_rowLine_36 : decode cX7_rowLine 36 = .ok (.iconst 1, 1) := by decide +kernel
theorem dX7_rowLine_37 : decode cX7_rowLine 37 = .ok (.goto 4, 3) := by decide +kernel
theorem dX7_rowLine_40 : decode cX7_rowLine 40 = .ok (.iconst 0, 1) := by decide +kernel
theorem dX7_rowLine_41 : decode cX7_rowLine 41 = .ok (.iconst 3, 1) := by decide +kernel
theorem dX7_rowLine_42 : decode cX7_rowLine 42 = .ok (.invokevirtual 136, 3) := by decide +kernel
theorem dX7_rowLine_45 : decode cX7_rowLine 45 = .ok (.aload_n 0, 1) := by decide +kernel
theorem dX7_rowLine_46 : decode cX7_rowLine 46 = .ok (.dup, 1) := by decide +kernel
theorem dX7_rowLine_47 : decode cX7_rowLine 47 = .ok (.getfield 175, 3) := by decide +kernel
theorem dX7_rowLine_50 : decode cX7_rowLine 50 = .ok (.iconst 1, 1) := by decide +kernel
theorem dX7_rowLine_51 : decode cX7_rowLine 51 = .ok (.iload_n 1, 1) := by decide +kernel
theorem dX7_rowLine_52 : decode cX7_rowLine 52 = .ok (.ishl, 1) := by decide +kernel
theorem dX7_rowLine_53 : decode cX7_rowLine 53 = .ok (.ior, 1) := by decide +kernel
theorem dX7_rowLine_54 : decode cX7_rowLine 54 = .ok (.putfield 175, 3) := by decide +kernel
theorem dX7_rowLine_57 : decode cX7_rowLine 57 = .ok (.aload_n 0, 1) := by decide +kernel
theorem dX7_rowLine_58 : decode cX7_rowLine 58 = .ok (.invokevirtual 140, 3) := by decide +kernel
theorem dX7_rowLine_61 : decode cX7_rowLine 61 = .ok (.aload_n 0, 1) := by decide +kernel
theorem dX7_rowLine_62 : decode cX7_rowLine 62 = .ok (.getfield 110, 3) := by decide +kernel
theorem dX7_rowLine_65 : decode cX7_rowLine 65 = .ok (.ifCond .ne 94, 3) := by decide +kernel
theorem dX7_rowLine_68 : decode cX7_rowLine 68 = .ok (.aload_n 0, 1) := by decide +kernel
theorem dX7_rowLine_69 : decode cX7_rowLine 69 = .ok (.getfield 97, 3) := by decide +kernel
theorem dX7_rowLine_72 : decode cX7_rowLine 72 = .ok (.iconst 2, 1) := by decide +kernel
theorem dX7_rowLine_73 : decode cX7_rowLine 73 = .ok (.if_icmp .ne 86, 3) := by decide +kernel
theorem dX7_rowLine_76 : decode cX7_rowLine 76 = .ok (.aload_n 0, 1) := by decide +kernel
theorem dX7_rowLine_77 : decode cX7_rowLine 77 = .ok (.iconst 1, 1) := by decide +kernel
theorem dX7_rowLine_78 : decode cX7_rowLine 78 = .ok (.sipush 200, 3) := by decide +kernel
theorem dX7_rowLine_81 : decode cX7_rowLine 81 = .ok (.invokevirtual 147, 3) := by decide +kernel
theorem dX7_rowLine_84 : decode cX7_rowLine 84 = .ok (.istore_n 2, 1) := by decide +kernel
theorem dX7_rowLine_85 : decode cX7_rowLine 85 = .ok (.aload_n 0, 1) := by decide +kernel
theorem dX7_rowLine_86 : decode cX7_rowLine 86 = .ok (.aload_n 0, 1) := by decide +kernel
theorem dX7_rowLine_87 : decode cX7_rowLine 87 = .ok (.getfield 110, 3) := by decide +kernel
theorem dX7_rowLine_90 : decode cX7_rowLine 90 = .ok (.ifCond .ne 18, 3) := by decide +kernel
theorem dX7_rowLine_93 : decode cX7_rowLine 93 = .ok (.aload_n 0, 1) := by decide +kernel
theorem dX7_rowLine_94 : decode cX7_rowLine 94 = .ok (.iload_n 1, 1) := by decide +kernel
theorem dX7_rowLine_95 : decode cX7_rowLine 95 = .ok (.iconst 0, 1) := by decide +kernel
theorem dX7_rowLine_96 : decode cX7_rowLine 96 = .ok (.invokevirtual 189, 3) := by decide +kernel
theorem dX7_rowLine_99 : decode cX7_rowLine 99 = .ok (.bipush 6, 2) := by decide +kernel
theorem dX7_rowLine_101 : decode cX7_rowLine 101 = .ok (.if_icmp .ne 7, 3) := by decide +kernel
theorem dX7_rowLine_104 : decode cX7_rowLine 104 = .ok (.iconst 1, 1) := by decide +kernel
theorem dX7_rowLine_105 : decode cX7_rowLine 105 = .ok (.goto 4, 3) := by decide +kernel
theorem dX7_rowLine_108 : decode cX7_rowLine 108 = .ok (.iconst 0, 1) := by decide +kernel
theorem dX7_rowLine_109 : decode cX7_rowLine 109 = .ok (.iconst 4, 1) := by decide +kernel
theorem dX7_rowLine_110 : decode cX7_rowLine 110 = .ok (.invokevirtual 136, 3) := by decide +kernel
theorem dX7_rowLine_113 : decode cX7_rowLine 113 = .ok (.aload_n 0, 1) := by decide +kernel
theorem dX7_rowLine_114 : decode cX7_rowLine 114 = .ok (.aload_n 0, 1) := by decide +kernel
theorem dX7_rowLine_115 : decode cX7_rowLine 115 = .ok (.getfield 110, 3) := by decide +kernel
theorem dX7_rowLine_118 : decode cX7_rowLine 118 = .ok (.ifCond .ne 16, 3) := by decide +kernel
theorem dX7_rowLine_121 : decode cX7_rowLine 121 = .ok (.aload_n 0, 1) := by decide +kernel
theorem dX7_rowLine_122 : decode cX7_rowLine 122 = .ok (.iload_n 1, 1) := by decide +kernel
theorem dX7_rowLine_123 : decode cX7_rowLine 123 = .ok (.invokevirtual 192, 3) := by decide +kernel
theorem dX7_rowLine_126 : decode cX7_rowLine 126 = .ok (.iload_n 2, 1) := by decide +kernel
theorem dX7_rowLine_127 : decode cX7_rowLine 127 = .ok (.if_icmp .ge 7, 3) := by decide +kernel
theorem dX7_rowLine_130 : decode cX7_rowLine 130 = .ok (.iconst 1, 1) := by decide +kernel
theorem dX7_rowLine_131 : decode cX7_rowLine 131 = .ok (.goto 4, 3) := by decide +kernel
theorem dX7_rowLine_134 : decode cX7_rowLine 134 = .ok (.iconst 0, 1) := by decide +kernel
theorem dX7_rowLine_135 : decode cX7_rowLine 135 = .ok (.iconst 5, 1) := by decide +kernel
theorem dX7_rowLine_136 : decode cX7_rowLine 136 = .ok (.invokevirtual 136, 3) := by decide +kernel
theorem dX7_rowLine_139 : decode cX7_rowLine 139 = .ok (.aload_n 0, 1) := by decide +kernel
theorem dX7_rowLine_140 : decode cX7_rowLine 140 = .ok (.getfield 110, 3) := by decide +kernel
theorem dX7_rowLine_143 : decode cX7_rowLine 143 = .ok (.ifCond .ne 9, 3) := by decide +kernel
theorem dX7_rowLine_146 : decode cX7_rowLine 146 = .ok (.aload_n 0, 1) := by decide +kernel
theorem dX7_rowLine_147 : decode cX7_rowLine 147 = .ok (.iload_n 1, 1) := by decide +kernel
theorem dX7_rowLine_148 : decode cX7_rowLine 148 = .ok (.iload_n 2, 1) := by decide +kernel
theorem dX7_rowLine_149 : decode cX7_rowLine 149 = .ok (.invokevirtual 195, 3) := by decide +kernel
theorem dX7_rowLine_152 : decode cX7_rowLine 152 = .ok (.aload_n 0, 1) := by decide +kernel
theorem dX7_rowLine_153 : decode cX7_rowLine 153 = .ok (.invokevirtual 140, 3) := by decide +kernel
theorem dX7_rowLine_156 : decode cX7_rowLine 156 = .ok (.goto (-95), 3) := by decide +kernel
theorem dX7_rowLine_159 : decode cX7_rowLine 159 = .ok (.return_, 1) := by decide +kernel
set_option maxRecDepth 20000 in
theorem ggX7_line_X7_isWord : GoodIn wsX7_line wsX7_isWord := goodIn_ca (goodIn_r _ [5, 6, 7, 8, 9, 10, 11, 12, 13, 14, 15, 16, 17, 18, 19, 20, 21, 22, 23, 24, 4, 25, 26, 27, 28, 29, 30, 31, 32, 33, 34, 35, 36, 37, 38, 39, 40, 41, 42, 43, 44, 45, 46, 47, 48, 49, 50, 51, 52, 53, 54, 55, 56, 57, 58, 59, 60, 61, 62, 63, 64, 152, 153, 154, 155, 156, 157, 158, 159, 160, 161, 162, 163, 164, 165, 166, 167, 168, 169, 170, 171, 172, 173, 174, 175, 176, 177, 178, 179, 180, 181, 182, 183, 184, 185, 186, 187, 188, 189, 190, 191, 192, 193, 194, 195, 196] (by decide +kernel) (by decide +kernel)) (goodIn_sub (fun _ h => List.mem_cons_of_mem _ (List.mem_append_right _ h)) (by decide +kernel))
set_option maxRecDepth 20000 in
theorem gX7_line_X7_isWord : GoodIn wsX7_line (wsV RX7 132 RX7 yX7_isWord wsX7_isWord) := goodIn_app (goodIn_of _ (by decide +kernel)) ggX7_line_X7_isWord
set_option maxRecDepth 20000 in
theorem ggX7_line_X7_kindLine : GoodIn wsX7_line wsX7_kindLine := goodIn_ca (goodIn_r _ [68, 69, 6, 70, 71, 72, 73, 74, 75, 4, 76, 77, 78, 79, 80, 9, 81, 82, 83, 84, 85, 86, 87, 88, 89, 8, 7, 90, 22, 23, 24, 25, 26, 27, 91, 92, 93, 94, 95, 96, 97, 98, 99, 100, 101, 102, 103, 104, 105, 106, 107, 108, 109, 110, 111, 152, 153, 154, 155, 156, 157, 158, 159, 160, 161, 162, 163, 164, 165, 166, 167, 168, 169, 170, 171, 172, 173, 174, 175, 176, 177, 178, 179, 180, 181, 182, 183, 184, 185, 186, 187, 188, 189, 190, 191, 192] (by decide +kernel) (by decide +kernel)) (goodIn_sub (fun _ h => List.mem_cons_of_mem _ (List.mem_append_right _ h)) (by decide +kernel))
set_option maxRecDepth 20000 in
theorem gX7_line_X7_kindLine : GoodIn wsX7_line (wsV RX7 203 RX7 yX7_kindLine wsX7_kindLine) := goodIn_app (goodIn_of _ (by decide +kernel)) ggX7_line_X7_kindLine
set_option maxRecDepth 20000 in
theorem ggX7_line_X7_rowLine : GoodIn wsX7_line wsX7_rowLine := goodIn_ca (goodIn_r _ [115, 116, 6, 117, 7, 82, 83, 84, 4, 85, 86, 87, 88, 89, 8, 9, 90, 22, 23, 24, 25, 26, 27, 91, 92, 93, 94, 95, 96, 97, 98, 99, 100, 77, 78, 79, 80, 81, 101, 102, 103, 73, 74, 75, 76, 118, 119, 120, 121, 72, 122, 123, 124, 125, 126, 127, 128, 129, 130, 71, 131, 132, 133, 134, 135, 136, 137, 138, 139, 140, 141, 142, 143, 144, 145, 146, 147, 148, 149, 150, 151, 152, 153, 154, 155, 156, 157, 158, 159, 160, 161, 162, 163, 164, 165, 166, 167, 168, 169, 170, 171, 172, 173, 174, 175, 176, 177, 178, 179, 180, 181, 182, 183, 184, 185, 186, 187, 188, 189, 190, 191, 192] (by decide +kernel) (by decide +kernel)) (goodIn_sub (fun _ h => List.mem_cons_of_mem _ (List.mem_append_right _ h)) (by decide +kernel))
set_option maxRecDepth 20000 in
theorem gX7_line_X7_rowLine : GoodIn wsX7_line (wsV RX7 209 RX7 yX7_rowLine wsX7_rowLine) := goodIn_app (goodIn_of _ (by decide +kernel)) ggX7_line_X7_rowLine
set_option maxRecDepth 20000 in
theorem ggX7_line_X7_fails : GoodIn wsX7_line wsX7_fails := goodIn_r _ [80, 6, 9, 81, 152, 153, 154, 155, 156, 157, 158, 159, 160, 161, 162, 163, 164, 165, 166, 167, 168, 169, 170, 171, 172, 173, 174, 175, 176, 177, 178, 179, 180, 181, 182, 183, 184, 185, 186, 187, 188, 189, 190, 191, 192] (by decide +kernel) (by decide +kernel)
set_option maxRecDepth 20000 in
theorem gX7_line_X7_fails : GoodIn wsX7_line (wsV RX7 116 RX7 yX7_fails wsX7_fails) := goodIn_app (goodIn_of _ (by decide +kernel)) ggX7_line_X7_fails
theorem dX7_line_0 : decode cX7_line 0 = .ok (.aload_n 0, 1) := by decide +kernel
theorem dX7_line_1 : decode cX7_line 1 = .ok (.ldc 199, 2) := by decide +kernel
theorem dX7_line_3 : decode cX7_line 3 = .ok (.invokevirtual 132, 3) := by decide +kernel
theorem dX7_line_6 : decode cX7_line 6 = .ok (.ifCond .ne 12, 3) := by decide +kernel
theorem dX7_line_9 : decode cX7_line 9 = .ok (.aload_n 0, 1) := by decide +kernel
theorem dX7_line_10 : decode cX7_line 10 = .ok (.ldc 201, 2) := by decide +kernel
theorem dX7_line_12 : decode cX7_line 12 = .ok (.invokevirtual 132, 3) := by decide +kernel
theorem dX7_line_15 : decode cX7_line 15 = .ok (.ifCond .eq 16, 3) := by decide +kernel
theorem dX7_line_18 : decode cX7_line 18 = .ok (.aload_n 0, 1) := by decide +kernel
theorem dX7_line_19 : decode cX7_line 19 = .ok (.aload_n 0, 1) := by decide +kernel
theorem dX7_line_20 : decode cX7_line 20 = .ok (.ldc 201, 2) := by decide +kernel
theorem dX7_line_22 : decode cX7_line 22 = .ok (.invokevirtual 132, 3) := by decide +kernel
theorem dX7_line_25 : decode cX7_line 25 = .ok (.invokevirtual 203, 3) := by decide +kernel
theorem dX7_line_28 : decode cX7_line 28 = .ok (.goto 24, 3) := by decide +kernel
theorem dX7_line_31 : decode cX7_line 31 = .ok (.aload_n 0, 1) := by decide +kernel
theorem dX7_line_32 : decode cX7_line 32 = .ok (.ldc 207, 2) := by decide +kernel
theorem dX7_line_34 : decode cX7_line 34 = .ok (.invokevirtual 132, 3) := by decide +kernel
theorem dX7_line_37 : decode cX7_line 37 = .ok (.ifCond .eq 10, 3) := by decide +kernel
theorem dX7_line_40 : decode cX7_line 40 = .ok (.aload_n 0, 1) := by decide +kernel
theorem dX7_line_41 : decode cX7_line 41 = .ok (.invokevirtual 209, 3) := by decide +kernel
theorem dX7_line_44 : decode cX7_line 44 = .ok (.goto 8, 3) := by decide +kernel
theorem dX7_line_47 : decode cX7_line 47 = .ok (.aload_n 0, 1) := by decide +kernel
theorem dX7_line_48 : decode cX7_line 48 = .ok (.iconst 1, 1) := by decide +kernel
theorem dX7_line_49 : decode cX7_line 49 = .ok (.invokevirtual 116, 3) := by decide +kernel
theorem dX7_line_52 : decode cX7_line 52 = .ok (.return_, 1) := by decide +kernel
set_option maxRecDepth 20000 in
theorem ggX7_reads_X7_clears : GoodIn wsX7_reads wsX7_clears := goodIn_ca (goodIn_r _ [18, 19, 20, 9, 21, 22, 23, 17, 24, 168, 169, 170, 171, 172, 173, 174, 175, 176, 177, 178, 179, 180, 181, 182, 183, 184, 185, 186, 187, 188, 189, 190, 191, 192, 193, 194, 195, 196, 197, 198, 199, 200, 201, 202, 203, 204, 205, 206, 207, 208] (by decide +kernel) (by decide +kernel)) (goodIn_sub (fun _ h => List.mem_cons_of_mem _ (List.mem_append_right _ h)) (by decide +kernel))
set_option maxRecDepth 20000 in
theorem gX7_reads_X7_clears : GoodIn wsX7_reads (wsV RX7 212 RX7 yX7_clears wsX7_clears) := goodIn_app (goodIn_of _ (by decide +kernel)) ggX7_reads_X7_clears
set_option maxRecDepth 20000 in
theorem ggX7_reads_X7_token : GoodIn wsX7_reads wsX7_token := goodIn_ca (goodIn_r _ [28, 2, 29, 10, 30, 31, 32, 33, 17, 34, 1, 35, 36, 37, 38, 39, 40, 41, 168, 169, 170, 171, 172, 173, 174, 175, 176, 177, 178, 179, 180, 181, 182, 183, 184, 185, 186, 187, 188, 189, 190, 191, 192, 193, 194, 195, 196, 197, 198, 199, 200, 201, 202, 203, 204, 205, 206, 207, 208] (by decide +kernel) (by decide +kernel)) (goodIn_sub (fun _ h => List.mem_cons_of_mem _ (List.mem_append_right _ h)) (by decide +kernel))
set_option maxRecDepth 20000 in
theorem gX7_reads_X7_token : GoodIn wsX7_reads (wsV RX7 120 RX7 yX7_token wsX7_token) := goodIn_app (goodIn_of _ (by decide +kernel)) ggX7_reads_X7_token
set_option maxRecDepth 20000 in
theorem ggX7_reads_X7_word : GoodIn wsX7_reads wsX7_word := goodIn_ca (goodIn_r _ [45, 46, 47, 48, 17, 49, 3, 10, 2, 29, 50, 51, 52, 53, 54, 55, 56, 57, 58, 59, 60, 61, 31, 32, 33, 34, 1, 35, 62, 63, 64, 65, 66, 67, 68, 69, 70, 71, 72, 73, 74, 75, 76, 77, 78, 79, 80, 81, 82, 83, 84, 85, 86, 87, 88, 89, 90, 91, 92, 93, 94, 95, 96, 97, 98, 99, 100, 101, 102, 103, 104, 105, 106, 4, 107, 108, 109, 110, 25, 26, 27, 28, 30, 36, 37, 38, 39, 40, 41, 168, 169, 170, 171, 172, 173, 174, 175, 176, 177, 178, 179, 180, 181, 182, 183, 184, 185, 186, 187, 188, 189, 190, 191, 192, 193, 194, 195, 196, 197, 198, 199, 200, 201, 202, 203, 204, 205, 206, 207, 208, 209, 210, 211, 212] (by decide +kernel) (by decide +kernel)) (goodIn_sub (fun _ h => List.mem_cons_of_mem _ (List.mem_append_right _ h)) (by decide +kernel))
set_option maxRecDepth 20000 in
theorem gX7_reads_X7_word : GoodIn wsX7_reads (wsV RX7 217 RX7 yX7_word wsX7_word) := goodIn_app (goodIn_of _ (by decide +kernel)) ggX7_reads_X7_word
set_option maxRecDepth 20000 in
theorem ggX7_reads_X7_takes : GoodIn wsX7_reads wsX7_takes := goodIn_ca (goodIn_r _ [114, 115, 116, 117, 17, 118, 10, 30, 3, 103, 104, 105, 106, 29, 4, 119, 120, 121, 107, 108, 109, 110, 25, 26, 27, 28, 2, 31, 32, 33, 34, 1, 35, 36, 37, 38, 39, 40, 41, 168, 169, 170, 171, 172, 173, 174, 175, 176, 177, 178, 179, 180, 181, 182, 183, 184, 185, 186, 187, 188, 189, 190, 191, 192, 193, 194, 195, 196, 197, 198, 199, 200, 201, 202, 203, 204, 205, 206, 207, 208] (by decide +kernel) (by decide +kernel)) (goodIn_sub (fun _ h => List.mem_cons_of_mem _ (List.mem_append_right _ h)) (by decide +kernel))
set_option maxRecDepth 20000 in
theorem gX7_reads_X7_takes : GoodIn wsX7_reads (wsV RX7 186 RX7 yX7_takes wsX7_takes) := goodIn_app (goodIn_of _ (by decide +kernel)) ggX7_reads_X7_takes
set_option maxRecDepth 20000 in
theorem ggX7_reads_X7_failsIf : GoodIn wsX7_reads wsX7_failsIf := goodIn_r _ [102, 103, 104, 105, 17, 106, 3, 29, 4, 168, 169, 170, 171, 172, 173, 174, 175, 176, 177, 178, 179, 180, 181, 182, 183, 184, 185, 186, 187, 188, 189, 190, 191, 192, 193, 194, 195, 196, 197, 198, 199, 200, 201, 202, 203, 204, 205, 206, 207, 208] (by decide +kernel) (by decide +kernel)
set_option maxRecDepth 20000 in
theorem gX7_reads_X7_failsIf : GoodIn wsX7_reads (wsV RX7 136 RX7 yX7_failsIf wsX7_failsIf) := goodIn_app (goodIn_of _ (by decide +kernel)) ggX7_reads_X7_failsIf
set_option maxRecDepth 20000 in
theorem ggX7_reads_X7_goesOn : GoodIn wsX7_reads wsX7_goesOn := goodIn_ca (goodIn_r _ [110, 3, 25, 26, 27, 17, 28, 2, 29, 10, 30, 31, 32, 33, 34, 1, 35, 36, 37, 38, 39, 40, 41, 168, 169, 170, 171, 172, 173, 174, 175, 176, 177, 178, 179, 180, 181, 182, 183, 184, 185, 186, 187, 188, 189, 190, 191, 192, 193, 194, 195, 196, 197, 198, 199, 200, 201, 202, 203, 204, 205, 206, 207, 208] (by decide +kernel) (by decide +kernel)) (goodIn_sub (fun _ h => List.mem_cons_of_mem _ (List.mem_append_right _ h)) (by decide +kernel))
set_option maxRecDepth 20000 in
theorem gX7_reads_X7_goesOn : GoodIn wsX7_reads (wsV RX7 140 RX7 yX7_goesOn wsX7_goesOn) := goodIn_app (goodIn_of _ (by decide +kernel)) ggX7_reads_X7_goesOn
set_option maxRecDepth 20000 in
theorem ggX7_reads_X7_line : GoodIn wsX7_reads wsX7_line := goodIn_ca (goodIn_r _ [125, 46, 47, 48, 17, 49, 3, 10, 2, 29, 50, 51, 52, 53, 54, 55, 56, 57, 58, 59, 60, 61, 31, 32, 33, 34, 1, 35, 62, 63, 64, 65, 66, 67, 68, 69, 70, 71, 72, 73, 74, 75, 76, 77, 78, 79, 80, 81, 82, 83, 84, 85, 86, 87, 88, 89, 90, 91, 92, 93, 94, 95, 96, 97, 98, 126, 127, 128, 129, 19, 130, 131, 9, 99, 100, 101, 102, 103, 104, 105, 106, 4, 107, 108, 109, 110, 25, 26, 27, 28, 30, 36, 37, 38, 39, 40, 41, 115, 116, 117, 118, 119, 120, 121, 132, 133, 134, 135, 111, 112, 113, 114, 136, 137, 138, 139, 6, 20, 140, 141, 142, 143, 144, 145, 146, 147, 5, 148, 149, 150, 151, 152, 153, 154, 155, 156, 157, 158, 159, 7, 160, 161, 162, 163, 164, 165, 166, 167, 21, 22, 23, 24, 168, 169, 170, 171, 172, 173, 174, 175, 176, 177, 178, 179, 180, 181, 182, 183, 184, 185, 186, 187, 188, 189, 190, 191, 192, 193, 194, 195, 196, 197, 198, 199, 200, 201, 202, 203, 204, 205, 206, 207, 208, 209, 210, 211, 212] (by decide +kernel) (by decide +kernel)) (goodIn_sub (fun _ h => List.mem_cons_of_mem _ (List.mem_append_right _ h)) (by decide +kernel))
set_option maxRecDepth 20000 in
theorem gX7_reads_X7_line : GoodIn wsX7_reads (wsV RX7 223 RX7 yX7_line wsX7_line) := goodIn_app (goodIn_of _ (by decide +kernel)) ggX7_reads_X7_line
theorem dX7_reads_0 : decode cX7_reads 0 = .ok (.aload_n 0, 1) := by decide +kernel
theorem dX7_reads_1 : decode cX7_reads 1 = .ok (.iload_n 1, 1) := by decide +kernel
theorem dX7_reads_2 : decode cX7_reads 2 = .ok (.putfield 84, 3) := by decide +kernel
theorem dX7_reads_5 : decode cX7_reads 5 = .ok (.aload_n 0, 1) := by decide +kernel
theorem dX7_reads_6 : decode cX7_reads 6 = .ok (.iconst 0, 1) := by decide +kernel
theorem dX7_reads_7 : decode cX7_reads 7 = .ok (.putfield 87, 3) := by decide +kernel
theorem dX7_reads_10 : decode cX7_reads 10 = .ok (.aload_n 0, 1) := by decide +kernel
theorem dX7_reads_11 : decode cX7_reads 11 = .ok (.iconst 0, 1) := by decide +kernel
theorem dX7_reads_12 : decode cX7_reads 12 = .ok (.putfield 110, 3) := by decide +kernel
theorem dX7_reads_15 : decode cX7_reads 15 = .ok (.aload_n 0, 1) := by decide +kernel
theorem dX7_reads_16 : decode cX7_reads 16 = .ok (.iconst (-1), 1) := by decide +kernel
theorem dX7_reads_17 : decode cX7_reads 17 = .ok (.putfield 113, 3) := by decide +kernel
theorem dX7_reads_20 : decode cX7_reads 20 = .ok (.aload_n 0, 1) := by decide +kernel
theorem dX7_reads_21 : decode cX7_reads 21 = .ok (.invokevirtual 212, 3) := by decide +kernel
theorem dX7_reads_24 : decode cX7_reads 24 = .ok (.aload_n 0, 1) := by decide +kernel
theorem dX7_reads_25 : decode cX7_reads 25 = .ok (.invokevirtual 120, 3) := by decide +kernel
theorem dX7_reads_28 : decode cX7_reads 28 = .ok (.aload_n 0, 1) := by decide +kernel
theorem dX7_reads_29 : decode cX7_reads 29 = .ok (.ldc 215, 2) := by decide +kernel
theorem dX7_reads_31 : decode cX7_reads 31 = .ok (.invokevirtual 217, 3) := by decide +kernel
theorem dX7_reads_34 : decode cX7_reads 34 = .ok (.aload_n 0, 1) := by decide +kernel
theorem dX7_reads_35 : decode cX7_reads 35 = .ok (.aload_n 0, 1) := by decide +kernel
theorem dX7_reads_36 : decode cX7_reads 36 = .ok (.bipush 10, 2) := by decide +kernel
theorem dX7_reads_38 : decode cX7_reads 38 = .ok (.sipush 500, 3) := by decide +kernel
theorem dX7_reads_41 : decode cX7_reads 41 = .ok (.invokevirtual 186, 3) := by decide +kernel
theorem dX7_reads_44 : decode cX7_reads 44 = .ok (.putfield 151, 3) := by decide +kernel
theorem dX7_reads_47 : decode cX7_reads 47 = .ok (.aload_n 0, 1) := by decide +kernel
theorem dX7_reads_48 : decode cX7_reads 48 = .ok (.aload_n 0, 1) := by decide +kernel
theorem dX7_reads_49 : decode cX7_reads 49 = .ok (.iconst 1, 1) := by decide +kernel
theorem dX7_reads_50 : decode cX7_reads 50 = .ok (.bipush 8, 2) := by decide +kernel
theorem dX7_reads_52 : decode cX7_reads 52 = .ok (.invokevirtual 186, 3) := by decide +kernel
theorem dX7_reads_55 : decode cX7_reads 55 = .ok (.putfield 154, 3) := by decide +kernel
theorem dX7_reads_58 : decode cX7_reads 58 = .ok (.aload_n 0, 1) := by decide +kernel
theorem dX7_reads_59 : decode cX7_reads 59 = .ok (.aload_n 0, 1) := by decide +kernel
theorem dX7_reads_60 : decode cX7_reads 60 = .ok (.iconst 1, 1) := by decide +kernel
theorem dX7_reads_61 : decode cX7_reads 61 = .ok (.bipush 50, 2) := by decide +kernel
theorem dX7_reads_63 : decode cX7_reads 63 = .ok (.invokevirtual 186, 3) := by decide +kernel
theorem dX7_reads_66 : decode cX7_reads 66 = .ok (.putfield 157, 3) := by decide +kernel
theorem dX7_reads_69 : decode cX7_reads 69 = .ok (.aload_n 0, 1) := by decide +kernel
theorem dX7_reads_70 : decode cX7_reads 70 = .ok (.aload_n 0, 1) := by decide +kernel
theorem dX7_reads_71 : decode cX7_reads 71 = .ok (.iconst 0, 1) := by decide +kernel
theorem dX7_reads_72 : decode cX7_reads 72 = .ok (.bipush 20, 2) := by decide +kernel
theorem dX7_reads_74 : decode cX7_reads 74 = .ok (.invokevirtual 186, 3) := by decide +kernel
theorem dX7_reads_77 : decode cX7_reads 77 = .ok (.putfield 160, 3) := by decide +kernel
theorem dX7_reads_80 : decode cX7_reads 80 = .ok (.aload_n 0, 1) := by decide +kernel
theorem dX7_reads_81 : decode cX7_reads 81 = .ok (.getfield 17, 3) := by decide +kernel
theorem dX7_reads_84 : decode cX7_reads 84 = .ok (.iconst 0, 1) := by decide +kernel
theorem dX7_reads_85 : decode cX7_reads 85 = .ok (.aload_n 0, 1) := by decide +kernel
theorem dX7_reads_86 : decode cX7_reads 86 = .ok (.iconst 0, 1) := by decide +kernel
theorem dX7_reads_87 : decode cX7_reads 87 = .ok (.bipush 20, 2) := by decide +kernel
theorem dX7_reads_89 : decode cX7_reads 89 = .ok (.invokevirtual 186, 3) := by decide +kernel
theorem dX7_reads_92 : decode cX7_reads 92 = .ok (.iastore, 1) := by decide +kernel
theorem dX7_reads_93 : decode cX7_reads 93 = .ok (.aload_n 0, 1) := by decide +kernel
theorem dX7_reads_94 : decode cX7_reads 94 = .ok (.aload_n 0, 1) := by decide +kernel
theorem dX7_reads_95 : decode cX7_reads 95 = .ok (.getfield 110, 3) := by decide +kernel
theorem dX7_reads_98 : decode cX7_reads 98 = .ok (.ifCond .ne 15, 3) := by decide +kernel
theorem dX7_reads_101 : decode cX7_reads 101 = .ok (.aload_n 0, 1) := by decide +kernel
theorem dX7_reads_102 : decode cX7_reads 102 = .ok (.getfield 97, 3) := by decide +kernel
theorem dX7_reads_105 : decode cX7_reads 105 = .ok (.iconst 3, 1) := by decide +kernel
theorem dX7_reads_106 : decode cX7_reads 106 = .ok (.if_icmp .eq 7, 3) := by decide +kernel
theorem dX7_reads_109 : decode cX7_reads 109 = .ok (.iconst 1, 1) := by decide +kernel
theorem dX7_reads_110 : decode cX7_reads 110 = .ok (.goto 4, 3) := by decide +kernel
theorem dX7_reads_113 : decode cX7_reads 113 = .ok (.iconst 0, 1) := by decide +kernel
theorem dX7_reads_114 : decode cX7_reads 114 = .ok (.iconst 1, 1) := by decide +kernel
theorem dX7_reads_115 : decode cX7_reads 115 = .ok (.invokevirtual 136, 3) := by decide +kernel
theorem dX7_reads_118 : decode cX7_reads 118 = .ok (.aload_n 0, 1) := by decide +kernel
theorem dX7_reads_119 : decode cX7_reads 119 = .ok (.invokevirtual 140, 3) := by decide +kernel
theorem dX7_reads_122 : decode cX7_reads 122 = .ok (.aload_n 0, 1) := by decide +kernel
theorem dX7_reads_123 : decode cX7_reads 123 = .ok (.ldc 221, 2) := by decide +kernel
theorem dX7_reads_125 : decode cX7_reads 125 = .ok (.invokevirtual 217, 3) := by decide +kernel
theorem dX7_reads_128 : decode cX7_reads 128 = .ok (.aload_n 0, 1) := by decide +kernel
theorem dX7_reads_129 : decode cX7_reads 129 = .ok (.aload_n 0, 1) := by decide +kernel
theorem dX7_reads_130 : decode cX7_reads 130 = .ok (.iconst 0, 1) := by decide +kernel
theorem dX7_reads_131 : decode cX7_reads 131 = .ok (.bipush 9, 2) := by decide +kernel
theorem dX7_reads_133 : decode cX7_reads 133 = .ok (.invokevirtual 186, 3) := by decide +kernel
theorem dX7_reads_136 : decode cX7_reads 136 = .ok (.putfield 163, 3) := by decide +kernel
theorem dX7_reads_139 : decode cX7_reads 139 = .ok (.aload_n 0, 1) := by decide +kernel
theorem dX7_reads_140 : decode cX7_reads 140 = .ok (.aload_n 0, 1) := by decide +kernel
theorem dX7_reads_141 : decode cX7_reads 141 = .ok (.iconst 0, 1) := by decide +kernel
theorem dX7_reads_142 : decode cX7_reads 142 = .ok (.bipush 9, 2) := by decide +kernel
theorem dX7_reads_144 : decode cX7_reads 144 = .ok (.invokevirtual 186, 3) := by decide +kernel
theorem dX7_reads_147 : decode cX7_reads 147 = .ok (.putfield 166, 3) := by decide +kernel
theorem dX7_reads_150 : decode cX7_reads 150 = .ok (.aload_n 0, 1) := by decide +kernel
theorem dX7_reads_151 : decode cX7_reads 151 = .ok (.aload_n 0, 1) := by decide +kernel
theorem dX7_reads_152 : decode cX7_reads 152 = .ok (.iconst 1, 1) := by decide +kernel
theorem dX7_reads_153 : decode cX7_reads 153 = .ok (.sipush 999, 3) := by decide +kernel
theorem dX7_reads_156 : decode cX7_reads 156 = .ok (.invokevirtual 186, 3) := by decide +kernel
theorem dX7_reads_159 : decode cX7_reads 159 = .ok (.putfield 169, 3) := by decide +kernel
theorem dX7_reads_162 : decode cX7_reads 162 = .ok (.aload_n 0, 1) := by decide +kernel
theorem dX7_reads_163 : decode cX7_reads 163 = .ok (.getfield 110, 3) := by decide +kernel
theorem dX7_reads_166 : decode cX7_reads 166 = .ok (.ifCond .ne 22, 3) := by decide +kernel
theorem dX7_reads_169 : decode cX7_reads 169 = .ok (.aload_n 0, 1) := by decide +kernel
theorem dX7_reads_170 : decode cX7_reads 170 = .ok (.getfield 97, 3) := by decide +kernel
theorem dX7_reads_173 : decode cX7_reads 173 = .ok (.iconst 3, 1) := by decide +kernel
theorem dX7_reads_174 : decode cX7_reads 174 = .ok (.if_icmp .ne 14, 3) := by decide +kernel
theorem dX7_reads_177 : decode cX7_reads 177 = .ok (.aload_n 0, 1) := by decide +kernel
theorem dX7_reads_178 : decode cX7_reads 178 = .ok (.invokevirtual 120, 3) := by decide +kernel
theorem dX7_reads_181 : decode cX7_reads 181 = .ok (.aload_n 0, 1) := by decide +kernel
theorem dX7_reads_182 : decode cX7_reads 182 = .ok (.invokevirtual 223, 3) := by decide +kernel
theorem dX7_reads_185 : decode cX7_reads 185 = .ok (.goto (-23), 3) := by decide +kernel
theorem dX7_reads_188 : decode cX7_reads 188 = .ok (.aload_n 0, 1) := by decide +kernel
theorem dX7_reads_189 : decode cX7_reads 189 = .ok (.aload_n 0, 1) := by decide +kernel
theorem dX7_reads_190 : decode cX7_reads 190 = .ok (.getfield 97, 3) := by decide +kernel
theorem dX7_reads_193 : decode cX7_reads 193 = .ok (.ifCond .eq 7, 3) := by decide +kernel
theorem dX7_reads_196 : decode cX7_reads 196 = .ok (.iconst 1, 1) := by decide +kernel
theorem dX7_reads_197 : decode cX7_reads 197 = .ok (.goto 4, 3) := by decide +kernel
theorem dX7_reads_200 : decode cX7_reads 200 = .ok (.iconst 0, 1) := by decide +kernel
theorem dX7_reads_201 : decode cX7_reads 201 = .ok (.iconst 1, 1) := by decide +kernel
theorem dX7_reads_202 : decode cX7_reads 202 = .ok (.invokevirtual 136, 3) := by decide +kernel
theorem dX7_reads_205 : decode cX7_reads 205 = .ok (.return_, 1) := by decide +kernel
set_option maxRecDepth 20000 in
theorem ggX7_load_X7_in : GoodIn wsX7_load wsX7_in := goodIn_r _ [14] (by decide +kernel) (by decide +kernel)
set_option maxRecDepth 20000 in
theorem gX7_load_X7_in : GoodIn wsX7_load (va_wsS RX7 143 yX7_in wsX7_in) := goodIn_app (goodIn_of _ (by decide +kernel)) ggX7_load_X7_in
set_option maxRecDepth 20000 in
theorem ggX7_load_X7_refuse : GoodIn wsX7_load wsX7_refuse := goodIn_r _ [18, 1, 195, 196, 197, 198, 199, 200, 201, 202, 203, 204, 205, 206, 207, 208, 209, 210, 211, 212, 213, 214, 215, 216, 217, 218, 219, 220, 221, 222, 223, 224, 225, 226, 227, 228, 229, 230, 231, 232, 233, 234, 235] (by decide +kernel) (by decide +kernel)
set_option maxRecDepth 20000 in
theorem gX7_load_X7_refuse : GoodIn wsX7_load (wsV RX7 74 RX7 yX7_refuse wsX7_refuse) := goodIn_app (goodIn_of _ (by decide +kernel)) ggX7_load_X7_refuse
set_option maxRecDepth 20000 in
theorem ggX7_load_X7_holds : GoodIn wsX7_load wsX7_holds := goodIn_ca (goodIn_r _ [22, 23, 24, 25, 26, 27, 28, 29, 30, 31, 32, 33, 34, 35, 36, 10, 195, 196, 197, 198, 199, 200, 201, 202, 203, 204, 205, 206, 207, 208, 209, 210, 211, 212, 213, 214, 215, 216, 217, 218, 219, 220, 221, 222, 223, 224, 225, 226, 227, 228, 229, 230, 231, 232, 233, 234, 235] (by decide +kernel) (by decide +kernel)) (goodIn_sub (fun _ h => List.mem_cons_of_mem _ (List.mem_append_right _ h)) (by decide +kernel))
set_option maxRecDepth 20000 in
theorem gX7_load_X7_holds : GoodIn wsX7_load (wsV RX7 226 RX7 yX7_holds wsX7_holds) := goodIn_app (goodIn_of _ (by decide +kernel)) ggX7_load_X7_holds
set_option maxRecDepth 20000 in
theorem ggX7_load_X7_reads : GoodIn wsX7_load wsX7_reads := goodIn_ca (goodIn_r _ [40, 41, 42, 3, 5, 30, 31, 32, 33, 24, 43, 34, 35, 36, 44, 45, 46, 13, 47, 10, 48, 49, 50, 51, 52, 53, 54, 55, 56, 57, 58, 59, 60, 61, 62, 63, 64, 65, 66, 67, 68, 69, 70, 71, 72, 73, 74, 75, 76, 77, 78, 79, 80, 81, 82, 83, 84, 85, 86, 87, 88, 89, 90, 91, 92, 93, 94, 95, 96, 97, 98, 99, 100, 101, 102, 103, 104, 105, 106, 107, 108, 109, 110, 111, 112, 113, 114, 115, 116, 117, 118, 119, 120, 121, 122, 123, 124, 125, 126, 127, 128, 129, 130, 131, 132, 133, 134, 135, 136, 137, 138, 139, 140, 141, 142, 143, 144, 145, 146, 11, 12, 14, 147, 148, 149, 150, 151, 152, 153, 154, 28, 26, 155, 156, 157, 158, 159, 160, 161, 162, 163, 164, 165, 166, 167, 168, 169, 170, 171, 172, 173, 174, 175, 176, 177, 178, 179, 180, 181, 182, 183, 184, 185, 186, 187, 188, 189, 190, 195, 196, 197, 198, 199, 200, 201, 202, 203, 204, 205, 206, 207, 208, 209, 210, 211, 212, 213, 214, 215, 216, 217, 218, 219, 220, 221, 222, 223, 224, 225, 226, 227, 228, 229, 230, 231, 232, 233, 234, 235, 236, 237, 238, 239] (by decide +kernel) (by decide +kernel)) (goodIn_sub (fun _ h => List.mem_cons_of_mem _ (List.mem_append_right _ h)) (by decide +kernel))
set_option maxRecDepth 20000 in
theorem gX7_load_X7_reads : GoodIn wsX7_load (wsV RX7 229 RX7 yX7_reads wsX7_reads) := goodIn_app (goodIn_of _ (by decide +kernel)) ggX7_load_X7_reads
set_option maxRecDepth 20000 in
theorem ggX7_load_X7_laysBack : GoodIn wsX7_load wsX7_laysBack := goodIn_ca (goodIn_r _ [194, 24, 23, 26, 25, 28, 27, 29, 30, 31, 32, 33, 34, 35, 36, 10, 195, 196, 197, 198, 199, 200, 201, 202, 203, 204, 205, 206, 207, 208, 209, 210, 211, 212, 213, 214, 215, 216, 217, 218, 219, 220, 221, 222, 223, 224, 225, 226, 227, 228, 229, 230, 231, 232, 233, 234, 235] (by decide +kernel) (by decide +kernel)) (goodIn_sub (fun _ h => List.mem_cons_of_mem _ (List.mem_append_right _ h)) (by decide +kernel))
set_option maxRecDepth 20000 in
theorem gX7_load_X7_laysBack : GoodIn wsX7_load (wsV RX7 232 RX7 yX7_laysBack wsX7_laysBack) := goodIn_app (goodIn_of _ (by decide +kernel)) ggX7_load_X7_laysBack
theorem dX7_load_0 : decode cX7_load 0 = .ok (.aload_n 0, 1) := by decide +kernel
theorem dX7_load_1 : decode cX7_load 1 = .ok (.iconst 0, 1) := by decide +kernel
theorem dX7_load_2 : decode cX7_load 2 = .ok (.putfield 67, 3) := by decide +kernel
theorem dX7_load_5 : decode cX7_load 5 = .ok (.aload_n 0, 1) := by decide +kernel
theorem dX7_load_6 : decode cX7_load 6 = .ok (.iload_n 1, 1) := by decide +kernel
theorem dX7_load_7 : decode cX7_load 7 = .ok (.iconst 0, 1) := by decide +kernel
theorem dX7_load_8 : decode cX7_load 8 = .ok (.aload_n 0, 1) := by decide +kernel
theorem dX7_load_9 : decode cX7_load 9 = .ok (.getfield 78, 3) := by decide +kernel
theorem dX7_load_12 : decode cX7_load 12 = .ok (.invokestatic 143, 3) := by decide +kernel
theorem dX7_load_15 : decode cX7_load 15 = .ok (.ifCond .ne 7, 3) := by decide +kernel
theorem dX7_load_18 : decode cX7_load 18 = .ok (.iconst 1, 1) := by decide +kernel
theorem dX7_load_19 : decode cX7_load 19 = .ok (.goto 4, 3) := by decide +kernel
theorem dX7_load_22 : decode cX7_load 22 = .ok (.iconst 0, 1) := by decide +kernel
theorem dX7_load_23 : decode cX7_load 23 = .ok (.iconst 1, 1) := by decide +kernel
theorem dX7_load_24 : decode cX7_load 24 = .ok (.invokevirtual 74, 3) := by decide +kernel
theorem dX7_load_27 : decode cX7_load 27 = .ok (.ifCond .eq 5, 3) := by decide +kernel
theorem dX7_load_30 : decode cX7_load 30 = .ok (.iconst 0, 1) := by decide +kernel
theorem dX7_load_31 : decode cX7_load 31 = .ok (.ireturn, 1) := by decide +kernel
theorem dX7_load_32 : decode cX7_load 32 = .ok (.aload_n 0, 1) := by decide +kernel
theorem dX7_load_33 : decode cX7_load 33 = .ok (.iconst 0, 1) := by decide +kernel
theorem dX7_load_34 : decode cX7_load 34 = .ok (.putfield 78, 3) := by decide +kernel
theorem dX7_load_37 : decode cX7_load 37 = .ok (.aload_n 0, 1) := by decide +kernel
theorem dX7_load_38 : decode cX7_load 38 = .ok (.invokevirtual 226, 3) := by decide +kernel
theorem dX7_load_41 : decode cX7_load 41 = .ok (.aload_n 0, 1) := by decide +kernel
theorem dX7_load_42 : decode cX7_load 42 = .ok (.iload_n 1, 1) := by decide +kernel
theorem dX7_load_43 : decode cX7_load 43 = .ok (.invokevirtual 229, 3) := by decide +kernel
theorem dX7_load_46 : decode cX7_load 46 = .ok (.aload_n 0, 1) := by decide +kernel
theorem dX7_load_47 : decode cX7_load 47 = .ok (.aload_n 0, 1) := by decide +kernel
theorem dX7_load_48 : decode cX7_load 48 = .ok (.getfield 110, 3) := by decide +kernel
theorem dX7_load_51 : decode cX7_load 51 = .ok (.putfield 81, 3) := by decide +kernel
theorem dX7_load_54 : decode cX7_load 54 = .ok (.aload_n 0, 1) := by decide +kernel
theorem dX7_load_55 : decode cX7_load 55 = .ok (.aload_n 0, 1) := by decide +kernel
theorem dX7_load_56 : decode cX7_load 56 = .ok (.getfield 110, 3) := by decide +kernel
theorem dX7_load_59 : decode cX7_load 59 = .ok (.ifCond .ne 7, 3) := by decide +kernel
theorem dX7_load_62 : decode cX7_load 62 = .ok (.iconst (-1), 1) := by decide +kernel
theorem dX7_load_63 : decode cX7_load 63 = .ok (.goto 7, 3) := by decide +kernel
theorem dX7_load_66 : decode cX7_load 66 = .ok (.aload_n 0, 1) := by decide +kernel
theorem dX7_load_67 : decode cX7_load 67 = .ok (.getfield 113, 3) := by decide +kernel
theorem dX7_load_70 : decode cX7_load 70 = .ok (.putfield 33, 3) := by decide +kernel
theorem dX7_load_73 : decode cX7_load 73 = .ok (.aload_n 0, 1) := by decide +kernel
theorem dX7_load_74 : decode cX7_load 74 = .ok (.aload_n 0, 1) := by decide +kernel
theorem dX7_load_75 : decode cX7_load 75 = .ok (.getfield 110, 3) := by decide +kernel
theorem dX7_load_78 : decode cX7_load 78 = .ok (.ifCond .eq 7, 3) := by decide +kernel
theorem dX7_load_81 : decode cX7_load 81 = .ok (.iconst 1, 1) := by decide +kernel
theorem dX7_load_82 : decode cX7_load 82 = .ok (.goto 4, 3) := by decide +kernel
theorem dX7_load_85 : decode cX7_load 85 = .ok (.iconst 0, 1) := by decide +kernel
theorem dX7_load_86 : decode cX7_load 86 = .ok (.iconst 2, 1) := by decide +kernel
theorem dX7_load_87 : decode cX7_load 87 = .ok (.invokevirtual 74, 3) := by decide +kernel
theorem dX7_load_90 : decode cX7_load 90 = .ok (.ifCond .eq 9, 3) := by decide +kernel
theorem dX7_load_93 : decode cX7_load 93 = .ok (.aload_n 0, 1) := by decide +kernel
theorem dX7_load_94 : decode cX7_load 94 = .ok (.invokevirtual 232, 3) := by decide +kernel
theorem dX7_load_97 : decode cX7_load 97 = .ok (.iconst 0, 1) := by decide +kernel
theorem dX7_load_98 : decode cX7_load 98 = .ok (.ireturn, 1) := by decide +kernel
theorem dX7_load_99 : decode cX7_load 99 = .ok (.aload_n 0, 1) := by decide +kernel
theorem dX7_load_100 : decode cX7_load 100 = .ok (.iconst 1, 1) := by decide +kernel
theorem dX7_load_101 : decode cX7_load 101 = .ok (.putfield 70, 3) := by decide +kernel
theorem dX7_load_104 : decode cX7_load 104 = .ok (.aload_n 0, 1) := by decide +kernel
theorem dX7_load_105 : decode cX7_load 105 = .ok (.iconst 0, 1) := by decide +kernel
theorem dX7_load_106 : decode cX7_load 106 = .ok (.putfield 235, 3) := by decide +kernel
theorem dX7_load_109 : decode cX7_load 109 = .ok (.aload_n 0, 1) := by decide +kernel
theorem dX7_load_110 : decode cX7_load 110 = .ok (.getfield 27, 3) := by decide +kernel
theorem dX7_load_113 : decode cX7_load 113 = .ok (.iconst 0, 1) := by decide +kernel
theorem dX7_load_114 : decode cX7_load 114 = .ok (.iconst 0, 1) := by decide +kernel
theorem dX7_load_115 : decode cX7_load 115 = .ok (.bastore, 1) := by decide +kernel
theorem dX7_load_116 : decode cX7_load 116 = .ok (.aload_n 0, 1) := by decide +kernel
theorem dX7_load_117 : decode cX7_load 117 = .ok (.getfield 27, 3) := by decide +kernel
theorem dX7_load_120 : decode cX7_load 120 = .ok (.iconst 1, 1) := by decide +kernel
theorem dX7_load_121 : decode cX7_load 121 = .ok (.iconst 0, 1) := by decide +kernel
theorem dX7_load_122 : decode cX7_load 122 = .ok (.bastore, 1) := by decide +kernel
theorem dX7_load_123 : decode cX7_load 123 = .ok (.aload_n 0, 1) := by decide +kernel
theorem dX7_load_124 : decode cX7_load 124 = .ok (.getfield 172, 3) := by decide +kernel
theorem dX7_load_127 : decode cX7_load 127 = .ok (.ireturn, 1) := by decide +kernel
theorem dX7_of_0 : decode cX7_of 0 = .ok (.aload_n 0, 1) := by decide +kernel
theorem dX7_of_1 : decode cX7_of 1 = .ok (.getfield 17, 3) := by decide +kernel
theorem dX7_of_4 : decode cX7_of 4 = .ok (.bipush 16, 2) := by decide +kernel
theorem dX7_of_6 : decode cX7_of 6 = .ok (.sipush 512, 3) := by decide +kernel
theorem dX7_of_9 : decode cX7_of 9 = .ok (.iload_n 1, 1) := by decide +kernel
theorem dX7_of_10 : decode cX7_of 10 = .ok (.imul, 1) := by decide +kernel
theorem dX7_of_11 : decode cX7_of 11 = .ok (.iadd, 1) := by decide +kernel
theorem dX7_of_12 : decode cX7_of 12 = .ok (.iload_n 2, 1) := by decide +kernel
theorem dX7_of_13 : decode cX7_of 13 = .ok (.iadd, 1) := by decide +kernel
theorem dX7_of_14 : decode cX7_of 14 = .ok (.iaload, 1) := by decide +kernel
theorem dX7_of_15 : decode cX7_of 15 = .ok (.ireturn, 1) := by decide +kernel
theorem dX7_puts_0 : decode cX7_puts 0 = .ok (.aload_n 0, 1) := by decide +kernel
theorem dX7_puts_1 : decode cX7_puts 1 = .ok (.getfield 17, 3) := by decide +kernel
theorem dX7_puts_4 : decode cX7_puts 4 = .ok (.bipush 16, 2) := by decide +kernel
theorem dX7_puts_6 : decode cX7_puts 6 = .ok (.sipush 512, 3) := by decide +kernel
theorem dX7_puts_9 : decode cX7_puts 9 = .ok (.iload_n 1, 1) := by decide +kernel
theorem dX7_puts_10 : decode cX7_puts 10 = .ok (.imul, 1) := by decide +kernel
theorem dX7_puts_11 : decode cX7_puts 11 = .ok (.iadd, 1) := by decide +kernel
theorem dX7_puts_12 : decode cX7_puts 12 = .ok (.iload_n 2, 1) := by decide +kernel
theorem dX7_puts_13 : decode cX7_puts 13 = .ok (.iadd, 1) := by decide +kernel
theorem dX7_puts_14 : decode cX7_puts 14 = .ok (.iload_n 3, 1) := by decide +kernel
theorem dX7_puts_15 : decode cX7_puts 15 = .ok (.iastore, 1) := by decide +kernel
theorem dX7_puts_16 : decode cX7_puts 16 = .ok (.return_, 1) := by decide +kernel
set_option maxRecDepth 20000 in
theorem ggX7_hasQuoin_X7_of : GoodIn wsX7_hasQuoin wsX7_of := goodIn_ca (goodIn_r _ [5, 6, 7, 8, 9, 10, 11, 12, 13, 14, 15, 16, 17, 18, 19, 20, 21, 22, 23, 24, 25, 26, 27, 28, 29, 30, 31, 32, 33, 34, 35, 36, 37, 38, 39, 40, 41, 42, 43, 44, 45, 46, 47] (by decide +kernel) (by decide +kernel)) (goodIn_sub (fun _ h => List.mem_cons_of_mem _ (List.mem_append_right _ h)) (by decide +kernel))
set_option maxRecDepth 20000 in
theorem gX7_hasQuoin_X7_of : GoodIn wsX7_hasQuoin (wsV RX7 189 RX7 yX7_of wsX7_of) := goodIn_app (goodIn_of _ (by decide +kernel)) ggX7_hasQuoin_X7_of
theorem dX7_hasQuoin_0 : decode cX7_hasQuoin 0 = .ok (.aload_n 0, 1) := by decide +kernel
theorem dX7_hasQuoin_1 : decode cX7_hasQuoin 1 = .ok (.iload_n 1, 1) := by decide +kernel
theorem dX7_hasQuoin_2 : decode cX7_hasQuoin 2 = .ok (.iconst 2, 1) := by decide +kernel
theorem dX7_hasQuoin_3 : decode cX7_hasQuoin 3 = .ok (.invokevirtual 189, 3) := by decide +kernel
theorem dX7_hasQuoin_6 : decode cX7_hasQuoin 6 = .ok (.iconst (-1), 1) := by decide +kernel
theorem dX7_hasQuoin_7 : decode cX7_hasQuoin 7 = .ok (.if_icmp .eq 7, 3) := by decide +kernel
theorem dX7_hasQuoin_10 : decode cX7_hasQuoin 10 = .ok (.iconst 1, 1) := by decide +kernel
theorem dX7_hasQuoin_11 : decode cX7_hasQuoin 11 = .ok (.goto 4, 3) := by decide +kernel
theorem dX7_hasQuoin_14 : decode cX7_hasQuoin 14 = .ok (.iconst 0, 1) := by decide +kernel
theorem dX7_hasQuoin_15 : decode cX7_hasQuoin 15 = .ok (.ireturn, 1) := by decide +kernel
set_option maxRecDepth 20000 in
theorem ggX7_blocksLong_X7_of : GoodIn wsX7_blocksLong wsX7_of := goodIn_ca (goodIn_r _ [5, 6, 7, 8, 9, 10, 11, 12, 13, 14, 15, 16, 17, 18, 19, 20, 21, 22, 23, 24, 25, 26, 27, 28, 29, 30, 31, 32, 33, 34, 35, 36, 37, 38, 39, 40, 41, 42, 43, 44, 45, 46, 47] (by decide +kernel) (by decide +kernel)) (goodIn_sub (fun _ h => List.mem_cons_of_mem _ (List.mem_append_right _ h)) (by decide +kernel))
set_option maxRecDepth 20000 in
theorem gX7_blocksLong_X7_of : GoodIn wsX7_blocksLong (wsV RX7 189 RX7 yX7_of wsX7_of) := goodIn_app (goodIn_of _ (by decide +kernel)) ggX7_blocksLong_X7_of
theorem dX7_blocksLong_0 : decode cX7_blocksLong 0 = .ok (.iconst 0, 1) := by decide +kernel
theorem dX7_blocksLong_1 : decode cX7_blocksLong 1 = .ok (.istore_n 2, 1) := by decide +kernel
theorem dX7_blocksLong_2 : decode cX7_blocksLong 2 = .ok (.iconst 0, 1) := by decide +kernel
theorem dX7_blocksLong_3 : decode cX7_blocksLong 3 = .ok (.istore_n 3, 1) := by decide +kernel
theorem dX7_blocksLong_4 : decode cX7_blocksLong 4 = .ok (.iload_n 3, 1) := by decide +kernel
theorem dX7_blocksLong_5 : decode cX7_blocksLong 5 = .ok (.aload_n 0, 1) := by decide +kernel
theorem dX7_blocksLong_6 : decode cX7_blocksLong 6 = .ok (.iload_n 1, 1) := by decide +kernel
theorem dX7_blocksLong_7 : decode cX7_blocksLong 7 = .ok (.iconst 0, 1) := by decide +kernel
theorem dX7_blocksLong_8 : decode cX7_blocksLong 8 = .ok (.invokevirtual 189, 3) := by decide +kernel
theorem dX7_blocksLong_11 : decode cX7_blocksLong 11 = .ok (.if_icmp .ge 20, 3) := by decide +kernel
theorem dX7_blocksLong_14 : decode cX7_blocksLong 14 = .ok (.iload_n 2, 1) := by decide +kernel
theorem dX7_blocksLong_15 : decode cX7_blocksLong 15 = .ok (.aload_n 0, 1) := by decide +kernel
theorem dX7_blocksLong_16 : decode cX7_blocksLong 16 = .ok (.iload_n 1, 1) := by decide +kernel
theorem dX7_blocksLong_17 : decode cX7_blocksLong 17 = .ok (.iconst 5, 1) := by decide +kernel
theorem dX7_blocksLong_18 : decode cX7_blocksLong 18 = .ok (.iload_n 3, 1) := by decide +kernel
theorem dX7_blocksLong_19 : decode cX7_blocksLong 19 = .ok (.iadd, 1) := by decide +kernel
theorem dX7_blocksLong_20 : decode cX7_blocksLong 20 = .ok (.invokevirtual 189, 3) := by decide +kernel
theorem dX7_blocksLong_23 : decode cX7_blocksLong 23 = .ok (.iadd, 1) := by decide +kernel
theorem dX7_blocksLong_24 : decode cX7_blocksLong 24 = .ok (.istore_n 2, 1) := by decide +kernel
theorem dX7_blocksLong_25 : decode cX7_blocksLong 25 = .ok (.iinc 3 1, 3) := by decide +kernel
theorem dX7_blocksLong_28 : decode cX7_blocksLong 28 = .ok (.goto (-24), 3) := by decide +kernel
theorem dX7_blocksLong_31 : decode cX7_blocksLong 31 = .ok (.iload_n 2, 1) := by decide +kernel
theorem dX7_blocksLong_32 : decode cX7_blocksLong 32 = .ok (.ireturn, 1) := by decide +kernel
set_option maxRecDepth 20000 in
theorem ggX7_quoinLong_X7_hasQuoin : GoodIn wsX7_quoinLong wsX7_hasQuoin := goodIn_ca (goodIn_r _ [6, 7, 8, 9, 5, 10, 11, 12, 13, 14, 15, 16, 17, 18, 19, 20, 21, 22, 23, 24, 25, 26, 27, 28, 29, 30, 31, 32, 33, 34, 35, 36, 37, 38, 39, 40, 41, 42, 43, 44, 45, 46, 47, 48, 49, 50, 51, 52] (by decide +kernel) (by decide +kernel)) (goodIn_sub (fun _ h => List.mem_cons_of_mem _ (List.mem_append_right _ h)) (by decide +kernel))
set_option maxRecDepth 20000 in
theorem gX7_quoinLong_X7_hasQuoin : GoodIn wsX7_quoinLong (wsV RX7 238 RX7 yX7_hasQuoin wsX7_hasQuoin) := goodIn_app (goodIn_of _ (by decide +kernel)) ggX7_quoinLong_X7_hasQuoin
set_option maxRecDepth 20000 in
theorem ggX7_quoinLong_X7_of : GoodIn wsX7_quoinLong wsX7_of := goodIn_ca (goodIn_r _ [10, 11, 12, 13, 14, 15, 16, 17, 18, 19, 20, 21, 22, 23, 24, 25, 26, 27, 28, 29, 30, 31, 32, 33, 34, 35, 36, 37, 38, 39, 40, 41, 42, 43, 44, 45, 46, 47, 48, 49, 50, 51, 52] (by decide +kernel) (by decide +kernel)) (goodIn_sub (fun _ h => List.mem_cons_of_mem _ (List.mem_append_right _ h)) (by decide +kernel))
set_option maxRecDepth 20000 in
theorem gX7_quoinLong_X7_of : GoodIn wsX7_quoinLong (wsV RX7 189 RX7 yX7_of wsX7_of) := goodIn_app (goodIn_of _ (by decide +kernel)) ggX7_quoinLong_X7_of
theorem dX7_quoinLong_0 : decode cX7_quoinLong 0 = .ok (.aload_n 0, 1) := by decide +kernel
theorem dX7_quoinLong_1 : decode cX7_quoinLong 1 = .ok (.iload_n 1, 1) := by decide +kernel
theorem dX7_quoinLong_2 : decode cX7_quoinLong 2 = .ok (.invokevirtual 238, 3) := by decide +kernel
theorem dX7_quoinLong_5 : decode cX7_quoinLong 5 = .ok (.ifCond .eq 24, 3) := by decide +kernel
theorem dX7_quoinLong_8 : decode cX7_quoinLong 8 = .ok (.aload_n 0, 1) := by decide +kernel
theorem dX7_quoinLong_9 : decode cX7_quoinLong 9 = .ok (.getfield 157, 3) := by decide +kernel
theorem dX7_quoinLong_12 : decode cX7_quoinLong 12 = .ok (.aload_n 0, 1) := by decide +kernel
theorem dX7_quoinLong_13 : decode cX7_quoinLong 13 = .ok (.iload_n 1, 1) := by decide +kernel
theorem dX7_quoinLong_14 : decode cX7_quoinLong 14 = .ok (.iconst 2, 1) := by decide +kernel
theorem dX7_quoinLong_15 : decode cX7_quoinLong 15 = .ok (.invokevirtual 189, 3) := by decide +kernel
theorem dX7_quoinLong_18 : decode cX7_quoinLong 18 = .ok (.iadd, 1) := by decide +kernel
theorem dX7_quoinLong_19 : decode cX7_quoinLong 19 = .ok (.aload_n 0, 1) := by decide +kernel
theorem dX7_quoinLong_20 : decode cX7_quoinLong 20 = .ok (.iload_n 1, 1) := by decide +kernel
theorem dX7_quoinLong_21 : decode cX7_quoinLong 21 = .ok (.iconst 3, 1) := by decide +kernel
theorem dX7_quoinLong_22 : decode cX7_quoinLong 22 = .ok (.invokevirtual 189, 3) := by decide +kernel
theorem dX7_quoinLong_25 : decode cX7_quoinLong 25 = .ok (.isub, 1) := by decide +kernel
theorem dX7_quoinLong_26 : decode cX7_quoinLong 26 = .ok (.goto 4, 3) := by decide +kernel
theorem dX7_quoinLong_29 : decode cX7_quoinLong 29 = .ok (.iconst 0, 1) := by decide +kernel
theorem dX7_quoinLong_30 : decode cX7_quoinLong 30 = .ok (.ireturn, 1) := by decide +kernel
set_option maxRecDepth 20000 in
theorem ggX7_filledLong_X7_blocksLong : GoodIn wsX7_filledLong wsX7_blocksLong := goodIn_ca (goodIn_r _ [6, 7, 8, 9, 5, 10, 11, 21, 22, 23, 24, 25, 26, 27, 28, 29, 30, 31, 32, 33, 34, 35, 36, 37, 38, 39, 40, 41, 42, 43, 44, 45, 46, 47, 48, 49, 50, 51, 52, 53, 54, 55, 56, 57, 58, 59, 60, 61] (by decide +kernel) (by decide +kernel)) (goodIn_sub (fun _ h => List.mem_cons_of_mem _ (List.mem_append_right _ h)) (by decide +kernel))
set_option maxRecDepth 20000 in
theorem gX7_filledLong_X7_blocksLong : GoodIn wsX7_filledLong (wsV RX7 241 RX7 yX7_blocksLong wsX7_blocksLong) := goodIn_app (goodIn_of _ (by decide +kernel)) ggX7_filledLong_X7_blocksLong
set_option maxRecDepth 20000 in
theorem ggX7_filledLong_X7_quoinLong : GoodIn wsX7_filledLong wsX7_quoinLong := goodIn_ca (goodIn_r _ [15, 16, 17, 18, 19, 5, 20, 7, 8, 9, 10, 11, 21, 22, 23, 24, 25, 26, 27, 28, 29, 30, 31, 32, 33, 34, 35, 36, 37, 38, 39, 40, 41, 42, 43, 44, 45, 46, 47, 48, 49, 50, 51, 52, 53, 54, 55, 56, 57, 58, 59, 60, 61] (by decide +kernel) (by decide +kernel)) (goodIn_sub (fun _ h => List.mem_cons_of_mem _ (List.mem_append_right _ h)) (by decide +kernel))
set_option maxRecDepth 20000 in
theorem gX7_filledLong_X7_quoinLong : GoodIn wsX7_filledLong (wsV RX7 244 RX7 yX7_quoinLong wsX7_quoinLong) := goodIn_app (goodIn_of _ (by decide +kernel)) ggX7_filledLong_X7_quoinLong
set_option maxRecDepth 20000 in
theorem ggX7_filledLong_X7_of : GoodIn wsX7_filledLong wsX7_of := goodIn_ca (goodIn_r _ [10, 11, 21, 22, 23, 24, 25, 26, 27, 28, 29, 30, 31, 32, 33, 34, 35, 36, 37, 38, 39, 40, 41, 42, 43, 44, 45, 46, 47, 48, 49, 50, 51, 52, 53, 54, 55, 56, 57, 58, 59, 60, 61] (by decide +kernel) (by decide +kernel)) (goodIn_sub (fun _ h => List.mem_cons_of_mem _ (List.mem_append_right _ h)) (by decide +kernel))
set_option maxRecDepth 20000 in
theorem gX7_filledLong_X7_of : GoodIn wsX7_filledLong (wsV RX7 189 RX7 yX7_of wsX7_of) := goodIn_app (goodIn_of _ (by decide +kernel)) ggX7_filledLong_X7_of
theorem dX7_filledLong_0 : decode cX7_filledLong 0 = .ok (.aload_n 0, 1) := by decide +kernel
theorem dX7_filledLong_1 : decode cX7_filledLong 1 = .ok (.iload_n 1, 1) := by decide +kernel
theorem dX7_filledLong_2 : decode cX7_filledLong 2 = .ok (.invokevirtual 241, 3) := by decide +kernel
theorem dX7_filledLong_5 : decode cX7_filledLong 5 = .ok (.aload_n 0, 1) := by decide +kernel
theorem dX7_filledLong_6 : decode cX7_filledLong 6 = .ok (.iload_n 1, 1) := by decide +kernel
theorem dX7_filledLong_7 : decode cX7_filledLong 7 = .ok (.invokevirtual 244, 3) := by decide +kernel
theorem dX7_filledLong_10 : decode cX7_filledLong 10 = .ok (.iadd, 1) := by decide +kernel
theorem dX7_filledLong_11 : decode cX7_filledLong 11 = .ok (.istore_n 2, 1) := by decide +kernel
theorem dX7_filledLong_12 : decode cX7_filledLong 12 = .ok (.iconst 0, 1) := by decide +kernel
theorem dX7_filledLong_13 : decode cX7_filledLong 13 = .ok (.istore_n 3, 1) := by decide +kernel
theorem dX7_filledLong_14 : decode cX7_filledLong 14 = .ok (.iload_n 3, 1) := by decide +kernel
theorem dX7_filledLong_15 : decode cX7_filledLong 15 = .ok (.aload_n 0, 1) := by decide +kernel
theorem dX7_filledLong_16 : decode cX7_filledLong 16 = .ok (.iload_n 1, 1) := by decide +kernel
theorem dX7_filledLong_17 : decode cX7_filledLong 17 = .ok (.iconst 1, 1) := by decide +kernel
theorem dX7_filledLong_18 : decode cX7_filledLong 18 = .ok (.invokevirtual 189, 3) := by decide +kernel
theorem dX7_filledLong_21 : decode cX7_filledLong 21 = .ok (.if_icmp .ge 26, 3) := by decide +kernel
theorem dX7_filledLong_24 : decode cX7_filledLong 24 = .ok (.iload_n 2, 1) := by decide +kernel
theorem dX7_filledLong_25 : decode cX7_filledLong 25 = .ok (.aload_n 0, 1) := by decide +kernel
theorem dX7_filledLong_26 : decode cX7_filledLong 26 = .ok (.getfield 13, 3) := by decide +kernel
theorem dX7_filledLong_29 : decode cX7_filledLong 29 = .ok (.aload_n 0, 1) := by decide +kernel
theorem dX7_filledLong_30 : decode cX7_filledLong 30 = .ok (.iload_n 1, 1) := by decide +kernel
theorem dX7_filledLong_31 : decode cX7_filledLong 31 = .ok (.bipush 11, 2) := by decide +kernel
theorem dX7_filledLong_33 : decode cX7_filledLong 33 = .ok (.iload_n 3, 1) := by decide +kernel
theorem dX7_filledLong_34 : decode cX7_filledLong 34 = .ok (.iadd, 1) := by decide +kernel
theorem dX7_filledLong_35 : decode cX7_filledLong 35 = .ok (.invokevirtual 189, 3) := by decide +kernel
theorem dX7_filledLong_38 : decode cX7_filledLong 38 = .ok (.iaload, 1) := by decide +kernel
theorem dX7_filledLong_39 : decode cX7_filledLong 39 = .ok (.iadd, 1) := by decide +kernel
theorem dX7_filledLong_40 : decode cX7_filledLong 40 = .ok (.istore_n 2, 1) := by decide +kernel
theorem dX7_filledLong_41 : decode cX7_filledLong 41 = .ok (.iinc 3 1, 3) := by decide +kernel
theorem dX7_filledLong_44 : decode cX7_filledLong 44 = .ok (.goto (-30), 3) := by decide +kernel
theorem dX7_filledLong_47 : decode cX7_filledLong 47 = .ok (.iload_n 2, 1) := by decide +kernel
theorem dX7_filledLong_48 : decode cX7_filledLong 48 = .ok (.ireturn, 1) := by decide +kernel
set_option maxRecDepth 20000 in
theorem ggX7_gap_X7_filledLong : GoodIn wsX7_gap wsX7_filledLong := goodIn_ca (goodIn_r _ [6, 7, 8, 9, 10, 5, 11, 12, 13, 14, 15, 16, 17, 18, 19, 20, 21, 22, 23, 24, 25, 26, 27, 28, 29, 30, 31, 32, 33, 34, 35, 36, 37, 38, 39, 40, 41, 42, 43, 44, 45, 46, 47, 48, 49, 50, 51, 52, 53, 54, 55, 56, 57, 58, 59, 60, 61, 62, 63, 64, 65, 66] (by decide +kernel) (by decide +kernel)) (goodIn_sub (fun _ h => List.mem_cons_of_mem _ (List.mem_append_right _ h)) (by decide +kernel))
set_option maxRecDepth 20000 in
theorem gX7_gap_X7_filledLong : GoodIn wsX7_gap (wsV RX7 247 RX7 yX7_filledLong wsX7_filledLong) := goodIn_app (goodIn_of _ (by decide +kernel)) ggX7_gap_X7_filledLong
theorem dX7_gap_0 : decode cX7_gap 0 = .ok (.aload_n 0, 1) := by decide +kernel
theorem dX7_gap_1 : decode cX7_gap 1 = .ok (.getfield 151, 3) := by decide +kernel
theorem dX7_gap_4 : decode cX7_gap 4 = .ok (.aload_n 0, 1) := by decide +kernel
theorem dX7_gap_5 : decode cX7_gap 5 = .ok (.iload_n 1, 1) := by decide +kernel
theorem dX7_gap_6 : decode cX7_gap 6 = .ok (.invokevirtual 247, 3) := by decide +kernel
theorem dX7_gap_9 : decode cX7_gap 9 = .ok (.isub, 1) := by decide +kernel
theorem dX7_gap_10 : decode cX7_gap 10 = .ok (.ireturn, 1) := by decide +kernel
set_option maxRecDepth 20000 in
theorem ggX7_woodIn_X7_of : GoodIn wsX7_woodIn wsX7_of := goodIn_ca (goodIn_r _ [6, 7, 11, 12, 13, 14, 15, 16, 17, 18, 19, 20, 21, 22, 23, 24, 25, 26, 27, 28, 29, 30, 31, 32, 33, 34, 35, 36, 37, 38, 39, 40, 41, 42, 43, 44, 45, 46, 47, 48, 49, 50, 51] (by decide +kernel) (by decide +kernel)) (goodIn_sub (fun _ h => List.mem_cons_of_mem _ (List.mem_append_right _ h)) (by decide +kernel))
set_option maxRecDepth 20000 in
theorem gX7_woodIn_X7_of : GoodIn wsX7_woodIn (wsV RX7 189 RX7 yX7_of wsX7_of) := goodIn_app (goodIn_of _ (by decide +kernel)) ggX7_woodIn_X7_of
set_option maxRecDepth 20000 in
theorem ggX7_woodIn_X7_flag : GoodIn wsX7_woodIn wsX7_flag := goodIn_r _ [10] (by decide +kernel) (by decide +kernel)
set_option maxRecDepth 20000 in
theorem gX7_woodIn_X7_flag : GoodIn wsX7_woodIn (va_wsS RX7 250 yX7_flag wsX7_flag) := goodIn_app (goodIn_of _ (by decide +kernel)) ggX7_woodIn_X7_flag
theorem dX7_woodIn_0 : decode cX7_woodIn 0 = .ok (.iconst 0, 1) := by decide +kernel
theorem dX7_woodIn_1 : decode cX7_woodIn 1 = .ok (.istore_n 2, 1) := by decide +kernel
theorem dX7_woodIn_2 : decode cX7_woodIn 2 = .ok (.iconst 0, 1) := by decide +kernel
theorem dX7_woodIn_3 : decode cX7_woodIn 3 = .ok (.istore_n 3, 1) := by decide +kernel
theorem dX7_woodIn_4 : decode cX7_woodIn 4 = .ok (.iload_n 3, 1) := by decide +kernel
theorem dX7_woodIn_5 : decode cX7_woodIn 5 = .ok (.aload_n 0, 1) := by decide +kernel
theorem dX7_woodIn_6 : decode cX7_woodIn 6 = .ok (.iload_n 1, 1) := by decide +kernel
theorem dX7_woodIn_7 : decode cX7_woodIn 7 = .ok (.iconst 1, 1) := by decide +kernel
theorem dX7_woodIn_8 : decode cX7_woodIn 8 = .ok (.invokevirtual 189, 3) := by decide +kernel
theorem dX7_woodIn_11 : decode cX7_woodIn 11 = .ok (.if_icmp .ge 37, 3) := by decide +kernel
theorem dX7_woodIn_14 : decode cX7_woodIn 14 = .ok (.iload_n 2, 1) := by decide +kernel
theorem dX7_woodIn_15 : decode cX7_woodIn 15 = .ok (.aload_n 0, 1) := by decide +kernel
theorem dX7_woodIn_16 : decode cX7_woodIn 16 = .ok (.getfield 7, 3) := by decide +kernel
theorem dX7_woodIn_19 : decode cX7_woodIn 19 = .ok (.aload_n 0, 1) := by decide +kernel
theorem dX7_woodIn_20 : decode cX7_woodIn 20 = .ok (.iload_n 1, 1) := by decide +kernel
theorem dX7_woodIn_21 : decode cX7_woodIn 21 = .ok (.bipush 11, 2) := by decide +kernel
theorem dX7_woodIn_23 : decode cX7_woodIn 23 = .ok (.iload_n 3, 1) := by decide +kernel
theorem dX7_woodIn_24 : decode cX7_woodIn 24 = .ok (.iadd, 1) := by decide +kernel
theorem dX7_woodIn_25 : decode cX7_woodIn 25 = .ok (.invokevirtual 189, 3) := by decide +kernel
theorem dX7_woodIn_28 : decode cX7_woodIn 28 = .ok (.baload, 1) := by decide +kernel
theorem dX7_woodIn_29 : decode cX7_woodIn 29 = .ok (.ifCond .ne 7, 3) := by decide +kernel
theorem dX7_woodIn_32 : decode cX7_woodIn 32 = .ok (.iconst 1, 1) := by decide +kernel
theorem dX7_woodIn_33 : decode cX7_woodIn 33 = .ok (.goto 4, 3) := by decide +kernel
theorem dX7_woodIn_36 : decode cX7_woodIn 36 = .ok (.iconst 0, 1) := by decide +kernel
theorem dX7_woodIn_37 : decode cX7_woodIn 37 = .ok (.invokestatic 250, 3) := by decide +kernel
theorem dX7_woodIn_40 : decode cX7_woodIn 40 = .ok (.iadd, 1) := by decide +kernel
theorem dX7_woodIn_41 : decode cX7_woodIn 41 = .ok (.istore_n 2, 1) := by decide +kernel
theorem dX7_woodIn_42 : decode cX7_woodIn 42 = .ok (.iinc 3 1, 3) := by decide +kernel
theorem dX7_woodIn_45 : decode cX7_woodIn 45 = .ok (.goto (-41), 3) := by decide +kernel
theorem dX7_woodIn_48 : decode cX7_woodIn 48 = .ok (.iload_n 2, 1) := by decide +kernel
theorem dX7_woodIn_49 : decode cX7_woodIn 49 = .ok (.ireturn, 1) := by decide +kernel
set_option maxRecDepth 20000 in
theorem ggX7_isTightRow_X7_gap : GoodIn wsX7_isTightRow wsX7_gap := goodIn_ca (goodIn_r _ [5, 6, 7, 8, 9, 4, 10, 11, 12, 13, 14, 15, 16, 17, 18, 19, 20, 21, 22, 23, 24, 25, 26, 27, 28, 29, 30, 31, 32, 33, 34, 35, 36, 37, 38, 39, 40, 41, 42, 43, 44, 45, 46, 47, 48, 49, 50, 51, 52, 53, 54, 55, 56, 57, 58, 59, 60, 61, 62, 63, 64, 65, 66, 67, 68, 69, 70] (by decide +kernel) (by decide +kernel)) (goodIn_sub (fun _ h => List.mem_cons_of_mem _ (List.mem_append_right _ h)) (by decide +kernel))
set_option maxRecDepth 20000 in
theorem gX7_isTightRow_X7_gap : GoodIn wsX7_isTightRow (wsV RX7 192 RX7 yX7_gap wsX7_gap) := goodIn_app (goodIn_of _ (by decide +kernel)) ggX7_isTightRow_X7_gap
set_option maxRecDepth 20000 in
theorem ggX7_isTightRow_X7_of : GoodIn wsX7_isTightRow wsX7_of := goodIn_ca (goodIn_r _ [19, 20, 30, 31, 32, 33, 34, 35, 36, 37, 38, 39, 40, 41, 42, 43, 44, 45, 46, 47, 48, 49, 50, 51, 52, 53, 54, 55, 56, 57, 58, 59, 60, 61, 62, 63, 64, 65, 66, 67, 68, 69, 70] (by decide +kernel) (by decide +kernel)) (goodIn_sub (fun _ h => List.mem_cons_of_mem _ (List.mem_append_right _ h)) (by decide +kernel))
set_option maxRecDepth 20000 in
theorem gX7_isTightRow_X7_of : GoodIn wsX7_isTightRow (wsV RX7 189 RX7 yX7_of wsX7_of) := goodIn_app (goodIn_of _ (by decide +kernel)) ggX7_isTightRow_X7_of
theorem dX7_isTightRow_0 : decode cX7_isTightRow 0 = .ok (.aload_n 0, 1) := by decide +kernel
theorem dX7_isTightRow_1 : decode cX7_isTightRow 1 = .ok (.iload_n 1, 1) := by decide +kernel
theorem dX7_isTightRow_2 : decode cX7_isTightRow 2 = .ok (.invokevirtual 192, 3) := by decide +kernel
theorem dX7_isTightRow_5 : decode cX7_isTightRow 5 = .ok (.ifCond .ne 16, 3) := by decide +kernel
theorem dX7_isTightRow_8 : decode cX7_isTightRow 8 = .ok (.aload_n 0, 1) := by decide +kernel
theorem dX7_isTightRow_9 : decode cX7_isTightRow 9 = .ok (.iload_n 1, 1) := by decide +kernel
theorem dX7_isTightRow_10 : decode cX7_isTightRow 10 = .ok (.iconst 4, 1) := by decide +kernel
theorem dX7_isTightRow_11 : decode cX7_isTightRow 11 = .ok (.invokevirtual 189, 3) := by decide +kernel
theorem dX7_isTightRow_14 : decode cX7_isTightRow 14 = .ok (.ifCond .ne 7, 3) := by decide +kernel
theorem dX7_isTightRow_17 : decode cX7_isTightRow 17 = .ok (.iconst 1, 1) := by decide +kernel
theorem dX7_isTightRow_18 : decode cX7_isTightRow 18 = .ok (.goto 4, 3) := by decide +kernel
theorem dX7_isTightRow_21 : decode cX7_isTightRow 21 = .ok (.iconst 0, 1) := by decide +kernel
theorem dX7_isTightRow_22 : decode cX7_isTightRow 22 = .ok (.ireturn, 1) := by decide +kernel
set_option maxRecDepth 20000 in
theorem ggX7_adds_X7_of : GoodIn wsX7_adds wsX7_of := goodIn_ca (goodIn_r _ [5, 6, 11, 12, 13, 14, 15, 16, 17, 18, 19, 20, 21, 22, 23, 24, 25, 26, 27, 28, 29, 30, 31, 32, 33, 34, 35, 36, 37, 38, 39, 40, 41, 42, 43, 44, 45, 46, 47, 48, 49, 50, 51] (by decide +kernel) (by decide +kernel)) (goodIn_sub (fun _ h => List.mem_cons_of_mem _ (List.mem_append_right _ h)) (by decide +kernel))
set_option maxRecDepth 20000 in
theorem gX7_adds_X7_of : GoodIn wsX7_adds (wsV RX7 189 RX7 yX7_of wsX7_of) := goodIn_app (goodIn_of _ (by decide +kernel)) ggX7_adds_X7_of
set_option maxRecDepth 20000 in
theorem ggX7_adds_X7_puts : GoodIn wsX7_adds wsX7_puts := goodIn_ca (goodIn_r _ [10, 6, 11, 12, 13, 14, 15, 16, 17, 18, 19, 20, 21, 22, 23, 24, 25, 26, 27, 28, 29, 30, 31, 32, 33, 34, 35, 36, 37, 38, 39, 40, 41, 42, 43, 44, 45, 46, 47, 48, 49, 50, 51] (by decide +kernel) (by decide +kernel)) (goodIn_sub (fun _ h => List.mem_cons_of_mem _ (List.mem_append_right _ h)) (by decide +kernel))
set_option maxRecDepth 20000 in
theorem gX7_adds_X7_puts : GoodIn wsX7_adds (wsV RX7 178 RX7 yX7_puts wsX7_puts) := goodIn_app (goodIn_of _ (by decide +kernel)) ggX7_adds_X7_puts
theorem dX7_adds_0 : decode cX7_adds 0 = .ok (.aload_n 0, 1) := by decide +kernel
theorem dX7_adds_1 : decode cX7_adds 1 = .ok (.iload_n 1, 1) := by decide +kernel
theorem dX7_adds_2 : decode cX7_adds 2 = .ok (.iconst 5, 1) := by decide +kernel
theorem dX7_adds_3 : decode cX7_adds 3 = .ok (.aload_n 0, 1) := by decide +kernel
theorem dX7_adds_4 : decode cX7_adds 4 = .ok (.iload_n 1, 1) := by decide +kernel
theorem dX7_adds_5 : decode cX7_adds 5 = .ok (.iconst 0, 1) := by decide +kernel
theorem dX7_adds_6 : decode cX7_adds 6 = .ok (.invokevirtual 189, 3) := by decide +kernel
theorem dX7_adds_9 : decode cX7_adds 9 = .ok (.iadd, 1) := by decide +kernel
theorem dX7_adds_10 : decode cX7_adds 10 = .ok (.iload_n 2, 1) := by decide +kernel
theorem dX7_adds_11 : decode cX7_adds 11 = .ok (.invokevirtual 178, 3) := by decide +kernel
theorem dX7_adds_14 : decode cX7_adds 14 = .ok (.aload_n 0, 1) := by decide +kernel
theorem dX7_adds_15 : decode cX7_adds 15 = .ok (.iload_n 1, 1) := by decide +kernel
theorem dX7_adds_16 : decode cX7_adds 16 = .ok (.iconst 0, 1) := by decide +kernel
theorem dX7_adds_17 : decode cX7_adds 17 = .ok (.aload_n 0, 1) := by decide +kernel
theorem dX7_adds_18 : decode cX7_adds 18 = .ok (.iload_n 1, 1) := by decide +kernel
theorem dX7_adds_19 : decode cX7_adds 19 = .ok (.iconst 0, 1) := by decide +kernel
theorem dX7_adds_20 : decode cX7_adds 20 = .ok (.invokevirtual 189, 3) := by decide +kernel
theorem dX7_adds_23 : decode cX7_adds 23 = .ok (.iconst 1, 1) := by decide +kernel
theorem dX7_adds_24 : decode cX7_adds 24 = .ok (.iadd, 1) := by decide +kernel
theorem dX7_adds_25 : decode cX7_adds 25 = .ok (.invokevirtual 178, 3) := by decide +kernel
theorem dX7_adds_28 : decode cX7_adds 28 = .ok (.return_, 1) := by decide +kernel
set_option maxRecDepth 20000 in
theorem ggX7_putsPiece_X7_of : GoodIn wsX7_putsPiece wsX7_of := goodIn_ca (goodIn_r _ [6, 1, 11, 12, 13, 14, 15, 16, 17, 18, 19, 20, 21, 22, 23, 24, 25, 26, 27, 28, 29, 30, 31, 32, 33, 34, 35, 36, 37, 38, 39, 40, 41, 42, 43, 44, 45, 46, 47, 48, 49, 50, 51] (by decide +kernel) (by decide +kernel)) (goodIn_sub (fun _ h => List.mem_cons_of_mem _ (List.mem_append_right _ h)) (by decide +kernel))
set_option maxRecDepth 20000 in
theorem gX7_putsPiece_X7_of : GoodIn wsX7_putsPiece (wsV RX7 189 RX7 yX7_of wsX7_of) := goodIn_app (goodIn_of _ (by decide +kernel)) ggX7_putsPiece_X7_of
set_option maxRecDepth 20000 in
theorem ggX7_putsPiece_X7_puts : GoodIn wsX7_putsPiece wsX7_puts := goodIn_ca (goodIn_r _ [10, 1, 11, 12, 13, 14, 15, 16, 17, 18, 19, 20, 21, 22, 23, 24, 25, 26, 27, 28, 29, 30, 31, 32, 33, 34, 35, 36, 37, 38, 39, 40, 41, 42, 43, 44, 45, 46, 47, 48, 49, 50, 51] (by decide +kernel) (by decide +kernel)) (goodIn_sub (fun _ h => List.mem_cons_of_mem _ (List.mem_append_right _ h)) (by decide +kernel))
set_option maxRecDepth 20000 in
theorem gX7_putsPiece_X7_puts : GoodIn wsX7_putsPiece (wsV RX7 178 RX7 yX7_puts wsX7_puts) := goodIn_app (goodIn_of _ (by decide +kernel)) ggX7_putsPiece_X7_puts
theorem dX7_putsPiece_0 : decode cX7_putsPiece 0 = .ok (.aload_n 0, 1) := by decide +kernel
theorem dX7_putsPiece_1 : decode cX7_putsPiece 1 = .ok (.iload_n 1, 1) := by decide +kernel
theorem dX7_putsPiece_2 : decode cX7_putsPiece 2 = .ok (.bipush 11, 2) := by decide +kernel
theorem dX7_putsPiece_4 : decode cX7_putsPiece 4 = .ok (.aload_n 0, 1) := by decide +kernel
theorem dX7_putsPiece_5 : decode cX7_putsPiece 5 = .ok (.iload_n 1, 1) := by decide +kernel
theorem dX7_putsPiece_6 : decode cX7_putsPiece 6 = .ok (.iconst 1, 1) := by decide +kernel
theorem dX7_putsPiece_7 : decode cX7_putsPiece 7 = .ok (.invokevirtual 189, 3) := by decide +kernel
theorem dX7_putsPiece_10 : decode cX7_putsPiece 10 = .ok (.iadd, 1) := by decide +kernel
theorem dX7_putsPiece_11 : decode cX7_putsPiece 11 = .ok (.iload_n 2, 1) := by decide +kernel
theorem dX7_putsPiece_12 : decode cX7_putsPiece 12 = .ok (.invokevirtual 178, 3) := by decide +kernel
theorem dX7_putsPiece_15 : decode cX7_putsPiece 15 = .ok (.aload_n 0, 1) := by decide +kernel
theorem dX7_putsPiece_16 : decode cX7_putsPiece 16 = .ok (.iload_n 1, 1) := by decide +kernel
theorem dX7_putsPiece_17 : decode cX7_putsPiece 17 = .ok (.iconst 1, 1) := by decide +kernel
theorem dX7_putsPiece_18 : decode cX7_putsPiece 18 = .ok (.aload_n 0, 1) := by decide +kernel
theorem dX7_putsPiece_19 : decode cX7_putsPiece 19 = .ok (.iload_n 1, 1) := by decide +kernel
theorem dX7_putsPiece_20 : decode cX7_putsPiece 20 = .ok (.iconst 1, 1) := by decide +kernel
theorem dX7_putsPiece_21 : decode cX7_putsPiece 21 = .ok (.invokevirtual 189, 3) := by decide +kernel
theorem dX7_putsPiece_24 : decode cX7_putsPiece 24 = .ok (.iconst 1, 1) := by decide +kernel
theorem dX7_putsPiece_25 : decode cX7_putsPiece 25 = .ok (.iadd, 1) := by decide +kernel
theorem dX7_putsPiece_26 : decode cX7_putsPiece 26 = .ok (.invokevirtual 178, 3) := by decide +kernel
theorem dX7_putsPiece_29 : decode cX7_putsPiece 29 = .ok (.aload_n 0, 1) := by decide +kernel
theorem dX7_putsPiece_30 : decode cX7_putsPiece 30 = .ok (.getfield 17, 3) := by decide +kernel
theorem dX7_putsPiece_33 : decode cX7_putsPiece 33 = .ok (.bipush 6, 2) := by decide +kernel
theorem dX7_putsPiece_35 : decode cX7_putsPiece 35 = .ok (.iload_n 2, 1) := by decide +kernel
theorem dX7_putsPiece_36 : decode cX7_putsPiece 36 = .ok (.iadd, 1) := by decide +kernel
theorem dX7_putsPiece_37 : decode cX7_putsPiece 37 = .ok (.dup2, 1) := by decide +kernel
theorem dX7_putsPiece_38 : decode cX7_putsPiece 38 = .ok (.iaload, 1) := by decide +kernel
theorem dX7_putsPiece_39 : decode cX7_putsPiece 39 = .ok (.iconst 1, 1) := by decide +kernel
theorem dX7_putsPiece_40 : decode cX7_putsPiece 40 = .ok (.isub, 1) := by decide +kernel
theorem dX7_putsPiece_41 : decode cX7_putsPiece 41 = .ok (.iastore, 1) := by decide +kernel
theorem dX7_putsPiece_42 : decode cX7_putsPiece 42 = .ok (.return_, 1) := by decide +kernel
set_option maxRecDepth 20000 in
theorem ggX7_takesQuoin_X7_hasQuoin : GoodIn wsX7_takesQuoin wsX7_hasQuoin := goodIn_ca (goodIn_r _ [6, 7, 8, 9, 5, 10, 1, 15, 16, 17, 18, 19, 20, 21, 22, 23, 24, 25, 26, 27, 28, 29, 30, 31, 32, 33, 34, 35, 36, 37, 38, 39, 40, 41, 42, 43, 44, 45, 46, 47, 48, 49, 50, 51, 52, 53, 54, 55] (by decide +kernel) (by decide +kernel)) (goodIn_sub (fun _ h => List.mem_cons_of_mem _ (List.mem_append_right _ h)) (by decide +kernel))
set_option maxRecDepth 20000 in
theorem gX7_takesQuoin_X7_hasQuoin : GoodIn wsX7_takesQuoin (wsV RX7 238 RX7 yX7_hasQuoin wsX7_hasQuoin) := goodIn_app (goodIn_of _ (by decide +kernel)) ggX7_takesQuoin_X7_hasQuoin
set_option maxRecDepth 20000 in
theorem ggX7_takesQuoin_X7_puts : GoodIn wsX7_takesQuoin wsX7_puts := goodIn_ca (goodIn_r _ [14, 1, 15, 16, 17, 18, 19, 20, 21, 22, 23, 24, 25, 26, 27, 28, 29, 30, 31, 32, 33, 34, 35, 36, 37, 38, 39, 40, 41, 42, 43, 44, 45, 46, 47, 48, 49, 50, 51, 52, 53, 54, 55] (by decide +kernel) (by decide +kernel)) (goodIn_sub (fun _ h => List.mem_cons_of_mem _ (List.mem_append_right _ h)) (by decide +kernel))
set_option maxRecDepth 20000 in
theorem gX7_takesQuoin_X7_puts : GoodIn wsX7_takesQuoin (wsV RX7 178 RX7 yX7_puts wsX7_puts) := goodIn_app (goodIn_of _ (by decide +kernel)) ggX7_takesQuoin_X7_puts
theorem dX7_takesQuoin_0 : decode cX7_takesQuoin 0 = .ok (.aload_n 0, 1) := by decide +kernel
theorem dX7_takesQuoin_1 : decode cX7_takesQuoin 1 = .ok (.iload_n 1, 1) := by decide +kernel
theorem dX7_takesQuoin_2 : decode cX7_takesQuoin 2 = .ok (.invokevirtual 238, 3) := by decide +kernel
theorem dX7_takesQuoin_5 : decode cX7_takesQuoin 5 = .ok (.ifCond .eq 27, 3) := by decide +kernel
theorem dX7_takesQuoin_8 : decode cX7_takesQuoin 8 = .ok (.aload_n 0, 1) := by decide +kernel
theorem dX7_takesQuoin_9 : decode cX7_takesQuoin 9 = .ok (.iload_n 1, 1) := by decide +kernel
theorem dX7_takesQuoin_10 : decode cX7_takesQuoin 10 = .ok (.iconst 2, 1) := by decide +kernel
theorem dX7_takesQuoin_11 : decode cX7_takesQuoin 11 = .ok (.iconst (-1), 1) := by decide +kernel
theorem dX7_takesQuoin_12 : decode cX7_takesQuoin 12 = .ok (.invokevirtual 178, 3) := by decide +kernel
theorem dX7_takesQuoin_15 : decode cX7_takesQuoin 15 = .ok (.aload_n 0, 1) := by decide +kernel
theorem dX7_takesQuoin_16 : decode cX7_takesQuoin 16 = .ok (.iload_n 1, 1) := by decide +kernel
theorem dX7_takesQuoin_17 : decode cX7_takesQuoin 17 = .ok (.iconst 3, 1) := by decide +kernel
theorem dX7_takesQuoin_18 : decode cX7_takesQuoin 18 = .ok (.iconst 0, 1) := by decide +kernel
theorem dX7_takesQuoin_19 : decode cX7_takesQuoin 19 = .ok (.invokevirtual 178, 3) := by decide +kernel
theorem dX7_takesQuoin_22 : decode cX7_takesQuoin 22 = .ok (.aload_n 0, 1) := by decide +kernel
theorem dX7_takesQuoin_23 : decode cX7_takesQuoin 23 = .ok (.getfield 17, 3) := by decide +kernel
theorem dX7_takesQuoin_26 : decode cX7_takesQuoin 26 = .ok (.iconst 0, 1) := by decide +kernel
theorem dX7_takesQuoin_27 : decode cX7_takesQuoin 27 = .ok (.dup2, 1) := by decide +kernel
theorem dX7_takesQuoin_28 : decode cX7_takesQuoin 28 = .ok (.iaload, 1) := by decide +kernel
theorem dX7_takesQuoin_29 : decode cX7_takesQuoin 29 = .ok (.iconst 1, 1) := by decide +kernel
theorem dX7_takesQuoin_30 : decode cX7_takesQuoin 30 = .ok (.iadd, 1) := by decide +kernel
theorem dX7_takesQuoin_31 : decode cX7_takesQuoin 31 = .ok (.iastore, 1) := by decide +kernel
theorem dX7_takesQuoin_32 : decode cX7_takesQuoin 32 = .ok (.return_, 1) := by decide +kernel
set_option maxRecDepth 20000 in
theorem ggX7_empties_X7_of : GoodIn wsX7_empties wsX7_of := goodIn_ca (goodIn_r _ [6, 1, 19, 20, 21, 22, 23, 24, 25, 26, 27, 28, 29, 30, 31, 32, 33, 34, 35, 36, 37, 38, 39, 40, 41, 42, 43, 44, 45, 46, 47, 48, 49, 50, 51, 52, 53, 54, 55, 56, 57, 58, 59] (by decide +kernel) (by decide +kernel)) (goodIn_sub (fun _ h => List.mem_cons_of_mem _ (List.mem_append_right _ h)) (by decide +kernel))
set_option maxRecDepth 20000 in
theorem gX7_empties_X7_of : GoodIn wsX7_empties (wsV RX7 189 RX7 yX7_of wsX7_of) := goodIn_app (goodIn_of _ (by decide +kernel)) ggX7_empties_X7_of
set_option maxRecDepth 20000 in
theorem ggX7_empties_X7_puts : GoodIn wsX7_empties wsX7_puts := goodIn_ca (goodIn_r _ [10, 1, 19, 20, 21, 22, 23, 24, 25, 26, 27, 28, 29, 30, 31, 32, 33, 34, 35, 36, 37, 38, 39, 40, 41, 42, 43, 44, 45, 46, 47, 48, 49, 50, 51, 52, 53, 54, 55, 56, 57, 58, 59] (by decide +kernel) (by decide +kernel)) (goodIn_sub (fun _ h => List.mem_cons_of_mem _ (List.mem_append_right _ h)) (by decide +kernel))
set_option maxRecDepth 20000 in
theorem gX7_empties_X7_puts : GoodIn wsX7_empties (wsV RX7 178 RX7 yX7_puts wsX7_puts) := goodIn_app (goodIn_of _ (by decide +kernel)) ggX7_empties_X7_puts
set_option maxRecDepth 20000 in
theorem ggX7_empties_X7_takesQuoin : GoodIn wsX7_empties wsX7_takesQuoin := goodIn_ca (goodIn_r _ [14, 1, 15, 16, 17, 5, 18, 2, 3, 4, 6, 7, 8, 9, 10, 19, 20, 21, 22, 23, 24, 25, 26, 27, 28, 29, 30, 31, 32, 33, 34, 35, 36, 37, 38, 39, 40, 41, 42, 43, 44, 45, 46, 47, 48, 49, 50, 51, 52, 53, 54, 55, 56, 57, 58, 59] (by decide +kernel) (by decide +kernel)) (goodIn_sub (fun _ h => List.mem_cons_of_mem _ (List.mem_append_right _ h)) (by decide +kernel))
set_option maxRecDepth 20000 in
theorem gX7_empties_X7_takesQuoin : GoodIn wsX7_empties (wsV RX7 254 RX7 yX7_takesQuoin wsX7_takesQuoin) := goodIn_app (goodIn_of _ (by decide +kernel)) ggX7_empties_X7_takesQuoin
theorem dX7_empties_0 : decode cX7_empties 0 = .ok (.aload_n 0, 1) := by decide +kernel
theorem dX7_empties_1 : decode cX7_empties 1 = .ok (.iload_n 1, 1) := by decide +kernel
theorem dX7_empties_2 : decode cX7_empties 2 = .ok (.iconst 1, 1) := by decide +kernel
theorem dX7_empties_3 : decode cX7_empties 3 = .ok (.invokevirtual 189, 3) := by decide +kernel
theorem dX7_empties_6 : decode cX7_empties 6 = .ok (.istore_n 2, 1) := by decide +kernel
theorem dX7_empties_7 : decode cX7_empties 7 = .ok (.iconst 0, 1) := by decide +kernel
theorem dX7_empties_8 : decode cX7_empties 8 = .ok (.istore_n 3, 1) := by decide +kernel
theorem dX7_empties_9 : decode cX7_empties 9 = .ok (.iload_n 3, 1) := by decide +kernel
theorem dX7_empties_10 : decode cX7_empties 10 = .ok (.iload_n 2, 1) := by decide +kernel
theorem dX7_empties_11 : decode cX7_empties 11 = .ok (.if_icmp .ge 30, 3) := by decide +kernel
theorem dX7_empties_14 : decode cX7_empties 14 = .ok (.aload_n 0, 1) := by decide +kernel
theorem dX7_empties_15 : decode cX7_empties 15 = .ok (.getfield 17, 3) := by decide +kernel
theorem dX7_empties_18 : decode cX7_empties 18 = .ok (.bipush 6, 2) := by decide +kernel
theorem dX7_empties_20 : decode cX7_empties 20 = .ok (.aload_n 0, 1) := by decide +kernel
theorem dX7_empties_21 : decode cX7_empties 21 = .ok (.iload_n 1, 1) := by decide +kernel
theorem dX7_empties_22 : decode cX7_empties 22 = .ok (.bipush 11, 2) := by decide +kernel
theorem dX7_empties_24 : decode cX7_empties 24 = .ok (.iload_n 3, 1) := by decide +kernel
theorem dX7_empties_25 : decode cX7_empties 25 = .ok (.iadd, 1) := by decide +kernel
theorem dX7_empties_26 : decode cX7_empties 26 = .ok (.invokevirtual 189, 3) := by decide +kernel
theorem dX7_empties_29 : decode cX7_empties 29 = .ok (.iadd, 1) := by decide +kernel
theorem dX7_empties_30 : decode cX7_empties 30 = .ok (.dup2, 1) := by decide +kernel
theorem dX7_empties_31 : decode cX7_empties 31 = .ok (.iaload, 1) := by decide +kernel
theorem dX7_empties_32 : decode cX7_empties 32 = .ok (.iconst 1, 1) := by decide +kernel
theorem dX7_empties_33 : decode cX7_empties 33 = .ok (.iadd, 1) := by decide +kernel
theorem dX7_empties_34 : decode cX7_empties 34 = .ok (.iastore, 1) := by decide +kernel
theorem dX7_empties_35 : decode cX7_empties 35 = .ok (.iinc 3 1, 3) := by decide +kernel
theorem dX7_empties_38 : decode cX7_empties 38 = .ok (.goto (-29), 3) := by decide +kernel
theorem dX7_empties_41 : decode cX7_empties 41 = .ok (.aload_n 0, 1) := by decide +kernel
theorem dX7_empties_42 : decode cX7_empties 42 = .ok (.iload_n 1, 1) := by decide +kernel
theorem dX7_empties_43 : decode cX7_empties 43 = .ok (.iconst 1, 1) := by decide +kernel
theorem dX7_empties_44 : decode cX7_empties 44 = .ok (.iconst 0, 1) := by decide +kernel
theorem dX7_empties_45 : decode cX7_empties 45 = .ok (.invokevirtual 178, 3) := by decide +kernel
theorem dX7_empties_48 : decode cX7_empties 48 = .ok (.aload_n 0, 1) := by decide +kernel
theorem dX7_empties_49 : decode cX7_empties 49 = .ok (.iload_n 1, 1) := by decide +kernel
theorem dX7_empties_50 : decode cX7_empties 50 = .ok (.iconst 4, 1) := by decide +kernel
theorem dX7_empties_51 : decode cX7_empties 51 = .ok (.iconst 0, 1) := by decide +kernel
theorem dX7_empties_52 : decode cX7_empties 52 = .ok (.invokevirtual 178, 3) := by decide +kernel
theorem dX7_empties_55 : decode cX7_empties 55 = .ok (.aload_n 0, 1) := by decide +kernel
theorem dX7_empties_56 : decode cX7_empties 56 = .ok (.iload_n 1, 1) := by decide +kernel
theorem dX7_empties_57 : decode cX7_empties 57 = .ok (.invokevirtual 254, 3) := by decide +kernel
theorem dX7_empties_60 : decode cX7_empties 60 = .ok (.iload_n 2, 1) := by decide +kernel
theorem dX7_empties_61 : decode cX7_empties 61 = .ok (.ireturn, 1) := by decide +kernel
set_option maxRecDepth 20000 in
theorem ggX7_looseness_X7_of : GoodIn wsX7_looseness wsX7_of := goodIn_ca (goodIn_r _ [5, 6, 30, 31, 32, 33, 34, 35, 36, 37, 38, 39, 40, 41, 42, 43, 44, 45, 46, 47, 48, 49, 50, 51, 52, 53, 54, 55, 56, 57, 58, 59, 60, 61, 62, 63, 64, 65, 66, 67, 68, 69, 70] (by decide +kernel) (by decide +kernel)) (goodIn_sub (fun _ h => List.mem_cons_of_mem _ (List.mem_append_right _ h)) (by decide +kernel))
set_option maxRecDepth 20000 in
theorem gX7_looseness_X7_of : GoodIn wsX7_looseness (wsV RX7 189 RX7 yX7_of wsX7_of) := goodIn_app (goodIn_of _ (by decide +kernel)) ggX7_looseness_X7_of
set_option maxRecDepth 20000 in
theorem ggX7_looseness_X7_gap : GoodIn wsX7_looseness wsX7_gap := goodIn_ca (goodIn_r _ [10, 11, 12, 13, 14, 4, 15, 16, 17, 18, 19, 20, 1, 2, 3, 5, 6, 21, 22, 23, 24, 25, 26, 27, 28, 29, 30, 31, 32, 33, 34, 35, 36, 37, 38, 39, 40, 41, 42, 43, 44, 45, 46, 47, 48, 49, 50, 51, 52, 53, 54, 55, 56, 57, 58, 59, 60, 61, 62, 63, 64, 65, 66, 67, 68, 69, 70] (by decide +kernel) (by decide +kernel)) (goodIn_sub (fun _ h => List.mem_cons_of_mem _ (List.mem_append_right _ h)) (by decide +kernel))
set_option maxRecDepth 20000 in
theorem gX7_looseness_X7_gap : GoodIn wsX7_looseness (wsV RX7 192 RX7 yX7_gap wsX7_gap) := goodIn_app (goodIn_of _ (by decide +kernel)) ggX7_looseness_X7_gap
theorem dX7_looseness_0 : decode cX7_looseness 0 = .ok (.aload_n 0, 1) := by decide +kernel
theorem dX7_looseness_1 : decode cX7_looseness 1 = .ok (.iload_n 1, 1) := by decide +kernel
theorem dX7_looseness_2 : decode cX7_looseness 2 = .ok (.iconst 4, 1) := by decide +kernel
theorem dX7_looseness_3 : decode cX7_looseness 3 = .ok (.invokevirtual 189, 3) := by decide +kernel
theorem dX7_looseness_6 : decode cX7_looseness 6 = .ok (.bipush 10, 2) := by decide +kernel
theorem dX7_looseness_8 : decode cX7_looseness 8 = .ok (.aload_n 0, 1) := by decide +kernel
theorem dX7_looseness_9 : decode cX7_looseness 9 = .ok (.iload_n 1, 1) := by decide +kernel
theorem dX7_looseness_10 : decode cX7_looseness 10 = .ok (.invokevirtual 192, 3) := by decide +kernel
theorem dX7_looseness_13 : decode cX7_looseness 13 = .ok (.imul, 1) := by decide +kernel
theorem dX7_looseness_14 : decode cX7_looseness 14 = .ok (.iadd, 1) := by decide +kernel
theorem dX7_looseness_15 : decode cX7_looseness 15 = .ok (.ireturn, 1) := by decide +kernel
set_option maxRecDepth 20000 in
theorem ggX7_looksAtRows_X7_of : GoodIn wsX7_looksAtRows wsX7_of := goodIn_ca (goodIn_r _ [8, 3, 48, 49, 50, 51, 52, 53, 54, 55, 56, 57, 58, 59, 60, 61, 62, 63, 64, 65, 66, 67, 68, 69, 70, 71, 72, 73, 74, 75, 76, 77, 78, 79, 80, 81, 82, 83, 84, 85, 86, 87, 88] (by decide +kernel) (by decide +kernel)) (goodIn_sub (fun _ h => List.mem_cons_of_mem _ (List.mem_append_right _ h)) (by decide +kernel))
set_option maxRecDepth 20000 in
theorem gX7_looksAtRows_X7_of : GoodIn wsX7_looksAtRows (wsV RX7 189 RX7 yX7_of wsX7_of) := goodIn_app (goodIn_of _ (by decide +kernel)) ggX7_looksAtRows_X7_of
set_option maxRecDepth 20000 in
theorem ggX7_looksAtRows_X7_looseness : GoodIn wsX7_looksAtRows wsX7_looseness := goodIn_ca (goodIn_r _ [12, 4, 5, 6, 7, 8, 3, 13, 14, 15, 16, 17, 18, 19, 20, 21, 22, 23, 24, 25, 26, 27, 28, 29, 30, 31, 32, 33, 34, 35, 48, 49, 50, 51, 52, 53, 54, 55, 56, 57, 58, 59, 60, 61, 62, 63, 64, 65, 66, 67, 68, 69, 70, 71, 72, 73, 74, 75, 76, 77, 78, 79, 80, 81, 82, 83, 84, 85, 86, 87, 88] (by decide +kernel) (by decide +kernel)) (goodIn_sub (fun _ h => List.mem_cons_of_mem _ (List.mem_append_right _ h)) (by decide +kernel))
set_option maxRecDepth 20000 in
theorem gX7_looksAtRows_X7_looseness : GoodIn wsX7_looksAtRows (wsV RX7 257 RX7 yX7_looseness wsX7_looseness) := goodIn_app (goodIn_of _ (by decide +kernel)) ggX7_looksAtRows_X7_looseness
set_option maxRecDepth 20000 in
theorem ggX7_looksAtRows_X7_puts : GoodIn wsX7_looksAtRows wsX7_puts := goodIn_ca (goodIn_r _ [39, 3, 48, 49, 50, 51, 52, 53, 54, 55, 56, 57, 58, 59, 60, 61, 62, 63, 64, 65, 66, 67, 68, 69, 70, 71, 72, 73, 74, 75, 76, 77, 78, 79, 80, 81, 82, 83, 84, 85, 86, 87, 88] (by decide +kernel) (by decide +kernel)) (goodIn_sub (fun _ h => List.mem_cons_of_mem _ (List.mem_append_right _ h)) (by decide +kernel))
set_option maxRecDepth 20000 in
theorem gX7_looksAtRows_X7_puts : GoodIn wsX7_looksAtRows (wsV RX7 178 RX7 yX7_puts wsX7_puts) := goodIn_app (goodIn_of _ (by decide +kernel)) ggX7_looksAtRows_X7_puts
set_option maxRecDepth 20000 in
theorem ggX7_looksAtRows_X7_empties : GoodIn wsX7_looksAtRows wsX7_empties := goodIn_ca (goodIn_r _ [43, 3, 4, 5, 6, 7, 8, 36, 37, 38, 39, 44, 45, 46, 47, 32, 33, 34, 35, 48, 49, 50, 51, 52, 53, 54, 55, 56, 57, 58, 59, 60, 61, 62, 63, 64, 65, 66, 67, 68, 69, 70, 71, 72, 73, 74, 75, 76, 77, 78, 79, 80, 81, 82, 83, 84, 85, 86, 87, 88] (by decide +kernel) (by decide +kernel)) (goodIn_sub (fun _ h => List.mem_cons_of_mem _ (List.mem_append_right _ h)) (by decide +kernel))
set_option maxRecDepth 20000 in
theorem gX7_looksAtRows_X7_empties : GoodIn wsX7_looksAtRows (wsV RX7 260 RX7 yX7_empties wsX7_empties) := goodIn_app (goodIn_of _ (by decide +kernel)) ggX7_looksAtRows_X7_empties
theorem dX7_looksAtRows_0 : decode cX7_looksAtRows 0 = .ok (.iconst 0, 1) := by decide +kernel
theorem dX7_looksAtRows_1 : decode cX7_looksAtRows 1 = .ok (.istore_n 1, 1) := by decide +kernel
theorem dX7_looksAtRows_2 : decode cX7_looksAtRows 2 = .ok (.iconst 0, 1) := by decide +kernel
theorem dX7_looksAtRows_3 : decode cX7_looksAtRows 3 = .ok (.istore_n 2, 1) := by decide +kernel
theorem dX7_looksAtRows_4 : decode cX7_looksAtRows 4 = .ok (.iload_n 2, 1) := by decide +kernel
theorem dX7_looksAtRows_5 : decode cX7_looksAtRows 5 = .ok (.aload_n 0, 1) := by decide +kernel
theorem dX7_looksAtRows_6 : decode cX7_looksAtRows 6 = .ok (.getfield 154, 3) := by decide +kernel
theorem dX7_looksAtRows_9 : decode cX7_looksAtRows 9 = .ok (.if_icmp .ge 74, 3) := by decide +kernel
theorem dX7_looksAtRows_12 : decode cX7_looksAtRows 12 = .ok (.aload_n 0, 1) := by decide +kernel
theorem dX7_looksAtRows_13 : decode cX7_looksAtRows 13 = .ok (.iload_n 2, 1) := by decide +kernel
theorem dX7_looksAtRows_14 : decode cX7_looksAtRows 14 = .ok (.iconst 0, 1) := by decide +kernel
theorem dX7_looksAtRows_15 : decode cX7_looksAtRows 15 = .ok (.invokevirtual 189, 3) := by decide +kernel
theorem dX7_looksAtRows_18 : decode cX7_looksAtRows 18 = .ok (.ifCond .le 59, 3) := by decide +kernel
theorem dX7_looksAtRows_21 : decode cX7_looksAtRows 21 = .ok (.aload_n 0, 1) := by decide +kernel
theorem dX7_looksAtRows_22 : decode cX7_looksAtRows 22 = .ok (.iload_n 2, 1) := by decide +kernel
theorem dX7_looksAtRows_23 : decode cX7_looksAtRows 23 = .ok (.invokevirtual 257, 3) := by decide +kernel
theorem dX7_looksAtRows_26 : decode cX7_looksAtRows 26 = .ok (.aload_n 0, 1) := by decide +kernel
theorem dX7_looksAtRows_27 : decode cX7_looksAtRows 27 = .ok (.getfield 169, 3) := by decide +kernel
theorem dX7_looksAtRows_30 : decode cX7_looksAtRows 30 = .ok (.if_icmp .le 47, 3) := by decide +kernel
theorem dX7_looksAtRows_33 : decode cX7_looksAtRows 33 = .ok (.iload_n 1, 1) := by decide +kernel
theorem dX7_looksAtRows_34 : decode cX7_looksAtRows 34 = .ok (.iconst 1, 1) := by decide +kernel
theorem dX7_looksAtRows_35 : decode cX7_looksAtRows 35 = .ok (.iload_n 2, 1) := by decide +kernel
theorem dX7_looksAtRows_36 : decode cX7_looksAtRows 36 = .ok (.ishl, 1) := by decide +kernel
theorem dX7_looksAtRows_37 : decode cX7_looksAtRows 37 = .ok (.ior, 1) := by decide +kernel
theorem dX7_looksAtRows_38 : decode cX7_looksAtRows 38 = .ok (.istore_n 1, 1) := by decide +kernel
theorem dX7_looksAtRows_39 : decode cX7_looksAtRows 39 = .ok (.aload_n 0, 1) := by decide +kernel
theorem dX7_looksAtRows_40 : decode cX7_looksAtRows 40 = .ok (.getfield 17, 3) := by decide +kernel
theorem dX7_looksAtRows_43 : decode cX7_looksAtRows 43 = .ok (.iconst 4, 1) := by decide +kernel
theorem dX7_looksAtRows_44 : decode cX7_looksAtRows 44 = .ok (.dup2, 1) := by decide +kernel
theorem dX7_looksAtRows_45 : decode cX7_looksAtRows 45 = .ok (.iaload, 1) := by decide +kernel
theorem dX7_looksAtRows_46 : decode cX7_looksAtRows 46 = .ok (.aload_n 0, 1) := by decide +kernel
theorem dX7_looksAtRows_47 : decode cX7_looksAtRows 47 = .ok (.iload_n 2, 1) := by decide +kernel
theorem dX7_looksAtRows_48 : decode cX7_looksAtRows 48 = .ok (.iconst 0, 1) := by decide +kernel
theorem dX7_looksAtRows_49 : decode cX7_looksAtRows 49 = .ok (.invokevirtual 189, 3) := by decide +kernel
theorem dX7_looksAtRows_52 : decode cX7_looksAtRows 52 = .ok (.iadd, 1) := by decide +kernel
theorem dX7_looksAtRows_53 : decode cX7_looksAtRows 53 = .ok (.iastore, 1) := by decide +kernel
theorem dX7_looksAtRows_54 : decode cX7_looksAtRows 54 = .ok (.aload_n 0, 1) := by decide +kernel
theorem dX7_looksAtRows_55 : decode cX7_looksAtRows 55 = .ok (.getfield 17, 3) := by decide +kernel
theorem dX7_looksAtRows_58 : decode cX7_looksAtRows 58 = .ok (.iconst 5, 1) := by decide +kernel
theorem dX7_looksAtRows_59 : decode cX7_looksAtRows 59 = .ok (.dup2, 1) := by decide +kernel
theorem dX7_looksAtRows_60 : decode cX7_looksAtRows 60 = .ok (.iaload, 1) := by decide +kernel
theorem dX7_looksAtRows_61 : decode cX7_looksAtRows 61 = .ok (.iconst 1, 1) := by decide +kernel
theorem dX7_looksAtRows_62 : decode cX7_looksAtRows 62 = .ok (.iadd, 1) := by decide +kernel
theorem dX7_looksAtRows_63 : decode cX7_looksAtRows 63 = .ok (.iastore, 1) := by decide +kernel
theorem dX7_looksAtRows_64 : decode cX7_looksAtRows 64 = .ok (.aload_n 0, 1) := by decide +kernel
theorem dX7_looksAtRows_65 : decode cX7_looksAtRows 65 = .ok (.iload_n 2, 1) := by decide +kernel
theorem dX7_looksAtRows_66 : decode cX7_looksAtRows 66 = .ok (.iconst 0, 1) := by decide +kernel
theorem dX7_looksAtRows_67 : decode cX7_looksAtRows 67 = .ok (.iconst 0, 1) := by decide +kernel
theorem dX7_looksAtRows_68 : decode cX7_looksAtRows 68 = .ok (.invokevirtual 178, 3) := by decide +kernel
theorem dX7_looksAtRows_71 : decode cX7_looksAtRows 71 = .ok (.aload_n 0, 1) := by decide +kernel
theorem dX7_looksAtRows_72 : decode cX7_looksAtRows 72 = .ok (.iload_n 2, 1) := by decide +kernel
theorem dX7_looksAtRows_73 : decode cX7_looksAtRows 73 = .ok (.invokevirtual 260, 3) := by decide +kernel
theorem dX7_looksAtRows_76 : decode cX7_looksAtRows 76 = .ok (.istore_n 3, 1) := by decide +kernel
theorem dX7_looksAtRows_77 : decode cX7_looksAtRows 77 = .ok (.iinc 2 1, 3) := by decide +kernel
theorem dX7_looksAtRows_80 : decode cX7_looksAtRows 80 = .ok (.goto (-76), 3) := by decide +kernel
theorem dX7_looksAtRows_83 : decode cX7_looksAtRows 83 = .ok (.iload_n 1, 1) := by decide +kernel
theorem dX7_looksAtRows_84 : decode cX7_looksAtRows 84 = .ok (.ireturn, 1) := by decide +kernel
set_option maxRecDepth 20000 in
theorem ggX7_areGood_X7_of : GoodIn wsX7_areGood wsX7_of := goodIn_ca (goodIn_r _ [6, 7, 31, 32, 33, 34, 35, 36, 37, 38, 39, 40, 41, 42, 43, 44, 45, 46, 47, 48, 49, 50, 51, 52, 53, 54, 55, 56, 57, 58, 59, 60, 61, 62, 63, 64, 65, 66, 67, 68, 69, 70, 71] (by decide +kernel) (by decide +kernel)) (goodIn_sub (fun _ h => List.mem_cons_of_mem _ (List.mem_append_right _ h)) (by decide +kernel))
set_option maxRecDepth 20000 in
theorem gX7_areGood_X7_of : GoodIn wsX7_areGood (wsV RX7 189 RX7 yX7_of wsX7_of) := goodIn_app (goodIn_of _ (by decide +kernel)) ggX7_areGood_X7_of
set_option maxRecDepth 20000 in
theorem ggX7_areGood_X7_gap : GoodIn wsX7_areGood wsX7_gap := goodIn_ca (goodIn_r _ [11, 12, 13, 14, 15, 5, 16, 17, 18, 19, 20, 21, 2, 3, 4, 6, 7, 22, 23, 24, 25, 26, 27, 28, 29, 30, 31, 32, 33, 34, 35, 36, 37, 38, 39, 40, 41, 42, 43, 44, 45, 46, 47, 48, 49, 50, 51, 52, 53, 54, 55, 56, 57, 58, 59, 60, 61, 62, 63, 64, 65, 66, 67, 68, 69, 70, 71] (by decide +kernel) (by decide +kernel)) (goodIn_sub (fun _ h => List.mem_cons_of_mem _ (List.mem_append_right _ h)) (by decide +kernel))
set_option maxRecDepth 20000 in
theorem gX7_areGood_X7_gap : GoodIn wsX7_areGood (wsV RX7 192 RX7 yX7_gap wsX7_gap) := goodIn_app (goodIn_of _ (by decide +kernel)) ggX7_areGood_X7_gap
theorem dX7_areGood_0 : decode cX7_areGood 0 = .ok (.iconst 1, 1) := by decide +kernel
theorem dX7_areGood_1 : decode cX7_areGood 1 = .ok (.istore_n 1, 1) := by decide +kernel
theorem dX7_areGood_2 : decode cX7_areGood 2 = .ok (.iconst 0, 1) := by decide +kernel
theorem dX7_areGood_3 : decode cX7_areGood 3 = .ok (.istore_n 2, 1) := by decide +kernel
theorem dX7_areGood_4 : decode cX7_areGood 4 = .ok (.iload_n 2, 1) := by decide +kernel
theorem dX7_areGood_5 : decode cX7_areGood 5 = .ok (.aload_n 0, 1) := by decide +kernel
theorem dX7_areGood_6 : decode cX7_areGood 6 = .ok (.getfield 154, 3) := by decide +kernel
theorem dX7_areGood_9 : decode cX7_areGood 9 = .ok (.if_icmp .ge 47, 3) := by decide +kernel
theorem dX7_areGood_12 : decode cX7_areGood 12 = .ok (.iload_n 1, 1) := by decide +kernel
theorem dX7_areGood_13 : decode cX7_areGood 13 = .ok (.ifCond .eq 35, 3) := by decide +kernel
theorem dX7_areGood_16 : decode cX7_areGood 16 = .ok (.aload_n 0, 1) := by decide +kernel
theorem dX7_areGood_17 : decode cX7_areGood 17 = .ok (.iload_n 2, 1) := by decide +kernel
theorem dX7_areGood_18 : decode cX7_areGood 18 = .ok (.iconst 0, 1) := by decide +kernel
theorem dX7_areGood_19 : decode cX7_areGood 19 = .ok (.invokevirtual 189, 3) := by decide +kernel
theorem dX7_areGood_22 : decode cX7_areGood 22 = .ok (.ifCond .eq 22, 3) := by decide +kernel
theorem dX7_areGood_25 : decode cX7_areGood 25 = .ok (.aload_n 0, 1) := by decide +kernel
theorem dX7_areGood_26 : decode cX7_areGood 26 = .ok (.iload_n 2, 1) := by decide +kernel
theorem dX7_areGood_27 : decode cX7_areGood 27 = .ok (.invokevirtual 192, 3) := by decide +kernel
theorem dX7_areGood_30 : decode cX7_areGood 30 = .ok (.ifCond .ne 18, 3) := by decide +kernel
theorem dX7_areGood_33 : decode cX7_areGood 33 = .ok (.aload_n 0, 1) := by decide +kernel
theorem dX7_areGood_34 : decode cX7_areGood 34 = .ok (.iload_n 2, 1) := by decide +kernel
theorem dX7_areGood_35 : decode cX7_areGood 35 = .ok (.iconst 4, 1) := by decide +kernel
theorem dX7_areGood_36 : decode cX7_areGood 36 = .ok (.invokevirtual 189, 3) := by decide +kernel
theorem dX7_areGood_39 : decode cX7_areGood 39 = .ok (.bipush 10, 2) := by decide +kernel
theorem dX7_areGood_41 : decode cX7_areGood 41 = .ok (.if_icmp .ge 7, 3) := by decide +kernel
theorem dX7_areGood_44 : decode cX7_areGood 44 = .ok (.iconst 1, 1) := by decide +kernel
theorem dX7_areGood_45 : decode cX7_areGood 45 = .ok (.goto 4, 3) := by decide +kernel
theorem dX7_areGood_48 : decode cX7_areGood 48 = .ok (.iconst 0, 1) := by decide +kernel
theorem dX7_areGood_49 : decode cX7_areGood 49 = .ok (.istore_n 1, 1) := by decide +kernel
theorem dX7_areGood_50 : decode cX7_areGood 50 = .ok (.iinc 2 1, 3) := by decide +kernel
theorem dX7_areGood_53 : decode cX7_areGood 53 = .ok (.goto (-49), 3) := by decide +kernel
theorem dX7_areGood_56 : decode cX7_areGood 56 = .ok (.iload_n 1, 1) := by decide +kernel
theorem dX7_areGood_57 : decode cX7_areGood 57 = .ok (.ireturn, 1) := by decide +kernel
set_option maxRecDepth 20000 in
theorem ggX7_prints_X7_of : GoodIn wsX7_prints wsX7_of := goodIn_ca (goodIn_r _ [8, 3, 60, 61, 62, 63, 64, 65, 66, 67, 68, 69, 70, 71, 72, 73, 74, 75, 76, 77, 78, 79, 80, 81, 82, 83, 84, 85, 86, 87, 88, 89, 90, 91, 92, 93, 94, 95, 96, 97, 98, 99, 100] (by decide +kernel) (by decide +kernel)) (goodIn_sub (fun _ h => List.mem_cons_of_mem _ (List.mem_append_right _ h)) (by decide +kernel))
set_option maxRecDepth 20000 in
theorem gX7_prints_X7_of : GoodIn wsX7_prints (wsV RX7 189 RX7 yX7_of wsX7_of) := goodIn_app (goodIn_of _ (by decide +kernel)) ggX7_prints_X7_of
set_option maxRecDepth 20000 in
theorem ggX7_prints_X7_puts : GoodIn wsX7_prints wsX7_puts := goodIn_ca (goodIn_r _ [12, 3, 60, 61, 62, 63, 64, 65, 66, 67, 68, 69, 70, 71, 72, 73, 74, 75, 76, 77, 78, 79, 80, 81, 82, 83, 84, 85, 86, 87, 88, 89, 90, 91, 92, 93, 94, 95, 96, 97, 98, 99, 100] (by decide +kernel) (by decide +kernel)) (goodIn_sub (fun _ h => List.mem_cons_of_mem _ (List.mem_append_right _ h)) (by decide +kernel))
set_option maxRecDepth 20000 in
theorem gX7_prints_X7_puts : GoodIn wsX7_prints (wsV RX7 178 RX7 yX7_puts wsX7_puts) := goodIn_app (goodIn_of _ (by decide +kernel)) ggX7_prints_X7_puts
set_option maxRecDepth 20000 in
theorem ggX7_prints_X7_looksAtRows : GoodIn wsX7_prints wsX7_looksAtRows := goodIn_ca (goodIn_r _ [16, 1, 17, 3, 4, 5, 6, 7, 8, 18, 19, 20, 21, 22, 23, 24, 25, 26, 27, 28, 29, 30, 31, 32, 33, 34, 35, 36, 37, 38, 39, 40, 41, 42, 43, 44, 9, 10, 11, 12, 45, 46, 47, 48, 49, 50, 51, 52, 60, 61, 62, 63, 64, 65, 66, 67, 68, 69, 70, 71, 72, 73, 74, 75, 76, 77, 78, 79, 80, 81, 82, 83, 84, 85, 86, 87, 88, 89, 90, 91, 92, 93, 94, 95, 96, 97, 98, 99, 100] (by decide +kernel) (by decide +kernel)) (goodIn_sub (fun _ h => List.mem_cons_of_mem _ (List.mem_append_right _ h)) (by decide +kernel))
set_option maxRecDepth 20000 in
theorem gX7_prints_X7_looksAtRows : GoodIn wsX7_prints (wsV RX7 263 RX7 yX7_looksAtRows wsX7_looksAtRows) := goodIn_app (goodIn_of _ (by decide +kernel)) ggX7_prints_X7_looksAtRows
set_option maxRecDepth 20000 in
theorem ggX7_prints_X7_areGood : GoodIn wsX7_prints wsX7_areGood := goodIn_ca (goodIn_r _ [56, 1, 4, 5, 6, 7, 8, 3, 22, 23, 24, 25, 26, 27, 28, 29, 30, 31, 32, 33, 34, 35, 36, 37, 38, 39, 40, 41, 42, 43, 44, 60, 61, 62, 63, 64, 65, 66, 67, 68, 69, 70, 71, 72, 73, 74, 75, 76, 77, 78, 79, 80, 81, 82, 83, 84, 85, 86, 87, 88, 89, 90, 91, 92, 93, 94, 95, 96, 97, 98, 99, 100] (by decide +kernel) (by decide +kernel)) (goodIn_sub (fun _ h => List.mem_cons_of_mem _ (List.mem_append_right _ h)) (by decide +kernel))
set_option maxRecDepth 20000 in
theorem gX7_prints_X7_areGood : GoodIn wsX7_prints (wsV RX7 266 RX7 yX7_areGood wsX7_areGood) := goodIn_app (goodIn_of _ (by decide +kernel)) ggX7_prints_X7_areGood
set_option maxRecDepth 20000 in
theorem ggX7_prints_X7_flag : GoodIn wsX7_prints wsX7_flag := goodIn_r _ [59] (by decide +kernel) (by decide +kernel)
set_option maxRecDepth 20000 in
theorem gX7_prints_X7_flag : GoodIn wsX7_prints (va_wsS RX7 250 yX7_flag wsX7_flag) := goodIn_app (goodIn_of _ (by decide +kernel)) ggX7_prints_X7_flag
theorem dX7_prints_0 : decode cX7_prints 0 = .ok (.iconst 0, 1) := by decide +kernel
theorem dX7_prints_1 : decode cX7_prints 1 = .ok (.istore_n 1, 1) := by decide +kernel
theorem dX7_prints_2 : decode cX7_prints 2 = .ok (.iload_n 1, 1) := by decide +kernel
theorem dX7_prints_3 : decode cX7_prints 3 = .ok (.aload_n 0, 1) := by decide +kernel
theorem dX7_prints_4 : decode cX7_prints 4 = .ok (.getfield 154, 3) := by decide +kernel
theorem dX7_prints_7 : decode cX7_prints 7 = .ok (.if_icmp .ge 33, 3) := by decide +kernel
theorem dX7_prints_10 : decode cX7_prints 10 = .ok (.aload_n 0, 1) := by decide +kernel
theorem dX7_prints_11 : decode cX7_prints 11 = .ok (.iload_n 1, 1) := by decide +kernel
theorem dX7_prints_12 : decode cX7_prints 12 = .ok (.iconst 4, 1) := by decide +kernel
theorem dX7_prints_13 : decode cX7_prints 13 = .ok (.aload_n 0, 1) := by decide +kernel
theorem dX7_prints_14 : decode cX7_prints 14 = .ok (.iload_n 1, 1) := by decide +kernel
theorem dX7_prints_15 : decode cX7_prints 15 = .ok (.iconst 4, 1) := by decide +kernel
theorem dX7_prints_16 : decode cX7_prints 16 = .ok (.invokevirtual 189, 3) := by decide +kernel
theorem dX7_prints_19 : decode cX7_prints 19 = .ok (.aload_n 0, 1) := by decide +kernel
theorem dX7_prints_20 : decode cX7_prints 20 = .ok (.getfield 163, 3) := by decide +kernel
theorem dX7_prints_23 : decode cX7_prints 23 = .ok (.aload_n 0, 1) := by decide +kernel
theorem dX7_prints_24 : decode cX7_prints 24 = .ok (.iload_n 1, 1) := by decide +kernel
theorem dX7_prints_25 : decode cX7_prints 25 = .ok (.iconst 0, 1) := by decide +kernel
theorem dX7_prints_26 : decode cX7_prints 26 = .ok (.invokevirtual 189, 3) := by decide +kernel
theorem dX7_prints_29 : decode cX7_prints 29 = .ok (.imul, 1) := by decide +kernel
theorem dX7_prints_30 : decode cX7_prints 30 = .ok (.iadd, 1) := by decide +kernel
theorem dX7_prints_31 : decode cX7_prints 31 = .ok (.invokevirtual 178, 3) := by decide +kernel
theorem dX7_prints_34 : decode cX7_prints 34 = .ok (.iinc 1 1, 3) := by decide +kernel
theorem dX7_prints_37 : decode cX7_prints 37 = .ok (.goto (-35), 3) := by decide +kernel
theorem dX7_prints_40 : decode cX7_prints 40 = .ok (.aload_n 0, 1) := by decide +kernel
theorem dX7_prints_41 : decode cX7_prints 41 = .ok (.invokevirtual 263, 3) := by decide +kernel
theorem dX7_prints_44 : decode cX7_prints 44 = .ok (.istore_n 1, 1) := by decide +kernel
theorem dX7_prints_45 : decode cX7_prints 45 = .ok (.aload_n 0, 1) := by decide +kernel
theorem dX7_prints_46 : decode cX7_prints 46 = .ok (.getfield 17, 3) := by decide +kernel
theorem dX7_prints_49 : decode cX7_prints 49 = .ok (.iconst 1, 1) := by decide +kernel
theorem dX7_prints_50 : decode cX7_prints 50 = .ok (.dup2, 1) := by decide +kernel
theorem dX7_prints_51 : decode cX7_prints 51 = .ok (.iaload, 1) := by decide +kernel
theorem dX7_prints_52 : decode cX7_prints 52 = .ok (.iconst 1, 1) := by decide +kernel
theorem dX7_prints_53 : decode cX7_prints 53 = .ok (.iadd, 1) := by decide +kernel
theorem dX7_prints_54 : decode cX7_prints 54 = .ok (.iastore, 1) := by decide +kernel
theorem dX7_prints_55 : decode cX7_prints 55 = .ok (.aload_n 0, 1) := by decide +kernel
theorem dX7_prints_56 : decode cX7_prints 56 = .ok (.getfield 17, 3) := by decide +kernel
theorem dX7_prints_59 : decode cX7_prints 59 = .ok (.iconst 2, 1) := by decide +kernel
theorem dX7_prints_60 : decode cX7_prints 60 = .ok (.dup2, 1) := by decide +kernel
theorem dX7_prints_61 : decode cX7_prints 61 = .ok (.iaload, 1) := by decide +kernel
theorem dX7_prints_62 : decode cX7_prints 62 = .ok (.iload_n 1, 1) := by decide +kernel
theorem dX7_prints_63 : decode cX7_prints 63 = .ok (.ifCond .ne 14, 3) := by decide +kernel
theorem dX7_prints_66 : decode cX7_prints 66 = .ok (.aload_n 0, 1) := by decide +kernel
theorem dX7_prints_67 : decode cX7_prints 67 = .ok (.invokevirtual 266, 3) := by decide +kernel
theorem dX7_prints_70 : decode cX7_prints 70 = .ok (.ifCond .eq 7, 3) := by decide +kernel
theorem dX7_prints_73 : decode cX7_prints 73 = .ok (.iconst 1, 1) := by decide +kernel
theorem dX7_prints_74 : decode cX7_prints 74 = .ok (.goto 4, 3) := by decide +kernel
theorem dX7_prints_77 : decode cX7_prints 77 = .ok (.iconst 0, 1) := by decide +kernel
theorem dX7_prints_78 : decode cX7_prints 78 = .ok (.invokestatic 250, 3) := by decide +kernel
theorem dX7_prints_81 : decode cX7_prints 81 = .ok (.iadd, 1) := by decide +kernel
theorem dX7_prints_82 : decode cX7_prints 82 = .ok (.iastore, 1) := by decide +kernel
theorem dX7_prints_83 : decode cX7_prints 83 = .ok (.iload_n 1, 1) := by decide +kernel
theorem dX7_prints_84 : decode cX7_prints 84 = .ok (.ireturn, 1) := by decide +kernel
set_option maxRecDepth 20000 in
theorem ggX7_passes_X7_of : GoodIn wsX7_passes wsX7_of := goodIn_ca (goodIn_r _ [8, 3, 61, 62, 63, 64, 65, 66, 67, 68, 69, 70, 71, 72, 73, 74, 75, 76, 77, 78, 79, 80, 81, 82, 83, 84, 85, 86, 87, 88, 89, 90, 91, 92, 93, 94, 95, 96, 97, 98, 99, 100, 101] (by decide +kernel) (by decide +kernel)) (goodIn_sub (fun _ h => List.mem_cons_of_mem _ (List.mem_append_right _ h)) (by decide +kernel))
set_option maxRecDepth 20000 in
theorem gX7_passes_X7_of : GoodIn wsX7_passes (wsV RX7 189 RX7 yX7_of wsX7_of) := goodIn_app (goodIn_of _ (by decide +kernel)) ggX7_passes_X7_of
set_option maxRecDepth 20000 in
theorem ggX7_passes_X7_woodIn : GoodIn wsX7_passes wsX7_woodIn := goodIn_ca (goodIn_r _ [12, 13, 4, 5, 6, 7, 8, 3, 14, 15, 16, 61, 62, 63, 64, 65, 66, 67, 68, 69, 70, 71, 72, 73, 74, 75, 76, 77, 78, 79, 80, 81, 82, 83, 84, 85, 86, 87, 88, 89, 90, 91, 92, 93, 94, 95, 96, 97, 98, 99, 100, 101] (by decide +kernel) (by decide +kernel)) (goodIn_sub (fun _ h => List.mem_cons_of_mem _ (List.mem_append_right _ h)) (by decide +kernel))
set_option maxRecDepth 20000 in
theorem gX7_passes_X7_woodIn : GoodIn wsX7_passes (wsV RX7 270 RX7 yX7_woodIn wsX7_woodIn) := goodIn_app (goodIn_of _ (by decide +kernel)) ggX7_passes_X7_woodIn
set_option maxRecDepth 20000 in
theorem ggX7_passes_X7_puts : GoodIn wsX7_passes wsX7_puts := goodIn_ca (goodIn_r _ [20, 3, 61, 62, 63, 64, 65, 66, 67, 68, 69, 70, 71, 72, 73, 74, 75, 76, 77, 78, 79, 80, 81, 82, 83, 84, 85, 86, 87, 88, 89, 90, 91, 92, 93, 94, 95, 96, 97, 98, 99, 100, 101] (by decide +kernel) (by decide +kernel)) (goodIn_sub (fun _ h => List.mem_cons_of_mem _ (List.mem_append_right _ h)) (by decide +kernel))
set_option maxRecDepth 20000 in
theorem gX7_passes_X7_puts : GoodIn wsX7_passes (wsV RX7 178 RX7 yX7_puts wsX7_puts) := goodIn_app (goodIn_of _ (by decide +kernel)) ggX7_passes_X7_puts
set_option maxRecDepth 20000 in
theorem ggX7_passes_X7_looksAtRows : GoodIn wsX7_passes wsX7_looksAtRows := goodIn_ca (goodIn_r _ [24, 1, 25, 3, 4, 5, 6, 7, 8, 26, 27, 28, 29, 30, 31, 32, 33, 34, 35, 36, 37, 38, 39, 40, 41, 42, 43, 44, 45, 46, 47, 48, 49, 50, 51, 52, 17, 18, 19, 20, 53, 54, 55, 56, 57, 58, 59, 60, 61, 62, 63, 64, 65, 66, 67, 68, 69, 70, 71, 72, 73, 74, 75, 76, 77, 78, 79, 80, 81, 82, 83, 84, 85, 86, 87, 88, 89, 90, 91, 92, 93, 94, 95, 96, 97, 98, 99, 100, 101] (by decide +kernel) (by decide +kernel)) (goodIn_sub (fun _ h => List.mem_cons_of_mem _ (List.mem_append_right _ h)) (by decide +kernel))
set_option maxRecDepth 20000 in
theorem gX7_passes_X7_looksAtRows : GoodIn wsX7_passes (wsV RX7 263 RX7 yX7_looksAtRows wsX7_looksAtRows) := goodIn_app (goodIn_of _ (by decide +kernel)) ggX7_passes_X7_looksAtRows
theorem dX7_passes_0 : decode cX7_passes 0 = .ok (.iconst 0, 1) := by decide +kernel
theorem dX7_passes_1 : decode cX7_passes 1 = .ok (.istore_n 1, 1) := by decide +kernel
theorem dX7_passes_2 : decode cX7_passes 2 = .ok (.iload_n 1, 1) := by decide +kernel
theorem dX7_passes_3 : decode cX7_passes 3 = .ok (.aload_n 0, 1) := by decide +kernel
theorem dX7_passes_4 : decode cX7_passes 4 = .ok (.getfield 154, 3) := by decide +kernel
theorem dX7_passes_7 : decode cX7_passes 7 = .ok (.if_icmp .ge 32, 3) := by decide +kernel
theorem dX7_passes_10 : decode cX7_passes 10 = .ok (.aload_n 0, 1) := by decide +kernel
theorem dX7_passes_11 : decode cX7_passes 11 = .ok (.iload_n 1, 1) := by decide +kernel
theorem dX7_passes_12 : decode cX7_passes 12 = .ok (.iconst 4, 1) := by decide +kernel
theorem dX7_passes_13 : decode cX7_passes 13 = .ok (.aload_n 0, 1) := by decide +kernel
theorem dX7_passes_14 : decode cX7_passes 14 = .ok (.iload_n 1, 1) := by decide +kernel
theorem dX7_passes_15 : decode cX7_passes 15 = .ok (.iconst 4, 1) := by decide +kernel
theorem dX7_passes_16 : decode cX7_passes 16 = .ok (.invokevirtual 189, 3) := by decide +kernel
theorem dX7_passes_19 : decode cX7_passes 19 = .ok (.aload_n 0, 1) := by decide +kernel
theorem dX7_passes_20 : decode cX7_passes 20 = .ok (.getfield 166, 3) := by decide +kernel
theorem dX7_passes_23 : decode cX7_passes 23 = .ok (.aload_n 0, 1) := by decide +kernel
theorem dX7_passes_24 : decode cX7_passes 24 = .ok (.iload_n 1, 1) := by decide +kernel
theorem dX7_passes_25 : decode cX7_passes 25 = .ok (.invokevirtual 270, 3) := by decide +kernel
theorem dX7_passes_28 : decode cX7_passes 28 = .ok (.imul, 1) := by decide +kernel
theorem dX7_passes_29 : decode cX7_passes 29 = .ok (.iadd, 1) := by decide +kernel
theorem dX7_passes_30 : decode cX7_passes 30 = .ok (.invokevirtual 178, 3) := by decide +kernel
theorem dX7_passes_33 : decode cX7_passes 33 = .ok (.iinc 1 1, 3) := by decide +kernel
theorem dX7_passes_36 : decode cX7_passes 36 = .ok (.goto (-34), 3) := by decide +kernel
theorem dX7_passes_39 : decode cX7_passes 39 = .ok (.aload_n 0, 1) := by decide +kernel
theorem dX7_passes_40 : decode cX7_passes 40 = .ok (.getfield 17, 3) := by decide +kernel
theorem dX7_passes_43 : decode cX7_passes 43 = .ok (.iconst 3, 1) := by decide +kernel
theorem dX7_passes_44 : decode cX7_passes 44 = .ok (.dup2, 1) := by decide +kernel
theorem dX7_passes_45 : decode cX7_passes 45 = .ok (.iaload, 1) := by decide +kernel
theorem dX7_passes_46 : decode cX7_passes 46 = .ok (.iconst 1, 1) := by decide +kernel
theorem dX7_passes_47 : decode cX7_passes 47 = .ok (.iadd, 1) := by decide +kernel
theorem dX7_passes_48 : decode cX7_passes 48 = .ok (.iastore, 1) := by decide +kernel
theorem dX7_passes_49 : decode cX7_passes 49 = .ok (.aload_n 0, 1) := by decide +kernel
theorem dX7_passes_50 : decode cX7_passes 50 = .ok (.invokevirtual 263, 3) := by decide +kernel
theorem dX7_passes_53 : decode cX7_passes 53 = .ok (.ireturn, 1) := by decide +kernel
theorem dX7_ones_0 : decode cX7_ones 0 = .ok (.iconst 0, 1) := by decide +kernel
theorem dX7_ones_1 : decode cX7_ones 1 = .ok (.istore_n 1, 1) := by decide +kernel
theorem dX7_ones_2 : decode cX7_ones 2 = .ok (.iconst 0, 1) := by decide +kernel
theorem dX7_ones_3 : decode cX7_ones 3 = .ok (.istore_n 2, 1) := by decide +kernel
theorem dX7_ones_4 : decode cX7_ones 4 = .ok (.iload_n 2, 1) := by decide +kernel
theorem dX7_ones_5 : decode cX7_ones 5 = .ok (.bipush 8, 2) := by decide +kernel
theorem dX7_ones_7 : decode cX7_ones 7 = .ok (.if_icmp .ge 17, 3) := by decide +kernel
theorem dX7_ones_10 : decode cX7_ones 10 = .ok (.iload_n 1, 1) := by decide +kernel
theorem dX7_ones_11 : decode cX7_ones 11 = .ok (.iload_n 0, 1) := by decide +kernel
theorem dX7_ones_12 : decode cX7_ones 12 = .ok (.iload_n 2, 1) := by decide +kernel
theorem dX7_ones_13 : decode cX7_ones 13 = .ok (.ishr, 1) := by decide +kernel
theorem dX7_ones_14 : decode cX7_ones 14 = .ok (.iconst 1, 1) := by decide +kernel
theorem dX7_ones_15 : decode cX7_ones 15 = .ok (.iand, 1) := by decide +kernel
theorem dX7_ones_16 : decode cX7_ones 16 = .ok (.iadd, 1) := by decide +kernel
theorem dX7_ones_17 : decode cX7_ones 17 = .ok (.istore_n 1, 1) := by decide +kernel
theorem dX7_ones_18 : decode cX7_ones 18 = .ok (.iinc 2 1, 3) := by decide +kernel
theorem dX7_ones_21 : decode cX7_ones 21 = .ok (.goto (-17), 3) := by decide +kernel
theorem dX7_ones_24 : decode cX7_ones 24 = .ok (.iload_n 1, 1) := by decide +kernel
theorem dX7_ones_25 : decode cX7_ones 25 = .ok (.ireturn, 1) := by decide +kernel
theorem dX7_isAhead_0 : decode cX7_isAhead 0 = .ok (.aload_n 0, 1) := by decide +kernel
theorem dX7_isAhead_1 : decode cX7_isAhead 1 = .ok (.getfield 13, 3) := by decide +kernel
theorem dX7_isAhead_4 : decode cX7_isAhead 4 = .ok (.iload_n 1, 1) := by decide +kernel
theorem dX7_isAhead_5 : decode cX7_isAhead 5 = .ok (.iaload, 1) := by decide +kernel
theorem dX7_isAhead_6 : decode cX7_isAhead 6 = .ok (.aload_n 0, 1) := by decide +kernel
theorem dX7_isAhead_7 : decode cX7_isAhead 7 = .ok (.getfield 13, 3) := by decide +kernel
theorem dX7_isAhead_10 : decode cX7_isAhead 10 = .ok (.iload_n 2, 1) := by decide +kernel
theorem dX7_isAhead_11 : decode cX7_isAhead 11 = .ok (.iaload, 1) := by decide +kernel
theorem dX7_isAhead_12 : decode cX7_isAhead 12 = .ok (.if_icmp .gt 36, 3) := by decide +kernel
theorem dX7_isAhead_15 : decode cX7_isAhead 15 = .ok (.aload_n 0, 1) := by decide +kernel
theorem dX7_isAhead_16 : decode cX7_isAhead 16 = .ok (.getfield 13, 3) := by decide +kernel
theorem dX7_isAhead_19 : decode cX7_isAhead 19 = .ok (.iload_n 1, 1) := by decide +kernel
theorem dX7_isAhead_20 : decode cX7_isAhead 20 = .ok (.iaload, 1) := by decide +kernel
theorem dX7_isAhead_21 : decode cX7_isAhead 21 = .ok (.aload_n 0, 1) := by decide +kernel
theorem dX7_isAhead_22 : decode cX7_isAhead 22 = .ok (.getfield 13, 3) := by decide +kernel
theorem dX7_isAhead_25 : decode cX7_isAhead 25 = .ok (.iload_n 2, 1) := by decide +kernel
theorem dX7_isAhead_26 : decode cX7_isAhead 26 = .ok (.iaload, 1) := by decide +kernel
theorem dX7_isAhead_27 : decode cX7_isAhead 27 = .ok (.if_icmp .ne 25, 3) := by decide +kernel
theorem dX7_isAhead_30 : decode cX7_isAhead 30 = .ok (.aload_n 0, 1) := by decide +kernel
theorem dX7_isAhead_31 : decode cX7_isAhead 31 = .ok (.getfield 7, 3) := by decide +kernel
theorem dX7_isAhead_34 : decode cX7_isAhead 34 = .ok (.iload_n 1, 1) := by decide +kernel
theorem dX7_isAhead_35 : decode cX7_isAhead 35 = .ok (.baload, 1) := by decide +kernel
theorem dX7_isAhead_36 : decode cX7_isAhead 36 = .ok (.ifCond .eq 16, 3) := by decide +kernel
theorem dX7_isAhead_39 : decode cX7_isAhead 39 = .ok (.aload_n 0, 1) := by decide +kernel
theorem dX7_isAhead_40 : decode cX7_isAhead 40 = .ok (.getfield 7, 3) := by decide +kernel
theorem dX7_isAhead_43 : decode cX7_isAhead 43 = .ok (.iload_n 2, 1) := by decide +kernel
theorem dX7_isAhead_44 : decode cX7_isAhead 44 = .ok (.baload, 1) := by decide +kernel
theorem dX7_isAhead_45 : decode cX7_isAhead 45 = .ok (.ifCond .ne 7, 3) := by decide +kernel
theorem dX7_isAhead_48 : decode cX7_isAhead 48 = .ok (.iconst 1, 1) := by decide +kernel
theorem dX7_isAhead_49 : decode cX7_isAhead 49 = .ok (.goto 4, 3) := by decide +kernel
theorem dX7_isAhead_52 : decode cX7_isAhead 52 = .ok (.iconst 0, 1) := by decide +kernel
theorem dX7_isAhead_53 : decode cX7_isAhead 53 = .ok (.ireturn, 1) := by decide +kernel
set_option maxRecDepth 20000 in
theorem ggX7_laysOrder_X7_isAhead : GoodIn wsX7_laysOrder wsX7_isAhead := goodIn_ca (goodIn_r _ [7, 8, 9, 13, 14, 15, 16, 17, 18, 19, 20, 21, 22, 23, 24, 25, 26, 27, 28, 29, 30, 31, 32, 33, 34, 35, 36, 37, 38, 39, 40, 41, 42, 43, 44, 45, 46, 47, 48, 49, 50, 51, 52, 53] (by decide +kernel) (by decide +kernel)) (goodIn_sub (fun _ h => List.mem_cons_of_mem _ (List.mem_append_right _ h)) (by decide +kernel))
set_option maxRecDepth 20000 in
theorem gX7_laysOrder_X7_isAhead : GoodIn wsX7_laysOrder (wsV RX7 273 RX7 yX7_isAhead wsX7_isAhead) := goodIn_app (goodIn_of _ (by decide +kernel)) ggX7_laysOrder_X7_isAhead
set_option maxRecDepth 20000 in
theorem ggX7_laysOrder_X7_flag : GoodIn wsX7_laysOrder wsX7_flag := goodIn_r _ [12] (by decide +kernel) (by decide +kernel)
set_option maxRecDepth 20000 in
theorem gX7_laysOrder_X7_flag : GoodIn wsX7_laysOrder (va_wsS RX7 250 yX7_flag wsX7_flag) := goodIn_app (goodIn_of _ (by decide +kernel)) ggX7_laysOrder_X7_flag
theorem dX7_laysOrder_0 : decode cX7_laysOrder 0 = .ok (.iconst 0, 1) := by decide +kernel
theorem dX7_laysOrder_1 : decode cX7_laysOrder 1 = .ok (.istore_n 1, 1) := by decide +kernel
theorem dX7_laysOrder_2 : decode cX7_laysOrder 2 = .ok (.iload_n 1, 1) := by decide +kernel
theorem dX7_laysOrder_3 : decode cX7_laysOrder 3 = .ok (.aload_n 0, 1) := by decide +kernel
theorem dX7_laysOrder_4 : decode cX7_laysOrder 4 = .ok (.getfield 172, 3) := by decide +kernel
theorem dX7_laysOrder_7 : decode cX7_laysOrder 7 = .ok (.if_icmp .ge 59, 3) := by decide +kernel
theorem dX7_laysOrder_10 : decode cX7_laysOrder 10 = .ok (.iconst 0, 1) := by decide +kernel
theorem dX7_laysOrder_11 : decode cX7_laysOrder 11 = .ok (.istore_n 2, 1) := by decide +kernel
theorem dX7_laysOrder_12 : decode cX7_laysOrder 12 = .ok (.iconst 0, 1) := by decide +kernel
theorem dX7_laysOrder_13 : decode cX7_laysOrder 13 = .ok (.istore_n 3, 1) := by decide +kernel
theorem dX7_laysOrder_14 : decode cX7_laysOrder 14 = .ok (.iload_n 3, 1) := by decide +kernel
theorem dX7_laysOrder_15 : decode cX7_laysOrder 15 = .ok (.aload_n 0, 1) := by decide +kernel
theorem dX7_laysOrder_16 : decode cX7_laysOrder 16 = .ok (.getfield 172, 3) := by decide +kernel
theorem dX7_laysOrder_19 : decode cX7_laysOrder 19 = .ok (.if_icmp .ge 34, 3) := by decide +kernel
theorem dX7_laysOrder_22 : decode cX7_laysOrder 22 = .ok (.iload_n 2, 1) := by decide +kernel
theorem dX7_laysOrder_23 : decode cX7_laysOrder 23 = .ok (.iload_n 3, 1) := by decide +kernel
theorem dX7_laysOrder_24 : decode cX7_laysOrder 24 = .ok (.iload_n 1, 1) := by decide +kernel
theorem dX7_laysOrder_25 : decode cX7_laysOrder 25 = .ok (.if_icmp .eq 16, 3) := by decide +kernel
theorem dX7_laysOrder_28 : decode cX7_laysOrder 28 = .ok (.aload_n 0, 1) := by decide +kernel
theorem dX7_laysOrder_29 : decode cX7_laysOrder 29 = .ok (.iload_n 3, 1) := by decide +kernel
theorem dX7_laysOrder_30 : decode cX7_laysOrder 30 = .ok (.iload_n 1, 1) := by decide +kernel
theorem dX7_laysOrder_31 : decode cX7_laysOrder 31 = .ok (.invokevirtual 273, 3) := by decide +kernel
theorem dX7_laysOrder_34 : decode cX7_laysOrder 34 = .ok (.ifCond .eq 7, 3) := by decide +kernel
theorem dX7_laysOrder_37 : decode cX7_laysOrder 37 = .ok (.iconst 1, 1) := by decide +kernel
theorem dX7_laysOrder_38 : decode cX7_laysOrder 38 = .ok (.goto 4, 3) := by decide +kernel
theorem dX7_laysOrder_41 : decode cX7_laysOrder 41 = .ok (.iconst 0, 1) := by decide +kernel
theorem dX7_laysOrder_42 : decode cX7_laysOrder 42 = .ok (.invokestatic 250, 3) := by decide +kernel
theorem dX7_laysOrder_45 : decode cX7_laysOrder 45 = .ok (.iadd, 1) := by decide +kernel
theorem dX7_laysOrder_46 : decode cX7_laysOrder 46 = .ok (.istore_n 2, 1) := by decide +kernel
theorem dX7_laysOrder_47 : decode cX7_laysOrder 47 = .ok (.iinc 3 1, 3) := by decide +kernel
theorem dX7_laysOrder_50 : decode cX7_laysOrder 50 = .ok (.goto (-36), 3) := by decide +kernel
theorem dX7_laysOrder_53 : decode cX7_laysOrder 53 = .ok (.aload_n 0, 1) := by decide +kernel
theorem dX7_laysOrder_54 : decode cX7_laysOrder 54 = .ok (.getfield 49, 3) := by decide +kernel
theorem dX7_laysOrder_57 : decode cX7_laysOrder 57 = .ok (.iload_n 2, 1) := by decide +kernel
theorem dX7_laysOrder_58 : decode cX7_laysOrder 58 = .ok (.iload_n 1, 1) := by decide +kernel
theorem dX7_laysOrder_59 : decode cX7_laysOrder 59 = .ok (.iastore, 1) := by decide +kernel
theorem dX7_laysOrder_60 : decode cX7_laysOrder 60 = .ok (.iinc 1 1, 3) := by decide +kernel
theorem dX7_laysOrder_63 : decode cX7_laysOrder 63 = .ok (.goto (-61), 3) := by decide +kernel
theorem dX7_laysOrder_66 : decode cX7_laysOrder 66 = .ok (.return_, 1) := by decide +kernel
set_option maxRecDepth 20000 in
theorem ggX7_leftOf_X7_flag : GoodIn wsX7_leftOf wsX7_flag := goodIn_r _ [6] (by decide +kernel) (by decide +kernel)
set_option maxRecDepth 20000 in
theorem gX7_leftOf_X7_flag : GoodIn wsX7_leftOf (va_wsS RX7 250 yX7_flag wsX7_flag) := goodIn_app (goodIn_of _ (by decide +kernel)) ggX7_leftOf_X7_flag
theorem dX7_leftOf_0 : decode cX7_leftOf 0 = .ok (.aload_n 0, 1) := by decide +kernel
theorem dX7_leftOf_1 : decode cX7_leftOf 1 = .ok (.getfield 17, 3) := by decide +kernel
theorem dX7_leftOf_4 : decode cX7_leftOf 4 = .ok (.bipush 6, 2) := by decide +kernel
theorem dX7_leftOf_6 : decode cX7_leftOf 6 = .ok (.iload_n 1, 1) := by decide +kernel
theorem dX7_leftOf_7 : decode cX7_leftOf 7 = .ok (.iadd, 1) := by decide +kernel
theorem dX7_leftOf_8 : decode cX7_leftOf 8 = .ok (.iaload, 1) := by decide +kernel
theorem dX7_leftOf_9 : decode cX7_leftOf 9 = .ok (.iload_n 1, 1) := by decide +kernel
theorem dX7_leftOf_10 : decode cX7_leftOf 10 = .ok (.aload_n 0, 1) := by decide +kernel
theorem dX7_leftOf_11 : decode cX7_leftOf 11 = .ok (.getfield 58, 3) := by decide +kernel
theorem dX7_leftOf_14 : decode cX7_leftOf 14 = .ok (.if_icmp .ne 7, 3) := by decide +kernel
theorem dX7_leftOf_17 : decode cX7_leftOf 17 = .ok (.iconst 1, 1) := by decide +kernel
theorem dX7_leftOf_18 : decode cX7_leftOf 18 = .ok (.goto 4, 3) := by decide +kernel
theorem dX7_leftOf_21 : decode cX7_leftOf 21 = .ok (.iconst 0, 1) := by decide +kernel
theorem dX7_leftOf_22 : decode cX7_leftOf 22 = .ok (.invokestatic 250, 3) := by decide +kernel
theorem dX7_leftOf_25 : decode cX7_leftOf 25 = .ok (.iadd, 1) := by decide +kernel
theorem dX7_leftOf_26 : decode cX7_leftOf 26 = .ok (.ireturn, 1) := by decide +kernel
set_option maxRecDepth 20000 in
theorem ggX7_laysFewest_X7_laysOrder : GoodIn wsX7_laysFewest wsX7_laysOrder := goodIn_ca (goodIn_r _ [8, 2, 9, 10, 11, 12, 7, 13, 14, 15, 16, 17, 18, 33, 34, 35, 36, 37, 38, 39, 40, 41, 42, 43, 44, 45, 46, 47, 48, 49, 50, 51, 52, 53, 54, 55, 56, 57, 58, 59, 60, 61, 62, 63, 64, 65, 66, 67, 68, 69, 70, 71, 72, 73] (by decide +kernel) (by decide +kernel)) (goodIn_sub (fun _ h => List.mem_cons_of_mem _ (List.mem_append_right _ h)) (by decide +kernel))
set_option maxRecDepth 20000 in
theorem gX7_laysFewest_X7_laysOrder : GoodIn wsX7_laysFewest (wsV RX7 277 RX7 yX7_laysOrder wsX7_laysOrder) := goodIn_app (goodIn_of _ (by decide +kernel)) ggX7_laysFewest_X7_laysOrder
set_option maxRecDepth 20000 in
theorem ggX7_laysFewest_X7_fewestWith : GoodIn wsX7_laysFewest wsX7_fewestWith := goodIn_ca (goodIn_r _ [22, 9, 3, 14, 1, 23, 24, 25, 26, 27, 28, 29, 7, 30, 31, 32, 16, 17, 18, 33, 34, 35, 36, 37, 38, 39, 40, 41, 42, 43, 44, 45, 46, 47, 48, 49, 50, 51, 52, 53, 54, 55, 56, 57, 58, 59, 60, 61, 62, 63, 64, 65, 66, 67, 68, 69, 70, 71, 72, 73] (by decide +kernel) (by decide +kernel)) (goodIn_sub (fun _ h => List.mem_cons_of_mem _ (List.mem_append_right _ h)) (by decide +kernel))
set_option maxRecDepth 20000 in
theorem gX7_laysFewest_X7_fewestWith : GoodIn wsX7_laysFewest (wsV RX7 281 RX7 yX7_fewestWith wsX7_fewestWith) := goodIn_app (goodIn_of _ (by decide +kernel)) ggX7_laysFewest_X7_fewestWith
theorem dX7_laysFewest_0 : decode cX7_laysFewest 0 = .ok (.aload_n 0, 1) := by decide +kernel
theorem dX7_laysFewest_1 : decode cX7_laysFewest 1 = .ok (.invokevirtual 277, 3) := by decide +kernel
theorem dX7_laysFewest_4 : decode cX7_laysFewest 4 = .ok (.iconst 0, 1) := by decide +kernel
theorem dX7_laysFewest_5 : decode cX7_laysFewest 5 = .ok (.istore_n 2, 1) := by decide +kernel
theorem dX7_laysFewest_6 : decode cX7_laysFewest 6 = .ok (.iload_n 2, 1) := by decide +kernel
theorem dX7_laysFewest_7 : decode cX7_laysFewest 7 = .ok (.iload_n 1, 1) := by decide +kernel
theorem dX7_laysFewest_8 : decode cX7_laysFewest 8 = .ok (.if_icmp .gt 35, 3) := by decide +kernel
theorem dX7_laysFewest_11 : decode cX7_laysFewest 11 = .ok (.aload_n 0, 1) := by decide +kernel
theorem dX7_laysFewest_12 : decode cX7_laysFewest 12 = .ok (.getfield 52, 3) := by decide +kernel
theorem dX7_laysFewest_15 : decode cX7_laysFewest 15 = .ok (.sipush 501, 3) := by decide +kernel
theorem dX7_laysFewest_18 : decode cX7_laysFewest 18 = .ok (.aload_n 0, 1) := by decide +kernel
theorem dX7_laysFewest_19 : decode cX7_laysFewest 19 = .ok (.getfield 172, 3) := by decide +kernel
theorem dX7_laysFewest_22 : decode cX7_laysFewest 22 = .ok (.imul, 1) := by decide +kernel
theorem dX7_laysFewest_23 : decode cX7_laysFewest 23 = .ok (.iload_n 2, 1) := by decide +kernel
theorem dX7_laysFewest_24 : decode cX7_laysFewest 24 = .ok (.iadd, 1) := by decide +kernel
theorem dX7_laysFewest_25 : decode cX7_laysFewest 25 = .ok (.iload_n 2, 1) := by decide +kernel
theorem dX7_laysFewest_26 : decode cX7_laysFewest 26 = .ok (.ifCond .ne 7, 3) := by decide +kernel
theorem dX7_laysFewest_29 : decode cX7_laysFewest 29 = .ok (.iconst 0, 1) := by decide +kernel
theorem dX7_laysFewest_30 : decode cX7_laysFewest 30 = .ok (.goto 6, 3) := by decide +kernel
theorem dX7_laysFewest_33 : decode cX7_laysFewest 33 = .ok (.ldc_w 280, 3) := by decide +kernel
theorem dX7_laysFewest_36 : decode cX7_laysFewest 36 = .ok (.iastore, 1) := by decide +kernel
theorem dX7_laysFewest_37 : decode cX7_laysFewest 37 = .ok (.iinc 2 1, 3) := by decide +kernel
theorem dX7_laysFewest_40 : decode cX7_laysFewest 40 = .ok (.goto (-34), 3) := by decide +kernel
theorem dX7_laysFewest_43 : decode cX7_laysFewest 43 = .ok (.aload_n 0, 1) := by decide +kernel
theorem dX7_laysFewest_44 : decode cX7_laysFewest 44 = .ok (.getfield 172, 3) := by decide +kernel
theorem dX7_laysFewest_47 : decode cX7_laysFewest 47 = .ok (.iconst 1, 1) := by decide +kernel
theorem dX7_laysFewest_48 : decode cX7_laysFewest 48 = .ok (.isub, 1) := by decide +kernel
theorem dX7_laysFewest_49 : decode cX7_laysFewest 49 = .ok (.istore_n 2, 1) := by decide +kernel
theorem dX7_laysFewest_50 : decode cX7_laysFewest 50 = .ok (.iload_n 2, 1) := by decide +kernel
theorem dX7_laysFewest_51 : decode cX7_laysFewest 51 = .ok (.ifCond .lt 40, 3) := by decide +kernel
theorem dX7_laysFewest_54 : decode cX7_laysFewest 54 = .ok (.iconst 0, 1) := by decide +kernel
theorem dX7_laysFewest_55 : decode cX7_laysFewest 55 = .ok (.istore_n 3, 1) := by decide +kernel
theorem dX7_laysFewest_56 : decode cX7_laysFewest 56 = .ok (.iload_n 3, 1) := by decide +kernel
theorem dX7_laysFewest_57 : decode cX7_laysFewest 57 = .ok (.iload_n 1, 1) := by decide +kernel
theorem dX7_laysFewest_58 : decode cX7_laysFewest 58 = .ok (.if_icmp .gt 27, 3) := by decide +kernel
theorem dX7_laysFewest_61 : decode cX7_laysFewest 61 = .ok (.aload_n 0, 1) := by decide +kernel
theorem dX7_laysFewest_62 : decode cX7_laysFewest 62 = .ok (.getfield 52, 3) := by decide +kernel
theorem dX7_laysFewest_65 : decode cX7_laysFewest 65 = .ok (.sipush 501, 3) := by decide +kernel
theorem dX7_laysFewest_68 : decode cX7_laysFewest 68 = .ok (.iload_n 2, 1) := by decide +kernel
theorem dX7_laysFewest_69 : decode cX7_laysFewest 69 = .ok (.imul, 1) := by decide +kernel
theorem dX7_laysFewest_70 : decode cX7_laysFewest 70 = .ok (.iload_n 3, 1) := by decide +kernel
theorem dX7_laysFewest_71 : decode cX7_laysFewest 71 = .ok (.iadd, 1) := by decide +kernel
theorem dX7_laysFewest_72 : decode cX7_laysFewest 72 = .ok (.aload_n 0, 1) := by decide +kernel
theorem dX7_laysFewest_73 : decode cX7_laysFewest 73 = .ok (.iload_n 2, 1) := by decide +kernel
theorem dX7_laysFewest_74 : decode cX7_laysFewest 74 = .ok (.iload_n 3, 1) := by decide +kernel
theorem dX7_laysFewest_75 : decode cX7_laysFewest 75 = .ok (.invokevirtual 281, 3) := by decide +kernel
theorem dX7_laysFewest_78 : decode cX7_laysFewest 78 = .ok (.iastore, 1) := by decide +kernel
theorem dX7_laysFewest_79 : decode cX7_laysFewest 79 = .ok (.iinc 3 1, 3) := by decide +kernel
theorem dX7_laysFewest_82 : decode cX7_laysFewest 82 = .ok (.goto (-26), 3) := by decide +kernel
theorem dX7_laysFewest_85 : decode cX7_laysFewest 85 = .ok (.iinc 2 (-1), 3) := by decide +kernel
theorem dX7_laysFewest_88 : decode cX7_laysFewest 88 = .ok (.goto (-38), 3) := by decide +kernel
theorem dX7_laysFewest_91 : decode cX7_laysFewest 91 = .ok (.return_, 1) := by decide +kernel
set_option maxRecDepth 20000 in
theorem ggX7_fewestWith_X7_leftOf : GoodIn wsX7_fewestWith wsX7_leftOf := goodIn_ca (goodIn_r _ [13, 14, 15, 16, 17, 12, 18, 19, 20, 21, 22, 23, 24, 25, 26, 27, 28, 29, 30, 31, 32, 33, 34, 35, 36, 37, 38, 39, 40, 41, 42, 43, 44, 45, 46, 47, 48, 49, 50, 51, 52, 53, 54, 55, 56, 57, 58, 59] (by decide +kernel) (by decide +kernel)) (goodIn_sub (fun _ h => List.mem_cons_of_mem _ (List.mem_append_right _ h)) (by decide +kernel))
set_option maxRecDepth 20000 in
theorem gX7_fewestWith_X7_leftOf : GoodIn wsX7_fewestWith (wsV RX7 284 RX7 yX7_leftOf wsX7_leftOf) := goodIn_app (goodIn_of _ (by decide +kernel)) ggX7_fewestWith_X7_leftOf
theorem dX7_fewestWith_0 : decode cX7_fewestWith 0 = .ok (.aload_n 0, 1) := by decide +kernel
theorem dX7_fewestWith_1 : decode cX7_fewestWith 1 = .ok (.getfield 49, 3) := by decide +kernel
theorem dX7_fewestWith_4 : decode cX7_fewestWith 4 = .ok (.iload_n 1, 1) := by decide +kernel
theorem dX7_fewestWith_5 : decode cX7_fewestWith 5 = .ok (.iaload, 1) := by decide +kernel
theorem dX7_fewestWith_6 : decode cX7_fewestWith 6 = .ok (.istore_n 3, 1) := by decide +kernel
theorem dX7_fewestWith_7 : decode cX7_fewestWith 7 = .ok (.ldc_w 280, 3) := by decide +kernel
theorem dX7_fewestWith_10 : decode cX7_fewestWith 10 = .ok (.istore 4, 2) := by decide +kernel
theorem dX7_fewestWith_12 : decode cX7_fewestWith 12 = .ok (.iconst 0, 1) := by decide +kernel
theorem dX7_fewestWith_13 : decode cX7_fewestWith 13 = .ok (.istore 5, 2) := by decide +kernel
theorem dX7_fewestWith_15 : decode cX7_fewestWith 15 = .ok (.iload 5, 2) := by decide +kernel
theorem dX7_fewestWith_17 : decode cX7_fewestWith 17 = .ok (.aload_n 0, 1) := by decide +kernel
theorem dX7_fewestWith_18 : decode cX7_fewestWith 18 = .ok (.iload_n 3, 1) := by decide +kernel
theorem dX7_fewestWith_19 : decode cX7_fewestWith 19 = .ok (.invokevirtual 284, 3) := by decide +kernel
theorem dX7_fewestWith_22 : decode cX7_fewestWith 22 = .ok (.if_icmp .gt 56, 3) := by decide +kernel
theorem dX7_fewestWith_25 : decode cX7_fewestWith 25 = .ok (.iload 5, 2) := by decide +kernel
theorem dX7_fewestWith_27 : decode cX7_fewestWith 27 = .ok (.aload_n 0, 1) := by decide +kernel
theorem dX7_fewestWith_28 : decode cX7_fewestWith 28 = .ok (.getfield 13, 3) := by decide +kernel
theorem dX7_fewestWith_31 : decode cX7_fewestWith 31 = .ok (.iload_n 3, 1) := by decide +kernel
theorem dX7_fewestWith_32 : decode cX7_fewestWith 32 = .ok (.iaload, 1) := by decide +kernel
theorem dX7_fewestWith_33 : decode cX7_fewestWith 33 = .ok (.imul, 1) := by decide +kernel
theorem dX7_fewestWith_34 : decode cX7_fewestWith 34 = .ok (.iload_n 2, 1) := by decide +kernel
theorem dX7_fewestWith_35 : decode cX7_fewestWith 35 = .ok (.if_icmp .gt 43, 3) := by decide +kernel
theorem dX7_fewestWith_38 : decode cX7_fewestWith 38 = .ok (.iload 4, 2) := by decide +kernel
theorem dX7_fewestWith_40 : decode cX7_fewestWith 40 = .ok (.iload 5, 2) := by decide +kernel
theorem dX7_fewestWith_42 : decode cX7_fewestWith 42 = .ok (.aload_n 0, 1) := by decide +kernel
theorem dX7_fewestWith_43 : decode cX7_fewestWith 43 = .ok (.getfield 52, 3) := by decide +kernel
theorem dX7_fewestWith_46 : decode cX7_fewestWith 46 = .ok (.sipush 501, 3) := by decide +kernel
theorem dX7_fewestWith_49 : decode cX7_fewestWith 49 = .ok (.iload_n 1, 1) := by decide +kernel
theorem dX7_fewestWith_50 : decode cX7_fewestWith 50 = .ok (.iconst 1, 1) := by decide +kernel
theorem dX7_fewestWith_51 : decode cX7_fewestWith 51 = .ok (.iadd, 1) := by decide +kernel
theorem dX7_fewestWith_52 : decode cX7_fewestWith 52 = .ok (.imul, 1) := by decide +kernel
theorem dX7_fewestWith_53 : decode cX7_fewestWith 53 = .ok (.iload_n 2, 1) := by decide +kernel
theorem dX7_fewestWith_54 : decode cX7_fewestWith 54 = .ok (.iadd, 1) := by decide +kernel
theorem dX7_fewestWith_55 : decode cX7_fewestWith 55 = .ok (.iload 5, 2) := by decide +kernel
theorem dX7_fewestWith_57 : decode cX7_fewestWith 57 = .ok (.aload_n 0, 1) := by decide +kernel
theorem dX7_fewestWith_58 : decode cX7_fewestWith 58 = .ok (.getfield 13, 3) := by decide +kernel
theorem dX7_fewestWith_61 : decode cX7_fewestWith 61 = .ok (.iload_n 3, 1) := by decide +kernel
theorem dX7_fewestWith_62 : decode cX7_fewestWith 62 = .ok (.iaload, 1) := by decide +kernel
theorem dX7_fewestWith_63 : decode cX7_fewestWith 63 = .ok (.imul, 1) := by decide +kernel
theorem dX7_fewestWith_64 : decode cX7_fewestWith 64 = .ok (.isub, 1) := by decide +kernel
theorem dX7_fewestWith_65 : decode cX7_fewestWith 65 = .ok (.iaload, 1) := by decide +kernel
theorem dX7_fewestWith_66 : decode cX7_fewestWith 66 = .ok (.iadd, 1) := by decide +kernel
theorem dX7_fewestWith_67 : decode cX7_fewestWith 67 = .ok (.invokestatic 287, 3) := by decide +kernel
theorem dX7_fewestWith_70 : decode cX7_fewestWith 70 = .ok (.istore 4, 2) := by decide +kernel
theorem dX7_fewestWith_72 : decode cX7_fewestWith 72 = .ok (.iinc 5 1, 3) := by decide +kernel
theorem dX7_fewestWith_75 : decode cX7_fewestWith 75 = .ok (.goto (-60), 3) := by decide +kernel
theorem dX7_fewestWith_78 : decode cX7_fewestWith 78 = .ok (.iload 4, 2) := by decide +kernel
theorem dX7_fewestWith_80 : decode cX7_fewestWith 80 = .ok (.ireturn, 1) := by decide +kernel
set_option maxRecDepth 20000 in
theorem ggX7_need_X7_gap : GoodIn wsX7_need wsX7_gap := goodIn_ca (goodIn_r _ [5, 6, 7, 8, 9, 4, 10, 11, 12, 13, 14, 15, 16, 17, 18, 19, 20, 21, 22, 23, 24, 25, 26, 27, 28, 29, 30, 31, 32, 33, 34, 35, 36, 37, 38, 39, 40, 41, 42, 43, 44, 45, 46, 47, 48, 49, 50, 51, 52, 53, 54, 55, 56, 57, 58, 59, 60, 61, 62, 63, 64, 65, 66, 67, 68, 69, 70] (by decide +kernel) (by decide +kernel)) (goodIn_sub (fun _ h => List.mem_cons_of_mem _ (List.mem_append_right _ h)) (by decide +kernel))
set_option maxRecDepth 20000 in
theorem gX7_need_X7_gap : GoodIn wsX7_need (wsV RX7 192 RX7 yX7_gap wsX7_gap) := goodIn_app (goodIn_of _ (by decide +kernel)) ggX7_need_X7_gap
set_option maxRecDepth 20000 in
theorem ggX7_need_X7_quoinLong : GoodIn wsX7_need wsX7_quoinLong := goodIn_ca (goodIn_r _ [24, 25, 26, 27, 28, 4, 29, 16, 17, 18, 19, 20, 30, 31, 32, 33, 34, 35, 36, 37, 38, 39, 40, 41, 42, 43, 44, 45, 46, 47, 48, 49, 50, 51, 52, 53, 54, 55, 56, 57, 58, 59, 60, 61, 62, 63, 64, 65, 66, 67, 68, 69, 70] (by decide +kernel) (by decide +kernel)) (goodIn_sub (fun _ h => List.mem_cons_of_mem _ (List.mem_append_right _ h)) (by decide +kernel))
set_option maxRecDepth 20000 in
theorem gX7_need_X7_quoinLong : GoodIn wsX7_need (wsV RX7 244 RX7 yX7_quoinLong wsX7_quoinLong) := goodIn_app (goodIn_of _ (by decide +kernel)) ggX7_need_X7_quoinLong
theorem dX7_need_0 : decode cX7_need 0 = .ok (.aload_n 0, 1) := by decide +kernel
theorem dX7_need_1 : decode cX7_need 1 = .ok (.iload_n 1, 1) := by decide +kernel
theorem dX7_need_2 : decode cX7_need 2 = .ok (.invokevirtual 192, 3) := by decide +kernel
theorem dX7_need_5 : decode cX7_need 5 = .ok (.aload_n 0, 1) := by decide +kernel
theorem dX7_need_6 : decode cX7_need 6 = .ok (.iload_n 1, 1) := by decide +kernel
theorem dX7_need_7 : decode cX7_need 7 = .ok (.invokevirtual 244, 3) := by decide +kernel
theorem dX7_need_10 : decode cX7_need 10 = .ok (.iadd, 1) := by decide +kernel
theorem dX7_need_11 : decode cX7_need 11 = .ok (.ireturn, 1) := by decide +kernel
set_option maxRecDepth 20000 in
theorem ggX7_canOpen_X7_hasQuoin : GoodIn wsX7_canOpen wsX7_hasQuoin := goodIn_ca (goodIn_r _ [6, 7, 8, 9, 5, 10, 1, 11, 12, 13, 14, 15, 16, 17, 18, 19, 20, 21, 22, 23, 24, 25, 26, 27, 28, 29, 30, 31, 32, 33, 34, 35, 36, 37, 38, 39, 40, 41, 42, 43, 44, 45, 46, 47, 48, 49, 50, 51] (by decide +kernel) (by decide +kernel)) (goodIn_sub (fun _ h => List.mem_cons_of_mem _ (List.mem_append_right _ h)) (by decide +kernel))
set_option maxRecDepth 20000 in
theorem gX7_canOpen_X7_hasQuoin : GoodIn wsX7_canOpen (wsV RX7 238 RX7 yX7_hasQuoin wsX7_hasQuoin) := goodIn_app (goodIn_of _ (by decide +kernel)) ggX7_canOpen_X7_hasQuoin
theorem dX7_canOpen_0 : decode cX7_canOpen 0 = .ok (.aload_n 0, 1) := by decide +kernel
theorem dX7_canOpen_1 : decode cX7_canOpen 1 = .ok (.iload_n 1, 1) := by decide +kernel
theorem dX7_canOpen_2 : decode cX7_canOpen 2 = .ok (.invokevirtual 238, 3) := by decide +kernel
theorem dX7_canOpen_5 : decode cX7_canOpen 5 = .ok (.ifCond .ne 12, 3) := by decide +kernel
theorem dX7_canOpen_8 : decode cX7_canOpen 8 = .ok (.aload_n 0, 1) := by decide +kernel
theorem dX7_canOpen_9 : decode cX7_canOpen 9 = .ok (.getfield 17, 3) := by decide +kernel
theorem dX7_canOpen_12 : decode cX7_canOpen 12 = .ok (.iconst 0, 1) := by decide +kernel
theorem dX7_canOpen_13 : decode cX7_canOpen 13 = .ok (.iaload, 1) := by decide +kernel
theorem dX7_canOpen_14 : decode cX7_canOpen 14 = .ok (.ifCond .le 7, 3) := by decide +kernel
theorem dX7_canOpen_17 : decode cX7_canOpen 17 = .ok (.iconst 1, 1) := by decide +kernel
theorem dX7_canOpen_18 : decode cX7_canOpen 18 = .ok (.goto 4, 3) := by decide +kernel
theorem dX7_canOpen_21 : decode cX7_canOpen 21 = .ok (.iconst 0, 1) := by decide +kernel
theorem dX7_canOpen_22 : decode cX7_canOpen 22 = .ok (.ireturn, 1) := by decide +kernel
set_option maxRecDepth 20000 in
theorem ggX7_sumFor_X7_need : GoodIn wsX7_sumFor wsX7_need := goodIn_ca (goodIn_r _ [6, 7, 8, 9, 5, 10, 11, 12, 13, 14, 15, 16, 17, 18, 19, 20, 21, 22, 23, 24, 25, 26, 27, 28, 29, 1, 30, 31, 32, 33, 34, 35, 36, 37, 38, 39, 40, 41, 42, 43, 44, 45, 46, 47, 48, 49, 50, 51, 52, 53, 54, 55, 56, 57, 58, 59, 60, 61, 62, 63, 64, 65, 66, 67, 68, 69, 70, 71, 72, 73, 74] (by decide +kernel) (by decide +kernel)) (goodIn_sub (fun _ h => List.mem_cons_of_mem _ (List.mem_append_right _ h)) (by decide +kernel))
set_option maxRecDepth 20000 in
theorem gX7_sumFor_X7_need : GoodIn wsX7_sumFor (wsV RX7 292 RX7 yX7_need wsX7_need) := goodIn_app (goodIn_of _ (by decide +kernel)) ggX7_sumFor_X7_need
theorem dX7_sumFor_0 : decode cX7_sumFor 0 = .ok (.iload_n 2, 1) := by decide +kernel
theorem dX7_sumFor_1 : decode cX7_sumFor 1 = .ok (.iconst (-1), 1) := by decide +kernel
theorem dX7_sumFor_2 : decode cX7_sumFor 2 = .ok (.if_icmp .ne 11, 3) := by decide +kernel
theorem dX7_sumFor_5 : decode cX7_sumFor 5 = .ok (.aload_n 0, 1) := by decide +kernel
theorem dX7_sumFor_6 : decode cX7_sumFor 6 = .ok (.iload_n 1, 1) := by decide +kernel
theorem dX7_sumFor_7 : decode cX7_sumFor 7 = .ok (.invokevirtual 292, 3) := by decide +kernel
theorem dX7_sumFor_10 : decode cX7_sumFor 10 = .ok (.goto 15, 3) := by decide +kernel
theorem dX7_sumFor_13 : decode cX7_sumFor 13 = .ok (.aload_n 0, 1) := by decide +kernel
theorem dX7_sumFor_14 : decode cX7_sumFor 14 = .ok (.iload_n 1, 1) := by decide +kernel
theorem dX7_sumFor_15 : decode cX7_sumFor 15 = .ok (.invokevirtual 292, 3) := by decide +kernel
theorem dX7_sumFor_18 : decode cX7_sumFor 18 = .ok (.aload_n 0, 1) := by decide +kernel
theorem dX7_sumFor_19 : decode cX7_sumFor 19 = .ok (.getfield 157, 3) := by decide +kernel
theorem dX7_sumFor_22 : decode cX7_sumFor 22 = .ok (.isub, 1) := by decide +kernel
theorem dX7_sumFor_23 : decode cX7_sumFor 23 = .ok (.iload_n 2, 1) := by decide +kernel
theorem dX7_sumFor_24 : decode cX7_sumFor 24 = .ok (.isub, 1) := by decide +kernel
theorem dX7_sumFor_25 : decode cX7_sumFor 25 = .ok (.ireturn, 1) := by decide +kernel
set_option maxRecDepth 20000 in
theorem ggX7_chooses_X7_need : GoodIn wsX7_chooses wsX7_need := goodIn_ca (goodIn_r _ [9, 10, 11, 12, 8, 13, 14, 15, 16, 17, 18, 19, 20, 21, 22, 23, 24, 25, 26, 27, 28, 29, 30, 31, 32, 33, 34, 35, 36, 37, 82, 83, 84, 85, 86, 87, 88, 89, 90, 91, 92, 93, 94, 95, 96, 97, 98, 99, 100, 101, 102, 103, 104, 105, 106, 107, 108, 109, 110, 111, 112, 113, 114, 115, 116, 117, 118, 119, 120, 121, 122] (by decide +kernel) (by decide +kernel)) (goodIn_sub (fun _ h => List.mem_cons_of_mem _ (List.mem_append_right _ h)) (by decide +kernel))
set_option maxRecDepth 20000 in
theorem gX7_chooses_X7_need : GoodIn wsX7_chooses (wsV RX7 292 RX7 yX7_need wsX7_need) := goodIn_app (goodIn_of _ (by decide +kernel)) ggX7_chooses_X7_need
set_option maxRecDepth 20000 in
theorem ggX7_chooses_X7_laysFewest : GoodIn wsX7_chooses wsX7_laysFewest := goodIn_ca (goodIn_r _ [41, 4, 42, 1, 43, 44, 45, 8, 46, 47, 48, 49, 50, 51, 19, 52, 53, 54, 55, 56, 57, 58, 59, 60, 61, 62, 63, 64, 65, 66, 67, 28, 68, 82, 83, 84, 85, 86, 87, 88, 89, 90, 91, 92, 93, 94, 95, 96, 97, 98, 99, 100, 101, 102, 103, 104, 105, 106, 107, 108, 109, 110, 111, 112, 113, 114, 115, 116, 117, 118, 119, 120, 121, 122] (by decide +kernel) (by decide +kernel)) (goodIn_sub (fun _ h => List.mem_cons_of_mem _ (List.mem_append_right _ h)) (by decide +kernel))
set_option maxRecDepth 20000 in
theorem gX7_chooses_X7_laysFewest : GoodIn wsX7_chooses (wsV RX7 295 RX7 yX7_laysFewest wsX7_laysFewest) := goodIn_app (goodIn_of _ (by decide +kernel)) ggX7_chooses_X7_laysFewest
set_option maxRecDepth 20000 in
theorem ggX7_chooses_X7_canOpen : GoodIn wsX7_chooses wsX7_canOpen := goodIn_ca (goodIn_r _ [72, 28, 34, 35, 36, 8, 37, 24, 25, 26, 27, 82, 83, 84, 85, 86, 87, 88, 89, 90, 91, 92, 93, 94, 95, 96, 97, 98, 99, 100, 101, 102, 103, 104, 105, 106, 107, 108, 109, 110, 111, 112, 113, 114, 115, 116, 117, 118, 119, 120, 121, 122] (by decide +kernel) (by decide +kernel)) (goodIn_sub (fun _ h => List.mem_cons_of_mem _ (List.mem_append_right _ h)) (by decide +kernel))
set_option maxRecDepth 20000 in
theorem gX7_chooses_X7_canOpen : GoodIn wsX7_chooses (wsV RX7 301 RX7 yX7_canOpen wsX7_canOpen) := goodIn_app (goodIn_of _ (by decide +kernel)) ggX7_chooses_X7_canOpen
set_option maxRecDepth 20000 in
theorem ggX7_chooses_X7_sumFor : GoodIn wsX7_chooses wsX7_sumFor := goodIn_ca (goodIn_r _ [76, 33, 5, 6, 7, 8, 9, 10, 11, 12, 13, 14, 15, 16, 17, 18, 19, 20, 21, 22, 23, 24, 25, 26, 27, 28, 29, 30, 31, 32, 34, 35, 36, 37, 82, 83, 84, 85, 86, 87, 88, 89, 90, 91, 92, 93, 94, 95, 96, 97, 98, 99, 100, 101, 102, 103, 104, 105, 106, 107, 108, 109, 110, 111, 112, 113, 114, 115, 116, 117, 118, 119, 120, 121, 122] (by decide +kernel) (by decide +kernel)) (goodIn_sub (fun _ h => List.mem_cons_of_mem _ (List.mem_append_right _ h)) (by decide +kernel))
set_option maxRecDepth 20000 in
theorem gX7_chooses_X7_sumFor : GoodIn wsX7_chooses (wsV RX7 304 RX7 yX7_sumFor wsX7_sumFor) := goodIn_app (goodIn_of _ (by decide +kernel)) ggX7_chooses_X7_sumFor
set_option maxRecDepth 20000 in
theorem ggX7_chooses_X7_laysChosen : GoodIn wsX7_chooses wsX7_laysChosen := goodIn_ca (goodIn_r _ [80, 42, 47, 19, 4, 81, 64, 65, 66, 8, 67, 28, 68, 53, 54, 55, 82, 83, 84, 85, 86, 87, 88, 89, 90, 91, 92, 93, 94, 95, 96, 97, 98, 99, 100, 101, 102, 103, 104, 105, 106, 107, 108, 109, 110, 111, 112, 113, 114, 115, 116, 117, 118, 119, 120, 121, 122] (by decide +kernel) (by decide +kernel)) (goodIn_sub (fun _ h => List.mem_cons_of_mem _ (List.mem_append_right _ h)) (by decide +kernel))
set_option maxRecDepth 20000 in
theorem gX7_chooses_X7_laysChosen : GoodIn wsX7_chooses (wsV RX7 307 RX7 yX7_laysChosen wsX7_laysChosen) := goodIn_app (goodIn_of _ (by decide +kernel)) ggX7_chooses_X7_laysChosen
theorem dX7_chooses_0 : decode cX7_chooses 0 = .ok (.aload_n 0, 1) := by decide +kernel
theorem dX7_chooses_1 : decode cX7_chooses 1 = .ok (.iload_n 1, 1) := by decide +kernel
theorem dX7_chooses_2 : decode cX7_chooses 2 = .ok (.invokevirtual 292, 3) := by decide +kernel
theorem dX7_chooses_5 : decode cX7_chooses 5 = .ok (.istore_n 2, 1) := by decide +kernel
theorem dX7_chooses_6 : decode cX7_chooses 6 = .ok (.aload_n 0, 1) := by decide +kernel
theorem dX7_chooses_7 : decode cX7_chooses 7 = .ok (.iload_n 2, 1) := by decide +kernel
theorem dX7_chooses_8 : decode cX7_chooses 8 = .ok (.invokevirtual 295, 3) := by decide +kernel
theorem dX7_chooses_11 : decode cX7_chooses 11 = .ok (.ldc_w 280, 3) := by decide +kernel
theorem dX7_chooses_14 : decode cX7_chooses 14 = .ok (.istore_n 3, 1) := by decide +kernel
theorem dX7_chooses_15 : decode cX7_chooses 15 = .ok (.aload_n 0, 1) := by decide +kernel
theorem dX7_chooses_16 : decode cX7_chooses 16 = .ok (.iconst (-1), 1) := by decide +kernel
theorem dX7_chooses_17 : decode cX7_chooses 17 = .ok (.putfield 298, 3) := by decide +kernel
theorem dX7_chooses_20 : decode cX7_chooses 20 = .ok (.aload_n 0, 1) := by decide +kernel
theorem dX7_chooses_21 : decode cX7_chooses 21 = .ok (.iload_n 1, 1) := by decide +kernel
theorem dX7_chooses_22 : decode cX7_chooses 22 = .ok (.invokevirtual 301, 3) := by decide +kernel
theorem dX7_chooses_25 : decode cX7_chooses 25 = .ok (.ifCond .eq 7, 3) := by decide +kernel
theorem dX7_chooses_28 : decode cX7_chooses 28 = .ok (.iconst 0, 1) := by decide +kernel
theorem dX7_chooses_29 : decode cX7_chooses 29 = .ok (.goto 4, 3) := by decide +kernel
theorem dX7_chooses_32 : decode cX7_chooses 32 = .ok (.iconst (-1), 1) := by decide +kernel
theorem dX7_chooses_33 : decode cX7_chooses 33 = .ok (.istore 4, 2) := by decide +kernel
theorem dX7_chooses_35 : decode cX7_chooses 35 = .ok (.aload_n 0, 1) := by decide +kernel
theorem dX7_chooses_36 : decode cX7_chooses 36 = .ok (.iload_n 1, 1) := by decide +kernel
theorem dX7_chooses_37 : decode cX7_chooses 37 = .ok (.invokevirtual 301, 3) := by decide +kernel
theorem dX7_chooses_40 : decode cX7_chooses 40 = .ok (.ifCond .eq 10, 3) := by decide +kernel
theorem dX7_chooses_43 : decode cX7_chooses 43 = .ok (.aload_n 0, 1) := by decide +kernel
theorem dX7_chooses_44 : decode cX7_chooses 44 = .ok (.getfield 160, 3) := by decide +kernel
theorem dX7_chooses_47 : decode cX7_chooses 47 = .ok (.goto 4, 3) := by decide +kernel
theorem dX7_chooses_50 : decode cX7_chooses 50 = .ok (.iconst (-1), 1) := by decide +kernel
theorem dX7_chooses_51 : decode cX7_chooses 51 = .ok (.istore 5, 2) := by decide +kernel
theorem dX7_chooses_53 : decode cX7_chooses 53 = .ok (.iload 4, 2) := by decide +kernel
theorem dX7_chooses_55 : decode cX7_chooses 55 = .ok (.istore 6, 2) := by decide +kernel
theorem dX7_chooses_57 : decode cX7_chooses 57 = .ok (.iload 6, 2) := by decide +kernel
theorem dX7_chooses_59 : decode cX7_chooses 59 = .ok (.iload 5, 2) := by decide +kernel
theorem dX7_chooses_61 : decode cX7_chooses 61 = .ok (.if_icmp .gt 48, 3) := by decide +kernel
theorem dX7_chooses_64 : decode cX7_chooses 64 = .ok (.aload_n 0, 1) := by decide +kernel
theorem dX7_chooses_65 : decode cX7_chooses 65 = .ok (.iload_n 1, 1) := by decide +kernel
theorem dX7_chooses_66 : decode cX7_chooses 66 = .ok (.iload 6, 2) := by decide +kernel
theorem dX7_chooses_68 : decode cX7_chooses 68 = .ok (.invokevirtual 304, 3) := by decide +kernel
theorem dX7_chooses_71 : decode cX7_chooses 71 = .ok (.istore 7, 2) := by decide +kernel
theorem dX7_chooses_73 : decode cX7_chooses 73 = .ok (.iload 7, 2) := by decide +kernel
theorem dX7_chooses_75 : decode cX7_chooses 75 = .ok (.ifCond .lt 28, 3) := by decide +kernel
theorem dX7_chooses_78 : decode cX7_chooses 78 = .ok (.aload_n 0, 1) := by decide +kernel
theorem dX7_chooses_79 : decode cX7_chooses 79 = .ok (.getfield 52, 3) := by decide +kernel
theorem dX7_chooses_82 : decode cX7_chooses 82 = .ok (.iload 7, 2) := by decide +kernel
theorem dX7_chooses_84 : decode cX7_chooses 84 = .ok (.iaload, 1) := by decide +kernel
theorem dX7_chooses_85 : decode cX7_chooses 85 = .ok (.iload_n 3, 1) := by decide +kernel
theorem dX7_chooses_86 : decode cX7_chooses 86 = .ok (.if_icmp .ge 17, 3) := by decide +kernel
theorem dX7_chooses_89 : decode cX7_chooses 89 = .ok (.aload_n 0, 1) := by decide +kernel
theorem dX7_chooses_90 : decode cX7_chooses 90 = .ok (.getfield 52, 3) := by decide +kernel
theorem dX7_chooses_93 : decode cX7_chooses 93 = .ok (.iload 7, 2) := by decide +kernel
theorem dX7_chooses_95 : decode cX7_chooses 95 = .ok (.iaload, 1) := by decide +kernel
theorem dX7_chooses_96 : decode cX7_chooses 96 = .ok (.istore_n 3, 1) := by decide +kernel
theorem dX7_chooses_97 : decode cX7_chooses 97 = .ok (.aload_n 0, 1) := by decide +kernel
theorem dX7_chooses_98 : decode cX7_chooses 98 = .ok (.iload 6, 2) := by decide +kernel
theorem dX7_chooses_100 : decode cX7_chooses 100 = .ok (.putfield 298, 3) := by decide +kernel
theorem dX7_chooses_103 : decode cX7_chooses 103 = .ok (.iinc 6 1, 3) := by decide +kernel
theorem dX7_chooses_106 : decode cX7_chooses 106 = .ok (.goto (-49), 3) := by decide +kernel
theorem dX7_chooses_109 : decode cX7_chooses 109 = .ok (.iload_n 3, 1) := by decide +kernel
theorem dX7_chooses_110 : decode cX7_chooses 110 = .ok (.ldc_w 280, 3) := by decide +kernel
theorem dX7_chooses_113 : decode cX7_chooses 113 = .ok (.if_icmp .lt 5, 3) := by decide +kernel
theorem dX7_chooses_116 : decode cX7_chooses 116 = .ok (.iconst 0, 1) := by decide +kernel
theorem dX7_chooses_117 : decode cX7_chooses 117 = .ok (.ireturn, 1) := by decide +kernel
theorem dX7_chooses_118 : decode cX7_chooses 118 = .ok (.aload_n 0, 1) := by decide +kernel
theorem dX7_chooses_119 : decode cX7_chooses 119 = .ok (.aload_n 0, 1) := by decide +kernel
theorem dX7_chooses_120 : decode cX7_chooses 120 = .ok (.iload_n 1, 1) := by decide +kernel
theorem dX7_chooses_121 : decode cX7_chooses 121 = .ok (.aload_n 0, 1) := by decide +kernel
theorem dX7_chooses_122 : decode cX7_chooses 122 = .ok (.getfield 298, 3) := by decide +kernel
theorem dX7_chooses_125 : decode cX7_chooses 125 = .ok (.invokevirtual 304, 3) := by decide +kernel
theorem dX7_chooses_128 : decode cX7_chooses 128 = .ok (.invokevirtual 307, 3) := by decide +kernel
theorem dX7_chooses_131 : decode cX7_chooses 131 = .ok (.iconst 1, 1) := by decide +kernel
theorem dX7_chooses_132 : decode cX7_chooses 132 = .ok (.ireturn, 1) := by decide +kernel
set_option maxRecDepth 20000 in
theorem ggX7_laysChosen_X7_leftOf : GoodIn wsX7_laysChosen wsX7_leftOf := goodIn_ca (goodIn_r _ [10, 11, 12, 13, 14, 9, 15, 16, 17, 18, 19, 20, 21, 22, 23, 24, 25, 26, 27, 28, 29, 30, 31, 32, 33, 34, 35, 36, 37, 38, 39, 40, 41, 42, 43, 44, 45, 46, 47, 48, 49, 50, 51, 52, 53, 54, 55, 56] (by decide +kernel) (by decide +kernel)) (goodIn_sub (fun _ h => List.mem_cons_of_mem _ (List.mem_append_right _ h)) (by decide +kernel))
set_option maxRecDepth 20000 in
theorem gX7_laysChosen_X7_leftOf : GoodIn wsX7_laysChosen (wsV RX7 284 RX7 yX7_leftOf wsX7_leftOf) := goodIn_app (goodIn_of _ (by decide +kernel)) ggX7_laysChosen_X7_leftOf
theorem dX7_laysChosen_0 : decode cX7_laysChosen 0 = .ok (.iload_n 1, 1) := by decide +kernel
theorem dX7_laysChosen_1 : decode cX7_laysChosen 1 = .ok (.istore_n 2, 1) := by decide +kernel
theorem dX7_laysChosen_2 : decode cX7_laysChosen 2 = .ok (.iconst 0, 1) := by decide +kernel
theorem dX7_laysChosen_3 : decode cX7_laysChosen 3 = .ok (.istore_n 3, 1) := by decide +kernel
theorem dX7_laysChosen_4 : decode cX7_laysChosen 4 = .ok (.iload_n 3, 1) := by decide +kernel
theorem dX7_laysChosen_5 : decode cX7_laysChosen 5 = .ok (.aload_n 0, 1) := by decide +kernel
theorem dX7_laysChosen_6 : decode cX7_laysChosen 6 = .ok (.getfield 172, 3) := by decide +kernel
theorem dX7_laysChosen_9 : decode cX7_laysChosen 9 = .ok (.if_icmp .ge 140, 3) := by decide +kernel
theorem dX7_laysChosen_12 : decode cX7_laysChosen 12 = .ok (.aload_n 0, 1) := by decide +kernel
theorem dX7_laysChosen_13 : decode cX7_laysChosen 13 = .ok (.getfield 49, 3) := by decide +kernel
theorem dX7_laysChosen_16 : decode cX7_laysChosen 16 = .ok (.iload_n 3, 1) := by decide +kernel
theorem dX7_laysChosen_17 : decode cX7_laysChosen 17 = .ok (.iaload, 1) := by decide +kernel
theorem dX7_laysChosen_18 : decode cX7_laysChosen 18 = .ok (.istore 4, 2) := by decide +kernel
theorem dX7_laysChosen_20 : decode cX7_laysChosen 20 = .ok (.iconst 0, 1) := by decide +kernel
theorem dX7_laysChosen_21 : decode cX7_laysChosen 21 = .ok (.istore 5, 2) := by decide +kernel
theorem dX7_laysChosen_23 : decode cX7_laysChosen 23 = .ok (.iconst 0, 1) := by decide +kernel
theorem dX7_laysChosen_24 : decode cX7_laysChosen 24 = .ok (.istore 6, 2) := by decide +kernel
theorem dX7_laysChosen_26 : decode cX7_laysChosen 26 = .ok (.iload 6, 2) := by decide +kernel
theorem dX7_laysChosen_28 : decode cX7_laysChosen 28 = .ok (.aload_n 0, 1) := by decide +kernel
theorem dX7_laysChosen_29 : decode cX7_laysChosen 29 = .ok (.iload 4, 2) := by decide +kernel
theorem dX7_laysChosen_31 : decode cX7_laysChosen 31 = .ok (.invokevirtual 284, 3) := by decide +kernel
theorem dX7_laysChosen_34 : decode cX7_laysChosen 34 = .ok (.if_icmp .gt 87, 3) := by decide +kernel
theorem dX7_laysChosen_37 : decode cX7_laysChosen 37 = .ok (.iload 6, 2) := by decide +kernel
theorem dX7_laysChosen_39 : decode cX7_laysChosen 39 = .ok (.aload_n 0, 1) := by decide +kernel
theorem dX7_laysChosen_40 : decode cX7_laysChosen 40 = .ok (.getfield 13, 3) := by decide +kernel
theorem dX7_laysChosen_43 : decode cX7_laysChosen 43 = .ok (.iload 4, 2) := by decide +kernel
theorem dX7_laysChosen_45 : decode cX7_laysChosen 45 = .ok (.iaload, 1) := by decide +kernel
theorem dX7_laysChosen_46 : decode cX7_laysChosen 46 = .ok (.imul, 1) := by decide +kernel
theorem dX7_laysChosen_47 : decode cX7_laysChosen 47 = .ok (.iload_n 2, 1) := by decide +kernel
theorem dX7_laysChosen_48 : decode cX7_laysChosen 48 = .ok (.if_icmp .gt 73, 3) := by decide +kernel
theorem dX7_laysChosen_51 : decode cX7_laysChosen 51 = .ok (.iload 6, 2) := by decide +kernel
theorem dX7_laysChosen_53 : decode cX7_laysChosen 53 = .ok (.aload_n 0, 1) := by decide +kernel
theorem dX7_laysChosen_54 : decode cX7_laysChosen 54 = .ok (.getfield 52, 3) := by decide +kernel
theorem dX7_laysChosen_57 : decode cX7_laysChosen 57 = .ok (.sipush 501, 3) := by decide +kernel
theorem dX7_laysChosen_60 : decode cX7_laysChosen 60 = .ok (.iload_n 3, 1) := by decide +kernel
theorem dX7_laysChosen_61 : decode cX7_laysChosen 61 = .ok (.iconst 1, 1) := by decide +kernel
theorem dX7_laysChosen_62 : decode cX7_laysChosen 62 = .ok (.iadd, 1) := by decide +kernel
theorem dX7_laysChosen_63 : decode cX7_laysChosen 63 = .ok (.imul, 1) := by decide +kernel
theorem dX7_laysChosen_64 : decode cX7_laysChosen 64 = .ok (.iload_n 2, 1) := by decide +kernel
theorem dX7_laysChosen_65 : decode cX7_laysChosen 65 = .ok (.iadd, 1) := by decide +kernel
theorem dX7_laysChosen_66 : decode cX7_laysChosen 66 = .ok (.iload 6, 2) := by decide +kernel
theorem dX7_laysChosen_68 : decode cX7_laysChosen 68 = .ok (.aload_n 0, 1) := by decide +kernel
theorem dX7_laysChosen_69 : decode cX7_laysChosen 69 = .ok (.getfield 13, 3) := by decide +kernel
theorem dX7_laysChosen_72 : decode cX7_laysChosen 72 = .ok (.iload 4, 2) := by decide +kernel
theorem dX7_laysChosen_74 : decode cX7_laysChosen 74 = .ok (.iaload, 1) := by decide +kernel
theorem dX7_laysChosen_75 : decode cX7_laysChosen 75 = .ok (.imul, 1) := by decide +kernel
theorem dX7_laysChosen_76 : decode cX7_laysChosen 76 = .ok (.isub, 1) := by decide +kernel
theorem dX7_laysChosen_77 : decode cX7_laysChosen 77 = .ok (.iaload, 1) := by decide +kernel
theorem dX7_laysChosen_78 : decode cX7_laysChosen 78 = .ok (.iadd, 1) := by decide +kernel
theorem dX7_laysChosen_79 : decode cX7_laysChosen 79 = .ok (.aload_n 0, 1) := by decide +kernel
theorem dX7_laysChosen_80 : decode cX7_laysChosen 80 = .ok (.getfield 52, 3) := by decide +kernel
theorem dX7_laysChosen_83 : decode cX7_laysChosen 83 = .ok (.sipush 501, 3) := by decide +kernel
theorem dX7_laysChosen_86 : decode cX7_laysChosen 86 = .ok (.iload_n 3, 1) := by decide +kernel
theorem dX7_laysChosen_87 : decode cX7_laysChosen 87 = .ok (.imul, 1) := by decide +kernel
theorem dX7_laysChosen_88 : decode cX7_laysChosen 88 = .ok (.iload_n 2, 1) := by decide +kernel
theorem dX7_laysChosen_89 : decode cX7_laysChosen 89 = .ok (.iadd, 1) := by decide +kernel
theorem dX7_laysChosen_90 : decode cX7_laysChosen 90 = .ok (.iaload, 1) := by decide +kernel
theorem dX7_laysChosen_91 : decode cX7_laysChosen 91 = .ok (.if_icmp .ne 7, 3) := by decide +kernel
theorem dX7_laysChosen_94 : decode cX7_laysChosen 94 = .ok (.iconst 1, 1) := by decide +kernel
theorem dX7_laysChosen_95 : decode cX7_laysChosen 95 = .ok (.goto 4, 3) := by decide +kernel
theorem dX7_laysChosen_98 : decode cX7_laysChosen 98 = .ok (.iconst 0, 1) := by decide +kernel
theorem dX7_laysChosen_99 : decode cX7_laysChosen 99 = .ok (.istore 7, 2) := by decide +kernel
theorem dX7_laysChosen_101 : decode cX7_laysChosen 101 = .ok (.iload 7, 2) := by decide +kernel
theorem dX7_laysChosen_103 : decode cX7_laysChosen 103 = .ok (.ifCond .eq 8, 3) := by decide +kernel
theorem dX7_laysChosen_106 : decode cX7_laysChosen 106 = .ok (.iload 6, 2) := by decide +kernel
theorem dX7_laysChosen_108 : decode cX7_laysChosen 108 = .ok (.goto 5, 3) := by decide +kernel
theorem dX7_laysChosen_111 : decode cX7_laysChosen 111 = .ok (.iload 5, 2) := by decide +kernel
theorem dX7_laysChosen_113 : decode cX7_laysChosen 113 = .ok (.istore 5, 2) := by decide +kernel
theorem dX7_laysChosen_115 : decode cX7_laysChosen 115 = .ok (.iinc 6 1, 3) := by decide +kernel
theorem dX7_laysChosen_118 : decode cX7_laysChosen 118 = .ok (.goto (-92), 3) := by decide +kernel
theorem dX7_laysChosen_121 : decode cX7_laysChosen 121 = .ok (.aload_n 0, 1) := by decide +kernel
theorem dX7_laysChosen_122 : decode cX7_laysChosen 122 = .ok (.getfield 55, 3) := by decide +kernel
theorem dX7_laysChosen_125 : decode cX7_laysChosen 125 = .ok (.iload 4, 2) := by decide +kernel
theorem dX7_laysChosen_127 : decode cX7_laysChosen 127 = .ok (.iload 5, 2) := by decide +kernel
theorem dX7_laysChosen_129 : decode cX7_laysChosen 129 = .ok (.iastore, 1) := by decide +kernel
theorem dX7_laysChosen_130 : decode cX7_laysChosen 130 = .ok (.iload_n 2, 1) := by decide +kernel
theorem dX7_laysChosen_131 : decode cX7_laysChosen 131 = .ok (.iload 5, 2) := by decide +kernel
theorem dX7_laysChosen_133 : decode cX7_laysChosen 133 = .ok (.aload_n 0, 1) := by decide +kernel
theorem dX7_laysChosen_134 : decode cX7_laysChosen 134 = .ok (.getfield 13, 3) := by decide +kernel
theorem dX7_laysChosen_137 : decode cX7_laysChosen 137 = .ok (.iload 4, 2) := by decide +kernel
theorem dX7_laysChosen_139 : decode cX7_laysChosen 139 = .ok (.iaload, 1) := by decide +kernel
theorem dX7_laysChosen_140 : decode cX7_laysChosen 140 = .ok (.imul, 1) := by decide +kernel
theorem dX7_laysChosen_141 : decode cX7_laysChosen 141 = .ok (.isub, 1) := by decide +kernel
theorem dX7_laysChosen_142 : decode cX7_laysChosen 142 = .ok (.istore_n 2, 1) := by decide +kernel
theorem dX7_laysChosen_143 : decode cX7_laysChosen 143 = .ok (.iinc 3 1, 3) := by decide +kernel
theorem dX7_laysChosen_146 : decode cX7_laysChosen 146 = .ok (.goto (-142), 3) := by decide +kernel
theorem dX7_laysChosen_149 : decode cX7_laysChosen 149 = .ok (.return_, 1) := by decide +kernel
theorem dX7_chosenMany_0 : decode cX7_chosenMany 0 = .ok (.iconst 0, 1) := by decide +kernel
theorem dX7_chosenMany_1 : decode cX7_chosenMany 1 = .ok (.istore_n 2, 1) := by decide +kernel
theorem dX7_chosenMany_2 : decode cX7_chosenMany 2 = .ok (.iconst 0, 1) := by decide +kernel
theorem dX7_chosenMany_3 : decode cX7_chosenMany 3 = .ok (.istore_n 3, 1) := by decide +kernel
theorem dX7_chosenMany_4 : decode cX7_chosenMany 4 = .ok (.iload_n 3, 1) := by decide +kernel
theorem dX7_chosenMany_5 : decode cX7_chosenMany 5 = .ok (.aload_n 0, 1) := by decide +kernel
theorem dX7_chosenMany_6 : decode cX7_chosenMany 6 = .ok (.getfield 172, 3) := by decide +kernel
theorem dX7_chosenMany_9 : decode cX7_chosenMany 9 = .ok (.if_icmp .ge 35, 3) := by decide +kernel
theorem dX7_chosenMany_12 : decode cX7_chosenMany 12 = .ok (.iload_n 2, 1) := by decide +kernel
theorem dX7_chosenMany_13 : decode cX7_chosenMany 13 = .ok (.iload_n 1, 1) := by decide +kernel
theorem dX7_chosenMany_14 : decode cX7_chosenMany 14 = .ok (.ifCond .eq 16, 3) := by decide +kernel
theorem dX7_chosenMany_17 : decode cX7_chosenMany 17 = .ok (.aload_n 0, 1) := by decide +kernel
theorem dX7_chosenMany_18 : decode cX7_chosenMany 18 = .ok (.getfield 7, 3) := by decide +kernel
theorem dX7_chosenMany_21 : decode cX7_chosenMany 21 = .ok (.iload_n 3, 1) := by decide +kernel
theorem dX7_chosenMany_22 : decode cX7_chosenMany 22 = .ok (.baload, 1) := by decide +kernel
theorem dX7_chosenMany_23 : decode cX7_chosenMany 23 = .ok (.ifCond .eq 7, 3) := by decide +kernel
theorem dX7_chosenMany_26 : decode cX7_chosenMany 26 = .ok (.iconst 0, 1) := by decide +kernel
theorem dX7_chosenMany_27 : decode cX7_chosenMany 27 = .ok (.goto 9, 3) := by decide +kernel
theorem dX7_chosenMany_30 : decode cX7_chosenMany 30 = .ok (.aload_n 0, 1) := by decide +kernel
theorem dX7_chosenMany_31 : decode cX7_chosenMany 31 = .ok (.getfield 55, 3) := by decide +kernel
theorem dX7_chosenMany_34 : decode cX7_chosenMany 34 = .ok (.iload_n 3, 1) := by decide +kernel
theorem dX7_chosenMany_35 : decode cX7_chosenMany 35 = .ok (.iaload, 1) := by decide +kernel
theorem dX7_chosenMany_36 : decode cX7_chosenMany 36 = .ok (.iadd, 1) := by decide +kernel
theorem dX7_chosenMany_37 : decode cX7_chosenMany 37 = .ok (.istore_n 2, 1) := by decide +kernel
theorem dX7_chosenMany_38 : decode cX7_chosenMany 38 = .ok (.iinc 3 1, 3) := by decide +kernel
theorem dX7_chosenMany_41 : decode cX7_chosenMany 41 = .ok (.goto (-37), 3) := by decide +kernel
theorem dX7_chosenMany_44 : decode cX7_chosenMany 44 = .ok (.iload_n 2, 1) := by decide +kernel
theorem dX7_chosenMany_45 : decode cX7_chosenMany 45 = .ok (.ireturn, 1) := by decide +kernel
theorem dX7_chosenLong_0 : decode cX7_chosenLong 0 = .ok (.iconst 0, 1) := by decide +kernel
theorem dX7_chosenLong_1 : decode cX7_chosenLong 1 = .ok (.istore_n 1, 1) := by decide +kernel
theorem dX7_chosenLong_2 : decode cX7_chosenLong 2 = .ok (.iconst 0, 1) := by decide +kernel
theorem dX7_chosenLong_3 : decode cX7_chosenLong 3 = .ok (.istore_n 2, 1) := by decide +kernel
theorem dX7_chosenLong_4 : decode cX7_chosenLong 4 = .ok (.iload_n 2, 1) := by decide +kernel
theorem dX7_chosenLong_5 : decode cX7_chosenLong 5 = .ok (.aload_n 0, 1) := by decide +kernel
theorem dX7_chosenLong_6 : decode cX7_chosenLong 6 = .ok (.getfield 172, 3) := by decide +kernel
theorem dX7_chosenLong_9 : decode cX7_chosenLong 9 = .ok (.if_icmp .ge 25, 3) := by decide +kernel
theorem dX7_chosenLong_12 : decode cX7_chosenLong 12 = .ok (.iload_n 1, 1) := by decide +kernel
theorem dX7_chosenLong_13 : decode cX7_chosenLong 13 = .ok (.aload_n 0, 1) := by decide +kernel
theorem dX7_chosenLong_14 : decode cX7_chosenLong 14 = .ok (.getfield 55, 3) := by decide +kernel
theorem dX7_chosenLong_17 : decode cX7_chosenLong 17 = .ok (.iload_n 2, 1) := by decide +kernel
theorem dX7_chosenLong_18 : decode cX7_chosenLong 18 = .ok (.iaload, 1) := by decide +kernel
theorem dX7_chosenLong_19 : decode cX7_chosenLong 19 = .ok (.aload_n 0, 1) := by decide +kernel
theorem dX7_chosenLong_20 : decode cX7_chosenLong 20 = .ok (.getfield 13, 3) := by decide +kernel
theorem dX7_chosenLong_23 : decode cX7_chosenLong 23 = .ok (.iload_n 2, 1) := by decide +kernel
theorem dX7_chosenLong_24 : decode cX7_chosenLong 24 = .ok (.iaload, 1) := by decide +kernel
theorem dX7_chosenLong_25 : decode cX7_chosenLong 25 = .ok (.imul, 1) := by decide +kernel
theorem dX7_chosenLong_26 : decode cX7_chosenLong 26 = .ok (.iadd, 1) := by decide +kernel
theorem dX7_chosenLong_27 : decode cX7_chosenLong 27 = .ok (.istore_n 1, 1) := by decide +kernel
theorem dX7_chosenLong_28 : decode cX7_chosenLong 28 = .ok (.iinc 2 1, 3) := by decide +kernel
theorem dX7_chosenLong_31 : decode cX7_chosenLong 31 = .ok (.goto (-27), 3) := by decide +kernel
theorem dX7_chosenLong_34 : decode cX7_chosenLong 34 = .ok (.iload_n 1, 1) := by decide +kernel
theorem dX7_chosenLong_35 : decode cX7_chosenLong 35 = .ok (.ireturn, 1) := by decide +kernel
set_option maxRecDepth 20000 in
theorem ggX7_laysWays_X7_flag : GoodIn wsX7_laysWays wsX7_flag := goodIn_r _ [8] (by decide +kernel) (by decide +kernel)
set_option maxRecDepth 20000 in
theorem gX7_laysWays_X7_flag : GoodIn wsX7_laysWays (va_wsS RX7 250 yX7_flag wsX7_flag) := goodIn_app (goodIn_of _ (by decide +kernel)) ggX7_laysWays_X7_flag
set_option maxRecDepth 20000 in
theorem ggX7_laysWays_X7_leftOf : GoodIn wsX7_laysWays wsX7_leftOf := goodIn_ca (goodIn_r _ [12, 13, 14, 5, 6, 7, 8, 15, 16, 17, 18, 19, 20, 21, 22, 23, 24, 25, 26, 27, 28, 29, 30, 31, 32, 33, 34, 35, 36, 37, 38, 39, 40, 41, 42, 43, 44, 45, 46, 47, 48, 49, 50, 51, 52, 53, 54, 55] (by decide +kernel) (by decide +kernel)) (goodIn_sub (fun _ h => List.mem_cons_of_mem _ (List.mem_append_right _ h)) (by decide +kernel))
set_option maxRecDepth 20000 in
theorem gX7_laysWays_X7_leftOf : GoodIn wsX7_laysWays (wsV RX7 284 RX7 yX7_leftOf wsX7_leftOf) := goodIn_app (goodIn_of _ (by decide +kernel)) ggX7_laysWays_X7_leftOf
theorem dX7_laysWays_0 : decode cX7_laysWays 0 = .ok (.iconst 0, 1) := by decide +kernel
theorem dX7_laysWays_1 : decode cX7_laysWays 1 = .ok (.istore_n 2, 1) := by decide +kernel
theorem dX7_laysWays_2 : decode cX7_laysWays 2 = .ok (.iload_n 2, 1) := by decide +kernel
theorem dX7_laysWays_3 : decode cX7_laysWays 3 = .ok (.iload_n 1, 1) := by decide +kernel
theorem dX7_laysWays_4 : decode cX7_laysWays 4 = .ok (.if_icmp .gt 27, 3) := by decide +kernel
theorem dX7_laysWays_7 : decode cX7_laysWays 7 = .ok (.aload_n 0, 1) := by decide +kernel
theorem dX7_laysWays_8 : decode cX7_laysWays 8 = .ok (.getfield 61, 3) := by decide +kernel
theorem dX7_laysWays_11 : decode cX7_laysWays 11 = .ok (.iload_n 2, 1) := by decide +kernel
theorem dX7_laysWays_12 : decode cX7_laysWays 12 = .ok (.iload_n 2, 1) := by decide +kernel
theorem dX7_laysWays_13 : decode cX7_laysWays 13 = .ok (.ifCond .ne 7, 3) := by decide +kernel
theorem dX7_laysWays_16 : decode cX7_laysWays 16 = .ok (.iconst 1, 1) := by decide +kernel
theorem dX7_laysWays_17 : decode cX7_laysWays 17 = .ok (.goto 4, 3) := by decide +kernel
theorem dX7_laysWays_20 : decode cX7_laysWays 20 = .ok (.iconst 0, 1) := by decide +kernel
theorem dX7_laysWays_21 : decode cX7_laysWays 21 = .ok (.invokestatic 250, 3) := by decide +kernel
theorem dX7_laysWays_24 : decode cX7_laysWays 24 = .ok (.iastore, 1) := by decide +kernel
theorem dX7_laysWays_25 : decode cX7_laysWays 25 = .ok (.iinc 2 1, 3) := by decide +kernel
theorem dX7_laysWays_28 : decode cX7_laysWays 28 = .ok (.goto (-26), 3) := by decide +kernel
theorem dX7_laysWays_31 : decode cX7_laysWays 31 = .ok (.iconst 0, 1) := by decide +kernel
theorem dX7_laysWays_32 : decode cX7_laysWays 32 = .ok (.istore_n 2, 1) := by decide +kernel
theorem dX7_laysWays_33 : decode cX7_laysWays 33 = .ok (.iload_n 2, 1) := by decide +kernel
theorem dX7_laysWays_34 : decode cX7_laysWays 34 = .ok (.aload_n 0, 1) := by decide +kernel
theorem dX7_laysWays_35 : decode cX7_laysWays 35 = .ok (.getfield 172, 3) := by decide +kernel
theorem dX7_laysWays_38 : decode cX7_laysWays 38 = .ok (.if_icmp .ge 89, 3) := by decide +kernel
theorem dX7_laysWays_41 : decode cX7_laysWays 41 = .ok (.iload_n 1, 1) := by decide +kernel
theorem dX7_laysWays_42 : decode cX7_laysWays 42 = .ok (.istore_n 3, 1) := by decide +kernel
theorem dX7_laysWays_43 : decode cX7_laysWays 43 = .ok (.iload_n 3, 1) := by decide +kernel
theorem dX7_laysWays_44 : decode cX7_laysWays 44 = .ok (.ifCond .lt 77, 3) := by decide +kernel
theorem dX7_laysWays_47 : decode cX7_laysWays 47 = .ok (.iconst 0, 1) := by decide +kernel
theorem dX7_laysWays_48 : decode cX7_laysWays 48 = .ok (.istore 4, 2) := by decide +kernel
theorem dX7_laysWays_50 : decode cX7_laysWays 50 = .ok (.iconst 0, 1) := by decide +kernel
theorem dX7_laysWays_51 : decode cX7_laysWays 51 = .ok (.istore 5, 2) := by decide +kernel
theorem dX7_laysWays_53 : decode cX7_laysWays 53 = .ok (.iload 5, 2) := by decide +kernel
theorem dX7_laysWays_55 : decode cX7_laysWays 55 = .ok (.aload_n 0, 1) := by decide +kernel
theorem dX7_laysWays_56 : decode cX7_laysWays 56 = .ok (.iload_n 2, 1) := by decide +kernel
theorem dX7_laysWays_57 : decode cX7_laysWays 57 = .ok (.invokevirtual 284, 3) := by decide +kernel
theorem dX7_laysWays_60 : decode cX7_laysWays 60 = .ok (.if_icmp .gt 47, 3) := by decide +kernel
theorem dX7_laysWays_63 : decode cX7_laysWays 63 = .ok (.iload 5, 2) := by decide +kernel
theorem dX7_laysWays_65 : decode cX7_laysWays 65 = .ok (.aload_n 0, 1) := by decide +kernel
theorem dX7_laysWays_66 : decode cX7_laysWays 66 = .ok (.getfield 13, 3) := by decide +kernel
theorem dX7_laysWays_69 : decode cX7_laysWays 69 = .ok (.iload_n 2, 1) := by decide +kernel
theorem dX7_laysWays_70 : decode cX7_laysWays 70 = .ok (.iaload, 1) := by decide +kernel
theorem dX7_laysWays_71 : decode cX7_laysWays 71 = .ok (.imul, 1) := by decide +kernel
theorem dX7_laysWays_72 : decode cX7_laysWays 72 = .ok (.iload_n 3, 1) := by decide +kernel
theorem dX7_laysWays_73 : decode cX7_laysWays 73 = .ok (.if_icmp .gt 34, 3) := by decide +kernel
theorem dX7_laysWays_76 : decode cX7_laysWays 76 = .ok (.iload 4, 2) := by decide +kernel
theorem dX7_laysWays_78 : decode cX7_laysWays 78 = .ok (.aload_n 0, 1) := by decide +kernel
theorem dX7_laysWays_79 : decode cX7_laysWays 79 = .ok (.getfield 61, 3) := by decide +kernel
theorem dX7_laysWays_82 : decode cX7_laysWays 82 = .ok (.iload_n 3, 1) := by decide +kernel
theorem dX7_laysWays_83 : decode cX7_laysWays 83 = .ok (.iload 5, 2) := by decide +kernel
theorem dX7_laysWays_85 : decode cX7_laysWays 85 = .ok (.aload_n 0, 1) := by decide +kernel
theorem dX7_laysWays_86 : decode cX7_laysWays 86 = .ok (.getfield 13, 3) := by decide +kernel
theorem dX7_laysWays_89 : decode cX7_laysWays 89 = .ok (.iload_n 2, 1) := by decide +kernel
theorem dX7_laysWays_90 : decode cX7_laysWays 90 = .ok (.iaload, 1) := by decide +kernel
theorem dX7_laysWays_91 : decode cX7_laysWays 91 = .ok (.imul, 1) := by decide +kernel
theorem dX7_laysWays_92 : decode cX7_laysWays 92 = .ok (.isub, 1) := by decide +kernel
theorem dX7_laysWays_93 : decode cX7_laysWays 93 = .ok (.iaload, 1) := by decide +kernel
theorem dX7_laysWays_94 : decode cX7_laysWays 94 = .ok (.iadd, 1) := by decide +kernel
theorem dX7_laysWays_95 : decode cX7_laysWays 95 = .ok (.ldc_w 310, 3) := by decide +kernel
theorem dX7_laysWays_98 : decode cX7_laysWays 98 = .ok (.irem, 1) := by decide +kernel
theorem dX7_laysWays_99 : decode cX7_laysWays 99 = .ok (.istore 4, 2) := by decide +kernel
theorem dX7_laysWays_101 : decode cX7_laysWays 101 = .ok (.iinc 5 1, 3) := by decide +kernel
theorem dX7_laysWays_104 : decode cX7_laysWays 104 = .ok (.goto (-51), 3) := by decide +kernel
theorem dX7_laysWays_107 : decode cX7_laysWays 107 = .ok (.aload_n 0, 1) := by decide +kernel
theorem dX7_laysWays_108 : decode cX7_laysWays 108 = .ok (.getfield 61, 3) := by decide +kernel
theorem dX7_laysWays_111 : decode cX7_laysWays 111 = .ok (.iload_n 3, 1) := by decide +kernel
theorem dX7_laysWays_112 : decode cX7_laysWays 112 = .ok (.iload 4, 2) := by decide +kernel
theorem dX7_laysWays_114 : decode cX7_laysWays 114 = .ok (.iastore, 1) := by decide +kernel
theorem dX7_laysWays_115 : decode cX7_laysWays 115 = .ok (.iinc 3 (-1), 3) := by decide +kernel
theorem dX7_laysWays_118 : decode cX7_laysWays 118 = .ok (.goto (-75), 3) := by decide +kernel
theorem dX7_laysWays_121 : decode cX7_laysWays 121 = .ok (.iinc 2 1, 3) := by decide +kernel
theorem dX7_laysWays_124 : decode cX7_laysWays 124 = .ok (.goto (-91), 3) := by decide +kernel
theorem dX7_laysWays_127 : decode cX7_laysWays 127 = .ok (.return_, 1) := by decide +kernel
set_option maxRecDepth 20000 in
theorem ggX7_locks_X7_chooses : GoodIn wsX7_locks wsX7_chooses := goodIn_ca (goodIn_r _ [10, 11, 1, 12, 13, 14, 15, 16, 9, 17, 18, 19, 20, 21, 22, 23, 24, 25, 26, 27, 28, 29, 30, 31, 32, 33, 34, 35, 2, 36, 37, 38, 39, 40, 41, 42, 43, 44, 45, 46, 47, 48, 3, 49, 50, 51, 52, 5, 53, 54, 55, 56, 57, 58, 59, 60, 61, 62, 63, 64, 65, 66, 67, 68, 69, 70, 71, 72, 73, 74, 75, 76, 77, 78, 79, 80, 81, 82, 83, 84, 85, 4, 94, 95, 96, 97, 98, 99, 100, 101, 102, 103, 104, 105, 106, 107, 108, 109, 110, 111, 112, 113, 114, 115, 116, 117, 118, 119, 120, 121, 122, 123, 124, 125, 126, 127, 128, 129, 130, 131, 132, 133, 134] (by decide +kernel) (by decide +kernel)) (goodIn_sub (fun _ h => List.mem_cons_of_mem _ (List.mem_append_right _ h)) (by decide +kernel))
set_option maxRecDepth 20000 in
theorem gX7_locks_X7_chooses : GoodIn wsX7_locks (wsV RX7 311 RX7 yX7_chooses wsX7_chooses) := goodIn_app (goodIn_of _ (by decide +kernel)) ggX7_locks_X7_chooses
set_option maxRecDepth 20000 in
theorem ggX7_locks_X7_hasQuoin : GoodIn wsX7_locks wsX7_hasQuoin := goodIn_ca (goodIn_r _ [44, 32, 33, 34, 9, 35, 2, 94, 95, 96, 97, 98, 99, 100, 101, 102, 103, 104, 105, 106, 107, 108, 109, 110, 111, 112, 113, 114, 115, 116, 117, 118, 119, 120, 121, 122, 123, 124, 125, 126, 127, 128, 129, 130, 131, 132, 133, 134] (by decide +kernel) (by decide +kernel)) (goodIn_sub (fun _ h => List.mem_cons_of_mem _ (List.mem_append_right _ h)) (by decide +kernel))
set_option maxRecDepth 20000 in
theorem gX7_locks_X7_hasQuoin : GoodIn wsX7_locks (wsV RX7 238 RX7 yX7_hasQuoin wsX7_hasQuoin) := goodIn_app (goodIn_of _ (by decide +kernel)) ggX7_locks_X7_hasQuoin
set_option maxRecDepth 20000 in
theorem ggX7_locks_X7_flag : GoodIn wsX7_locks wsX7_flag := goodIn_r _ [60] (by decide +kernel) (by decide +kernel)
set_option maxRecDepth 20000 in
theorem gX7_locks_X7_flag : GoodIn wsX7_locks (va_wsS RX7 250 yX7_flag wsX7_flag) := goodIn_app (goodIn_of _ (by decide +kernel)) ggX7_locks_X7_flag
set_option maxRecDepth 20000 in
theorem ggX7_locks_X7_puts : GoodIn wsX7_locks wsX7_puts := goodIn_ca (goodIn_r _ [89, 2, 94, 95, 96, 97, 98, 99, 100, 101, 102, 103, 104, 105, 106, 107, 108, 109, 110, 111, 112, 113, 114, 115, 116, 117, 118, 119, 120, 121, 122, 123, 124, 125, 126, 127, 128, 129, 130, 131, 132, 133, 134] (by decide +kernel) (by decide +kernel)) (goodIn_sub (fun _ h => List.mem_cons_of_mem _ (List.mem_append_right _ h)) (by decide +kernel))
set_option maxRecDepth 20000 in
theorem gX7_locks_X7_puts : GoodIn wsX7_locks (wsV RX7 178 RX7 yX7_puts wsX7_puts) := goodIn_app (goodIn_of _ (by decide +kernel)) ggX7_locks_X7_puts
set_option maxRecDepth 20000 in
theorem ggX7_locks_X7_putsPiece : GoodIn wsX7_locks wsX7_putsPiece := goodIn_ca (goodIn_r _ [93, 2, 32, 33, 34, 9, 35, 86, 87, 88, 89, 94, 95, 96, 97, 98, 99, 100, 101, 102, 103, 104, 105, 106, 107, 108, 109, 110, 111, 112, 113, 114, 115, 116, 117, 118, 119, 120, 121, 122, 123, 124, 125, 126, 127, 128, 129, 130, 131, 132, 133, 134] (by decide +kernel) (by decide +kernel)) (goodIn_sub (fun _ h => List.mem_cons_of_mem _ (List.mem_append_right _ h)) (by decide +kernel))
set_option maxRecDepth 20000 in
theorem gX7_locks_X7_putsPiece : GoodIn wsX7_locks (wsV RX7 314 RX7 yX7_putsPiece wsX7_putsPiece) := goodIn_app (goodIn_of _ (by decide +kernel)) ggX7_locks_X7_putsPiece
theorem dX7_locks_0 : decode cX7_locks 0 = .ok (.aload_n 0, 1) := by decide +kernel
theorem dX7_locks_1 : decode cX7_locks 1 = .ok (.iload_n 1, 1) := by decide +kernel
theorem dX7_locks_2 : decode cX7_locks 2 = .ok (.invokevirtual 311, 3) := by decide +kernel
theorem dX7_locks_5 : decode cX7_locks 5 = .ok (.ifCond .ne 5, 3) := by decide +kernel
theorem dX7_locks_8 : decode cX7_locks 8 = .ok (.iconst 0, 1) := by decide +kernel
theorem dX7_locks_9 : decode cX7_locks 9 = .ok (.ireturn, 1) := by decide +kernel
theorem dX7_locks_10 : decode cX7_locks 10 = .ok (.aload_n 0, 1) := by decide +kernel
theorem dX7_locks_11 : decode cX7_locks 11 = .ok (.getfield 298, 3) := by decide +kernel
theorem dX7_locks_14 : decode cX7_locks 14 = .ok (.iconst (-1), 1) := by decide +kernel
theorem dX7_locks_15 : decode cX7_locks 15 = .ok (.if_icmp .eq 45, 3) := by decide +kernel
theorem dX7_locks_18 : decode cX7_locks 18 = .ok (.aload_n 0, 1) := by decide +kernel
theorem dX7_locks_19 : decode cX7_locks 19 = .ok (.getfield 17, 3) := by decide +kernel
theorem dX7_locks_22 : decode cX7_locks 22 = .ok (.iconst 0, 1) := by decide +kernel
theorem dX7_locks_23 : decode cX7_locks 23 = .ok (.dup2, 1) := by decide +kernel
theorem dX7_locks_24 : decode cX7_locks 24 = .ok (.iaload, 1) := by decide +kernel
theorem dX7_locks_25 : decode cX7_locks 25 = .ok (.aload_n 0, 1) := by decide +kernel
theorem dX7_locks_26 : decode cX7_locks 26 = .ok (.iload_n 1, 1) := by decide +kernel
theorem dX7_locks_27 : decode cX7_locks 27 = .ok (.invokevirtual 238, 3) := by decide +kernel
theorem dX7_locks_30 : decode cX7_locks 30 = .ok (.ifCond .ne 7, 3) := by decide +kernel
theorem dX7_locks_33 : decode cX7_locks 33 = .ok (.iconst 1, 1) := by decide +kernel
theorem dX7_locks_34 : decode cX7_locks 34 = .ok (.goto 4, 3) := by decide +kernel
theorem dX7_locks_37 : decode cX7_locks 37 = .ok (.iconst 0, 1) := by decide +kernel
theorem dX7_locks_38 : decode cX7_locks 38 = .ok (.invokestatic 250, 3) := by decide +kernel
theorem dX7_locks_41 : decode cX7_locks 41 = .ok (.isub, 1) := by decide +kernel
theorem dX7_locks_42 : decode cX7_locks 42 = .ok (.iastore, 1) := by decide +kernel
theorem dX7_locks_43 : decode cX7_locks 43 = .ok (.aload_n 0, 1) := by decide +kernel
theorem dX7_locks_44 : decode cX7_locks 44 = .ok (.iload_n 1, 1) := by decide +kernel
theorem dX7_locks_45 : decode cX7_locks 45 = .ok (.iconst 2, 1) := by decide +kernel
theorem dX7_locks_46 : decode cX7_locks 46 = .ok (.aload_n 0, 1) := by decide +kernel
theorem dX7_locks_47 : decode cX7_locks 47 = .ok (.getfield 298, 3) := by decide +kernel
theorem dX7_locks_50 : decode cX7_locks 50 = .ok (.invokevirtual 178, 3) := by decide +kernel
theorem dX7_locks_53 : decode cX7_locks 53 = .ok (.aload_n 0, 1) := by decide +kernel
theorem dX7_locks_54 : decode cX7_locks 54 = .ok (.iload_n 1, 1) := by decide +kernel
theorem dX7_locks_55 : decode cX7_locks 55 = .ok (.iconst 3, 1) := by decide +kernel
theorem dX7_locks_56 : decode cX7_locks 56 = .ok (.iconst 0, 1) := by decide +kernel
theorem dX7_locks_57 : decode cX7_locks 57 = .ok (.invokevirtual 178, 3) := by decide +kernel
theorem dX7_locks_60 : decode cX7_locks 60 = .ok (.iconst 0, 1) := by decide +kernel
theorem dX7_locks_61 : decode cX7_locks 61 = .ok (.istore_n 2, 1) := by decide +kernel
theorem dX7_locks_62 : decode cX7_locks 62 = .ok (.iload_n 2, 1) := by decide +kernel
theorem dX7_locks_63 : decode cX7_locks 63 = .ok (.aload_n 0, 1) := by decide +kernel
theorem dX7_locks_64 : decode cX7_locks 64 = .ok (.getfield 172, 3) := by decide +kernel
theorem dX7_locks_67 : decode cX7_locks 67 = .ok (.if_icmp .ge 43, 3) := by decide +kernel
theorem dX7_locks_70 : decode cX7_locks 70 = .ok (.iconst 0, 1) := by decide +kernel
theorem dX7_locks_71 : decode cX7_locks 71 = .ok (.istore_n 3, 1) := by decide +kernel
theorem dX7_locks_72 : decode cX7_locks 72 = .ok (.iload_n 3, 1) := by decide +kernel
theorem dX7_locks_73 : decode cX7_locks 73 = .ok (.aload_n 0, 1) := by decide +kernel
theorem dX7_locks_74 : decode cX7_locks 74 = .ok (.getfield 55, 3) := by decide +kernel
theorem dX7_locks_77 : decode cX7_locks 77 = .ok (.aload_n 0, 1) := by decide +kernel
theorem dX7_locks_78 : decode cX7_locks 78 = .ok (.getfield 49, 3) := by decide +kernel
theorem dX7_locks_81 : decode cX7_locks 81 = .ok (.iload_n 2, 1) := by decide +kernel
theorem dX7_locks_82 : decode cX7_locks 82 = .ok (.iaload, 1) := by decide +kernel
theorem dX7_locks_83 : decode cX7_locks 83 = .ok (.iaload, 1) := by decide +kernel
theorem dX7_locks_84 : decode cX7_locks 84 = .ok (.if_icmp .ge 20, 3) := by decide +kernel
theorem dX7_locks_87 : decode cX7_locks 87 = .ok (.aload_n 0, 1) := by decide +kernel
theorem dX7_locks_88 : decode cX7_locks 88 = .ok (.iload_n 1, 1) := by decide +kernel
theorem dX7_locks_89 : decode cX7_locks 89 = .ok (.aload_n 0, 1) := by decide +kernel
theorem dX7_locks_90 : decode cX7_locks 90 = .ok (.getfield 49, 3) := by decide +kernel
theorem dX7_locks_93 : decode cX7_locks 93 = .ok (.iload_n 2, 1) := by decide +kernel
theorem dX7_locks_94 : decode cX7_locks 94 = .ok (.iaload, 1) := by decide +kernel
theorem dX7_locks_95 : decode cX7_locks 95 = .ok (.invokevirtual 314, 3) := by decide +kernel
theorem dX7_locks_98 : decode cX7_locks 98 = .ok (.iinc 3 1, 3) := by decide +kernel
theorem dX7_locks_101 : decode cX7_locks 101 = .ok (.goto (-29), 3) := by decide +kernel
theorem dX7_locks_104 : decode cX7_locks 104 = .ok (.iinc 2 1, 3) := by decide +kernel
theorem dX7_locks_107 : decode cX7_locks 107 = .ok (.goto (-45), 3) := by decide +kernel
theorem dX7_locks_110 : decode cX7_locks 110 = .ok (.aload_n 0, 1) := by decide +kernel
theorem dX7_locks_111 : decode cX7_locks 111 = .ok (.iload_n 1, 1) := by decide +kernel
theorem dX7_locks_112 : decode cX7_locks 112 = .ok (.iconst 4, 1) := by decide +kernel
theorem dX7_locks_113 : decode cX7_locks 113 = .ok (.iconst 0, 1) := by decide +kernel
theorem dX7_locks_114 : decode cX7_locks 114 = .ok (.invokevirtual 178, 3) := by decide +kernel
theorem dX7_locks_117 : decode cX7_locks 117 = .ok (.iconst 1, 1) := by decide +kernel
theorem dX7_locks_118 : decode cX7_locks 118 = .ok (.ireturn, 1) := by decide +kernel
set_option maxRecDepth 20000 in
theorem ggX7_sumOver_X7_of : GoodIn wsX7_sumOver wsX7_of := goodIn_ca (goodIn_r _ [6, 7, 8, 9, 10, 11, 12, 13, 14, 15, 16, 17, 18, 19, 20, 21, 22, 23, 24, 25, 26, 27, 28, 29, 30, 31, 32, 33, 34, 35, 36, 37, 38, 39, 40, 41, 42, 43, 44, 45, 46, 47, 48] (by decide +kernel) (by decide +kernel)) (goodIn_sub (fun _ h => List.mem_cons_of_mem _ (List.mem_append_right _ h)) (by decide +kernel))
set_option maxRecDepth 20000 in
theorem gX7_sumOver_X7_of : GoodIn wsX7_sumOver (wsV RX7 189 RX7 yX7_of wsX7_of) := goodIn_app (goodIn_of _ (by decide +kernel)) ggX7_sumOver_X7_of
theorem dX7_sumOver_0 : decode cX7_sumOver 0 = .ok (.iconst 0, 1) := by decide +kernel
theorem dX7_sumOver_1 : decode cX7_sumOver 1 = .ok (.istore_n 2, 1) := by decide +kernel
theorem dX7_sumOver_2 : decode cX7_sumOver 2 = .ok (.iconst 0, 1) := by decide +kernel
theorem dX7_sumOver_3 : decode cX7_sumOver 3 = .ok (.istore_n 3, 1) := by decide +kernel
theorem dX7_sumOver_4 : decode cX7_sumOver 4 = .ok (.iload_n 3, 1) := by decide +kernel
theorem dX7_sumOver_5 : decode cX7_sumOver 5 = .ok (.aload_n 0, 1) := by decide +kernel
theorem dX7_sumOver_6 : decode cX7_sumOver 6 = .ok (.getfield 154, 3) := by decide +kernel
theorem dX7_sumOver_9 : decode cX7_sumOver 9 = .ok (.if_icmp .ge 18, 3) := by decide +kernel
theorem dX7_sumOver_12 : decode cX7_sumOver 12 = .ok (.iload_n 2, 1) := by decide +kernel
theorem dX7_sumOver_13 : decode cX7_sumOver 13 = .ok (.aload_n 0, 1) := by decide +kernel
theorem dX7_sumOver_14 : decode cX7_sumOver 14 = .ok (.iload_n 3, 1) := by decide +kernel
theorem dX7_sumOver_15 : decode cX7_sumOver 15 = .ok (.iload_n 1, 1) := by decide +kernel
theorem dX7_sumOver_16 : decode cX7_sumOver 16 = .ok (.invokevirtual 189, 3) := by decide +kernel
theorem dX7_sumOver_19 : decode cX7_sumOver 19 = .ok (.iadd, 1) := by decide +kernel
theorem dX7_sumOver_20 : decode cX7_sumOver 20 = .ok (.istore_n 2, 1) := by decide +kernel
theorem dX7_sumOver_21 : decode cX7_sumOver 21 = .ok (.iinc 3 1, 3) := by decide +kernel
theorem dX7_sumOver_24 : decode cX7_sumOver 24 = .ok (.goto (-20), 3) := by decide +kernel
theorem dX7_sumOver_27 : decode cX7_sumOver 27 = .ok (.iload_n 2, 1) := by decide +kernel
theorem dX7_sumOver_28 : decode cX7_sumOver 28 = .ok (.ireturn, 1) := by decide +kernel
set_option maxRecDepth 20000 in
theorem ggX7_tightRows_X7_isTightRow : GoodIn wsX7_tightRows wsX7_isTightRow := goodIn_ca (goodIn_r _ [6, 7, 8, 9, 5, 10, 11, 12, 13, 14, 15, 16, 17, 18, 19, 20, 21, 22, 23, 24, 25, 26, 27, 28, 29, 30, 31, 32, 33, 34, 38, 39, 40, 41, 42, 43, 44, 45, 46, 47, 48, 49, 50, 51, 52, 53, 54, 55, 56, 57, 58, 59, 60, 61, 62, 63, 64, 65, 66, 67, 68, 69, 70, 71, 72, 73, 74, 75, 76, 77, 78] (by decide +kernel) (by decide +kernel)) (goodIn_sub (fun _ h => List.mem_cons_of_mem _ (List.mem_append_right _ h)) (by decide +kernel))
set_option maxRecDepth 20000 in
theorem gX7_tightRows_X7_isTightRow : GoodIn wsX7_tightRows (wsV RX7 317 RX7 yX7_isTightRow wsX7_isTightRow) := goodIn_app (goodIn_of _ (by decide +kernel)) ggX7_tightRows_X7_isTightRow
set_option maxRecDepth 20000 in
theorem ggX7_tightRows_X7_flag : GoodIn wsX7_tightRows wsX7_flag := goodIn_r _ [37] (by decide +kernel) (by decide +kernel)
set_option maxRecDepth 20000 in
theorem gX7_tightRows_X7_flag : GoodIn wsX7_tightRows (va_wsS RX7 250 yX7_flag wsX7_flag) := goodIn_app (goodIn_of _ (by decide +kernel)) ggX7_tightRows_X7_flag
theorem dX7_tightRows_0 : decode cX7_tightRows 0 = .ok (.iconst 0, 1) := by decide +kernel
theorem dX7_tightRows_1 : decode cX7_tightRows 1 = .ok (.istore_n 1, 1) := by decide +kernel
theorem dX7_tightRows_2 : decode cX7_tightRows 2 = .ok (.iconst 0, 1) := by decide +kernel
theorem dX7_tightRows_3 : decode cX7_tightRows 3 = .ok (.istore_n 2, 1) := by decide +kernel
theorem dX7_tightRows_4 : decode cX7_tightRows 4 = .ok (.iload_n 2, 1) := by decide +kernel
theorem dX7_tightRows_5 : decode cX7_tightRows 5 = .ok (.aload_n 0, 1) := by decide +kernel
theorem dX7_tightRows_6 : decode cX7_tightRows 6 = .ok (.getfield 154, 3) := by decide +kernel
theorem dX7_tightRows_9 : decode cX7_tightRows 9 = .ok (.if_icmp .ge 20, 3) := by decide +kernel
theorem dX7_tightRows_12 : decode cX7_tightRows 12 = .ok (.iload_n 1, 1) := by decide +kernel
theorem dX7_tightRows_13 : decode cX7_tightRows 13 = .ok (.aload_n 0, 1) := by decide +kernel
theorem dX7_tightRows_14 : decode cX7_tightRows 14 = .ok (.iload_n 2, 1) := by decide +kernel
theorem dX7_tightRows_15 : decode cX7_tightRows 15 = .ok (.invokevirtual 317, 3) := by decide +kernel
theorem dX7_tightRows_18 : decode cX7_tightRows 18 = .ok (.invokestatic 250, 3) := by decide +kernel
theorem dX7_tightRows_21 : decode cX7_tightRows 21 = .ok (.iadd, 1) := by decide +kernel
theorem dX7_tightRows_22 : decode cX7_tightRows 22 = .ok (.istore_n 1, 1) := by decide +kernel
theorem dX7_tightRows_23 : decode cX7_tightRows 23 = .ok (.iinc 2 1, 3) := by decide +kernel
theorem dX7_tightRows_26 : decode cX7_tightRows 26 = .ok (.goto (-22), 3) := by decide +kernel
theorem dX7_tightRows_29 : decode cX7_tightRows 29 = .ok (.iload_n 1, 1) := by decide +kernel
theorem dX7_tightRows_30 : decode cX7_tightRows 30 = .ok (.ireturn, 1) := by decide +kernel
theorem dX7_leftAll_0 : decode cX7_leftAll 0 = .ok (.iconst 0, 1) := by decide +kernel
theorem dX7_leftAll_1 : decode cX7_leftAll 1 = .ok (.istore_n 2, 1) := by decide +kernel
theorem dX7_leftAll_2 : decode cX7_leftAll 2 = .ok (.iconst 0, 1) := by decide +kernel
theorem dX7_leftAll_3 : decode cX7_leftAll 3 = .ok (.istore_n 3, 1) := by decide +kernel
theorem dX7_leftAll_4 : decode cX7_leftAll 4 = .ok (.iload_n 3, 1) := by decide +kernel
theorem dX7_leftAll_5 : decode cX7_leftAll 5 = .ok (.aload_n 0, 1) := by decide +kernel
theorem dX7_leftAll_6 : decode cX7_leftAll 6 = .ok (.getfield 172, 3) := by decide +kernel
theorem dX7_leftAll_9 : decode cX7_leftAll 9 = .ok (.if_icmp .ge 36, 3) := by decide +kernel
theorem dX7_leftAll_12 : decode cX7_leftAll 12 = .ok (.iload_n 2, 1) := by decide +kernel
theorem dX7_leftAll_13 : decode cX7_leftAll 13 = .ok (.aload_n 0, 1) := by decide +kernel
theorem dX7_leftAll_14 : decode cX7_leftAll 14 = .ok (.getfield 17, 3) := by decide +kernel
theorem dX7_leftAll_17 : decode cX7_leftAll 17 = .ok (.bipush 6, 2) := by decide +kernel
theorem dX7_leftAll_19 : decode cX7_leftAll 19 = .ok (.iload_n 3, 1) := by decide +kernel
theorem dX7_leftAll_20 : decode cX7_leftAll 20 = .ok (.iadd, 1) := by decide +kernel
theorem dX7_leftAll_21 : decode cX7_leftAll 21 = .ok (.iaload, 1) := by decide +kernel
theorem dX7_leftAll_22 : decode cX7_leftAll 22 = .ok (.iload_n 1, 1) := by decide +kernel
theorem dX7_leftAll_23 : decode cX7_leftAll 23 = .ok (.ifCond .eq 12, 3) := by decide +kernel
theorem dX7_leftAll_26 : decode cX7_leftAll 26 = .ok (.aload_n 0, 1) := by decide +kernel
theorem dX7_leftAll_27 : decode cX7_leftAll 27 = .ok (.getfield 13, 3) := by decide +kernel
theorem dX7_leftAll_30 : decode cX7_leftAll 30 = .ok (.iload_n 3, 1) := by decide +kernel
theorem dX7_leftAll_31 : decode cX7_leftAll 31 = .ok (.iaload, 1) := by decide +kernel
theorem dX7_leftAll_32 : decode cX7_leftAll 32 = .ok (.goto 4, 3) := by decide +kernel
theorem dX7_leftAll_35 : decode cX7_leftAll 35 = .ok (.iconst 1, 1) := by decide +kernel
theorem dX7_leftAll_36 : decode cX7_leftAll 36 = .ok (.imul, 1) := by decide +kernel
theorem dX7_leftAll_37 : decode cX7_leftAll 37 = .ok (.iadd, 1) := by decide +kernel
theorem dX7_leftAll_38 : decode cX7_leftAll 38 = .ok (.istore_n 2, 1) := by decide +kernel
theorem dX7_leftAll_39 : decode cX7_leftAll 39 = .ok (.iinc 3 1, 3) := by decide +kernel
theorem dX7_leftAll_42 : decode cX7_leftAll 42 = .ok (.goto (-38), 3) := by decide +kernel
theorem dX7_leftAll_45 : decode cX7_leftAll 45 = .ok (.iload_n 2, 1) := by decide +kernel
theorem dX7_leftAll_46 : decode cX7_leftAll 46 = .ok (.ireturn, 1) := by decide +kernel
set_option maxRecDepth 20000 in
theorem ggX7_count_X7_notLoaded : GoodIn wsX7_count wsX7_notLoaded := goodIn_r _ [8, 9, 10, 11, 12, 13, 7, 14, 64, 65, 66, 67, 68, 69, 70, 71, 72, 73, 74, 75, 76, 77, 78, 79, 80, 81, 82, 83, 84, 85, 86, 87, 88, 89, 90, 91, 92, 93, 94, 95, 96, 97, 98, 99, 100, 101, 102, 103, 104] (by decide +kernel) (by decide +kernel)
set_option maxRecDepth 20000 in
theorem gX7_count_X7_notLoaded : GoodIn wsX7_count (wsV RX7 320 RX7 yX7_notLoaded wsX7_notLoaded) := goodIn_app (goodIn_of _ (by decide +kernel)) ggX7_count_X7_notLoaded
set_option maxRecDepth 20000 in
theorem ggX7_count_X7_in : GoodIn wsX7_count wsX7_in := goodIn_r _ [17] (by decide +kernel) (by decide +kernel)
set_option maxRecDepth 20000 in
theorem gX7_count_X7_in : GoodIn wsX7_count (va_wsS RX7 143 yX7_in wsX7_in) := goodIn_app (goodIn_of _ (by decide +kernel)) ggX7_count_X7_in
set_option maxRecDepth 20000 in
theorem ggX7_count_X7_refuse : GoodIn wsX7_count wsX7_refuse := goodIn_r _ [14, 9, 64, 65, 66, 67, 68, 69, 70, 71, 72, 73, 74, 75, 76, 77, 78, 79, 80, 81, 82, 83, 84, 85, 86, 87, 88, 89, 90, 91, 92, 93, 94, 95, 96, 97, 98, 99, 100, 101, 102, 103, 104] (by decide +kernel) (by decide +kernel)
set_option maxRecDepth 20000 in
theorem gX7_count_X7_refuse : GoodIn wsX7_count (wsV RX7 74 RX7 yX7_refuse wsX7_refuse) := goodIn_app (goodIn_of _ (by decide +kernel)) ggX7_count_X7_refuse
set_option maxRecDepth 20000 in
theorem ggX7_count_X7_sumOver : GoodIn wsX7_count wsX7_sumOver := goodIn_ca (goodIn_r _ [21, 1, 22, 23, 24, 7, 25, 3, 64, 65, 66, 67, 68, 69, 70, 71, 72, 73, 74, 75, 76, 77, 78, 79, 80, 81, 82, 83, 84, 85, 86, 87, 88, 89, 90, 91, 92, 93, 94, 95, 96, 97, 98, 99, 100, 101, 102, 103, 104] (by decide +kernel) (by decide +kernel)) (goodIn_sub (fun _ h => List.mem_cons_of_mem _ (List.mem_append_right _ h)) (by decide +kernel))
set_option maxRecDepth 20000 in
theorem gX7_count_X7_sumOver : GoodIn wsX7_count (wsV RX7 323 RX7 yX7_sumOver wsX7_sumOver) := goodIn_app (goodIn_of _ (by decide +kernel)) ggX7_count_X7_sumOver
set_option maxRecDepth 20000 in
theorem ggX7_count_X7_tightRows : GoodIn wsX7_count wsX7_tightRows := goodIn_ca (goodIn_r _ [29, 1, 30, 31, 32, 7, 33, 34, 35, 36, 37, 38, 39, 40, 41, 42, 43, 44, 45, 46, 47, 22, 23, 24, 25, 3, 48, 49, 50, 51, 52, 53, 54, 55, 56, 57, 58, 59, 64, 65, 66, 67, 68, 69, 70, 71, 72, 73, 74, 75, 76, 77, 78, 79, 80, 81, 82, 83, 84, 85, 86, 87, 88, 89, 90, 91, 92, 93, 94, 95, 96, 97, 98, 99, 100, 101, 102, 103, 104] (by decide +kernel) (by decide +kernel)) (goodIn_sub (fun _ h => List.mem_cons_of_mem _ (List.mem_append_right _ h)) (by decide +kernel))
set_option maxRecDepth 20000 in
theorem gX7_count_X7_tightRows : GoodIn wsX7_count (wsV RX7 326 RX7 yX7_tightRows wsX7_tightRows) := goodIn_app (goodIn_of _ (by decide +kernel)) ggX7_count_X7_tightRows
set_option maxRecDepth 20000 in
theorem ggX7_count_X7_leftAll : GoodIn wsX7_count wsX7_leftAll := goodIn_ca (goodIn_r _ [63, 2, 3, 43, 64, 65, 66, 67, 68, 69, 70, 71, 72, 73, 74, 75, 76, 77, 78, 79, 80, 81, 82, 83, 84, 85, 86, 87, 88, 89, 90, 91, 92, 93, 94, 95, 96, 97, 98, 99, 100, 101, 102, 103, 104] (by decide +kernel) (by decide +kernel)) (goodIn_sub (fun _ h => List.mem_cons_of_mem _ (List.mem_append_right _ h)) (by decide +kernel))
set_option maxRecDepth 20000 in
theorem gX7_count_X7_leftAll : GoodIn wsX7_count (wsV RX7 329 RX7 yX7_leftAll wsX7_leftAll) := goodIn_app (goodIn_of _ (by decide +kernel)) ggX7_count_X7_leftAll
theorem dX7_count_0 : decode cX7_count 0 = .ok (.aload_n 0, 1) := by decide +kernel
theorem dX7_count_1 : decode cX7_count 1 = .ok (.invokevirtual 320, 3) := by decide +kernel
theorem dX7_count_4 : decode cX7_count 4 = .ok (.ifCond .ne 26, 3) := by decide +kernel
theorem dX7_count_7 : decode cX7_count 7 = .ok (.aload_n 0, 1) := by decide +kernel
theorem dX7_count_8 : decode cX7_count 8 = .ok (.iload_n 1, 1) := by decide +kernel
theorem dX7_count_9 : decode cX7_count 9 = .ok (.iconst 0, 1) := by decide +kernel
theorem dX7_count_10 : decode cX7_count 10 = .ok (.bipush 11, 2) := by decide +kernel
theorem dX7_count_12 : decode cX7_count 12 = .ok (.invokestatic 143, 3) := by decide +kernel
theorem dX7_count_15 : decode cX7_count 15 = .ok (.ifCond .ne 7, 3) := by decide +kernel
theorem dX7_count_18 : decode cX7_count 18 = .ok (.iconst 1, 1) := by decide +kernel
theorem dX7_count_19 : decode cX7_count 19 = .ok (.goto 4, 3) := by decide +kernel
theorem dX7_count_22 : decode cX7_count 22 = .ok (.iconst 0, 1) := by decide +kernel
theorem dX7_count_23 : decode cX7_count 23 = .ok (.iconst 2, 1) := by decide +kernel
theorem dX7_count_24 : decode cX7_count 24 = .ok (.invokevirtual 74, 3) := by decide +kernel
theorem dX7_count_27 : decode cX7_count 27 = .ok (.ifCond .eq 5, 3) := by decide +kernel
theorem dX7_count_30 : decode cX7_count 30 = .ok (.iconst 0, 1) := by decide +kernel
theorem dX7_count_31 : decode cX7_count 31 = .ok (.ireturn, 1) := by decide +kernel
theorem dX7_count_32 : decode cX7_count 32 = .ok (.iload_n 1, 1) := by decide +kernel
theorem dX7_count_33 : decode cX7_count 33 = .ok (.tableswitch 103 0 11 #[63, 68, 73, 80, 86, 92, 103, 103, 103, 103, 103, 97], 63) := by decide +kernel
theorem dX7_count_96 : decode cX7_count 96 = .ok (.aload_n 0, 1) := by decide +kernel
theorem dX7_count_97 : decode cX7_count 97 = .ok (.getfield 154, 3) := by decide +kernel
theorem dX7_count_100 : decode cX7_count 100 = .ok (.ireturn, 1) := by decide +kernel
theorem dX7_count_101 : decode cX7_count 101 = .ok (.aload_n 0, 1) := by decide +kernel
theorem dX7_count_102 : decode cX7_count 102 = .ok (.getfield 172, 3) := by decide +kernel
theorem dX7_count_105 : decode cX7_count 105 = .ok (.ireturn, 1) := by decide +kernel
theorem dX7_count_106 : decode cX7_count 106 = .ok (.aload_n 0, 1) := by decide +kernel
theorem dX7_count_107 : decode cX7_count 107 = .ok (.getfield 17, 3) := by decide +kernel
theorem dX7_count_110 : decode cX7_count 110 = .ok (.iconst 0, 1) := by decide +kernel
theorem dX7_count_111 : decode cX7_count 111 = .ok (.iaload, 1) := by decide +kernel
theorem dX7_count_112 : decode cX7_count 112 = .ok (.ireturn, 1) := by decide +kernel
theorem dX7_count_113 : decode cX7_count 113 = .ok (.aload_n 0, 1) := by decide +kernel
theorem dX7_count_114 : decode cX7_count 114 = .ok (.iconst 0, 1) := by decide +kernel
theorem dX7_count_115 : decode cX7_count 115 = .ok (.invokevirtual 323, 3) := by decide +kernel
theorem dX7_count_118 : decode cX7_count 118 = .ok (.ireturn, 1) := by decide +kernel
theorem dX7_count_119 : decode cX7_count 119 = .ok (.aload_n 0, 1) := by decide +kernel
theorem dX7_count_120 : decode cX7_count 120 = .ok (.iconst 1, 1) := by decide +kernel
theorem dX7_count_121 : decode cX7_count 121 = .ok (.invokevirtual 323, 3) := by decide +kernel
theorem dX7_count_124 : decode cX7_count 124 = .ok (.ireturn, 1) := by decide +kernel
theorem dX7_count_125 : decode cX7_count 125 = .ok (.aload_n 0, 1) := by decide +kernel
theorem dX7_count_126 : decode cX7_count 126 = .ok (.invokevirtual 326, 3) := by decide +kernel
theorem dX7_count_129 : decode cX7_count 129 = .ok (.ireturn, 1) := by decide +kernel
theorem dX7_count_130 : decode cX7_count 130 = .ok (.aload_n 0, 1) := by decide +kernel
theorem dX7_count_131 : decode cX7_count 131 = .ok (.iconst 0, 1) := by decide +kernel
theorem dX7_count_132 : decode cX7_count 132 = .ok (.invokevirtual 329, 3) := by decide +kernel
theorem dX7_count_135 : decode cX7_count 135 = .ok (.ireturn, 1) := by decide +kernel
theorem dX7_count_136 : decode cX7_count 136 = .ok (.aload_n 0, 1) := by decide +kernel
theorem dX7_count_137 : decode cX7_count 137 = .ok (.getfield 17, 3) := by decide +kernel
theorem dX7_count_140 : decode cX7_count 140 = .ok (.iconst 1, 1) := by decide +kernel
theorem dX7_count_141 : decode cX7_count 141 = .ok (.iload_n 1, 1) := by decide +kernel
theorem dX7_count_142 : decode cX7_count 142 = .ok (.iadd, 1) := by decide +kernel
theorem dX7_count_143 : decode cX7_count 143 = .ok (.bipush 6, 2) := by decide +kernel
theorem dX7_count_145 : decode cX7_count 145 = .ok (.isub, 1) := by decide +kernel
theorem dX7_count_146 : decode cX7_count 146 = .ok (.iaload, 1) := by decide +kernel
theorem dX7_count_147 : decode cX7_count 147 = .ok (.ireturn, 1) := by decide +kernel
set_option maxRecDepth 20000 in
theorem ggX7_setting_X7_notLoaded : GoodIn wsX7_setting wsX7_notLoaded := goodIn_r _ [11, 12, 13, 14, 15, 16, 10, 17, 21, 22, 23, 24, 25, 26, 27, 28, 29, 30, 31, 32, 33, 34, 35, 36, 37, 38, 39, 40, 41, 42, 43, 44, 45, 46, 47, 48, 49, 50, 51, 52, 53, 54, 55, 56, 57, 58, 59, 60, 61] (by decide +kernel) (by decide +kernel)
set_option maxRecDepth 20000 in
theorem gX7_setting_X7_notLoaded : GoodIn wsX7_setting (wsV RX7 320 RX7 yX7_notLoaded wsX7_notLoaded) := goodIn_app (goodIn_of _ (by decide +kernel)) ggX7_setting_X7_notLoaded
set_option maxRecDepth 20000 in
theorem ggX7_setting_X7_in : GoodIn wsX7_setting wsX7_in := goodIn_r _ [20] (by decide +kernel) (by decide +kernel)
set_option maxRecDepth 20000 in
theorem gX7_setting_X7_in : GoodIn wsX7_setting (va_wsS RX7 143 yX7_in wsX7_in) := goodIn_app (goodIn_of _ (by decide +kernel)) ggX7_setting_X7_in
set_option maxRecDepth 20000 in
theorem ggX7_setting_X7_refuse : GoodIn wsX7_setting wsX7_refuse := goodIn_r _ [17, 12, 21, 22, 23, 24, 25, 26, 27, 28, 29, 30, 31, 32, 33, 34, 35, 36, 37, 38, 39, 40, 41, 42, 43, 44, 45, 46, 47, 48, 49, 50, 51, 52, 53, 54, 55, 56, 57, 58, 59, 60, 61] (by decide +kernel) (by decide +kernel)
set_option maxRecDepth 20000 in
theorem gX7_setting_X7_refuse : GoodIn wsX7_setting (wsV RX7 74 RX7 yX7_refuse wsX7_refuse) := goodIn_app (goodIn_of _ (by decide +kernel)) ggX7_setting_X7_refuse
theorem dX7_setting_0 : decode cX7_setting 0 = .ok (.aload_n 0, 1) := by decide +kernel
theorem dX7_setting_1 : decode cX7_setting 1 = .ok (.invokevirtual 320, 3) := by decide +kernel
theorem dX7_setting_4 : decode cX7_setting 4 = .ok (.ifCond .ne 25, 3) := by decide +kernel
theorem dX7_setting_7 : decode cX7_setting 7 = .ok (.aload_n 0, 1) := by decide +kernel
theorem dX7_setting_8 : decode cX7_setting 8 = .ok (.iload_n 1, 1) := by decide +kernel
theorem dX7_setting_9 : decode cX7_setting 9 = .ok (.iconst 0, 1) := by decide +kernel
theorem dX7_setting_10 : decode cX7_setting 10 = .ok (.iconst 5, 1) := by decide +kernel
theorem dX7_setting_11 : decode cX7_setting 11 = .ok (.invokestatic 143, 3) := by decide +kernel
theorem dX7_setting_14 : decode cX7_setting 14 = .ok (.ifCond .ne 7, 3) := by decide +kernel
theorem dX7_setting_17 : decode cX7_setting 17 = .ok (.iconst 1, 1) := by decide +kernel
theorem dX7_setting_18 : decode cX7_setting 18 = .ok (.goto 4, 3) := by decide +kernel
theorem dX7_setting_21 : decode cX7_setting 21 = .ok (.iconst 0, 1) := by decide +kernel
theorem dX7_setting_22 : decode cX7_setting 22 = .ok (.iconst 2, 1) := by decide +kernel
theorem dX7_setting_23 : decode cX7_setting 23 = .ok (.invokevirtual 74, 3) := by decide +kernel
theorem dX7_setting_26 : decode cX7_setting 26 = .ok (.ifCond .eq 5, 3) := by decide +kernel
theorem dX7_setting_29 : decode cX7_setting 29 = .ok (.iconst 0, 1) := by decide +kernel
theorem dX7_setting_30 : decode cX7_setting 30 = .ok (.ireturn, 1) := by decide +kernel
theorem dX7_setting_31 : decode cX7_setting 31 = .ok (.iload_n 1, 1) := by decide +kernel
theorem dX7_setting_32 : decode cX7_setting 32 = .ok (.ifCond .ne 10, 3) := by decide +kernel
theorem dX7_setting_35 : decode cX7_setting 35 = .ok (.aload_n 0, 1) := by decide +kernel
theorem dX7_setting_36 : decode cX7_setting 36 = .ok (.getfield 151, 3) := by decide +kernel
theorem dX7_setting_39 : decode cX7_setting 39 = .ok (.goto 55, 3) := by decide +kernel
theorem dX7_setting_42 : decode cX7_setting 42 = .ok (.iload_n 1, 1) := by decide +kernel
theorem dX7_setting_43 : decode cX7_setting 43 = .ok (.iconst 1, 1) := by decide +kernel
theorem dX7_setting_44 : decode cX7_setting 44 = .ok (.if_icmp .ne 10, 3) := by decide +kernel
theorem dX7_setting_47 : decode cX7_setting 47 = .ok (.aload_n 0, 1) := by decide +kernel
theorem dX7_setting_48 : decode cX7_setting 48 = .ok (.getfield 157, 3) := by decide +kernel
theorem dX7_setting_51 : decode cX7_setting 51 = .ok (.goto 43, 3) := by decide +kernel
theorem dX7_setting_54 : decode cX7_setting 54 = .ok (.iload_n 1, 1) := by decide +kernel
theorem dX7_setting_55 : decode cX7_setting 55 = .ok (.iconst 2, 1) := by decide +kernel
theorem dX7_setting_56 : decode cX7_setting 56 = .ok (.if_icmp .ne 10, 3) := by decide +kernel
theorem dX7_setting_59 : decode cX7_setting 59 = .ok (.aload_n 0, 1) := by decide +kernel
theorem dX7_setting_60 : decode cX7_setting 60 = .ok (.getfield 160, 3) := by decide +kernel
theorem dX7_setting_63 : decode cX7_setting 63 = .ok (.goto 31, 3) := by decide +kernel
theorem dX7_setting_66 : decode cX7_setting 66 = .ok (.iload_n 1, 1) := by decide +kernel
theorem dX7_setting_67 : decode cX7_setting 67 = .ok (.iconst 3, 1) := by decide +kernel
theorem dX7_setting_68 : decode cX7_setting 68 = .ok (.if_icmp .ne 10, 3) := by decide +kernel
theorem dX7_setting_71 : decode cX7_setting 71 = .ok (.aload_n 0, 1) := by decide +kernel
theorem dX7_setting_72 : decode cX7_setting 72 = .ok (.getfield 163, 3) := by decide +kernel
theorem dX7_setting_75 : decode cX7_setting 75 = .ok (.goto 19, 3) := by decide +kernel
theorem dX7_setting_78 : decode cX7_setting 78 = .ok (.iload_n 1, 1) := by decide +kernel
theorem dX7_setting_79 : decode cX7_setting 79 = .ok (.iconst 4, 1) := by decide +kernel
theorem dX7_setting_80 : decode cX7_setting 80 = .ok (.if_icmp .ne 10, 3) := by decide +kernel
theorem dX7_setting_83 : decode cX7_setting 83 = .ok (.aload_n 0, 1) := by decide +kernel
theorem dX7_setting_84 : decode cX7_setting 84 = .ok (.getfield 166, 3) := by decide +kernel
theorem dX7_setting_87 : decode cX7_setting 87 = .ok (.goto 7, 3) := by decide +kernel
theorem dX7_setting_90 : decode cX7_setting 90 = .ok (.aload_n 0, 1) := by decide +kernel
theorem dX7_setting_91 : decode cX7_setting 91 = .ok (.getfield 169, 3) := by decide +kernel
theorem dX7_setting_94 : decode cX7_setting 94 = .ok (.ireturn, 1) := by decide +kernel
set_option maxRecDepth 20000 in
theorem ggX7_isRow_X7_in : GoodIn wsX7_isRow wsX7_in := goodIn_r _ [5] (by decide +kernel) (by decide +kernel)
set_option maxRecDepth 20000 in
theorem gX7_isRow_X7_in : GoodIn wsX7_isRow (va_wsS RX7 143 yX7_in wsX7_in) := goodIn_app (goodIn_of _ (by decide +kernel)) ggX7_isRow_X7_in
theorem dX7_isRow_0 : decode cX7_isRow 0 = .ok (.iload_n 1, 1) := by decide +kernel
theorem dX7_isRow_1 : decode cX7_isRow 1 = .ok (.iconst 0, 1) := by decide +kernel
theorem dX7_isRow_2 : decode cX7_isRow 2 = .ok (.aload_n 0, 1) := by decide +kernel
theorem dX7_isRow_3 : decode cX7_isRow 3 = .ok (.getfield 154, 3) := by decide +kernel
theorem dX7_isRow_6 : decode cX7_isRow 6 = .ok (.iconst 1, 1) := by decide +kernel
theorem dX7_isRow_7 : decode cX7_isRow 7 = .ok (.isub, 1) := by decide +kernel
theorem dX7_isRow_8 : decode cX7_isRow 8 = .ok (.invokestatic 143, 3) := by decide +kernel
theorem dX7_isRow_11 : decode cX7_isRow 11 = .ok (.ireturn, 1) := by decide +kernel
set_option maxRecDepth 20000 in
theorem ggX7_noRow_X7_notLoaded : GoodIn wsX7_noRow wsX7_notLoaded := goodIn_r _ [5, 6, 7, 8, 9, 10, 4, 11, 20, 21, 22, 23, 24, 25, 26, 27, 28, 29, 30, 31, 32, 33, 34, 35, 36, 37, 38, 39, 40, 41, 42, 43, 44, 45, 46, 47, 48, 49, 50, 51, 52, 53, 54, 55, 56, 57, 58, 59, 60] (by decide +kernel) (by decide +kernel)
set_option maxRecDepth 20000 in
theorem gX7_noRow_X7_notLoaded : GoodIn wsX7_noRow (wsV RX7 320 RX7 yX7_notLoaded wsX7_notLoaded) := goodIn_app (goodIn_of _ (by decide +kernel)) ggX7_noRow_X7_notLoaded
set_option maxRecDepth 20000 in
theorem ggX7_noRow_X7_isRow : GoodIn wsX7_noRow wsX7_isRow := goodIn_r _ [15, 16, 17, 18, 4, 19, 20, 21, 22, 23, 24, 25, 26, 27, 28, 29, 30, 31, 32, 33, 34, 35, 36, 37, 38, 39, 40, 41, 42, 43, 44, 45, 46, 47, 48, 49, 50, 51, 52, 53, 54, 55, 56, 57, 58, 59, 60] (by decide +kernel) (by decide +kernel)
set_option maxRecDepth 20000 in
theorem gX7_noRow_X7_isRow : GoodIn wsX7_noRow (wsV RX7 332 RX7 yX7_isRow wsX7_isRow) := goodIn_app (goodIn_of _ (by decide +kernel)) ggX7_noRow_X7_isRow
set_option maxRecDepth 20000 in
theorem ggX7_noRow_X7_refuse : GoodIn wsX7_noRow wsX7_refuse := goodIn_r _ [11, 6, 20, 21, 22, 23, 24, 25, 26, 27, 28, 29, 30, 31, 32, 33, 34, 35, 36, 37, 38, 39, 40, 41, 42, 43, 44, 45, 46, 47, 48, 49, 50, 51, 52, 53, 54, 55, 56, 57, 58, 59, 60] (by decide +kernel) (by decide +kernel)
set_option maxRecDepth 20000 in
theorem gX7_noRow_X7_refuse : GoodIn wsX7_noRow (wsV RX7 74 RX7 yX7_refuse wsX7_refuse) := goodIn_app (goodIn_of _ (by decide +kernel)) ggX7_noRow_X7_refuse
theorem dX7_noRow_0 : decode cX7_noRow 0 = .ok (.aload_n 0, 1) := by decide +kernel
theorem dX7_noRow_1 : decode cX7_noRow 1 = .ok (.invokevirtual 320, 3) := by decide +kernel
theorem dX7_noRow_4 : decode cX7_noRow 4 = .ok (.ifCond .ne 24, 3) := by decide +kernel
theorem dX7_noRow_7 : decode cX7_noRow 7 = .ok (.aload_n 0, 1) := by decide +kernel
theorem dX7_noRow_8 : decode cX7_noRow 8 = .ok (.aload_n 0, 1) := by decide +kernel
theorem dX7_noRow_9 : decode cX7_noRow 9 = .ok (.iload_n 1, 1) := by decide +kernel
theorem dX7_noRow_10 : decode cX7_noRow 10 = .ok (.invokevirtual 332, 3) := by decide +kernel
theorem dX7_noRow_13 : decode cX7_noRow 13 = .ok (.ifCond .ne 7, 3) := by decide +kernel
theorem dX7_noRow_16 : decode cX7_noRow 16 = .ok (.iconst 1, 1) := by decide +kernel
theorem dX7_noRow_17 : decode cX7_noRow 17 = .ok (.goto 4, 3) := by decide +kernel
theorem dX7_noRow_20 : decode cX7_noRow 20 = .ok (.iconst 0, 1) := by decide +kernel
theorem dX7_noRow_21 : decode cX7_noRow 21 = .ok (.iconst 2, 1) := by decide +kernel
theorem dX7_noRow_22 : decode cX7_noRow 22 = .ok (.invokevirtual 74, 3) := by decide +kernel
theorem dX7_noRow_25 : decode cX7_noRow 25 = .ok (.ifCond .eq 7, 3) := by decide +kernel
theorem dX7_noRow_28 : decode cX7_noRow 28 = .ok (.iconst 1, 1) := by decide +kernel
theorem dX7_noRow_29 : decode cX7_noRow 29 = .ok (.goto 4, 3) := by decide +kernel
theorem dX7_noRow_32 : decode cX7_noRow 32 = .ok (.iconst 0, 1) := by decide +kernel
theorem dX7_noRow_33 : decode cX7_noRow 33 = .ok (.ireturn, 1) := by decide +kernel
set_option maxRecDepth 20000 in
theorem ggX7_row_X7_noRow : GoodIn wsX7_row wsX7_noRow := goodIn_r _ [5, 6, 7, 8, 4, 9, 10, 11, 12, 13, 14, 15, 16, 17, 18, 19, 20, 21, 22, 23, 60, 61, 62, 63, 64, 65, 66, 67, 68, 69, 70, 71, 72, 73, 74, 75, 76, 77, 78, 79, 80, 81, 82, 83, 84, 85, 86, 87, 88, 89, 90, 91, 92, 93, 94, 95, 96, 97, 98, 99, 100] (by decide +kernel) (by decide +kernel)
set_option maxRecDepth 20000 in
theorem gX7_row_X7_noRow : GoodIn wsX7_row (wsV RX7 335 RX7 yX7_noRow wsX7_noRow) := goodIn_app (goodIn_of _ (by decide +kernel)) ggX7_row_X7_noRow
set_option maxRecDepth 20000 in
theorem ggX7_row_X7_in : GoodIn wsX7_row wsX7_in := goodIn_r _ [23] (by decide +kernel) (by decide +kernel)
set_option maxRecDepth 20000 in
theorem gX7_row_X7_in : GoodIn wsX7_row (va_wsS RX7 143 yX7_in wsX7_in) := goodIn_app (goodIn_of _ (by decide +kernel)) ggX7_row_X7_in
set_option maxRecDepth 20000 in
theorem ggX7_row_X7_refuse : GoodIn wsX7_row wsX7_refuse := goodIn_r _ [15, 10, 60, 61, 62, 63, 64, 65, 66, 67, 68, 69, 70, 71, 72, 73, 74, 75, 76, 77, 78, 79, 80, 81, 82, 83, 84, 85, 86, 87, 88, 89, 90, 91, 92, 93, 94, 95, 96, 97, 98, 99, 100] (by decide +kernel) (by decide +kernel)
set_option maxRecDepth 20000 in
theorem gX7_row_X7_refuse : GoodIn wsX7_row (wsV RX7 74 RX7 yX7_refuse wsX7_refuse) := goodIn_app (goodIn_of _ (by decide +kernel)) ggX7_row_X7_refuse
set_option maxRecDepth 20000 in
theorem ggX7_row_X7_of : GoodIn wsX7_row wsX7_of := goodIn_ca (goodIn_r _ [27, 28, 60, 61, 62, 63, 64, 65, 66, 67, 68, 69, 70, 71, 72, 73, 74, 75, 76, 77, 78, 79, 80, 81, 82, 83, 84, 85, 86, 87, 88, 89, 90, 91, 92, 93, 94, 95, 96, 97, 98, 99, 100] (by decide +kernel) (by decide +kernel)) (goodIn_sub (fun _ h => List.mem_cons_of_mem _ (List.mem_append_right _ h)) (by decide +kernel))
set_option maxRecDepth 20000 in
theorem gX7_row_X7_of : GoodIn wsX7_row (wsV RX7 189 RX7 yX7_of wsX7_of) := goodIn_app (goodIn_of _ (by decide +kernel)) ggX7_row_X7_of
set_option maxRecDepth 20000 in
theorem ggX7_row_X7_filledLong : GoodIn wsX7_row wsX7_filledLong := goodIn_ca (goodIn_r _ [32, 33, 34, 35, 36, 4, 37, 24, 25, 26, 27, 28, 38, 39, 40, 41, 42, 43, 44, 45, 46, 60, 61, 62, 63, 64, 65, 66, 67, 68, 69, 70, 71, 72, 73, 74, 75, 76, 77, 78, 79, 80, 81, 82, 83, 84, 85, 86, 87, 88, 89, 90, 91, 92, 93, 94, 95, 96, 97, 98, 99, 100] (by decide +kernel) (by decide +kernel)) (goodIn_sub (fun _ h => List.mem_cons_of_mem _ (List.mem_append_right _ h)) (by decide +kernel))
set_option maxRecDepth 20000 in
theorem gX7_row_X7_filledLong : GoodIn wsX7_row (wsV RX7 247 RX7 yX7_filledLong wsX7_filledLong) := goodIn_app (goodIn_of _ (by decide +kernel)) ggX7_row_X7_filledLong
set_option maxRecDepth 20000 in
theorem ggX7_row_X7_gap : GoodIn wsX7_row wsX7_gap := goodIn_ca (goodIn_r _ [50, 51, 29, 30, 31, 4, 32, 33, 34, 35, 36, 37, 24, 25, 26, 27, 28, 38, 39, 40, 41, 42, 43, 44, 45, 46, 60, 61, 62, 63, 64, 65, 66, 67, 68, 69, 70, 71, 72, 73, 74, 75, 76, 77, 78, 79, 80, 81, 82, 83, 84, 85, 86, 87, 88, 89, 90, 91, 92, 93, 94, 95, 96, 97, 98, 99, 100] (by decide +kernel) (by decide +kernel)) (goodIn_sub (fun _ h => List.mem_cons_of_mem _ (List.mem_append_right _ h)) (by decide +kernel))
set_option maxRecDepth 20000 in
theorem gX7_row_X7_gap : GoodIn wsX7_row (wsV RX7 192 RX7 yX7_gap wsX7_gap) := goodIn_app (goodIn_of _ (by decide +kernel)) ggX7_row_X7_gap
set_option maxRecDepth 20000 in
theorem ggX7_row_X7_woodIn : GoodIn wsX7_row wsX7_woodIn := goodIn_ca (goodIn_r _ [55, 56, 24, 25, 26, 4, 27, 28, 57, 58, 59, 60, 61, 62, 63, 64, 65, 66, 67, 68, 69, 70, 71, 72, 73, 74, 75, 76, 77, 78, 79, 80, 81, 82, 83, 84, 85, 86, 87, 88, 89, 90, 91, 92, 93, 94, 95, 96, 97, 98, 99, 100] (by decide +kernel) (by decide +kernel)) (goodIn_sub (fun _ h => List.mem_cons_of_mem _ (List.mem_append_right _ h)) (by decide +kernel))
set_option maxRecDepth 20000 in
theorem gX7_row_X7_woodIn : GoodIn wsX7_row (wsV RX7 270 RX7 yX7_woodIn wsX7_woodIn) := goodIn_app (goodIn_of _ (by decide +kernel)) ggX7_row_X7_woodIn
set_option maxRecDepth 20000 in
theorem ggX7_row_X7_blocksLong : GoodIn wsX7_row wsX7_blocksLong := goodIn_ca (goodIn_r _ [37, 24, 25, 26, 4, 27, 28, 60, 61, 62, 63, 64, 65, 66, 67, 68, 69, 70, 71, 72, 73, 74, 75, 76, 77, 78, 79, 80, 81, 82, 83, 84, 85, 86, 87, 88, 89, 90, 91, 92, 93, 94, 95, 96, 97, 98, 99, 100] (by decide +kernel) (by decide +kernel)) (goodIn_sub (fun _ h => List.mem_cons_of_mem _ (List.mem_append_right _ h)) (by decide +kernel))
set_option maxRecDepth 20000 in
theorem gX7_row_X7_blocksLong : GoodIn wsX7_row (wsV RX7 241 RX7 yX7_blocksLong wsX7_blocksLong) := goodIn_app (goodIn_of _ (by decide +kernel)) ggX7_row_X7_blocksLong
set_option maxRecDepth 20000 in
theorem ggX7_row_X7_hasQuoin : GoodIn wsX7_row wsX7_hasQuoin := goodIn_ca (goodIn_r _ [46, 24, 25, 26, 4, 27, 28, 60, 61, 62, 63, 64, 65, 66, 67, 68, 69, 70, 71, 72, 73, 74, 75, 76, 77, 78, 79, 80, 81, 82, 83, 84, 85, 86, 87, 88, 89, 90, 91, 92, 93, 94, 95, 96, 97, 98, 99, 100] (by decide +kernel) (by decide +kernel)) (goodIn_sub (fun _ h => List.mem_cons_of_mem _ (List.mem_append_right _ h)) (by decide +kernel))
set_option maxRecDepth 20000 in
theorem gX7_row_X7_hasQuoin : GoodIn wsX7_row (wsV RX7 238 RX7 yX7_hasQuoin wsX7_hasQuoin) := goodIn_app (goodIn_of _ (by decide +kernel)) ggX7_row_X7_hasQuoin
theorem dX7_row_0 : decode cX7_row 0 = .ok (.aload_n 0, 1) := by decide +kernel
theorem dX7_row_1 : decode cX7_row 1 = .ok (.iload_n 1, 1) := by decide +kernel
theorem dX7_row_2 : decode cX7_row 2 = .ok (.invokevirtual 335, 3) := by decide +kernel
theorem dX7_row_5 : decode cX7_row 5 = .ok (.ifCond .ne 26, 3) := by decide +kernel
theorem dX7_row_8 : decode cX7_row 8 = .ok (.aload_n 0, 1) := by decide +kernel
theorem dX7_row_9 : decode cX7_row 9 = .ok (.iload_n 2, 1) := by decide +kernel
theorem dX7_row_10 : decode cX7_row 10 = .ok (.iconst 0, 1) := by decide +kernel
theorem dX7_row_11 : decode cX7_row 11 = .ok (.bipush 8, 2) := by decide +kernel
theorem dX7_row_13 : decode cX7_row 13 = .ok (.invokestatic 143, 3) := by decide +kernel
theorem dX7_row_16 : decode cX7_row 16 = .ok (.ifCond .ne 7, 3) := by decide +kernel
theorem dX7_row_19 : decode cX7_row 19 = .ok (.iconst 1, 1) := by decide +kernel
theorem dX7_row_20 : decode cX7_row 20 = .ok (.goto 4, 3) := by decide +kernel
theorem dX7_row_23 : decode cX7_row 23 = .ok (.iconst 0, 1) := by decide +kernel
theorem dX7_row_24 : decode cX7_row 24 = .ok (.iconst 3, 1) := by decide +kernel
theorem dX7_row_25 : decode cX7_row 25 = .ok (.invokevirtual 74, 3) := by decide +kernel
theorem dX7_row_28 : decode cX7_row 28 = .ok (.ifCond .eq 5, 3) := by decide +kernel
theorem dX7_row_31 : decode cX7_row 31 = .ok (.iconst 0, 1) := by decide +kernel
theorem dX7_row_32 : decode cX7_row 32 = .ok (.ireturn, 1) := by decide +kernel
theorem dX7_row_33 : decode cX7_row 33 = .ok (.iload_n 2, 1) := by decide +kernel
theorem dX7_row_34 : decode cX7_row 34 = .ok (.tableswitch 98 0 7 #[46, 53, 60, 66, 72, 79, 86, 92], 46) := by decide +kernel
theorem dX7_row_80 : decode cX7_row 80 = .ok (.aload_n 0, 1) := by decide +kernel
theorem dX7_row_81 : decode cX7_row 81 = .ok (.iload_n 1, 1) := by decide +kernel
theorem dX7_row_82 : decode cX7_row 82 = .ok (.iconst 0, 1) := by decide +kernel
theorem dX7_row_83 : decode cX7_row 83 = .ok (.invokevirtual 189, 3) := by decide +kernel
theorem dX7_row_86 : decode cX7_row 86 = .ok (.ireturn, 1) := by decide +kernel
theorem dX7_row_87 : decode cX7_row 87 = .ok (.aload_n 0, 1) := by decide +kernel
theorem dX7_row_88 : decode cX7_row 88 = .ok (.iload_n 1, 1) := by decide +kernel
theorem dX7_row_89 : decode cX7_row 89 = .ok (.iconst 1, 1) := by decide +kernel
theorem dX7_row_90 : decode cX7_row 90 = .ok (.invokevirtual 189, 3) := by decide +kernel
theorem dX7_row_93 : decode cX7_row 93 = .ok (.ireturn, 1) := by decide +kernel
theorem dX7_row_94 : decode cX7_row 94 = .ok (.aload_n 0, 1) := by decide +kernel
theorem dX7_row_95 : decode cX7_row 95 = .ok (.iload_n 1, 1) := by decide +kernel
theorem dX7_row_96 : decode cX7_row 96 = .ok (.invokevirtual 247, 3) := by decide +kernel
theorem dX7_row_99 : decode cX7_row 99 = .ok (.ireturn, 1) := by decide +kernel
theorem dX7_row_100 : decode cX7_row 100 = .ok (.aload_n 0, 1) := by decide +kernel
theorem dX7_row_101 : decode cX7_row 101 = .ok (.iload_n 1, 1) := by decide +kernel
theorem dX7_row_102 : decode cX7_row 102 = .ok (.invokevirtual 192, 3) := by decide +kernel
theorem dX7_row_105 : decode cX7_row 105 = .ok (.ireturn, 1) := by decide +kernel
theorem dX7_row_106 : decode cX7_row 106 = .ok (.aload_n 0, 1) := by decide +kernel
theorem dX7_row_107 : decode cX7_row 107 = .ok (.iload_n 1, 1) := by decide +kernel
theorem dX7_row_108 : decode cX7_row 108 = .ok (.iconst 2, 1) := by decide +kernel
theorem dX7_row_109 : decode cX7_row 109 = .ok (.invokevirtual 189, 3) := by decide +kernel
theorem dX7_row_112 : decode cX7_row 112 = .ok (.ireturn, 1) := by decide +kernel
theorem dX7_row_113 : decode cX7_row 113 = .ok (.aload_n 0, 1) := by decide +kernel
theorem dX7_row_114 : decode cX7_row 114 = .ok (.iload_n 1, 1) := by decide +kernel
theorem dX7_row_115 : decode cX7_row 115 = .ok (.iconst 4, 1) := by decide +kernel
theorem dX7_row_116 : decode cX7_row 116 = .ok (.invokevirtual 189, 3) := by decide +kernel
theorem dX7_row_119 : decode cX7_row 119 = .ok (.ireturn, 1) := by decide +kernel
theorem dX7_row_120 : decode cX7_row 120 = .ok (.aload_n 0, 1) := by decide +kernel
theorem dX7_row_121 : decode cX7_row 121 = .ok (.iload_n 1, 1) := by decide +kernel
theorem dX7_row_122 : decode cX7_row 122 = .ok (.invokevirtual 270, 3) := by decide +kernel
theorem dX7_row_125 : decode cX7_row 125 = .ok (.ireturn, 1) := by decide +kernel
theorem dX7_row_126 : decode cX7_row 126 = .ok (.aload_n 0, 1) := by decide +kernel
theorem dX7_row_127 : decode cX7_row 127 = .ok (.iload_n 1, 1) := by decide +kernel
theorem dX7_row_128 : decode cX7_row 128 = .ok (.invokevirtual 241, 3) := by decide +kernel
theorem dX7_row_131 : decode cX7_row 131 = .ok (.ireturn, 1) := by decide +kernel
theorem dX7_row_132 : decode cX7_row 132 = .ok (.aload_n 0, 1) := by decide +kernel
theorem dX7_row_133 : decode cX7_row 133 = .ok (.iload_n 1, 1) := by decide +kernel
theorem dX7_row_134 : decode cX7_row 134 = .ok (.invokevirtual 238, 3) := by decide +kernel
theorem dX7_row_137 : decode cX7_row 137 = .ok (.ifCond .eq 12, 3) := by decide +kernel
theorem dX7_row_140 : decode cX7_row 140 = .ok (.aload_n 0, 1) := by decide +kernel
theorem dX7_row_141 : decode cX7_row 141 = .ok (.iload_n 1, 1) := by decide +kernel
theorem dX7_row_142 : decode cX7_row 142 = .ok (.iconst 3, 1) := by decide +kernel
theorem dX7_row_143 : decode cX7_row 143 = .ok (.invokevirtual 189, 3) := by decide +kernel
theorem dX7_row_146 : decode cX7_row 146 = .ok (.goto 4, 3) := by decide +kernel
theorem dX7_row_149 : decode cX7_row 149 = .ok (.iconst (-1), 1) := by decide +kernel
theorem dX7_row_150 : decode cX7_row 150 = .ok (.ireturn, 1) := by decide +kernel
set_option maxRecDepth 20000 in
theorem ggX7_block_X7_noRow : GoodIn wsX7_block wsX7_noRow := goodIn_r _ [5, 6, 7, 8, 4, 9, 10, 11, 12, 13, 14, 15, 16, 17, 18, 19, 20, 21, 22, 23, 29, 30, 31, 32, 33, 34, 35, 36, 37, 38, 39, 40, 41, 42, 43, 44, 45, 46, 47, 48, 49, 50, 51, 52, 53, 54, 55, 56, 57, 58, 59, 60, 61, 62, 63, 64, 65, 66, 67, 68, 69] (by decide +kernel) (by decide +kernel)
set_option maxRecDepth 20000 in
theorem gX7_block_X7_noRow : GoodIn wsX7_block (wsV RX7 335 RX7 yX7_noRow wsX7_noRow) := goodIn_app (goodIn_of _ (by decide +kernel)) ggX7_block_X7_noRow
set_option maxRecDepth 20000 in
theorem ggX7_block_X7_of : GoodIn wsX7_block wsX7_of := goodIn_ca (goodIn_r _ [27, 28, 29, 30, 31, 32, 33, 34, 35, 36, 37, 38, 39, 40, 41, 42, 43, 44, 45, 46, 47, 48, 49, 50, 51, 52, 53, 54, 55, 56, 57, 58, 59, 60, 61, 62, 63, 64, 65, 66, 67, 68, 69] (by decide +kernel) (by decide +kernel)) (goodIn_sub (fun _ h => List.mem_cons_of_mem _ (List.mem_append_right _ h)) (by decide +kernel))
set_option maxRecDepth 20000 in
theorem gX7_block_X7_of : GoodIn wsX7_block (wsV RX7 189 RX7 yX7_of wsX7_of) := goodIn_app (goodIn_of _ (by decide +kernel)) ggX7_block_X7_of
set_option maxRecDepth 20000 in
theorem ggX7_block_X7_in : GoodIn wsX7_block wsX7_in := goodIn_r _ [23] (by decide +kernel) (by decide +kernel)
set_option maxRecDepth 20000 in
theorem gX7_block_X7_in : GoodIn wsX7_block (va_wsS RX7 143 yX7_in wsX7_in) := goodIn_app (goodIn_of _ (by decide +kernel)) ggX7_block_X7_in
set_option maxRecDepth 20000 in
theorem ggX7_block_X7_refuse : GoodIn wsX7_block wsX7_refuse := goodIn_r _ [15, 10, 29, 30, 31, 32, 33, 34, 35, 36, 37, 38, 39, 40, 41, 42, 43, 44, 45, 46, 47, 48, 49, 50, 51, 52, 53, 54, 55, 56, 57, 58, 59, 60, 61, 62, 63, 64, 65, 66, 67, 68, 69] (by decide +kernel) (by decide +kernel)
set_option maxRecDepth 20000 in
theorem gX7_block_X7_refuse : GoodIn wsX7_block (wsV RX7 74 RX7 yX7_refuse wsX7_refuse) := goodIn_app (goodIn_of _ (by decide +kernel)) ggX7_block_X7_refuse
theorem dX7_block_0 : decode cX7_block 0 = .ok (.aload_n 0, 1) := by decide +kernel
theorem dX7_block_1 : decode cX7_block 1 = .ok (.iload_n 1, 1) := by decide +kernel
theorem dX7_block_2 : decode cX7_block 2 = .ok (.invokevirtual 335, 3) := by decide +kernel
theorem dX7_block_5 : decode cX7_block 5 = .ok (.ifCond .ne 32, 3) := by decide +kernel
theorem dX7_block_8 : decode cX7_block 8 = .ok (.aload_n 0, 1) := by decide +kernel
theorem dX7_block_9 : decode cX7_block 9 = .ok (.iload_n 2, 1) := by decide +kernel
theorem dX7_block_10 : decode cX7_block 10 = .ok (.iconst 0, 1) := by decide +kernel
theorem dX7_block_11 : decode cX7_block 11 = .ok (.aload_n 0, 1) := by decide +kernel
theorem dX7_block_12 : decode cX7_block 12 = .ok (.iload_n 1, 1) := by decide +kernel
theorem dX7_block_13 : decode cX7_block 13 = .ok (.iconst 0, 1) := by decide +kernel
theorem dX7_block_14 : decode cX7_block 14 = .ok (.invokevirtual 189, 3) := by decide +kernel
theorem dX7_block_17 : decode cX7_block 17 = .ok (.iconst 1, 1) := by decide +kernel
theorem dX7_block_18 : decode cX7_block 18 = .ok (.isub, 1) := by decide +kernel
theorem dX7_block_19 : decode cX7_block 19 = .ok (.invokestatic 143, 3) := by decide +kernel
theorem dX7_block_22 : decode cX7_block 22 = .ok (.ifCond .ne 7, 3) := by decide +kernel
theorem dX7_block_25 : decode cX7_block 25 = .ok (.iconst 1, 1) := by decide +kernel
theorem dX7_block_26 : decode cX7_block 26 = .ok (.goto 4, 3) := by decide +kernel
theorem dX7_block_29 : decode cX7_block 29 = .ok (.iconst 0, 1) := by decide +kernel
theorem dX7_block_30 : decode cX7_block 30 = .ok (.iconst 2, 1) := by decide +kernel
theorem dX7_block_31 : decode cX7_block 31 = .ok (.invokevirtual 74, 3) := by decide +kernel
theorem dX7_block_34 : decode cX7_block 34 = .ok (.ifCond .eq 5, 3) := by decide +kernel
theorem dX7_block_37 : decode cX7_block 37 = .ok (.iconst 0, 1) := by decide +kernel
theorem dX7_block_38 : decode cX7_block 38 = .ok (.ireturn, 1) := by decide +kernel
theorem dX7_block_39 : decode cX7_block 39 = .ok (.aload_n 0, 1) := by decide +kernel
theorem dX7_block_40 : decode cX7_block 40 = .ok (.iload_n 1, 1) := by decide +kernel
theorem dX7_block_41 : decode cX7_block 41 = .ok (.iconst 5, 1) := by decide +kernel
theorem dX7_block_42 : decode cX7_block 42 = .ok (.iload_n 2, 1) := by decide +kernel
theorem dX7_block_43 : decode cX7_block 43 = .ok (.iadd, 1) := by decide +kernel
theorem dX7_block_44 : decode cX7_block 44 = .ok (.invokevirtual 189, 3) := by decide +kernel
theorem dX7_block_47 : decode cX7_block 47 = .ok (.ireturn, 1) := by decide +kernel
set_option maxRecDepth 20000 in
theorem ggX7_piece_X7_noRow : GoodIn wsX7_piece wsX7_noRow := goodIn_r _ [5, 6, 7, 8, 4, 9, 10, 11, 12, 13, 14, 15, 16, 17, 18, 19, 20, 21, 22, 23, 29, 30, 31, 32, 33, 34, 35, 36, 37, 38, 39, 40, 41, 42, 43, 44, 45, 46, 47, 48, 49, 50, 51, 52, 53, 54, 55, 56, 57, 58, 59, 60, 61, 62, 63, 64, 65, 66, 67, 68, 69] (by decide +kernel) (by decide +kernel)
set_option maxRecDepth 20000 in
theorem gX7_piece_X7_noRow : GoodIn wsX7_piece (wsV RX7 335 RX7 yX7_noRow wsX7_noRow) := goodIn_app (goodIn_of _ (by decide +kernel)) ggX7_piece_X7_noRow
set_option maxRecDepth 20000 in
theorem ggX7_piece_X7_of : GoodIn wsX7_piece wsX7_of := goodIn_ca (goodIn_r _ [27, 28, 29, 30, 31, 32, 33, 34, 35, 36, 37, 38, 39, 40, 41, 42, 43, 44, 45, 46, 47, 48, 49, 50, 51, 52, 53, 54, 55, 56, 57, 58, 59, 60, 61, 62, 63, 64, 65, 66, 67, 68, 69] (by decide +kernel) (by decide +kernel)) (goodIn_sub (fun _ h => List.mem_cons_of_mem _ (List.mem_append_right _ h)) (by decide +kernel))
set_option maxRecDepth 20000 in
theorem gX7_piece_X7_of : GoodIn wsX7_piece (wsV RX7 189 RX7 yX7_of wsX7_of) := goodIn_app (goodIn_of _ (by decide +kernel)) ggX7_piece_X7_of
set_option maxRecDepth 20000 in
theorem ggX7_piece_X7_in : GoodIn wsX7_piece wsX7_in := goodIn_r _ [23] (by decide +kernel) (by decide +kernel)
set_option maxRecDepth 20000 in
theorem gX7_piece_X7_in : GoodIn wsX7_piece (va_wsS RX7 143 yX7_in wsX7_in) := goodIn_app (goodIn_of _ (by decide +kernel)) ggX7_piece_X7_in
set_option maxRecDepth 20000 in
theorem ggX7_piece_X7_refuse : GoodIn wsX7_piece wsX7_refuse := goodIn_r _ [15, 10, 29, 30, 31, 32, 33, 34, 35, 36, 37, 38, 39, 40, 41, 42, 43, 44, 45, 46, 47, 48, 49, 50, 51, 52, 53, 54, 55, 56, 57, 58, 59, 60, 61, 62, 63, 64, 65, 66, 67, 68, 69] (by decide +kernel) (by decide +kernel)
set_option maxRecDepth 20000 in
theorem gX7_piece_X7_refuse : GoodIn wsX7_piece (wsV RX7 74 RX7 yX7_refuse wsX7_refuse) := goodIn_app (goodIn_of _ (by decide +kernel)) ggX7_piece_X7_refuse
theorem dX7_piece_0 : decode cX7_piece 0 = .ok (.aload_n 0, 1) := by decide +kernel
theorem dX7_piece_1 : decode cX7_piece 1 = .ok (.iload_n 1, 1) := by decide +kernel
theorem dX7_piece_2 : decode cX7_piece 2 = .ok (.invokevirtual 335, 3) := by decide +kernel
theorem dX7_piece_5 : decode cX7_piece 5 = .ok (.ifCond .ne 32, 3) := by decide +kernel
theorem dX7_piece_8 : decode cX7_piece 8 = .ok (.aload_n 0, 1) := by decide +kernel
theorem dX7_piece_9 : decode cX7_piece 9 = .ok (.iload_n 2, 1) := by decide +kernel
theorem dX7_piece_10 : decode cX7_piece 10 = .ok (.iconst 0, 1) := by decide +kernel
theorem dX7_piece_11 : decode cX7_piece 11 = .ok (.aload_n 0, 1) := by decide +kernel
theorem dX7_piece_12 : decode cX7_piece 12 = .ok (.iload_n 1, 1) := by decide +kernel
theorem dX7_piece_13 : decode cX7_piece 13 = .ok (.iconst 1, 1) := by decide +kernel
theorem dX7_piece_14 : decode cX7_piece 14 = .ok (.invokevirtual 189, 3) := by decide +kernel
theorem dX7_piece_17 : decode cX7_piece 17 = .ok (.iconst 1, 1) := by decide +kernel
theorem dX7_piece_18 : decode cX7_piece 18 = .ok (.isub, 1) := by decide +kernel
theorem dX7_piece_19 : decode cX7_piece 19 = .ok (.invokestatic 143, 3) := by decide +kernel
theorem dX7_piece_22 : decode cX7_piece 22 = .ok (.ifCond .ne 7, 3) := by decide +kernel
theorem dX7_piece_25 : decode cX7_piece 25 = .ok (.iconst 1, 1) := by decide +kernel
theorem dX7_piece_26 : decode cX7_piece 26 = .ok (.goto 4, 3) := by decide +kernel
theorem dX7_piece_29 : decode cX7_piece 29 = .ok (.iconst 0, 1) := by decide +kernel
theorem dX7_piece_30 : decode cX7_piece 30 = .ok (.iconst 2, 1) := by decide +kernel
theorem dX7_piece_31 : decode cX7_piece 31 = .ok (.invokevirtual 74, 3) := by decide +kernel
theorem dX7_piece_34 : decode cX7_piece 34 = .ok (.ifCond .eq 5, 3) := by decide +kernel
theorem dX7_piece_37 : decode cX7_piece 37 = .ok (.iconst 0, 1) := by decide +kernel
theorem dX7_piece_38 : decode cX7_piece 38 = .ok (.ireturn, 1) := by decide +kernel
theorem dX7_piece_39 : decode cX7_piece 39 = .ok (.aload_n 0, 1) := by decide +kernel
theorem dX7_piece_40 : decode cX7_piece 40 = .ok (.iload_n 1, 1) := by decide +kernel
theorem dX7_piece_41 : decode cX7_piece 41 = .ok (.bipush 11, 2) := by decide +kernel
theorem dX7_piece_43 : decode cX7_piece 43 = .ok (.iload_n 2, 1) := by decide +kernel
theorem dX7_piece_44 : decode cX7_piece 44 = .ok (.iadd, 1) := by decide +kernel
theorem dX7_piece_45 : decode cX7_piece 45 = .ok (.invokevirtual 189, 3) := by decide +kernel
theorem dX7_piece_48 : decode cX7_piece 48 = .ok (.ireturn, 1) := by decide +kernel
set_option maxRecDepth 20000 in
theorem ggX7_isKind_X7_in : GoodIn wsX7_isKind wsX7_in := goodIn_r _ [5] (by decide +kernel) (by decide +kernel)
set_option maxRecDepth 20000 in
theorem gX7_isKind_X7_in : GoodIn wsX7_isKind (va_wsS RX7 143 yX7_in wsX7_in) := goodIn_app (goodIn_of _ (by decide +kernel)) ggX7_isKind_X7_in
theorem dX7_isKind_0 : decode cX7_isKind 0 = .ok (.iload_n 1, 1) := by decide +kernel
theorem dX7_isKind_1 : decode cX7_isKind 1 = .ok (.iconst 0, 1) := by decide +kernel
theorem dX7_isKind_2 : decode cX7_isKind 2 = .ok (.aload_n 0, 1) := by decide +kernel
theorem dX7_isKind_3 : decode cX7_isKind 3 = .ok (.getfield 172, 3) := by decide +kernel
theorem dX7_isKind_6 : decode cX7_isKind 6 = .ok (.iconst 1, 1) := by decide +kernel
theorem dX7_isKind_7 : decode cX7_isKind 7 = .ok (.isub, 1) := by decide +kernel
theorem dX7_isKind_8 : decode cX7_isKind 8 = .ok (.invokestatic 143, 3) := by decide +kernel
theorem dX7_isKind_11 : decode cX7_isKind 11 = .ok (.ireturn, 1) := by decide +kernel
set_option maxRecDepth 20000 in
theorem ggX7_usedOf_X7_of : GoodIn wsX7_usedOf wsX7_of := goodIn_ca (goodIn_r _ [6, 7, 11, 12, 13, 14, 15, 16, 17, 18, 19, 20, 21, 22, 23, 24, 25, 26, 27, 28, 29, 30, 31, 32, 33, 34, 35, 36, 37, 38, 39, 40, 41, 42, 43, 44, 45, 46, 47, 48, 49, 50, 51] (by decide +kernel) (by decide +kernel)) (goodIn_sub (fun _ h => List.mem_cons_of_mem _ (List.mem_append_right _ h)) (by decide +kernel))
set_option maxRecDepth 20000 in
theorem gX7_usedOf_X7_of : GoodIn wsX7_usedOf (wsV RX7 189 RX7 yX7_of wsX7_of) := goodIn_app (goodIn_of _ (by decide +kernel)) ggX7_usedOf_X7_of
set_option maxRecDepth 20000 in
theorem ggX7_usedOf_X7_flag : GoodIn wsX7_usedOf wsX7_flag := goodIn_r _ [10] (by decide +kernel) (by decide +kernel)
set_option maxRecDepth 20000 in
theorem gX7_usedOf_X7_flag : GoodIn wsX7_usedOf (va_wsS RX7 250 yX7_flag wsX7_flag) := goodIn_app (goodIn_of _ (by decide +kernel)) ggX7_usedOf_X7_flag
theorem dX7_usedOf_0 : decode cX7_usedOf 0 = .ok (.iconst 0, 1) := by decide +kernel
theorem dX7_usedOf_1 : decode cX7_usedOf 1 = .ok (.istore_n 2, 1) := by decide +kernel
theorem dX7_usedOf_2 : decode cX7_usedOf 2 = .ok (.iconst 0, 1) := by decide +kernel
theorem dX7_usedOf_3 : decode cX7_usedOf 3 = .ok (.istore_n 3, 1) := by decide +kernel
theorem dX7_usedOf_4 : decode cX7_usedOf 4 = .ok (.iload_n 3, 1) := by decide +kernel
theorem dX7_usedOf_5 : decode cX7_usedOf 5 = .ok (.aload_n 0, 1) := by decide +kernel
theorem dX7_usedOf_6 : decode cX7_usedOf 6 = .ok (.getfield 154, 3) := by decide +kernel
theorem dX7_usedOf_9 : decode cX7_usedOf 9 = .ok (.if_icmp .ge 54, 3) := by decide +kernel
theorem dX7_usedOf_12 : decode cX7_usedOf 12 = .ok (.iconst 0, 1) := by decide +kernel
theorem dX7_usedOf_13 : decode cX7_usedOf 13 = .ok (.istore 4, 2) := by decide +kernel
theorem dX7_usedOf_15 : decode cX7_usedOf 15 = .ok (.iload 4, 2) := by decide +kernel
theorem dX7_usedOf_17 : decode cX7_usedOf 17 = .ok (.aload_n 0, 1) := by decide +kernel
theorem dX7_usedOf_18 : decode cX7_usedOf 18 = .ok (.iload_n 3, 1) := by decide +kernel
theorem dX7_usedOf_19 : decode cX7_usedOf 19 = .ok (.iconst 1, 1) := by decide +kernel
theorem dX7_usedOf_20 : decode cX7_usedOf 20 = .ok (.invokevirtual 189, 3) := by decide +kernel
theorem dX7_usedOf_23 : decode cX7_usedOf 23 = .ok (.if_icmp .ge 34, 3) := by decide +kernel
theorem dX7_usedOf_26 : decode cX7_usedOf 26 = .ok (.iload_n 2, 1) := by decide +kernel
theorem dX7_usedOf_27 : decode cX7_usedOf 27 = .ok (.aload_n 0, 1) := by decide +kernel
theorem dX7_usedOf_28 : decode cX7_usedOf 28 = .ok (.iload_n 3, 1) := by decide +kernel
theorem dX7_usedOf_29 : decode cX7_usedOf 29 = .ok (.bipush 11, 2) := by decide +kernel
theorem dX7_usedOf_31 : decode cX7_usedOf 31 = .ok (.iload 4, 2) := by decide +kernel
theorem dX7_usedOf_33 : decode cX7_usedOf 33 = .ok (.iadd, 1) := by decide +kernel
theorem dX7_usedOf_34 : decode cX7_usedOf 34 = .ok (.invokevirtual 189, 3) := by decide +kernel
theorem dX7_usedOf_37 : decode cX7_usedOf 37 = .ok (.iload_n 1, 1) := by decide +kernel
theorem dX7_usedOf_38 : decode cX7_usedOf 38 = .ok (.if_icmp .ne 7, 3) := by decide +kernel
theorem dX7_usedOf_41 : decode cX7_usedOf 41 = .ok (.iconst 1, 1) := by decide +kernel
theorem dX7_usedOf_42 : decode cX7_usedOf 42 = .ok (.goto 4, 3) := by decide +kernel
theorem dX7_usedOf_45 : decode cX7_usedOf 45 = .ok (.iconst 0, 1) := by decide +kernel
theorem dX7_usedOf_46 : decode cX7_usedOf 46 = .ok (.invokestatic 250, 3) := by decide +kernel
theorem dX7_usedOf_49 : decode cX7_usedOf 49 = .ok (.iadd, 1) := by decide +kernel
theorem dX7_usedOf_50 : decode cX7_usedOf 50 = .ok (.istore_n 2, 1) := by decide +kernel
theorem dX7_usedOf_51 : decode cX7_usedOf 51 = .ok (.iinc 4 1, 3) := by decide +kernel
theorem dX7_usedOf_54 : decode cX7_usedOf 54 = .ok (.goto (-39), 3) := by decide +kernel
theorem dX7_usedOf_57 : decode cX7_usedOf 57 = .ok (.iinc 3 1, 3) := by decide +kernel
theorem dX7_usedOf_60 : decode cX7_usedOf 60 = .ok (.goto (-56), 3) := by decide +kernel
theorem dX7_usedOf_63 : decode cX7_usedOf 63 = .ok (.iload_n 2, 1) := by decide +kernel
theorem dX7_usedOf_64 : decode cX7_usedOf 64 = .ok (.ireturn, 1) := by decide +kernel
set_option maxRecDepth 20000 in
theorem ggX7_kind_X7_notLoaded : GoodIn wsX7_kind wsX7_notLoaded := goodIn_r _ [8, 9, 10, 11, 12, 13, 7, 14, 35, 36, 37, 38, 39, 40, 41, 42, 43, 44, 45, 46, 47, 48, 49, 50, 51, 52, 53, 54, 55, 56, 57, 58, 59, 60, 61, 62, 63, 64, 65, 66, 67, 68, 69, 70, 71, 72, 73, 74, 75] (by decide +kernel) (by decide +kernel)
set_option maxRecDepth 20000 in
theorem gX7_kind_X7_notLoaded : GoodIn wsX7_kind (wsV RX7 320 RX7 yX7_notLoaded wsX7_notLoaded) := goodIn_app (goodIn_of _ (by decide +kernel)) ggX7_kind_X7_notLoaded
set_option maxRecDepth 20000 in
theorem ggX7_kind_X7_isKind : GoodIn wsX7_kind wsX7_isKind := goodIn_r _ [18, 19, 20, 21, 7, 22, 35, 36, 37, 38, 39, 40, 41, 42, 43, 44, 45, 46, 47, 48, 49, 50, 51, 52, 53, 54, 55, 56, 57, 58, 59, 60, 61, 62, 63, 64, 65, 66, 67, 68, 69, 70, 71, 72, 73, 74, 75] (by decide +kernel) (by decide +kernel)
set_option maxRecDepth 20000 in
theorem gX7_kind_X7_isKind : GoodIn wsX7_kind (wsV RX7 338 RX7 yX7_isKind wsX7_isKind) := goodIn_app (goodIn_of _ (by decide +kernel)) ggX7_kind_X7_isKind
set_option maxRecDepth 20000 in
theorem ggX7_kind_X7_refuse : GoodIn wsX7_kind wsX7_refuse := goodIn_r _ [14, 9, 35, 36, 37, 38, 39, 40, 41, 42, 43, 44, 45, 46, 47, 48, 49, 50, 51, 52, 53, 54, 55, 56, 57, 58, 59, 60, 61, 62, 63, 64, 65, 66, 67, 68, 69, 70, 71, 72, 73, 74, 75] (by decide +kernel) (by decide +kernel)
set_option maxRecDepth 20000 in
theorem gX7_kind_X7_refuse : GoodIn wsX7_kind (wsV RX7 74 RX7 yX7_refuse wsX7_refuse) := goodIn_app (goodIn_of _ (by decide +kernel)) ggX7_kind_X7_refuse
set_option maxRecDepth 20000 in
theorem ggX7_kind_X7_in : GoodIn wsX7_kind wsX7_in := goodIn_r _ [22] (by decide +kernel) (by decide +kernel)
set_option maxRecDepth 20000 in
theorem gX7_kind_X7_in : GoodIn wsX7_kind (va_wsS RX7 143 yX7_in wsX7_in) := goodIn_app (goodIn_of _ (by decide +kernel)) ggX7_kind_X7_in
set_option maxRecDepth 20000 in
theorem ggX7_kind_X7_flag : GoodIn wsX7_kind wsX7_flag := goodIn_r _ [25] (by decide +kernel) (by decide +kernel)
set_option maxRecDepth 20000 in
theorem gX7_kind_X7_flag : GoodIn wsX7_kind (va_wsS RX7 250 yX7_flag wsX7_flag) := goodIn_app (goodIn_of _ (by decide +kernel)) ggX7_kind_X7_flag
set_option maxRecDepth 20000 in
theorem ggX7_kind_X7_usedOf : GoodIn wsX7_kind wsX7_usedOf := goodIn_ca (goodIn_r _ [29, 30, 31, 32, 33, 7, 34, 3, 23, 24, 25, 35, 36, 37, 38, 39, 40, 41, 42, 43, 44, 45, 46, 47, 48, 49, 50, 51, 52, 53, 54, 55, 56, 57, 58, 59, 60, 61, 62, 63, 64, 65, 66, 67, 68, 69, 70, 71, 72, 73, 74, 75] (by decide +kernel) (by decide +kernel)) (goodIn_sub (fun _ h => List.mem_cons_of_mem _ (List.mem_append_right _ h)) (by decide +kernel))
set_option maxRecDepth 20000 in
theorem gX7_kind_X7_usedOf : GoodIn wsX7_kind (wsV RX7 341 RX7 yX7_usedOf wsX7_usedOf) := goodIn_app (goodIn_of _ (by decide +kernel)) ggX7_kind_X7_usedOf
theorem dX7_kind_0 : decode cX7_kind 0 = .ok (.aload_n 0, 1) := by decide +kernel
theorem dX7_kind_1 : decode cX7_kind 1 = .ok (.invokevirtual 320, 3) := by decide +kernel
theorem dX7_kind_4 : decode cX7_kind 4 = .ok (.ifCond .ne 46, 3) := by decide +kernel
theorem dX7_kind_7 : decode cX7_kind 7 = .ok (.aload_n 0, 1) := by decide +kernel
theorem dX7_kind_8 : decode cX7_kind 8 = .ok (.aload_n 0, 1) := by decide +kernel
theorem dX7_kind_9 : decode cX7_kind 9 = .ok (.iload_n 1, 1) := by decide +kernel
theorem dX7_kind_10 : decode cX7_kind 10 = .ok (.invokevirtual 338, 3) := by decide +kernel
theorem dX7_kind_13 : decode cX7_kind 13 = .ok (.ifCond .ne 7, 3) := by decide +kernel
theorem dX7_kind_16 : decode cX7_kind 16 = .ok (.iconst 1, 1) := by decide +kernel
theorem dX7_kind_17 : decode cX7_kind 17 = .ok (.goto 4, 3) := by decide +kernel
theorem dX7_kind_20 : decode cX7_kind 20 = .ok (.iconst 0, 1) := by decide +kernel
theorem dX7_kind_21 : decode cX7_kind 21 = .ok (.iconst 2, 1) := by decide +kernel
theorem dX7_kind_22 : decode cX7_kind 22 = .ok (.invokevirtual 74, 3) := by decide +kernel
theorem dX7_kind_25 : decode cX7_kind 25 = .ok (.ifCond .ne 25, 3) := by decide +kernel
theorem dX7_kind_28 : decode cX7_kind 28 = .ok (.aload_n 0, 1) := by decide +kernel
theorem dX7_kind_29 : decode cX7_kind 29 = .ok (.iload_n 2, 1) := by decide +kernel
theorem dX7_kind_30 : decode cX7_kind 30 = .ok (.iconst 0, 1) := by decide +kernel
theorem dX7_kind_31 : decode cX7_kind 31 = .ok (.iconst 3, 1) := by decide +kernel
theorem dX7_kind_32 : decode cX7_kind 32 = .ok (.invokestatic 143, 3) := by decide +kernel
theorem dX7_kind_35 : decode cX7_kind 35 = .ok (.ifCond .ne 7, 3) := by decide +kernel
theorem dX7_kind_38 : decode cX7_kind 38 = .ok (.iconst 1, 1) := by decide +kernel
theorem dX7_kind_39 : decode cX7_kind 39 = .ok (.goto 4, 3) := by decide +kernel
theorem dX7_kind_42 : decode cX7_kind 42 = .ok (.iconst 0, 1) := by decide +kernel
theorem dX7_kind_43 : decode cX7_kind 43 = .ok (.iconst 3, 1) := by decide +kernel
theorem dX7_kind_44 : decode cX7_kind 44 = .ok (.invokevirtual 74, 3) := by decide +kernel
theorem dX7_kind_47 : decode cX7_kind 47 = .ok (.ifCond .eq 5, 3) := by decide +kernel
theorem dX7_kind_50 : decode cX7_kind 50 = .ok (.iconst 0, 1) := by decide +kernel
theorem dX7_kind_51 : decode cX7_kind 51 = .ok (.ireturn, 1) := by decide +kernel
theorem dX7_kind_52 : decode cX7_kind 52 = .ok (.iload_n 2, 1) := by decide +kernel
theorem dX7_kind_53 : decode cX7_kind 53 = .ok (.ifCond .ne 15, 3) := by decide +kernel
theorem dX7_kind_56 : decode cX7_kind 56 = .ok (.aload_n 0, 1) := by decide +kernel
theorem dX7_kind_57 : decode cX7_kind 57 = .ok (.getfield 7, 3) := by decide +kernel
theorem dX7_kind_60 : decode cX7_kind 60 = .ok (.iload_n 1, 1) := by decide +kernel
theorem dX7_kind_61 : decode cX7_kind 61 = .ok (.baload, 1) := by decide +kernel
theorem dX7_kind_62 : decode cX7_kind 62 = .ok (.invokestatic 250, 3) := by decide +kernel
theorem dX7_kind_65 : decode cX7_kind 65 = .ok (.goto 39, 3) := by decide +kernel
theorem dX7_kind_68 : decode cX7_kind 68 = .ok (.iload_n 2, 1) := by decide +kernel
theorem dX7_kind_69 : decode cX7_kind 69 = .ok (.iconst 1, 1) := by decide +kernel
theorem dX7_kind_70 : decode cX7_kind 70 = .ok (.if_icmp .ne 12, 3) := by decide +kernel
theorem dX7_kind_73 : decode cX7_kind 73 = .ok (.aload_n 0, 1) := by decide +kernel
theorem dX7_kind_74 : decode cX7_kind 74 = .ok (.getfield 13, 3) := by decide +kernel
theorem dX7_kind_77 : decode cX7_kind 77 = .ok (.iload_n 1, 1) := by decide +kernel
theorem dX7_kind_78 : decode cX7_kind 78 = .ok (.iaload, 1) := by decide +kernel
theorem dX7_kind_79 : decode cX7_kind 79 = .ok (.goto 25, 3) := by decide +kernel
theorem dX7_kind_82 : decode cX7_kind 82 = .ok (.iload_n 2, 1) := by decide +kernel
theorem dX7_kind_83 : decode cX7_kind 83 = .ok (.iconst 2, 1) := by decide +kernel
theorem dX7_kind_84 : decode cX7_kind 84 = .ok (.if_icmp .ne 15, 3) := by decide +kernel
theorem dX7_kind_87 : decode cX7_kind 87 = .ok (.aload_n 0, 1) := by decide +kernel
theorem dX7_kind_88 : decode cX7_kind 88 = .ok (.getfield 17, 3) := by decide +kernel
theorem dX7_kind_91 : decode cX7_kind 91 = .ok (.bipush 6, 2) := by decide +kernel
theorem dX7_kind_93 : decode cX7_kind 93 = .ok (.iload_n 1, 1) := by decide +kernel
theorem dX7_kind_94 : decode cX7_kind 94 = .ok (.iadd, 1) := by decide +kernel
theorem dX7_kind_95 : decode cX7_kind 95 = .ok (.iaload, 1) := by decide +kernel
theorem dX7_kind_96 : decode cX7_kind 96 = .ok (.goto 8, 3) := by decide +kernel
theorem dX7_kind_99 : decode cX7_kind 99 = .ok (.aload_n 0, 1) := by decide +kernel
theorem dX7_kind_100 : decode cX7_kind 100 = .ok (.iload_n 1, 1) := by decide +kernel
theorem dX7_kind_101 : decode cX7_kind 101 = .ok (.invokevirtual 341, 3) := by decide +kernel
theorem dX7_kind_104 : decode cX7_kind 104 = .ok (.ireturn, 1) := by decide +kernel
set_option maxRecDepth 20000 in
theorem ggX7_kindOf_X7_notLoaded : GoodIn wsX7_kindOf wsX7_notLoaded := goodIn_r _ [5, 6, 7, 8, 9, 10, 4, 11, 19, 20, 21, 22, 23, 24, 25, 26, 27, 28, 29, 30, 31, 32, 33, 34, 35, 36, 37, 38, 39, 40, 41, 42, 43, 44, 45, 46, 47, 48, 49, 50, 51, 52, 53, 54, 55, 56, 57, 58, 59] (by decide +kernel) (by decide +kernel)
set_option maxRecDepth 20000 in
theorem gX7_kindOf_X7_notLoaded : GoodIn wsX7_kindOf (wsV RX7 320 RX7 yX7_notLoaded wsX7_notLoaded) := goodIn_app (goodIn_of _ (by decide +kernel)) ggX7_kindOf_X7_notLoaded
set_option maxRecDepth 20000 in
theorem ggX7_kindOf_X7_ofLength : GoodIn wsX7_kindOf wsX7_ofLength := goodIn_ca (goodIn_r _ [15, 16, 17, 18, 19, 20, 21, 22, 23, 24, 25, 26, 27, 28, 29, 30, 31, 32, 33, 34, 35, 36, 37, 38, 39, 40, 41, 42, 43, 44, 45, 46, 47, 48, 49, 50, 51, 52, 53, 54, 55, 56, 57, 58, 59] (by decide +kernel) (by decide +kernel)) (goodIn_sub (fun _ h => List.mem_cons_of_mem _ (List.mem_append_right _ h)) (by decide +kernel))
set_option maxRecDepth 20000 in
theorem gX7_kindOf_X7_ofLength : GoodIn wsX7_kindOf (wsV RX7 182 RX7 yX7_ofLength wsX7_ofLength) := goodIn_app (goodIn_of _ (by decide +kernel)) ggX7_kindOf_X7_ofLength
theorem dX7_kindOf_0 : decode cX7_kindOf 0 = .ok (.aload_n 0, 1) := by decide +kernel
theorem dX7_kindOf_1 : decode cX7_kindOf 1 = .ok (.invokevirtual 320, 3) := by decide +kernel
theorem dX7_kindOf_4 : decode cX7_kindOf 4 = .ok (.ifCond .eq 7, 3) := by decide +kernel
theorem dX7_kindOf_7 : decode cX7_kindOf 7 = .ok (.iconst 0, 1) := by decide +kernel
theorem dX7_kindOf_8 : decode cX7_kindOf 8 = .ok (.goto 9, 3) := by decide +kernel
theorem dX7_kindOf_11 : decode cX7_kindOf 11 = .ok (.aload_n 0, 1) := by decide +kernel
theorem dX7_kindOf_12 : decode cX7_kindOf 12 = .ok (.iload_n 1, 1) := by decide +kernel
theorem dX7_kindOf_13 : decode cX7_kindOf 13 = .ok (.iload_n 2, 1) := by decide +kernel
theorem dX7_kindOf_14 : decode cX7_kindOf 14 = .ok (.invokevirtual 182, 3) := by decide +kernel
theorem dX7_kindOf_17 : decode cX7_kindOf 17 = .ok (.ireturn, 1) := by decide +kernel
set_option maxRecDepth 20000 in
theorem ggX7_isTight_X7_noRow : GoodIn wsX7_isTight wsX7_noRow := goodIn_r _ [5, 6, 7, 8, 4, 9, 10, 11, 12, 13, 14, 15, 16, 17, 18, 19, 20, 21, 22, 23, 56, 57, 58, 59, 60, 61, 62, 63, 64, 65, 66, 67, 68, 69, 70, 71, 72, 73, 74, 75, 76, 77, 78, 79, 80, 81, 82, 83, 84, 85, 86, 87, 88, 89, 90, 91, 92, 93, 94, 95, 96] (by decide +kernel) (by decide +kernel)
set_option maxRecDepth 20000 in
theorem gX7_isTight_X7_noRow : GoodIn wsX7_isTight (wsV RX7 335 RX7 yX7_noRow wsX7_noRow) := goodIn_app (goodIn_of _ (by decide +kernel)) ggX7_isTight_X7_noRow
set_option maxRecDepth 20000 in
theorem ggX7_isTight_X7_isTightRow : GoodIn wsX7_isTight wsX7_isTightRow := goodIn_ca (goodIn_r _ [27, 28, 29, 30, 4, 31, 32, 33, 34, 35, 36, 37, 38, 39, 40, 41, 42, 43, 44, 45, 46, 47, 48, 49, 50, 51, 52, 53, 54, 55, 56, 57, 58, 59, 60, 61, 62, 63, 64, 65, 66, 67, 68, 69, 70, 71, 72, 73, 74, 75, 76, 77, 78, 79, 80, 81, 82, 83, 84, 85, 86, 87, 88, 89, 90, 91, 92, 93, 94, 95, 96] (by decide +kernel) (by decide +kernel)) (goodIn_sub (fun _ h => List.mem_cons_of_mem _ (List.mem_append_right _ h)) (by decide +kernel))
set_option maxRecDepth 20000 in
theorem gX7_isTight_X7_isTightRow : GoodIn wsX7_isTight (wsV RX7 317 RX7 yX7_isTightRow wsX7_isTightRow) := goodIn_app (goodIn_of _ (by decide +kernel)) ggX7_isTight_X7_isTightRow
theorem dX7_isTight_0 : decode cX7_isTight 0 = .ok (.aload_n 0, 1) := by decide +kernel
theorem dX7_isTight_1 : decode cX7_isTight 1 = .ok (.iload_n 1, 1) := by decide +kernel
theorem dX7_isTight_2 : decode cX7_isTight 2 = .ok (.invokevirtual 335, 3) := by decide +kernel
theorem dX7_isTight_5 : decode cX7_isTight 5 = .ok (.ifCond .ne 15, 3) := by decide +kernel
theorem dX7_isTight_8 : decode cX7_isTight 8 = .ok (.aload_n 0, 1) := by decide +kernel
theorem dX7_isTight_9 : decode cX7_isTight 9 = .ok (.iload_n 1, 1) := by decide +kernel
theorem dX7_isTight_10 : decode cX7_isTight 10 = .ok (.invokevirtual 317, 3) := by decide +kernel
theorem dX7_isTight_13 : decode cX7_isTight 13 = .ok (.ifCond .eq 7, 3) := by decide +kernel
theorem dX7_isTight_16 : decode cX7_isTight 16 = .ok (.iconst 1, 1) := by decide +kernel
theorem dX7_isTight_17 : decode cX7_isTight 17 = .ok (.goto 4, 3) := by decide +kernel
theorem dX7_isTight_20 : decode cX7_isTight 20 = .ok (.iconst 0, 1) := by decide +kernel
theorem dX7_isTight_21 : decode cX7_isTight 21 = .ok (.ireturn, 1) := by decide +kernel
set_option maxRecDepth 20000 in
theorem ggX7_canPut_X7_noRow : GoodIn wsX7_canPut wsX7_noRow := goodIn_r _ [7, 8, 9, 10, 6, 11, 12, 13, 14, 15, 16, 17, 18, 19, 20, 21, 22, 23, 24, 25, 57, 58, 59, 60, 61, 62, 63, 64, 65, 66, 67, 68, 69, 70, 71, 72, 73, 74, 75, 76, 77, 78, 79, 80, 81, 82, 83, 84, 85, 86, 87, 88, 89, 90, 91, 92, 93, 94, 95, 96, 97] (by decide +kernel) (by decide +kernel)
set_option maxRecDepth 20000 in
theorem gX7_canPut_X7_noRow : GoodIn wsX7_canPut (wsV RX7 335 RX7 yX7_noRow wsX7_noRow) := goodIn_app (goodIn_of _ (by decide +kernel)) ggX7_canPut_X7_noRow
set_option maxRecDepth 20000 in
theorem ggX7_canPut_X7_isKind : GoodIn wsX7_canPut wsX7_isKind := goodIn_r _ [29, 30, 23, 24, 6, 25, 57, 58, 59, 60, 61, 62, 63, 64, 65, 66, 67, 68, 69, 70, 71, 72, 73, 74, 75, 76, 77, 78, 79, 80, 81, 82, 83, 84, 85, 86, 87, 88, 89, 90, 91, 92, 93, 94, 95, 96, 97] (by decide +kernel) (by decide +kernel)
set_option maxRecDepth 20000 in
theorem gX7_canPut_X7_isKind : GoodIn wsX7_canPut (wsV RX7 338 RX7 yX7_isKind wsX7_isKind) := goodIn_app (goodIn_of _ (by decide +kernel)) ggX7_canPut_X7_isKind
set_option maxRecDepth 20000 in
theorem ggX7_canPut_X7_refuse : GoodIn wsX7_canPut wsX7_refuse := goodIn_r _ [17, 12, 57, 58, 59, 60, 61, 62, 63, 64, 65, 66, 67, 68, 69, 70, 71, 72, 73, 74, 75, 76, 77, 78, 79, 80, 81, 82, 83, 84, 85, 86, 87, 88, 89, 90, 91, 92, 93, 94, 95, 96, 97] (by decide +kernel) (by decide +kernel)
set_option maxRecDepth 20000 in
theorem gX7_canPut_X7_refuse : GoodIn wsX7_canPut (wsV RX7 74 RX7 yX7_refuse wsX7_refuse) := goodIn_app (goodIn_of _ (by decide +kernel)) ggX7_canPut_X7_refuse
set_option maxRecDepth 20000 in
theorem ggX7_canPut_X7_gap : GoodIn wsX7_canPut wsX7_gap := goodIn_ca (goodIn_r _ [34, 35, 36, 37, 38, 6, 39, 2, 40, 41, 42, 43, 44, 45, 46, 47, 1, 48, 49, 50, 51, 52, 53, 54, 55, 56, 57, 58, 59, 60, 61, 62, 63, 64, 65, 66, 67, 68, 69, 70, 71, 72, 73, 74, 75, 76, 77, 78, 79, 80, 81, 82, 83, 84, 85, 86, 87, 88, 89, 90, 91, 92, 93, 94, 95, 96, 97] (by decide +kernel) (by decide +kernel)) (goodIn_sub (fun _ h => List.mem_cons_of_mem _ (List.mem_append_right _ h)) (by decide +kernel))
set_option maxRecDepth 20000 in
theorem gX7_canPut_X7_gap : GoodIn wsX7_canPut (wsV RX7 192 RX7 yX7_gap wsX7_gap) := goodIn_app (goodIn_of _ (by decide +kernel)) ggX7_canPut_X7_gap
theorem dX7_canPut_0 : decode cX7_canPut 0 = .ok (.aload_n 0, 1) := by decide +kernel
theorem dX7_canPut_1 : decode cX7_canPut 1 = .ok (.iload_n 1, 1) := by decide +kernel
theorem dX7_canPut_2 : decode cX7_canPut 2 = .ok (.invokevirtual 335, 3) := by decide +kernel
theorem dX7_canPut_5 : decode cX7_canPut 5 = .ok (.ifCond .ne 54, 3) := by decide +kernel
theorem dX7_canPut_8 : decode cX7_canPut 8 = .ok (.aload_n 0, 1) := by decide +kernel
theorem dX7_canPut_9 : decode cX7_canPut 9 = .ok (.aload_n 0, 1) := by decide +kernel
theorem dX7_canPut_10 : decode cX7_canPut 10 = .ok (.iload_n 2, 1) := by decide +kernel
theorem dX7_canPut_11 : decode cX7_canPut 11 = .ok (.invokevirtual 338, 3) := by decide +kernel
theorem dX7_canPut_14 : decode cX7_canPut 14 = .ok (.ifCond .ne 7, 3) := by decide +kernel
theorem dX7_canPut_17 : decode cX7_canPut 17 = .ok (.iconst 1, 1) := by decide +kernel
theorem dX7_canPut_18 : decode cX7_canPut 18 = .ok (.goto 4, 3) := by decide +kernel
theorem dX7_canPut_21 : decode cX7_canPut 21 = .ok (.iconst 0, 1) := by decide +kernel
theorem dX7_canPut_22 : decode cX7_canPut 22 = .ok (.iconst 2, 1) := by decide +kernel
theorem dX7_canPut_23 : decode cX7_canPut 23 = .ok (.invokevirtual 74, 3) := by decide +kernel
theorem dX7_canPut_26 : decode cX7_canPut 26 = .ok (.ifCond .ne 33, 3) := by decide +kernel
theorem dX7_canPut_29 : decode cX7_canPut 29 = .ok (.aload_n 0, 1) := by decide +kernel
theorem dX7_canPut_30 : decode cX7_canPut 30 = .ok (.getfield 17, 3) := by decide +kernel
theorem dX7_canPut_33 : decode cX7_canPut 33 = .ok (.bipush 6, 2) := by decide +kernel
theorem dX7_canPut_35 : decode cX7_canPut 35 = .ok (.iload_n 2, 1) := by decide +kernel
theorem dX7_canPut_36 : decode cX7_canPut 36 = .ok (.iadd, 1) := by decide +kernel
theorem dX7_canPut_37 : decode cX7_canPut 37 = .ok (.iaload, 1) := by decide +kernel
theorem dX7_canPut_38 : decode cX7_canPut 38 = .ok (.ifCond .le 21, 3) := by decide +kernel
theorem dX7_canPut_41 : decode cX7_canPut 41 = .ok (.aload_n 0, 1) := by decide +kernel
theorem dX7_canPut_42 : decode cX7_canPut 42 = .ok (.iload_n 1, 1) := by decide +kernel
theorem dX7_canPut_43 : decode cX7_canPut 43 = .ok (.invokevirtual 192, 3) := by decide +kernel
theorem dX7_canPut_46 : decode cX7_canPut 46 = .ok (.aload_n 0, 1) := by decide +kernel
theorem dX7_canPut_47 : decode cX7_canPut 47 = .ok (.getfield 13, 3) := by decide +kernel
theorem dX7_canPut_50 : decode cX7_canPut 50 = .ok (.iload_n 2, 1) := by decide +kernel
theorem dX7_canPut_51 : decode cX7_canPut 51 = .ok (.iaload, 1) := by decide +kernel
theorem dX7_canPut_52 : decode cX7_canPut 52 = .ok (.if_icmp .lt 7, 3) := by decide +kernel
theorem dX7_canPut_55 : decode cX7_canPut 55 = .ok (.iconst 1, 1) := by decide +kernel
theorem dX7_canPut_56 : decode cX7_canPut 56 = .ok (.goto 4, 3) := by decide +kernel
theorem dX7_canPut_59 : decode cX7_canPut 59 = .ok (.iconst 0, 1) := by decide +kernel
theorem dX7_canPut_60 : decode cX7_canPut 60 = .ok (.ireturn, 1) := by decide +kernel
set_option maxRecDepth 20000 in
theorem ggX7_widestGap_X7_notLoaded : GoodIn wsX7_widestGap wsX7_notLoaded := goodIn_r _ [6, 7, 8, 9, 10, 11, 5, 12, 41, 42, 43, 44, 45, 46, 47, 48, 49, 50, 51, 52, 53, 54, 55, 56, 57, 58, 59, 60, 61, 62, 63, 64, 65, 66, 67, 68, 69, 70, 71, 72, 73, 74, 75, 76, 77, 78, 79, 80, 81] (by decide +kernel) (by decide +kernel)
set_option maxRecDepth 20000 in
theorem gX7_widestGap_X7_notLoaded : GoodIn wsX7_widestGap (wsV RX7 320 RX7 yX7_notLoaded wsX7_notLoaded) := goodIn_app (goodIn_of _ (by decide +kernel)) ggX7_widestGap_X7_notLoaded
set_option maxRecDepth 20000 in
theorem ggX7_widestGap_X7_gap : GoodIn wsX7_widestGap wsX7_gap := goodIn_ca (goodIn_r _ [16, 17, 18, 19, 20, 5, 21, 22, 23, 24, 25, 26, 27, 28, 29, 30, 31, 32, 33, 34, 35, 36, 37, 38, 39, 40, 41, 42, 43, 44, 45, 46, 47, 48, 49, 50, 51, 52, 53, 54, 55, 56, 57, 58, 59, 60, 61, 62, 63, 64, 65, 66, 67, 68, 69, 70, 71, 72, 73, 74, 75, 76, 77, 78, 79, 80, 81] (by decide +kernel) (by decide +kernel)) (goodIn_sub (fun _ h => List.mem_cons_of_mem _ (List.mem_append_right _ h)) (by decide +kernel))
set_option maxRecDepth 20000 in
theorem gX7_widestGap_X7_gap : GoodIn wsX7_widestGap (wsV RX7 192 RX7 yX7_gap wsX7_gap) := goodIn_app (goodIn_of _ (by decide +kernel)) ggX7_widestGap_X7_gap
theorem dX7_widestGap_0 : decode cX7_widestGap 0 = .ok (.aload_n 0, 1) := by decide +kernel
theorem dX7_widestGap_1 : decode cX7_widestGap 1 = .ok (.invokevirtual 320, 3) := by decide +kernel
theorem dX7_widestGap_4 : decode cX7_widestGap 4 = .ok (.ifCond .eq 5, 3) := by decide +kernel
theorem dX7_widestGap_7 : decode cX7_widestGap 7 = .ok (.iconst 0, 1) := by decide +kernel
theorem dX7_widestGap_8 : decode cX7_widestGap 8 = .ok (.ireturn, 1) := by decide +kernel
theorem dX7_widestGap_9 : decode cX7_widestGap 9 = .ok (.iconst 0, 1) := by decide +kernel
theorem dX7_widestGap_10 : decode cX7_widestGap 10 = .ok (.istore_n 1, 1) := by decide +kernel
theorem dX7_widestGap_11 : decode cX7_widestGap 11 = .ok (.iconst 1, 1) := by decide +kernel
theorem dX7_widestGap_12 : decode cX7_widestGap 12 = .ok (.istore_n 2, 1) := by decide +kernel
theorem dX7_widestGap_13 : decode cX7_widestGap 13 = .ok (.iload_n 2, 1) := by decide +kernel
theorem dX7_widestGap_14 : decode cX7_widestGap 14 = .ok (.aload_n 0, 1) := by decide +kernel
theorem dX7_widestGap_15 : decode cX7_widestGap 15 = .ok (.getfield 154, 3) := by decide +kernel
theorem dX7_widestGap_18 : decode cX7_widestGap 18 = .ok (.if_icmp .ge 28, 3) := by decide +kernel
theorem dX7_widestGap_21 : decode cX7_widestGap 21 = .ok (.aload_n 0, 1) := by decide +kernel
theorem dX7_widestGap_22 : decode cX7_widestGap 22 = .ok (.iload_n 2, 1) := by decide +kernel
theorem dX7_widestGap_23 : decode cX7_widestGap 23 = .ok (.invokevirtual 192, 3) := by decide +kernel
theorem dX7_widestGap_26 : decode cX7_widestGap 26 = .ok (.aload_n 0, 1) := by decide +kernel
theorem dX7_widestGap_27 : decode cX7_widestGap 27 = .ok (.iload_n 1, 1) := by decide +kernel
theorem dX7_widestGap_28 : decode cX7_widestGap 28 = .ok (.invokevirtual 192, 3) := by decide +kernel
theorem dX7_widestGap_31 : decode cX7_widestGap 31 = .ok (.if_icmp .le 7, 3) := by decide +kernel
theorem dX7_widestGap_34 : decode cX7_widestGap 34 = .ok (.iload_n 2, 1) := by decide +kernel
theorem dX7_widestGap_35 : decode cX7_widestGap 35 = .ok (.goto 4, 3) := by decide +kernel
theorem dX7_widestGap_38 : decode cX7_widestGap 38 = .ok (.iload_n 1, 1) := by decide +kernel
theorem dX7_widestGap_39 : decode cX7_widestGap 39 = .ok (.istore_n 1, 1) := by decide +kernel
theorem dX7_widestGap_40 : decode cX7_widestGap 40 = .ok (.iinc 2 1, 3) := by decide +kernel
theorem dX7_widestGap_43 : decode cX7_widestGap 43 = .ok (.goto (-30), 3) := by decide +kernel
theorem dX7_widestGap_46 : decode cX7_widestGap 46 = .ok (.iload_n 1, 1) := by decide +kernel
theorem dX7_widestGap_47 : decode cX7_widestGap 47 = .ok (.ireturn, 1) := by decide +kernel
set_option maxRecDepth 20000 in
theorem ggX7_loosest_X7_notLoaded : GoodIn wsX7_loosest wsX7_notLoaded := goodIn_r _ [6, 7, 8, 9, 10, 11, 5, 12, 45, 46, 47, 48, 49, 50, 51, 52, 53, 54, 55, 56, 57, 58, 59, 60, 61, 62, 63, 64, 65, 66, 67, 68, 69, 70, 71, 72, 73, 74, 75, 76, 77, 78, 79, 80, 81, 82, 83, 84, 85] (by decide +kernel) (by decide +kernel)
set_option maxRecDepth 20000 in
theorem gX7_loosest_X7_notLoaded : GoodIn wsX7_loosest (wsV RX7 320 RX7 yX7_notLoaded wsX7_notLoaded) := goodIn_app (goodIn_of _ (by decide +kernel)) ggX7_loosest_X7_notLoaded
set_option maxRecDepth 20000 in
theorem ggX7_loosest_X7_of : GoodIn wsX7_loosest wsX7_of := goodIn_ca (goodIn_r _ [16, 17, 45, 46, 47, 48, 49, 50, 51, 52, 53, 54, 55, 56, 57, 58, 59, 60, 61, 62, 63, 64, 65, 66, 67, 68, 69, 70, 71, 72, 73, 74, 75, 76, 77, 78, 79, 80, 81, 82, 83, 84, 85] (by decide +kernel) (by decide +kernel)) (goodIn_sub (fun _ h => List.mem_cons_of_mem _ (List.mem_append_right _ h)) (by decide +kernel))
set_option maxRecDepth 20000 in
theorem gX7_loosest_X7_of : GoodIn wsX7_loosest (wsV RX7 189 RX7 yX7_of wsX7_of) := goodIn_app (goodIn_of _ (by decide +kernel)) ggX7_loosest_X7_of
set_option maxRecDepth 20000 in
theorem ggX7_loosest_X7_looseness : GoodIn wsX7_loosest wsX7_looseness := goodIn_ca (goodIn_r _ [21, 13, 14, 15, 5, 16, 17, 22, 23, 24, 25, 26, 27, 28, 29, 30, 31, 32, 33, 34, 35, 36, 37, 38, 39, 40, 41, 42, 43, 44, 45, 46, 47, 48, 49, 50, 51, 52, 53, 54, 55, 56, 57, 58, 59, 60, 61, 62, 63, 64, 65, 66, 67, 68, 69, 70, 71, 72, 73, 74, 75, 76, 77, 78, 79, 80, 81, 82, 83, 84, 85] (by decide +kernel) (by decide +kernel)) (goodIn_sub (fun _ h => List.mem_cons_of_mem _ (List.mem_append_right _ h)) (by decide +kernel))
set_option maxRecDepth 20000 in
theorem gX7_loosest_X7_looseness : GoodIn wsX7_loosest (wsV RX7 257 RX7 yX7_looseness wsX7_looseness) := goodIn_app (goodIn_of _ (by decide +kernel)) ggX7_loosest_X7_looseness
theorem dX7_loosest_0 : decode cX7_loosest 0 = .ok (.aload_n 0, 1) := by decide +kernel
theorem dX7_loosest_1 : decode cX7_loosest 1 = .ok (.invokevirtual 320, 3) := by decide +kernel
theorem dX7_loosest_4 : decode cX7_loosest 4 = .ok (.ifCond .eq 5, 3) := by decide +kernel
theorem dX7_loosest_7 : decode cX7_loosest 7 = .ok (.iconst 0, 1) := by decide +kernel
theorem dX7_loosest_8 : decode cX7_loosest 8 = .ok (.ireturn, 1) := by decide +kernel
theorem dX7_loosest_9 : decode cX7_loosest 9 = .ok (.iconst (-1), 1) := by decide +kernel
theorem dX7_loosest_10 : decode cX7_loosest 10 = .ok (.istore_n 1, 1) := by decide +kernel
theorem dX7_loosest_11 : decode cX7_loosest 11 = .ok (.iconst 0, 1) := by decide +kernel
theorem dX7_loosest_12 : decode cX7_loosest 12 = .ok (.istore_n 2, 1) := by decide +kernel
theorem dX7_loosest_13 : decode cX7_loosest 13 = .ok (.iload_n 2, 1) := by decide +kernel
theorem dX7_loosest_14 : decode cX7_loosest 14 = .ok (.aload_n 0, 1) := by decide +kernel
theorem dX7_loosest_15 : decode cX7_loosest 15 = .ok (.getfield 154, 3) := by decide +kernel
theorem dX7_loosest_18 : decode cX7_loosest 18 = .ok (.if_icmp .ge 38, 3) := by decide +kernel
theorem dX7_loosest_21 : decode cX7_loosest 21 = .ok (.aload_n 0, 1) := by decide +kernel
theorem dX7_loosest_22 : decode cX7_loosest 22 = .ok (.iload_n 2, 1) := by decide +kernel
theorem dX7_loosest_23 : decode cX7_loosest 23 = .ok (.iconst 0, 1) := by decide +kernel
theorem dX7_loosest_24 : decode cX7_loosest 24 = .ok (.invokevirtual 189, 3) := by decide +kernel
theorem dX7_loosest_27 : decode cX7_loosest 27 = .ok (.ifCond .le 23, 3) := by decide +kernel
theorem dX7_loosest_30 : decode cX7_loosest 30 = .ok (.iload_n 1, 1) := by decide +kernel
theorem dX7_loosest_31 : decode cX7_loosest 31 = .ok (.iconst (-1), 1) := by decide +kernel
theorem dX7_loosest_32 : decode cX7_loosest 32 = .ok (.if_icmp .eq 16, 3) := by decide +kernel
theorem dX7_loosest_35 : decode cX7_loosest 35 = .ok (.aload_n 0, 1) := by decide +kernel
theorem dX7_loosest_36 : decode cX7_loosest 36 = .ok (.iload_n 2, 1) := by decide +kernel
theorem dX7_loosest_37 : decode cX7_loosest 37 = .ok (.invokevirtual 257, 3) := by decide +kernel
theorem dX7_loosest_40 : decode cX7_loosest 40 = .ok (.aload_n 0, 1) := by decide +kernel
theorem dX7_loosest_41 : decode cX7_loosest 41 = .ok (.iload_n 1, 1) := by decide +kernel
theorem dX7_loosest_42 : decode cX7_loosest 42 = .ok (.invokevirtual 257, 3) := by decide +kernel
theorem dX7_loosest_45 : decode cX7_loosest 45 = .ok (.if_icmp .le 5, 3) := by decide +kernel
theorem dX7_loosest_48 : decode cX7_loosest 48 = .ok (.iload_n 2, 1) := by decide +kernel
theorem dX7_loosest_49 : decode cX7_loosest 49 = .ok (.istore_n 1, 1) := by decide +kernel
theorem dX7_loosest_50 : decode cX7_loosest 50 = .ok (.iinc 2 1, 3) := by decide +kernel
theorem dX7_loosest_53 : decode cX7_loosest 53 = .ok (.goto (-40), 3) := by decide +kernel
theorem dX7_loosest_56 : decode cX7_loosest 56 = .ok (.iload_n 1, 1) := by decide +kernel
theorem dX7_loosest_57 : decode cX7_loosest 57 = .ok (.ireturn, 1) := by decide +kernel
set_option maxRecDepth 20000 in
theorem ggX7_longestLeft_X7_notLoaded : GoodIn wsX7_longestLeft wsX7_notLoaded := goodIn_r _ [7, 8, 9, 10, 11, 12, 6, 13, 20, 21, 22, 23, 24, 25, 26, 27, 28, 29, 30, 31, 32, 33, 34, 35, 36, 37, 38, 39, 40, 41, 42, 43, 44, 45, 46, 47, 48, 49, 50, 51, 52, 53, 54, 55, 56, 57, 58, 59, 60] (by decide +kernel) (by decide +kernel)
set_option maxRecDepth 20000 in
theorem gX7_longestLeft_X7_notLoaded : GoodIn wsX7_longestLeft (wsV RX7 320 RX7 yX7_notLoaded wsX7_notLoaded) := goodIn_app (goodIn_of _ (by decide +kernel)) ggX7_longestLeft_X7_notLoaded
set_option maxRecDepth 20000 in
theorem ggX7_longestLeft_X7_isAhead : GoodIn wsX7_longestLeft wsX7_isAhead := goodIn_ca (goodIn_r _ [17, 18, 19, 20, 21, 22, 23, 24, 25, 26, 27, 28, 29, 30, 31, 32, 33, 34, 35, 36, 37, 38, 39, 40, 41, 42, 43, 44, 45, 46, 47, 48, 49, 50, 51, 52, 53, 54, 55, 56, 57, 58, 59, 60] (by decide +kernel) (by decide +kernel)) (goodIn_sub (fun _ h => List.mem_cons_of_mem _ (List.mem_append_right _ h)) (by decide +kernel))
set_option maxRecDepth 20000 in
theorem gX7_longestLeft_X7_isAhead : GoodIn wsX7_longestLeft (wsV RX7 273 RX7 yX7_isAhead wsX7_isAhead) := goodIn_app (goodIn_of _ (by decide +kernel)) ggX7_longestLeft_X7_isAhead
theorem dX7_longestLeft_0 : decode cX7_longestLeft 0 = .ok (.aload_n 0, 1) := by decide +kernel
theorem dX7_longestLeft_1 : decode cX7_longestLeft 1 = .ok (.invokevirtual 320, 3) := by decide +kernel
