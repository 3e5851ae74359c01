theorem dX6_taken_30 : decode cX6_taken 30 = .ok (.iload_n 2, 1) := by decide +kernel
theorem dX6_taken_31 : decode cX6_taken 31 = .ok (.invokestatic 263, 3) := by decide +kernel
theorem dX6_taken_34 : decode cX6_taken 34 = .ok (.ifCond .eq 10, 3) := by decide +kernel
theorem dX6_taken_37 : decode cX6_taken 37 = .ok (.aload_n 3, 1) := by decide +kernel
theorem dX6_taken_38 : decode cX6_taken 38 = .ok (.getfield 128, 3) := by decide +kernel
theorem dX6_taken_41 : decode cX6_taken 41 = .ok (.goto 5, 3) := by decide +kernel
theorem dX6_taken_44 : decode cX6_taken 44 = .ok (.bipush (-13), 2) := by decide +kernel
theorem dX6_taken_46 : decode cX6_taken 46 = .ok (.ireturn, 1) := by decide +kernel
theorem dX6_known_0 : decode cX6_known 0 = .ok (.iload_n 1, 1) := by decide +kernel
theorem dX6_known_1 : decode cX6_known 1 = .ok (.ifCond .lt 20, 3) := by decide +kernel
theorem dX6_known_4 : decode cX6_known 4 = .ok (.iload_n 1, 1) := by decide +kernel
theorem dX6_known_5 : decode cX6_known 5 = .ok (.aload_n 0, 1) := by decide +kernel
theorem dX6_known_6 : decode cX6_known 6 = .ok (.getfield 15, 3) := by decide +kernel
theorem dX6_known_9 : decode cX6_known 9 = .ok (.if_icmp .ge 12, 3) := by decide +kernel
theorem dX6_known_12 : decode cX6_known 12 = .ok (.aload_n 0, 1) := by decide +kernel
theorem dX6_known_13 : decode cX6_known 13 = .ok (.getfield 11, 3) := by decide +kernel
theorem dX6_known_16 : decode cX6_known 16 = .ok (.iload_n 1, 1) := by decide +kernel
theorem dX6_known_17 : decode cX6_known 17 = .ok (.aaload, 1) := by decide +kernel
theorem dX6_known_18 : decode cX6_known 18 = .ok (.goto 4, 3) := by decide +kernel
theorem dX6_known_21 : decode cX6_known 21 = .ok (.aconst_null, 1) := by decide +kernel
theorem dX6_known_22 : decode cX6_known 22 = .ok (.areturn, 1) := by decide +kernel
theorem dX6_laid_0 : decode cX6_laid 0 = .ok (.iload_n 1, 1) := by decide +kernel
theorem dX6_laid_1 : decode cX6_laid 1 = .ok (.ifCond .lt 17, 3) := by decide +kernel
theorem dX6_laid_4 : decode cX6_laid 4 = .ok (.iload_n 1, 1) := by decide +kernel
theorem dX6_laid_5 : decode cX6_laid 5 = .ok (.iconst 4, 1) := by decide +kernel
theorem dX6_laid_6 : decode cX6_laid 6 = .ok (.if_icmp .ge 12, 3) := by decide +kernel
theorem dX6_laid_9 : decode cX6_laid 9 = .ok (.aload_n 0, 1) := by decide +kernel
theorem dX6_laid_10 : decode cX6_laid 10 = .ok (.getfield 40, 3) := by decide +kernel
theorem dX6_laid_13 : decode cX6_laid 13 = .ok (.iload_n 1, 1) := by decide +kernel
theorem dX6_laid_14 : decode cX6_laid 14 = .ok (.aaload, 1) := by decide +kernel
theorem dX6_laid_15 : decode cX6_laid 15 = .ok (.goto 4, 3) := by decide +kernel
theorem dX6_laid_18 : decode cX6_laid 18 = .ok (.aconst_null, 1) := by decide +kernel
theorem dX6_laid_19 : decode cX6_laid 19 = .ok (.areturn, 1) := by decide +kernel
theorem dX6_isPart_0 : decode cX6_isPart 0 = .ok (.iload_n 0, 1) := by decide +kernel
theorem dX6_isPart_1 : decode cX6_isPart 1 = .ok (.ifCond .eq 8, 3) := by decide +kernel
theorem dX6_isPart_4 : decode cX6_isPart 4 = .ok (.iload_n 0, 1) := by decide +kernel
theorem dX6_isPart_5 : decode cX6_isPart 5 = .ok (.iconst 1, 1) := by decide +kernel
theorem dX6_isPart_6 : decode cX6_isPart 6 = .ok (.if_icmp .ne 7, 3) := by decide +kernel
theorem dX6_isPart_9 : decode cX6_isPart 9 = .ok (.iconst 1, 1) := by decide +kernel
theorem dX6_isPart_10 : decode cX6_isPart 10 = .ok (.goto 4, 3) := by decide +kernel
theorem dX6_isPart_13 : decode cX6_isPart 13 = .ok (.iconst 0, 1) := by decide +kernel
theorem dX6_isPart_14 : decode cX6_isPart 14 = .ok (.ireturn, 1) := by decide +kernel
theorem dX6_areMarks_0 : decode cX6_areMarks 0 = .ok (.iload_n 0, 1) := by decide +kernel
theorem dX6_areMarks_1 : decode cX6_areMarks 1 = .ok (.ifCond .lt 28, 3) := by decide +kernel
theorem dX6_areMarks_4 : decode cX6_areMarks 4 = .ok (.iload_n 0, 1) := by decide +kernel
theorem dX6_areMarks_5 : decode cX6_areMarks 5 = .ok (.bipush 100, 2) := by decide +kernel
theorem dX6_areMarks_7 : decode cX6_areMarks 7 = .ok (.idiv, 1) := by decide +kernel
theorem dX6_areMarks_8 : decode cX6_areMarks 8 = .ok (.iconst 5, 1) := by decide +kernel
theorem dX6_areMarks_9 : decode cX6_areMarks 9 = .ok (.if_icmp .gt 20, 3) := by decide +kernel
theorem dX6_areMarks_12 : decode cX6_areMarks 12 = .ok (.iload_n 0, 1) := by decide +kernel
theorem dX6_areMarks_13 : decode cX6_areMarks 13 = .ok (.bipush 100, 2) := by decide +kernel
theorem dX6_areMarks_15 : decode cX6_areMarks 15 = .ok (.irem, 1) := by decide +kernel
theorem dX6_areMarks_16 : decode cX6_areMarks 16 = .ok (.iconst 1, 1) := by decide +kernel
theorem dX6_areMarks_17 : decode cX6_areMarks 17 = .ok (.iload_n 0, 1) := by decide +kernel
theorem dX6_areMarks_18 : decode cX6_areMarks 18 = .ok (.bipush 100, 2) := by decide +kernel
theorem dX6_areMarks_20 : decode cX6_areMarks 20 = .ok (.idiv, 1) := by decide +kernel
theorem dX6_areMarks_21 : decode cX6_areMarks 21 = .ok (.ishl, 1) := by decide +kernel
theorem dX6_areMarks_22 : decode cX6_areMarks 22 = .ok (.if_icmp .ge 7, 3) := by decide +kernel
theorem dX6_areMarks_25 : decode cX6_areMarks 25 = .ok (.iconst 1, 1) := by decide +kernel
theorem dX6_areMarks_26 : decode cX6_areMarks 26 = .ok (.goto 4, 3) := by decide +kernel
theorem dX6_areMarks_29 : decode cX6_areMarks 29 = .ok (.iconst 0, 1) := by decide +kernel
theorem dX6_areMarks_30 : decode cX6_areMarks 30 = .ok (.ireturn, 1) := by decide +kernel
theorem dX6_held_0 : decode cX6_held 0 = .ok (.iconst 0, 1) := by decide +kernel
theorem dX6_held_1 : decode cX6_held 1 = .ok (.iconst 4, 1) := by decide +kernel
theorem dX6_held_2 : decode cX6_held 2 = .ok (.iload_n 0, 1) := by decide +kernel
theorem dX6_held_3 : decode cX6_held 3 = .ok (.invokestatic 267, 3) := by decide +kernel
theorem dX6_held_6 : decode cX6_held 6 = .ok (.invokestatic 272, 3) := by decide +kernel
theorem dX6_held_9 : decode cX6_held 9 = .ok (.ireturn, 1) := by decide +kernel
theorem dX6_isUnder_0 : decode cX6_isUnder 0 = .ok (.iload_n 0, 1) := by decide +kernel
theorem dX6_isUnder_1 : decode cX6_isUnder 1 = .ok (.istore_n 2, 1) := by decide +kernel
theorem dX6_isUnder_2 : decode cX6_isUnder 2 = .ok (.iconst 0, 1) := by decide +kernel
theorem dX6_isUnder_3 : decode cX6_isUnder 3 = .ok (.istore_n 3, 1) := by decide +kernel
theorem dX6_isUnder_4 : decode cX6_isUnder 4 = .ok (.iload_n 3, 1) := by decide +kernel
theorem dX6_isUnder_5 : decode cX6_isUnder 5 = .ok (.bipush 6, 2) := by decide +kernel
theorem dX6_isUnder_7 : decode cX6_isUnder 7 = .ok (.if_icmp .ge 32, 3) := by decide +kernel
theorem dX6_isUnder_10 : decode cX6_isUnder 10 = .ok (.iload_n 2, 1) := by decide +kernel
theorem dX6_isUnder_11 : decode cX6_isUnder 11 = .ok (.ifCond .lt 28, 3) := by decide +kernel
theorem dX6_isUnder_14 : decode cX6_isUnder 14 = .ok (.iload_n 2, 1) := by decide +kernel
theorem dX6_isUnder_15 : decode cX6_isUnder 15 = .ok (.bipush 6, 2) := by decide +kernel
theorem dX6_isUnder_17 : decode cX6_isUnder 17 = .ok (.if_icmp .ge 22, 3) := by decide +kernel
theorem dX6_isUnder_20 : decode cX6_isUnder 20 = .ok (.iload_n 2, 1) := by decide +kernel
theorem dX6_isUnder_21 : decode cX6_isUnder 21 = .ok (.iload_n 1, 1) := by decide +kernel
theorem dX6_isUnder_22 : decode cX6_isUnder 22 = .ok (.if_icmp .ne 5, 3) := by decide +kernel
theorem dX6_isUnder_25 : decode cX6_isUnder 25 = .ok (.iconst 1, 1) := by decide +kernel
theorem dX6_isUnder_26 : decode cX6_isUnder 26 = .ok (.ireturn, 1) := by decide +kernel
theorem dX6_isUnder_27 : decode cX6_isUnder 27 = .ok (.getstatic 275, 3) := by decide +kernel
theorem dX6_isUnder_30 : decode cX6_isUnder 30 = .ok (.iload_n 2, 1) := by decide +kernel
theorem dX6_isUnder_31 : decode cX6_isUnder 31 = .ok (.iaload, 1) := by decide +kernel
theorem dX6_isUnder_32 : decode cX6_isUnder 32 = .ok (.istore_n 2, 1) := by decide +kernel
theorem dX6_isUnder_33 : decode cX6_isUnder 33 = .ok (.iinc 3 1, 3) := by decide +kernel
theorem dX6_isUnder_36 : decode cX6_isUnder 36 = .ok (.goto (-32), 3) := by decide +kernel
theorem dX6_isUnder_39 : decode cX6_isUnder 39 = .ok (.iconst 0, 1) := by decide +kernel
theorem dX6_isUnder_40 : decode cX6_isUnder 40 = .ok (.ireturn, 1) := by decide +kernel
set_option maxRecDepth 100000 in
theorem ggX6_start_X0_rely : GoodIn wsX6_start wsX0_rely := goodIn_r _ [8, 9, 10, 11, 12, 13, 14, 15, 16, 49, 50, 51, 52, 53, 54] rfl (by decide +kernel)
set_option maxRecDepth 100000 in
theorem gX6_start_X0_rely_n131 : GoodIn wsX6_start (wsX0_rely) := ggX6_start_X0_rely
set_option maxRecDepth 100000 in
theorem ggX6_start_X1_begin : GoodIn wsX6_start wsX1_begin := goodIn_r _ [20, 21, 22, 23, 24, 25, 26, 55, 56, 57, 58, 59, 60, 61] rfl (by decide +kernel)
set_option maxRecDepth 100000 in
theorem gX6_start_X1_begin_n278 : GoodIn wsX6_start (wsX1_begin) := ggX6_start_X1_begin
theorem dX6_start_0 : decode cX6_start 0 = .ok (.aload_n 0, 1) := by decide +kernel
theorem dX6_start_1 : decode cX6_start 1 = .ok (.getfield 56, 3) := by decide +kernel
theorem dX6_start_4 : decode cX6_start 4 = .ok (.aload_n 0, 1) := by decide +kernel
theorem dX6_start_5 : decode cX6_start 5 = .ok (.getfield 21, 3) := by decide +kernel
theorem dX6_start_8 : decode cX6_start 8 = .ok (.aload_n 0, 1) := by decide +kernel
theorem dX6_start_9 : decode cX6_start 9 = .ok (.getfield 28, 3) := by decide +kernel
theorem dX6_start_12 : decode cX6_start 12 = .ok (.aaload, 1) := by decide +kernel
theorem dX6_start_13 : decode cX6_start 13 = .ok (.aload_n 0, 1) := by decide +kernel
theorem dX6_start_14 : decode cX6_start 14 = .ok (.getfield 28, 3) := by decide +kernel
theorem dX6_start_17 : decode cX6_start 17 = .ok (.aload_n 1, 1) := by decide +kernel
theorem dX6_start_18 : decode cX6_start 18 = .ok (.getfield 125, 3) := by decide +kernel
theorem dX6_start_21 : decode cX6_start 21 = .ok (.invokevirtual 131, 3) := by decide +kernel
theorem dX6_start_24 : decode cX6_start 24 = .ok (.aload_n 0, 1) := by decide +kernel
theorem dX6_start_25 : decode cX6_start 25 = .ok (.getfield 65, 3) := by decide +kernel
theorem dX6_start_28 : decode cX6_start 28 = .ok (.aload_n 1, 1) := by decide +kernel
theorem dX6_start_29 : decode cX6_start 29 = .ok (.getfield 115, 3) := by decide +kernel
theorem dX6_start_32 : decode cX6_start 32 = .ok (.iload 4, 2) := by decide +kernel
theorem dX6_start_34 : decode cX6_start 34 = .ok (.iload_n 2, 1) := by decide +kernel
theorem dX6_start_35 : decode cX6_start 35 = .ok (.iload_n 3, 1) := by decide +kernel
theorem dX6_start_36 : decode cX6_start 36 = .ok (.invokevirtual 278, 3) := by decide +kernel
theorem dX6_start_39 : decode cX6_start 39 = .ok (.return_, 1) := by decide +kernel
set_option maxRecDepth 100000 in
theorem ggX6_follow_X6_start : GoodIn wsX6_follow wsX6_start := goodIn_r _ [6, 7, 8, 9, 1, 10, 11, 12, 13, 14, 15, 16, 17, 18, 19, 20, 21, 22, 23, 24, 25, 26, 27, 28, 29, 30, 31, 105, 106, 107, 108, 109, 110, 111, 112, 113, 114, 115, 116, 117, 118, 119, 98, 99, 100, 101, 102, 103, 104, 120, 121, 122, 123, 124, 125, 126, 127, 128, 129, 130, 131, 132] rfl (by decide +kernel)
set_option maxRecDepth 100000 in
theorem gX6_follow_X6_start : GoodIn wsX6_follow (wsV RX6 179 RX6 yX6_start wsX6_start) := goodIn_app (goodIn_of _ (by decide +kernel)) ggX6_follow_X6_start
set_option maxRecDepth 100000 in
theorem ggX6_follow_X1_follow : GoodIn wsX6_follow wsX1_follow := goodIn_r _ [34, 35, 36, 37, 23, 38, 31, 26, 39, 27, 28, 40, 41, 11, 42, 43, 17, 44, 15, 45, 46, 47, 48, 49, 50, 51, 52, 53, 54, 55, 16, 56, 57, 58, 59, 60, 61, 62, 63, 29, 30, 64, 65, 66, 67, 68, 69, 70, 71, 72, 73, 74, 75, 76, 77, 78, 79, 80, 81, 82, 83, 84, 85, 86, 87, 88, 89, 90, 91, 92, 93, 94, 5, 95, 96, 97, 126, 127, 128, 129, 130, 131, 132, 120, 121, 122, 123, 124, 125, 133, 134] rfl (by decide +kernel)
set_option maxRecDepth 100000 in
theorem gX6_follow_X1_follow_n282 : GoodIn wsX6_follow (wsX1_follow) := ggX6_follow_X1_follow
theorem dX6_follow_0 : decode cX6_follow 0 = .ok (.aload_n 0, 1) := by decide +kernel
theorem dX6_follow_1 : decode cX6_follow 1 = .ok (.aload_n 1, 1) := by decide +kernel
theorem dX6_follow_2 : decode cX6_follow 2 = .ok (.aload_n 1, 1) := by decide +kernel
theorem dX6_follow_3 : decode cX6_follow 3 = .ok (.getfield 119, 3) := by decide +kernel
theorem dX6_follow_6 : decode cX6_follow 6 = .ok (.aload_n 1, 1) := by decide +kernel
theorem dX6_follow_7 : decode cX6_follow 7 = .ok (.getfield 128, 3) := by decide +kernel
theorem dX6_follow_10 : decode cX6_follow 10 = .ok (.aload_n 1, 1) := by decide +kernel
theorem dX6_follow_11 : decode cX6_follow 11 = .ok (.getfield 122, 3) := by decide +kernel
theorem dX6_follow_14 : decode cX6_follow 14 = .ok (.invokevirtual 179, 3) := by decide +kernel
theorem dX6_follow_17 : decode cX6_follow 17 = .ok (.aload_n 0, 1) := by decide +kernel
theorem dX6_follow_18 : decode cX6_follow 18 = .ok (.getfield 65, 3) := by decide +kernel
theorem dX6_follow_21 : decode cX6_follow 21 = .ok (.iload_n 2, 1) := by decide +kernel
theorem dX6_follow_22 : decode cX6_follow 22 = .ok (.bipush 100, 2) := by decide +kernel
theorem dX6_follow_24 : decode cX6_follow 24 = .ok (.idiv, 1) := by decide +kernel
theorem dX6_follow_25 : decode cX6_follow 25 = .ok (.iload_n 2, 1) := by decide +kernel
theorem dX6_follow_26 : decode cX6_follow 26 = .ok (.bipush 100, 2) := by decide +kernel
theorem dX6_follow_28 : decode cX6_follow 28 = .ok (.irem, 1) := by decide +kernel
theorem dX6_follow_29 : decode cX6_follow 29 = .ok (.invokevirtual 282, 3) := by decide +kernel
theorem dX6_follow_32 : decode cX6_follow 32 = .ok (.return_, 1) := by decide +kernel
set_option maxRecDepth 100000 in
theorem ggX6_endsBy_X6_start : GoodIn wsX6_endsBy wsX6_start := goodIn_r _ [6, 7, 8, 9, 1, 10, 11, 12, 13, 14, 15, 16, 17, 18, 19, 20, 21, 22, 23, 24, 25, 26, 27, 28, 29, 30, 31, 103, 104, 105, 106, 107, 108, 109, 110, 111, 112, 113, 114, 115, 116, 117, 118, 119, 120, 121, 122, 123, 124, 125, 126, 127, 128, 129, 130, 131, 132, 133, 134, 135, 136, 137] rfl (by decide +kernel)
set_option maxRecDepth 100000 in
theorem gX6_endsBy_X6_start : GoodIn wsX6_endsBy (wsV RX6 179 RX6 yX6_start wsX6_start) := goodIn_app (goodIn_of _ (by decide +kernel)) ggX6_endsBy_X6_start
set_option maxRecDepth 100000 in
theorem ggX6_endsBy_X1_ends : GoodIn wsX6_endsBy wsX1_ends := goodIn_r _ [34, 35, 36, 37, 23, 38, 26, 39, 27, 28, 40, 11, 41, 42, 17, 43, 15, 44, 45, 46, 47, 48, 49, 50, 51, 52, 53, 54, 16, 55, 56, 57, 58, 59, 60, 61, 62, 31, 63, 64, 65, 66, 67, 29, 30, 68, 69, 70, 71, 72, 73, 74, 75, 76, 77, 78, 79, 80, 81, 82, 83, 84, 85, 86, 87, 88, 89, 90, 91, 92, 93, 94, 95, 96, 97, 98, 5, 99, 100, 101, 102, 32, 33, 131, 132, 133, 134, 135, 136, 137, 125, 126, 127, 128, 129, 130, 138, 139] rfl (by decide +kernel)
set_option maxRecDepth 100000 in
theorem gX6_endsBy_X1_ends_n183 : GoodIn wsX6_endsBy (wsX1_ends) := ggX6_endsBy_X1_ends
theorem dX6_endsBy_0 : decode cX6_endsBy 0 = .ok (.aload_n 0, 1) := by decide +kernel
theorem dX6_endsBy_1 : decode cX6_endsBy 1 = .ok (.aload_n 1, 1) := by decide +kernel
theorem dX6_endsBy_2 : decode cX6_endsBy 2 = .ok (.iload_n 2, 1) := by decide +kernel
theorem dX6_endsBy_3 : decode cX6_endsBy 3 = .ok (.iload_n 3, 1) := by decide +kernel
theorem dX6_endsBy_4 : decode cX6_endsBy 4 = .ok (.iload 4, 2) := by decide +kernel
theorem dX6_endsBy_6 : decode cX6_endsBy 6 = .ok (.invokevirtual 179, 3) := by decide +kernel
theorem dX6_endsBy_9 : decode cX6_endsBy 9 = .ok (.aload_n 0, 1) := by decide +kernel
theorem dX6_endsBy_10 : decode cX6_endsBy 10 = .ok (.getfield 65, 3) := by decide +kernel
theorem dX6_endsBy_13 : decode cX6_endsBy 13 = .ok (.iconst 0, 1) := by decide +kernel
theorem dX6_endsBy_14 : decode cX6_endsBy 14 = .ok (.invokevirtual 183, 3) := by decide +kernel
theorem dX6_endsBy_17 : decode cX6_endsBy 17 = .ok (.lreturn, 1) := by decide +kernel
theorem dX6_likeliest_0 : decode cX6_likeliest 0 = .ok (.iconst 0, 1) := by decide +kernel
theorem dX6_likeliest_1 : decode cX6_likeliest 1 = .ok (.istore_n 2, 1) := by decide +kernel
theorem dX6_likeliest_2 : decode cX6_likeliest 2 = .ok (.ldc2_w 199, 3) := by decide +kernel
theorem dX6_likeliest_5 : decode cX6_likeliest 5 = .ok (.lstore_n 3, 1) := by decide +kernel
theorem dX6_likeliest_6 : decode cX6_likeliest 6 = .ok (.iconst 0, 1) := by decide +kernel
theorem dX6_likeliest_7 : decode cX6_likeliest 7 = .ok (.istore 5, 2) := by decide +kernel
theorem dX6_likeliest_9 : decode cX6_likeliest 9 = .ok (.iload 5, 2) := by decide +kernel
theorem dX6_likeliest_11 : decode cX6_likeliest 11 = .ok (.aload_n 0, 1) := by decide +kernel
theorem dX6_likeliest_12 : decode cX6_likeliest 12 = .ok (.getfield 15, 3) := by decide +kernel
theorem dX6_likeliest_15 : decode cX6_likeliest 15 = .ok (.if_icmp .ge 42, 3) := by decide +kernel
theorem dX6_likeliest_18 : decode cX6_likeliest 18 = .ok (.iload_n 1, 1) := by decide +kernel
theorem dX6_likeliest_19 : decode cX6_likeliest 19 = .ok (.iload 5, 2) := by decide +kernel
theorem dX6_likeliest_21 : decode cX6_likeliest 21 = .ok (.ishr, 1) := by decide +kernel
theorem dX6_likeliest_22 : decode cX6_likeliest 22 = .ok (.iconst 1, 1) := by decide +kernel
theorem dX6_likeliest_23 : decode cX6_likeliest 23 = .ok (.iand, 1) := by decide +kernel
theorem dX6_likeliest_24 : decode cX6_likeliest 24 = .ok (.iconst 1, 1) := by decide +kernel
theorem dX6_likeliest_25 : decode cX6_likeliest 25 = .ok (.if_icmp .ne 26, 3) := by decide +kernel
theorem dX6_likeliest_28 : decode cX6_likeliest 28 = .ok (.aload_n 0, 1) := by decide +kernel
theorem dX6_likeliest_29 : decode cX6_likeliest 29 = .ok (.getfield 69, 3) := by decide +kernel
theorem dX6_likeliest_32 : decode cX6_likeliest 32 = .ok (.iload 5, 2) := by decide +kernel
theorem dX6_likeliest_34 : decode cX6_likeliest 34 = .ok (.laload, 1) := by decide +kernel
theorem dX6_likeliest_35 : decode cX6_likeliest 35 = .ok (.lload_n 3, 1) := by decide +kernel
theorem dX6_likeliest_36 : decode cX6_likeliest 36 = .ok (.lcmp, 1) := by decide +kernel
theorem dX6_likeliest_37 : decode cX6_likeliest 37 = .ok (.ifCond .le 14, 3) := by decide +kernel
theorem dX6_likeliest_40 : decode cX6_likeliest 40 = .ok (.aload_n 0, 1) := by decide +kernel
theorem dX6_likeliest_41 : decode cX6_likeliest 41 = .ok (.getfield 69, 3) := by decide +kernel
theorem dX6_likeliest_44 : decode cX6_likeliest 44 = .ok (.iload 5, 2) := by decide +kernel
theorem dX6_likeliest_46 : decode cX6_likeliest 46 = .ok (.laload, 1) := by decide +kernel
theorem dX6_likeliest_47 : decode cX6_likeliest 47 = .ok (.lstore_n 3, 1) := by decide +kernel
theorem dX6_likeliest_48 : decode cX6_likeliest 48 = .ok (.iload 5, 2) := by decide +kernel
theorem dX6_likeliest_50 : decode cX6_likeliest 50 = .ok (.istore_n 2, 1) := by decide +kernel
theorem dX6_likeliest_51 : decode cX6_likeliest 51 = .ok (.iinc 5 1, 3) := by decide +kernel
theorem dX6_likeliest_54 : decode cX6_likeliest 54 = .ok (.goto (-45), 3) := by decide +kernel
theorem dX6_likeliest_57 : decode cX6_likeliest 57 = .ok (.iload_n 2, 1) := by decide +kernel
theorem dX6_likeliest_58 : decode cX6_likeliest 58 = .ok (.ireturn, 1) := by decide +kernel
set_option maxRecDepth 100000 in
theorem ggX6_leastEnds_J6_bitCount_0f7a4 : GoodIn wsX6_leastEnds wsJ6_bitCount_0f7a4 := goodIn_r _ [4, 5, 6, 7] rfl (by decide +kernel)
set_option maxRecDepth 100000 in
theorem gX6_leastEnds_J6_bitCount_0f7a4 : GoodIn wsX6_leastEnds (va_wsS RX6 284 yJ6_bitCount_0f7a4 wsJ6_bitCount_0f7a4) := goodIn_app (goodIn_of _ (by decide +kernel)) ggX6_leastEnds_J6_bitCount_0f7a4
set_option maxRecDepth 100000 in
theorem ggX6_leastEnds_X4_squares : GoodIn wsX6_leastEnds wsX4_squares := goodIn_r _ [11, 12, 13, 14, 15, 16] rfl (by decide +kernel)
set_option maxRecDepth 100000 in
theorem gX6_leastEnds_X4_squares_n231 : GoodIn wsX6_leastEnds (wsX4_squares) := ggX6_leastEnds_X4_squares
theorem dX6_leastEnds_0 : decode cX6_leastEnds 0 = .ok (.iconst 0, 1) := by decide +kernel
theorem dX6_leastEnds_1 : decode cX6_leastEnds 1 = .ok (.istore_n 2, 1) := by decide +kernel
theorem dX6_leastEnds_2 : decode cX6_leastEnds 2 = .ok (.iconst (-1), 1) := by decide +kernel
theorem dX6_leastEnds_3 : decode cX6_leastEnds 3 = .ok (.istore_n 3, 1) := by decide +kernel
theorem dX6_leastEnds_4 : decode cX6_leastEnds 4 = .ok (.iconst 1, 1) := by decide +kernel
theorem dX6_leastEnds_5 : decode cX6_leastEnds 5 = .ok (.aload_n 0, 1) := by decide +kernel
theorem dX6_leastEnds_6 : decode cX6_leastEnds 6 = .ok (.getfield 206, 3) := by decide +kernel
theorem dX6_leastEnds_9 : decode cX6_leastEnds 9 = .ok (.iconst 1, 1) := by decide +kernel
theorem dX6_leastEnds_10 : decode cX6_leastEnds 10 = .ok (.isub, 1) := by decide +kernel
theorem dX6_leastEnds_11 : decode cX6_leastEnds 11 = .ok (.ishl, 1) := by decide +kernel
theorem dX6_leastEnds_12 : decode cX6_leastEnds 12 = .ok (.istore 4, 2) := by decide +kernel
theorem dX6_leastEnds_14 : decode cX6_leastEnds 14 = .ok (.iload 4, 2) := by decide +kernel
theorem dX6_leastEnds_16 : decode cX6_leastEnds 16 = .ok (.iconst 1, 1) := by decide +kernel
theorem dX6_leastEnds_17 : decode cX6_leastEnds 17 = .ok (.aload_n 0, 1) := by decide +kernel
theorem dX6_leastEnds_18 : decode cX6_leastEnds 18 = .ok (.getfield 206, 3) := by decide +kernel
theorem dX6_leastEnds_21 : decode cX6_leastEnds 21 = .ok (.ishl, 1) := by decide +kernel
theorem dX6_leastEnds_22 : decode cX6_leastEnds 22 = .ok (.if_icmp .ge 45, 3) := by decide +kernel
theorem dX6_leastEnds_25 : decode cX6_leastEnds 25 = .ok (.iload 4, 2) := by decide +kernel
theorem dX6_leastEnds_27 : decode cX6_leastEnds 27 = .ok (.invokestatic 284, 3) := by decide +kernel
theorem dX6_leastEnds_30 : decode cX6_leastEnds 30 = .ok (.iload_n 1, 1) := by decide +kernel
theorem dX6_leastEnds_31 : decode cX6_leastEnds 31 = .ok (.if_icmp .eq 6, 3) := by decide +kernel
theorem dX6_leastEnds_34 : decode cX6_leastEnds 34 = .ok (.goto 27, 3) := by decide +kernel
theorem dX6_leastEnds_37 : decode cX6_leastEnds 37 = .ok (.aload_n 0, 1) := by decide +kernel
theorem dX6_leastEnds_38 : decode cX6_leastEnds 38 = .ok (.iload 4, 2) := by decide +kernel
theorem dX6_leastEnds_40 : decode cX6_leastEnds 40 = .ok (.invokevirtual 231, 3) := by decide +kernel
theorem dX6_leastEnds_43 : decode cX6_leastEnds 43 = .ok (.istore 5, 2) := by decide +kernel
theorem dX6_leastEnds_45 : decode cX6_leastEnds 45 = .ok (.iload_n 3, 1) := by decide +kernel
theorem dX6_leastEnds_46 : decode cX6_leastEnds 46 = .ok (.ifCond .lt 9, 3) := by decide +kernel
theorem dX6_leastEnds_49 : decode cX6_leastEnds 49 = .ok (.iload 5, 2) := by decide +kernel
theorem dX6_leastEnds_51 : decode cX6_leastEnds 51 = .ok (.iload_n 3, 1) := by decide +kernel
theorem dX6_leastEnds_52 : decode cX6_leastEnds 52 = .ok (.if_icmp .ge 9, 3) := by decide +kernel
theorem dX6_leastEnds_55 : decode cX6_leastEnds 55 = .ok (.iload 5, 2) := by decide +kernel
theorem dX6_leastEnds_57 : decode cX6_leastEnds 57 = .ok (.istore_n 3, 1) := by decide +kernel
theorem dX6_leastEnds_58 : decode cX6_leastEnds 58 = .ok (.iload 4, 2) := by decide +kernel
theorem dX6_leastEnds_60 : decode cX6_leastEnds 60 = .ok (.istore_n 2, 1) := by decide +kernel
theorem dX6_leastEnds_61 : decode cX6_leastEnds 61 = .ok (.iinc 4 1, 3) := by decide +kernel
theorem dX6_leastEnds_64 : decode cX6_leastEnds 64 = .ok (.goto (-50), 3) := by decide +kernel
theorem dX6_leastEnds_67 : decode cX6_leastEnds 67 = .ok (.iload_n 2, 1) := by decide +kernel
theorem dX6_leastEnds_68 : decode cX6_leastEnds 68 = .ok (.ireturn, 1) := by decide +kernel
set_option maxRecDepth 100000 in
theorem ggX6_allWeights_X2_together : GoodIn wsX6_allWeights wsX2_together := goodIn_r _ [6, 7, 23, 24, 25, 26, 27, 28, 29] rfl (by decide +kernel)
set_option maxRecDepth 100000 in
theorem gX6_allWeights_X2_together_n112 : GoodIn wsX6_allWeights (wsX2_together) := ggX6_allWeights_X2_together
theorem dX6_allWeights_0 : decode cX6_allWeights 0 = .ok (.iconst 0, 1) := by decide +kernel
theorem dX6_allWeights_1 : decode cX6_allWeights 1 = .ok (.istore_n 1, 1) := by decide +kernel
theorem dX6_allWeights_2 : decode cX6_allWeights 2 = .ok (.iconst 0, 1) := by decide +kernel
theorem dX6_allWeights_3 : decode cX6_allWeights 3 = .ok (.istore_n 2, 1) := by decide +kernel
theorem dX6_allWeights_4 : decode cX6_allWeights 4 = .ok (.iload_n 2, 1) := by decide +kernel
theorem dX6_allWeights_5 : decode cX6_allWeights 5 = .ok (.aload_n 0, 1) := by decide +kernel
theorem dX6_allWeights_6 : decode cX6_allWeights 6 = .ok (.getfield 15, 3) := by decide +kernel
theorem dX6_allWeights_9 : decode cX6_allWeights 9 = .ok (.if_icmp .ge 21, 3) := by decide +kernel
theorem dX6_allWeights_12 : decode cX6_allWeights 12 = .ok (.iload_n 1, 1) := by decide +kernel
theorem dX6_allWeights_13 : decode cX6_allWeights 13 = .ok (.aload_n 0, 1) := by decide +kernel
theorem dX6_allWeights_14 : decode cX6_allWeights 14 = .ok (.getfield 11, 3) := by decide +kernel
theorem dX6_allWeights_17 : decode cX6_allWeights 17 = .ok (.iload_n 2, 1) := by decide +kernel
theorem dX6_allWeights_18 : decode cX6_allWeights 18 = .ok (.aaload, 1) := by decide +kernel
theorem dX6_allWeights_19 : decode cX6_allWeights 19 = .ok (.invokevirtual 112, 3) := by decide +kernel
theorem dX6_allWeights_22 : decode cX6_allWeights 22 = .ok (.iadd, 1) := by decide +kernel
theorem dX6_allWeights_23 : decode cX6_allWeights 23 = .ok (.istore_n 1, 1) := by decide +kernel
theorem dX6_allWeights_24 : decode cX6_allWeights 24 = .ok (.iinc 2 1, 3) := by decide +kernel
theorem dX6_allWeights_27 : decode cX6_allWeights 27 = .ok (.goto (-23), 3) := by decide +kernel
theorem dX6_allWeights_30 : decode cX6_allWeights 30 = .ok (.iload_n 1, 1) := by decide +kernel
theorem dX6_allWeights_31 : decode cX6_allWeights 31 = .ok (.ireturn, 1) := by decide +kernel
theorem dX6_allClasses_0 : decode cX6_allClasses 0 = .ok (.iconst 0, 1) := by decide +kernel
theorem dX6_allClasses_1 : decode cX6_allClasses 1 = .ok (.istore_n 1, 1) := by decide +kernel
theorem dX6_allClasses_2 : decode cX6_allClasses 2 = .ok (.iconst 0, 1) := by decide +kernel
theorem dX6_allClasses_3 : decode cX6_allClasses 3 = .ok (.istore_n 2, 1) := by decide +kernel
theorem dX6_allClasses_4 : decode cX6_allClasses 4 = .ok (.iload_n 2, 1) := by decide +kernel
theorem dX6_allClasses_5 : decode cX6_allClasses 5 = .ok (.aload_n 0, 1) := by decide +kernel
theorem dX6_allClasses_6 : decode cX6_allClasses 6 = .ok (.getfield 15, 3) := by decide +kernel
theorem dX6_allClasses_9 : decode cX6_allClasses 9 = .ok (.if_icmp .ge 21, 3) := by decide +kernel
theorem dX6_allClasses_12 : decode cX6_allClasses 12 = .ok (.iload_n 1, 1) := by decide +kernel
theorem dX6_allClasses_13 : decode cX6_allClasses 13 = .ok (.aload_n 0, 1) := by decide +kernel
theorem dX6_allClasses_14 : decode cX6_allClasses 14 = .ok (.getfield 11, 3) := by decide +kernel
theorem dX6_allClasses_17 : decode cX6_allClasses 17 = .ok (.iload_n 2, 1) := by decide +kernel
theorem dX6_allClasses_18 : decode cX6_allClasses 18 = .ok (.aaload, 1) := by decide +kernel
theorem dX6_allClasses_19 : decode cX6_allClasses 19 = .ok (.getfield 122, 3) := by decide +kernel
theorem dX6_allClasses_22 : decode cX6_allClasses 22 = .ok (.iadd, 1) := by decide +kernel
theorem dX6_allClasses_23 : decode cX6_allClasses 23 = .ok (.istore_n 1, 1) := by decide +kernel
theorem dX6_allClasses_24 : decode cX6_allClasses 24 = .ok (.iinc 2 1, 3) := by decide +kernel
theorem dX6_allClasses_27 : decode cX6_allClasses 27 = .ok (.goto (-23), 3) := by decide +kernel
theorem dX6_allClasses_30 : decode cX6_allClasses 30 = .ok (.iload_n 1, 1) := by decide +kernel
theorem dX6_allClasses_31 : decode cX6_allClasses 31 = .ok (.ireturn, 1) := by decide +kernel
theorem dX6_grown_0 : decode cX6_grown 0 = .ok (.lload_n 0, 1) := by decide +kernel
theorem dX6_grown_1 : decode cX6_grown 1 = .ok (.lstore_n 3, 1) := by decide +kernel
theorem dX6_grown_2 : decode cX6_grown 2 = .ok (.iconst 0, 1) := by decide +kernel
theorem dX6_grown_3 : decode cX6_grown 3 = .ok (.istore 5, 2) := by decide +kernel
theorem dX6_grown_5 : decode cX6_grown 5 = .ok (.iload 5, 2) := by decide +kernel
theorem dX6_grown_7 : decode cX6_grown 7 = .ok (.iload_n 2, 1) := by decide +kernel
theorem dX6_grown_8 : decode cX6_grown 8 = .ok (.if_icmp .ge 21, 3) := by decide +kernel
theorem dX6_grown_11 : decode cX6_grown 11 = .ok (.iload 5, 2) := by decide +kernel
theorem dX6_grown_13 : decode cX6_grown 13 = .ok (.iconst 5, 1) := by decide +kernel
theorem dX6_grown_14 : decode cX6_grown 14 = .ok (.if_icmp .ge 15, 3) := by decide +kernel
theorem dX6_grown_17 : decode cX6_grown 17 = .ok (.lload_n 3, 1) := by decide +kernel
theorem dX6_grown_18 : decode cX6_grown 18 = .ok (.ldc2_w 289, 3) := by decide +kernel
theorem dX6_grown_21 : decode cX6_grown 21 = .ok (.lmul, 1) := by decide +kernel
theorem dX6_grown_22 : decode cX6_grown 22 = .ok (.lstore_n 3, 1) := by decide +kernel
theorem dX6_grown_23 : decode cX6_grown 23 = .ok (.iinc 5 1, 3) := by decide +kernel
theorem dX6_grown_26 : decode cX6_grown 26 = .ok (.goto (-21), 3) := by decide +kernel
theorem dX6_grown_29 : decode cX6_grown 29 = .ok (.lload_n 3, 1) := by decide +kernel
theorem dX6_grown_30 : decode cX6_grown 30 = .ok (.lreturn, 1) := by decide +kernel
set_option maxRecDepth 100000 in
theorem ggX6_lowest_X6_common : GoodIn wsX6_lowest wsX6_common := goodIn_r _ [8] rfl (by decide +kernel)
set_option maxRecDepth 100000 in
theorem gX6_lowest_X6_common : GoodIn wsX6_lowest (va_wsS RX6 295 yX6_common wsX6_common) := goodIn_app (goodIn_of _ (by decide +kernel)) ggX6_lowest_X6_common
theorem dX6_lowest_0 : decode cX6_lowest 0 = .ok (.lload_n 0, 1) := by decide +kernel
theorem dX6_lowest_1 : decode cX6_lowest 1 = .ok (.lconst 0, 1) := by decide +kernel
theorem dX6_lowest_2 : decode cX6_lowest 2 = .ok (.lcmp, 1) := by decide +kernel
theorem dX6_lowest_3 : decode cX6_lowest 3 = .ok (.ifCond .eq 9, 3) := by decide +kernel
theorem dX6_lowest_6 : decode cX6_lowest 6 = .ok (.lload_n 2, 1) := by decide +kernel
theorem dX6_lowest_7 : decode cX6_lowest 7 = .ok (.lconst 0, 1) := by decide +kernel
theorem dX6_lowest_8 : decode cX6_lowest 8 = .ok (.lcmp, 1) := by decide +kernel
theorem dX6_lowest_9 : decode cX6_lowest 9 = .ok (.ifCond .ne 14, 3) := by decide +kernel
theorem dX6_lowest_12 : decode cX6_lowest 12 = .ok (.iload 4, 2) := by decide +kernel
theorem dX6_lowest_14 : decode cX6_lowest 14 = .ok (.ifCond .ne 7, 3) := by decide +kernel
theorem dX6_lowest_17 : decode cX6_lowest 17 = .ok (.lconst 0, 1) := by decide +kernel
theorem dX6_lowest_18 : decode cX6_lowest 18 = .ok (.goto 4, 3) := by decide +kernel
theorem dX6_lowest_21 : decode cX6_lowest 21 = .ok (.lconst 1, 1) := by decide +kernel
theorem dX6_lowest_22 : decode cX6_lowest 22 = .ok (.lreturn, 1) := by decide +kernel
theorem dX6_lowest_23 : decode cX6_lowest 23 = .ok (.lload_n 0, 1) := by decide +kernel
theorem dX6_lowest_24 : decode cX6_lowest 24 = .ok (.invokestatic 291, 3) := by decide +kernel
theorem dX6_lowest_27 : decode cX6_lowest 27 = .ok (.lload_n 2, 1) := by decide +kernel
theorem dX6_lowest_28 : decode cX6_lowest 28 = .ok (.invokestatic 295, 3) := by decide +kernel
theorem dX6_lowest_31 : decode cX6_lowest 31 = .ok (.lstore 5, 2) := by decide +kernel
theorem dX6_lowest_33 : decode cX6_lowest 33 = .ok (.lload 5, 2) := by decide +kernel
theorem dX6_lowest_35 : decode cX6_lowest 35 = .ok (.lconst 0, 1) := by decide +kernel
theorem dX6_lowest_36 : decode cX6_lowest 36 = .ok (.lcmp, 1) := by decide +kernel
theorem dX6_lowest_37 : decode cX6_lowest 37 = .ok (.ifCond .ne 7, 3) := by decide +kernel
theorem dX6_lowest_40 : decode cX6_lowest 40 = .ok (.lconst 0, 1) := by decide +kernel
theorem dX6_lowest_41 : decode cX6_lowest 41 = .ok (.goto 16, 3) := by decide +kernel
theorem dX6_lowest_44 : decode cX6_lowest 44 = .ok (.iload 4, 2) := by decide +kernel
theorem dX6_lowest_46 : decode cX6_lowest 46 = .ok (.ifCond .ne 7, 3) := by decide +kernel
theorem dX6_lowest_49 : decode cX6_lowest 49 = .ok (.lload_n 0, 1) := by decide +kernel
theorem dX6_lowest_50 : decode cX6_lowest 50 = .ok (.goto 4, 3) := by decide +kernel
theorem dX6_lowest_53 : decode cX6_lowest 53 = .ok (.lload_n 2, 1) := by decide +kernel
theorem dX6_lowest_54 : decode cX6_lowest 54 = .ok (.lload 5, 2) := by decide +kernel
theorem dX6_lowest_56 : decode cX6_lowest 56 = .ok (.ldiv, 1) := by decide +kernel
theorem dX6_lowest_57 : decode cX6_lowest 57 = .ok (.lreturn, 1) := by decide +kernel
theorem dX6_common_0 : decode cX6_common 0 = .ok (.lload_n 0, 1) := by decide +kernel
theorem dX6_common_1 : decode cX6_common 1 = .ok (.lstore 4, 2) := by decide +kernel
theorem dX6_common_3 : decode cX6_common 3 = .ok (.lload_n 2, 1) := by decide +kernel
theorem dX6_common_4 : decode cX6_common 4 = .ok (.lstore 6, 2) := by decide +kernel
theorem dX6_common_6 : decode cX6_common 6 = .ok (.iconst 0, 1) := by decide +kernel
theorem dX6_common_7 : decode cX6_common 7 = .ok (.istore 8, 2) := by decide +kernel
theorem dX6_common_9 : decode cX6_common 9 = .ok (.iload 8, 2) := by decide +kernel
theorem dX6_common_11 : decode cX6_common 11 = .ok (.bipush 100, 2) := by decide +kernel
theorem dX6_common_13 : decode cX6_common 13 = .ok (.if_icmp .ge 31, 3) := by decide +kernel
theorem dX6_common_16 : decode cX6_common 16 = .ok (.lload 6, 2) := by decide +kernel
theorem dX6_common_18 : decode cX6_common 18 = .ok (.lconst 0, 1) := by decide +kernel
theorem dX6_common_19 : decode cX6_common 19 = .ok (.lcmp, 1) := by decide +kernel
theorem dX6_common_20 : decode cX6_common 20 = .ok (.ifCond .eq 24, 3) := by decide +kernel
theorem dX6_common_23 : decode cX6_common 23 = .ok (.lload 4, 2) := by decide +kernel
theorem dX6_common_25 : decode cX6_common 25 = .ok (.lload 6, 2) := by decide +kernel
theorem dX6_common_27 : decode cX6_common 27 = .ok (.lrem, 1) := by decide +kernel
theorem dX6_common_28 : decode cX6_common 28 = .ok (.lstore 9, 2) := by decide +kernel
theorem dX6_common_30 : decode cX6_common 30 = .ok (.lload 6, 2) := by decide +kernel
theorem dX6_common_32 : decode cX6_common 32 = .ok (.lstore 4, 2) := by decide +kernel
theorem dX6_common_34 : decode cX6_common 34 = .ok (.lload 9, 2) := by decide +kernel
theorem dX6_common_36 : decode cX6_common 36 = .ok (.lstore 6, 2) := by decide +kernel
theorem dX6_common_38 : decode cX6_common 38 = .ok (.iinc 8 1, 3) := by decide +kernel
theorem dX6_common_41 : decode cX6_common 41 = .ok (.goto (-32), 3) := by decide +kernel
theorem dX6_common_44 : decode cX6_common 44 = .ok (.lload 4, 2) := by decide +kernel
theorem dX6_common_46 : decode cX6_common 46 = .ok (.lreturn, 1) := by decide +kernel
theorem dX7_in_0 : decode cX7_in 0 = .ok (.iload_n 1, 1) := by decide +kernel
theorem dX7_in_1 : decode cX7_in 1 = .ok (.iload_n 2, 1) := by decide +kernel
theorem dX7_in_2 : decode cX7_in 2 = .ok (.if_icmp .lt 12, 3) := by decide +kernel
theorem dX7_in_5 : decode cX7_in 5 = .ok (.iload_n 1, 1) := by decide +kernel
theorem dX7_in_6 : decode cX7_in 6 = .ok (.iload_n 3, 1) := by decide +kernel
theorem dX7_in_7 : decode cX7_in 7 = .ok (.if_icmp .gt 7, 3) := by decide +kernel
theorem dX7_in_10 : decode cX7_in 10 = .ok (.iconst 1, 1) := by decide +kernel
theorem dX7_in_11 : decode cX7_in 11 = .ok (.goto 4, 3) := by decide +kernel
theorem dX7_in_14 : decode cX7_in 14 = .ok (.iconst 0, 1) := by decide +kernel
theorem dX7_in_15 : decode cX7_in 15 = .ok (.ireturn, 1) := by decide +kernel
set_option maxRecDepth 100000 in
theorem ggX7_isPupil_X7_in : GoodIn wsX7_isPupil wsX7_in := goodIn_r _ [6] rfl (by decide +kernel)
set_option maxRecDepth 100000 in
theorem gX7_isPupil_X7_in : GoodIn wsX7_isPupil (wsV RX7 7 RX7 yX7_in wsX7_in) := goodIn_app (goodIn_of _ (by decide +kernel)) ggX7_isPupil_X7_in
theorem dX7_isPupil_0 : decode cX7_isPupil 0 = .ok (.aload_n 0, 1) := by decide +kernel
theorem dX7_isPupil_1 : decode cX7_isPupil 1 = .ok (.iload_n 1, 1) := by decide +kernel
theorem dX7_isPupil_2 : decode cX7_isPupil 2 = .ok (.iconst 0, 1) := by decide +kernel
theorem dX7_isPupil_3 : decode cX7_isPupil 3 = .ok (.aload_n 0, 1) := by decide +kernel
theorem dX7_isPupil_4 : decode cX7_isPupil 4 = .ok (.getfield 1, 3) := by decide +kernel
theorem dX7_isPupil_7 : decode cX7_isPupil 7 = .ok (.iconst 1, 1) := by decide +kernel
theorem dX7_isPupil_8 : decode cX7_isPupil 8 = .ok (.isub, 1) := by decide +kernel
theorem dX7_isPupil_9 : decode cX7_isPupil 9 = .ok (.invokevirtual 7, 3) := by decide +kernel
theorem dX7_isPupil_12 : decode cX7_isPupil 12 = .ok (.ireturn, 1) := by decide +kernel
set_option maxRecDepth 100000 in
theorem ggX7_isNew_X7_in : GoodIn wsX7_isNew wsX7_in := goodIn_r _ [5] rfl (by decide +kernel)
set_option maxRecDepth 100000 in
theorem gX7_isNew_X7_in : GoodIn wsX7_isNew (wsV RX7 7 RX7 yX7_in wsX7_in) := goodIn_app (goodIn_of _ (by decide +kernel)) ggX7_isNew_X7_in
theorem dX7_isNew_0 : decode cX7_isNew 0 = .ok (.aload_n 0, 1) := by decide +kernel
theorem dX7_isNew_1 : decode cX7_isNew 1 = .ok (.iload_n 1, 1) := by decide +kernel
theorem dX7_isNew_2 : decode cX7_isNew 2 = .ok (.iconst 0, 1) := by decide +kernel
theorem dX7_isNew_3 : decode cX7_isNew 3 = .ok (.iconst 5, 1) := by decide +kernel
theorem dX7_isNew_4 : decode cX7_isNew 4 = .ok (.invokevirtual 7, 3) := by decide +kernel
theorem dX7_isNew_7 : decode cX7_isNew 7 = .ok (.ifCond .eq 30, 3) := by decide +kernel
theorem dX7_isNew_10 : decode cX7_isNew 10 = .ok (.aload_n 0, 1) := by decide +kernel
theorem dX7_isNew_11 : decode cX7_isNew 11 = .ok (.iload_n 2, 1) := by decide +kernel
theorem dX7_isNew_12 : decode cX7_isNew 12 = .ok (.iconst 0, 1) := by decide +kernel
theorem dX7_isNew_13 : decode cX7_isNew 13 = .ok (.sipush 439, 3) := by decide +kernel
theorem dX7_isNew_16 : decode cX7_isNew 16 = .ok (.invokevirtual 7, 3) := by decide +kernel
theorem dX7_isNew_19 : decode cX7_isNew 19 = .ok (.ifCond .eq 18, 3) := by decide +kernel
theorem dX7_isNew_22 : decode cX7_isNew 22 = .ok (.iload_n 2, 1) := by decide +kernel
theorem dX7_isNew_23 : decode cX7_isNew 23 = .ok (.bipush 10, 2) := by decide +kernel
theorem dX7_isNew_25 : decode cX7_isNew 25 = .ok (.idiv, 1) := by decide +kernel
theorem dX7_isNew_26 : decode cX7_isNew 26 = .ok (.bipush 10, 2) := by decide +kernel
theorem dX7_isNew_28 : decode cX7_isNew 28 = .ok (.irem, 1) := by decide +kernel
theorem dX7_isNew_29 : decode cX7_isNew 29 = .ok (.iconst 4, 1) := by decide +kernel
theorem dX7_isNew_30 : decode cX7_isNew 30 = .ok (.if_icmp .ge 7, 3) := by decide +kernel
theorem dX7_isNew_33 : decode cX7_isNew 33 = .ok (.iconst 1, 1) := by decide +kernel
theorem dX7_isNew_34 : decode cX7_isNew 34 = .ok (.goto 4, 3) := by decide +kernel
theorem dX7_isNew_37 : decode cX7_isNew 37 = .ok (.iconst 0, 1) := by decide +kernel
theorem dX7_isNew_38 : decode cX7_isNew 38 = .ok (.ireturn, 1) := by decide +kernel
theorem dX7_comes_0 : decode cX7_comes 0 = .ok (.aload_n 0, 1) := by decide +kernel
theorem dX7_comes_1 : decode cX7_comes 1 = .ok (.getfield 11, 3) := by decide +kernel
theorem dX7_comes_4 : decode cX7_comes 4 = .ok (.aload_n 0, 1) := by decide +kernel
theorem dX7_comes_5 : decode cX7_comes 5 = .ok (.getfield 1, 3) := by decide +kernel
theorem dX7_comes_8 : decode cX7_comes 8 = .ok (.iload_n 1, 1) := by decide +kernel
theorem dX7_comes_9 : decode cX7_comes 9 = .ok (.iastore, 1) := by decide +kernel
theorem dX7_comes_10 : decode cX7_comes 10 = .ok (.aload_n 0, 1) := by decide +kernel
theorem dX7_comes_11 : decode cX7_comes 11 = .ok (.getfield 15, 3) := by decide +kernel
theorem dX7_comes_14 : decode cX7_comes 14 = .ok (.aload_n 0, 1) := by decide +kernel
theorem dX7_comes_15 : decode cX7_comes 15 = .ok (.getfield 1, 3) := by decide +kernel
theorem dX7_comes_18 : decode cX7_comes 18 = .ok (.iload_n 2, 1) := by decide +kernel
theorem dX7_comes_19 : decode cX7_comes 19 = .ok (.bipush 100, 2) := by decide +kernel
theorem dX7_comes_21 : decode cX7_comes 21 = .ok (.idiv, 1) := by decide +kernel
theorem dX7_comes_22 : decode cX7_comes 22 = .ok (.iastore, 1) := by decide +kernel
theorem dX7_comes_23 : decode cX7_comes 23 = .ok (.aload_n 0, 1) := by decide +kernel
theorem dX7_comes_24 : decode cX7_comes 24 = .ok (.getfield 18, 3) := by decide +kernel
theorem dX7_comes_27 : decode cX7_comes 27 = .ok (.aload_n 0, 1) := by decide +kernel
theorem dX7_comes_28 : decode cX7_comes 28 = .ok (.getfield 1, 3) := by decide +kernel
theorem dX7_comes_31 : decode cX7_comes 31 = .ok (.iload_n 2, 1) := by decide +kernel
theorem dX7_comes_32 : decode cX7_comes 32 = .ok (.bipush 10, 2) := by decide +kernel
theorem dX7_comes_34 : decode cX7_comes 34 = .ok (.idiv, 1) := by decide +kernel
theorem dX7_comes_35 : decode cX7_comes 35 = .ok (.bipush 10, 2) := by decide +kernel
theorem dX7_comes_37 : decode cX7_comes 37 = .ok (.irem, 1) := by decide +kernel
theorem dX7_comes_38 : decode cX7_comes 38 = .ok (.iastore, 1) := by decide +kernel
theorem dX7_comes_39 : decode cX7_comes 39 = .ok (.aload_n 0, 1) := by decide +kernel
theorem dX7_comes_40 : decode cX7_comes 40 = .ok (.getfield 21, 3) := by decide +kernel
theorem dX7_comes_43 : decode cX7_comes 43 = .ok (.aload_n 0, 1) := by decide +kernel
theorem dX7_comes_44 : decode cX7_comes 44 = .ok (.getfield 1, 3) := by decide +kernel
theorem dX7_comes_47 : decode cX7_comes 47 = .ok (.iload_n 2, 1) := by decide +kernel
theorem dX7_comes_48 : decode cX7_comes 48 = .ok (.bipush 10, 2) := by decide +kernel
theorem dX7_comes_50 : decode cX7_comes 50 = .ok (.irem, 1) := by decide +kernel
theorem dX7_comes_51 : decode cX7_comes 51 = .ok (.iastore, 1) := by decide +kernel
theorem dX7_comes_52 : decode cX7_comes 52 = .ok (.iconst 0, 1) := by decide +kernel
theorem dX7_comes_53 : decode cX7_comes 53 = .ok (.istore_n 3, 1) := by decide +kernel
theorem dX7_comes_54 : decode cX7_comes 54 = .ok (.iload_n 3, 1) := by decide +kernel
theorem dX7_comes_55 : decode cX7_comes 55 = .ok (.iconst 5, 1) := by decide +kernel
theorem dX7_comes_56 : decode cX7_comes 56 = .ok (.if_icmp .ge 31, 3) := by decide +kernel
theorem dX7_comes_59 : decode cX7_comes 59 = .ok (.aload_n 0, 1) := by decide +kernel
theorem dX7_comes_60 : decode cX7_comes 60 = .ok (.getfield 24, 3) := by decide +kernel
theorem dX7_comes_63 : decode cX7_comes 63 = .ok (.iconst 5, 1) := by decide +kernel
theorem dX7_comes_64 : decode cX7_comes 64 = .ok (.aload_n 0, 1) := by decide +kernel
theorem dX7_comes_65 : decode cX7_comes 65 = .ok (.getfield 1, 3) := by decide +kernel
theorem dX7_comes_68 : decode cX7_comes 68 = .ok (.imul, 1) := by decide +kernel
theorem dX7_comes_69 : decode cX7_comes 69 = .ok (.iload_n 3, 1) := by decide +kernel
theorem dX7_comes_70 : decode cX7_comes 70 = .ok (.iadd, 1) := by decide +kernel
theorem dX7_comes_71 : decode cX7_comes 71 = .ok (.iload_n 3, 1) := by decide +kernel
theorem dX7_comes_72 : decode cX7_comes 72 = .ok (.ifCond .ne 7, 3) := by decide +kernel
theorem dX7_comes_75 : decode cX7_comes 75 = .ok (.iconst 1, 1) := by decide +kernel
theorem dX7_comes_76 : decode cX7_comes 76 = .ok (.goto 4, 3) := by decide +kernel
theorem dX7_comes_79 : decode cX7_comes 79 = .ok (.iconst 0, 1) := by decide +kernel
theorem dX7_comes_80 : decode cX7_comes 80 = .ok (.iastore, 1) := by decide +kernel
theorem dX7_comes_81 : decode cX7_comes 81 = .ok (.iinc 3 1, 3) := by decide +kernel
theorem dX7_comes_84 : decode cX7_comes 84 = .ok (.goto (-30), 3) := by decide +kernel
theorem dX7_comes_87 : decode cX7_comes 87 = .ok (.aload_n 0, 1) := by decide +kernel
theorem dX7_comes_88 : decode cX7_comes 88 = .ok (.dup, 1) := by decide +kernel
theorem dX7_comes_89 : decode cX7_comes 89 = .ok (.getfield 1, 3) := by decide +kernel
theorem dX7_comes_92 : decode cX7_comes 92 = .ok (.iconst 1, 1) := by decide +kernel
theorem dX7_comes_93 : decode cX7_comes 93 = .ok (.iadd, 1) := by decide +kernel
theorem dX7_comes_94 : decode cX7_comes 94 = .ok (.putfield 1, 3) := by decide +kernel
theorem dX7_comes_97 : decode cX7_comes 97 = .ok (.return_, 1) := by decide +kernel
set_option maxRecDepth 100000 in
theorem ggX7_pupil_X7_isNew : GoodIn wsX7_pupil wsX7_isNew := goodIn_r _ [6, 7, 8, 9, 5, 10] rfl (by decide +kernel)
set_option maxRecDepth 100000 in
theorem gX7_pupil_X7_isNew : GoodIn wsX7_pupil (wsV RX7 27 RX7 yX7_isNew wsX7_isNew) := goodIn_app (goodIn_of _ (by decide +kernel)) ggX7_pupil_X7_isNew
set_option maxRecDepth 100000 in
theorem ggX7_pupil_X7_comes : GoodIn wsX7_pupil wsX7_comes := goodIn_r _ [14, 15, 1, 16, 17, 18, 19, 20, 21, 22, 23, 24, 25, 26, 27, 28, 29, 30, 31, 32, 33, 34, 35, 36, 37, 38, 39, 40, 41, 42, 43, 44, 45, 46, 47, 48, 49, 50, 51, 52, 53, 54, 55, 56, 57, 58, 59, 60, 61, 62, 63, 64, 65, 66] rfl (by decide +kernel)
set_option maxRecDepth 100000 in
theorem gX7_pupil_X7_comes : GoodIn wsX7_pupil (wsV RX7 31 RX7 yX7_comes wsX7_comes) := goodIn_app (goodIn_of _ (by decide +kernel)) ggX7_pupil_X7_comes
theorem dX7_pupil_0 : decode cX7_pupil 0 = .ok (.aload_n 0, 1) := by decide +kernel
theorem dX7_pupil_1 : decode cX7_pupil 1 = .ok (.iload_n 1, 1) := by decide +kernel
theorem dX7_pupil_2 : decode cX7_pupil 2 = .ok (.iload_n 2, 1) := by decide +kernel
theorem dX7_pupil_3 : decode cX7_pupil 3 = .ok (.invokevirtual 27, 3) := by decide +kernel
theorem dX7_pupil_6 : decode cX7_pupil 6 = .ok (.ifCond .ne 6, 3) := by decide +kernel
theorem dX7_pupil_9 : decode cX7_pupil 9 = .ok (.bipush (-2), 2) := by decide +kernel
theorem dX7_pupil_11 : decode cX7_pupil 11 = .ok (.ireturn, 1) := by decide +kernel
theorem dX7_pupil_12 : decode cX7_pupil 12 = .ok (.aload_n 0, 1) := by decide +kernel
theorem dX7_pupil_13 : decode cX7_pupil 13 = .ok (.getfield 1, 3) := by decide +kernel
theorem dX7_pupil_16 : decode cX7_pupil 16 = .ok (.bipush 8, 2) := by decide +kernel
theorem dX7_pupil_18 : decode cX7_pupil 18 = .ok (.if_icmp .ne 6, 3) := by decide +kernel
theorem dX7_pupil_21 : decode cX7_pupil 21 = .ok (.bipush (-4), 2) := by decide +kernel
theorem dX7_pupil_23 : decode cX7_pupil 23 = .ok (.ireturn, 1) := by decide +kernel
theorem dX7_pupil_24 : decode cX7_pupil 24 = .ok (.aload_n 0, 1) := by decide +kernel
theorem dX7_pupil_25 : decode cX7_pupil 25 = .ok (.iload_n 1, 1) := by decide +kernel
theorem dX7_pupil_26 : decode cX7_pupil 26 = .ok (.iload_n 2, 1) := by decide +kernel
theorem dX7_pupil_27 : decode cX7_pupil 27 = .ok (.invokevirtual 31, 3) := by decide +kernel
theorem dX7_pupil_30 : decode cX7_pupil 30 = .ok (.aload_n 0, 1) := by decide +kernel
theorem dX7_pupil_31 : decode cX7_pupil 31 = .ok (.getfield 1, 3) := by decide +kernel
theorem dX7_pupil_34 : decode cX7_pupil 34 = .ok (.iconst 1, 1) := by decide +kernel
theorem dX7_pupil_35 : decode cX7_pupil 35 = .ok (.isub, 1) := by decide +kernel
theorem dX7_pupil_36 : decode cX7_pupil 36 = .ok (.ireturn, 1) := by decide +kernel
theorem dX7_sumOf_0 : decode cX7_sumOf 0 = .ok (.iconst 0, 1) := by decide +kernel
theorem dX7_sumOf_1 : decode cX7_sumOf 1 = .ok (.istore_n 2, 1) := by decide +kernel
theorem dX7_sumOf_2 : decode cX7_sumOf 2 = .ok (.iconst 0, 1) := by decide +kernel
theorem dX7_sumOf_3 : decode cX7_sumOf 3 = .ok (.istore_n 3, 1) := by decide +kernel
theorem dX7_sumOf_4 : decode cX7_sumOf 4 = .ok (.iload_n 3, 1) := by decide +kernel
theorem dX7_sumOf_5 : decode cX7_sumOf 5 = .ok (.iconst 5, 1) := by decide +kernel
theorem dX7_sumOf_6 : decode cX7_sumOf 6 = .ok (.if_icmp .ge 22, 3) := by decide +kernel
theorem dX7_sumOf_9 : decode cX7_sumOf 9 = .ok (.iload_n 2, 1) := by decide +kernel
theorem dX7_sumOf_10 : decode cX7_sumOf 10 = .ok (.aload_n 0, 1) := by decide +kernel
theorem dX7_sumOf_11 : decode cX7_sumOf 11 = .ok (.getfield 24, 3) := by decide +kernel
theorem dX7_sumOf_14 : decode cX7_sumOf 14 = .ok (.iconst 5, 1) := by decide +kernel
theorem dX7_sumOf_15 : decode cX7_sumOf 15 = .ok (.iload_n 1, 1) := by decide +kernel
theorem dX7_sumOf_16 : decode cX7_sumOf 16 = .ok (.imul, 1) := by decide +kernel
theorem dX7_sumOf_17 : decode cX7_sumOf 17 = .ok (.iload_n 3, 1) := by decide +kernel
theorem dX7_sumOf_18 : decode cX7_sumOf 18 = .ok (.iadd, 1) := by decide +kernel
theorem dX7_sumOf_19 : decode cX7_sumOf 19 = .ok (.iaload, 1) := by decide +kernel
theorem dX7_sumOf_20 : decode cX7_sumOf 20 = .ok (.iadd, 1) := by decide +kernel
theorem dX7_sumOf_21 : decode cX7_sumOf 21 = .ok (.istore_n 2, 1) := by decide +kernel
theorem dX7_sumOf_22 : decode cX7_sumOf 22 = .ok (.iinc 3 1, 3) := by decide +kernel
theorem dX7_sumOf_25 : decode cX7_sumOf 25 = .ok (.goto (-21), 3) := by decide +kernel
theorem dX7_sumOf_28 : decode cX7_sumOf 28 = .ok (.iload_n 2, 1) := by decide +kernel
theorem dX7_sumOf_29 : decode cX7_sumOf 29 = .ok (.ireturn, 1) := by decide +kernel
set_option maxRecDepth 100000 in
theorem ggX7_weigh_X7_isPupil : GoodIn wsX7_weigh wsX7_isPupil := goodIn_r _ [7, 8, 9, 10, 11, 6, 12, 17, 18, 19, 20, 21, 22, 23, 24, 25, 26, 27, 28, 29, 30, 31, 32, 33, 34, 35, 36, 37, 38, 39, 40, 41, 42, 43, 44, 45, 46, 47, 48, 49, 50, 51, 52, 53, 54, 55, 56, 57, 58, 59, 60, 61, 62, 63] rfl (by decide +kernel)
set_option maxRecDepth 100000 in
theorem gX7_weigh_X7_isPupil : GoodIn wsX7_weigh (wsV RX7 35 RX7 yX7_isPupil wsX7_isPupil) := goodIn_app (goodIn_of _ (by decide +kernel)) ggX7_weigh_X7_isPupil
set_option maxRecDepth 100000 in
theorem ggX7_weigh_X7_in : GoodIn wsX7_weigh wsX7_in := goodIn_r _ [12] rfl (by decide +kernel)
set_option maxRecDepth 100000 in
theorem gX7_weigh_X7_in : GoodIn wsX7_weigh (wsV RX7 7 RX7 yX7_in wsX7_in) := goodIn_app (goodIn_of _ (by decide +kernel)) ggX7_weigh_X7_in
set_option maxRecDepth 100000 in
theorem ggX7_weigh_X7_sumOf : GoodIn wsX7_weigh wsX7_sumOf := goodIn_r _ [16, 2, 17, 18, 19, 20, 21, 22, 23, 24, 25, 26, 27, 28, 29, 30, 31, 32, 33, 34, 35, 36, 37, 38, 39, 40, 41, 42, 43, 44, 45, 46, 47, 48, 49, 50, 51, 52, 53, 54, 55, 56, 57, 58, 59, 60, 61, 62, 63] rfl (by decide +kernel)
set_option maxRecDepth 100000 in
theorem gX7_weigh_X7_sumOf : GoodIn wsX7_weigh (wsV RX7 40 RX7 yX7_sumOf wsX7_sumOf) := goodIn_app (goodIn_of _ (by decide +kernel)) ggX7_weigh_X7_sumOf
theorem dX7_weigh_0 : decode cX7_weigh 0 = .ok (.aload_n 0, 1) := by decide +kernel
theorem dX7_weigh_1 : decode cX7_weigh 1 = .ok (.iload_n 1, 1) := by decide +kernel
theorem dX7_weigh_2 : decode cX7_weigh 2 = .ok (.invokevirtual 35, 3) := by decide +kernel
theorem dX7_weigh_5 : decode cX7_weigh 5 = .ok (.ifCond .eq 14, 3) := by decide +kernel
theorem dX7_weigh_8 : decode cX7_weigh 8 = .ok (.aload_n 0, 1) := by decide +kernel
theorem dX7_weigh_9 : decode cX7_weigh 9 = .ok (.iload_n 2, 1) := by decide +kernel
theorem dX7_weigh_10 : decode cX7_weigh 10 = .ok (.iconst 1, 1) := by decide +kernel
theorem dX7_weigh_11 : decode cX7_weigh 11 = .ok (.ldc 39, 2) := by decide +kernel
theorem dX7_weigh_13 : decode cX7_weigh 13 = .ok (.invokevirtual 7, 3) := by decide +kernel
theorem dX7_weigh_16 : decode cX7_weigh 16 = .ok (.ifCond .ne 6, 3) := by decide +kernel
theorem dX7_weigh_19 : decode cX7_weigh 19 = .ok (.bipush (-2), 2) := by decide +kernel
theorem dX7_weigh_21 : decode cX7_weigh 21 = .ok (.ireturn, 1) := by decide +kernel
theorem dX7_weigh_22 : decode cX7_weigh 22 = .ok (.aload_n 0, 1) := by decide +kernel
theorem dX7_weigh_23 : decode cX7_weigh 23 = .ok (.iload_n 1, 1) := by decide +kernel
theorem dX7_weigh_24 : decode cX7_weigh 24 = .ok (.invokevirtual 40, 3) := by decide +kernel
theorem dX7_weigh_27 : decode cX7_weigh 27 = .ok (.istore_n 3, 1) := by decide +kernel
theorem dX7_weigh_28 : decode cX7_weigh 28 = .ok (.iload_n 2, 1) := by decide +kernel
theorem dX7_weigh_29 : decode cX7_weigh 29 = .ok (.istore 4, 2) := by decide +kernel
theorem dX7_weigh_31 : decode cX7_weigh 31 = .ok (.iconst 0, 1) := by decide +kernel
theorem dX7_weigh_32 : decode cX7_weigh 32 = .ok (.istore 5, 2) := by decide +kernel
theorem dX7_weigh_34 : decode cX7_weigh 34 = .ok (.iload 5, 2) := by decide +kernel
theorem dX7_weigh_36 : decode cX7_weigh 36 = .ok (.iconst 5, 1) := by decide +kernel
theorem dX7_weigh_37 : decode cX7_weigh 37 = .ok (.if_icmp .ge 32, 3) := by decide +kernel
theorem dX7_weigh_40 : decode cX7_weigh 40 = .ok (.aload_n 0, 1) := by decide +kernel
theorem dX7_weigh_41 : decode cX7_weigh 41 = .ok (.getfield 24, 3) := by decide +kernel
theorem dX7_weigh_44 : decode cX7_weigh 44 = .ok (.iconst 5, 1) := by decide +kernel
theorem dX7_weigh_45 : decode cX7_weigh 45 = .ok (.iload_n 1, 1) := by decide +kernel
theorem dX7_weigh_46 : decode cX7_weigh 46 = .ok (.imul, 1) := by decide +kernel
theorem dX7_weigh_47 : decode cX7_weigh 47 = .ok (.iload 5, 2) := by decide +kernel
theorem dX7_weigh_49 : decode cX7_weigh 49 = .ok (.iadd, 1) := by decide +kernel
theorem dX7_weigh_50 : decode cX7_weigh 50 = .ok (.iload 4, 2) := by decide +kernel
theorem dX7_weigh_52 : decode cX7_weigh 52 = .ok (.bipush 10, 2) := by decide +kernel
theorem dX7_weigh_54 : decode cX7_weigh 54 = .ok (.irem, 1) := by decide +kernel
theorem dX7_weigh_55 : decode cX7_weigh 55 = .ok (.iastore, 1) := by decide +kernel
theorem dX7_weigh_56 : decode cX7_weigh 56 = .ok (.iload 4, 2) := by decide +kernel
theorem dX7_weigh_58 : decode cX7_weigh 58 = .ok (.bipush 10, 2) := by decide +kernel
theorem dX7_weigh_60 : decode cX7_weigh 60 = .ok (.idiv, 1) := by decide +kernel
theorem dX7_weigh_61 : decode cX7_weigh 61 = .ok (.istore 4, 2) := by decide +kernel
theorem dX7_weigh_63 : decode cX7_weigh 63 = .ok (.iinc 5 1, 3) := by decide +kernel
theorem dX7_weigh_66 : decode cX7_weigh 66 = .ok (.goto (-32), 3) := by decide +kernel
theorem dX7_weigh_69 : decode cX7_weigh 69 = .ok (.iload_n 3, 1) := by decide +kernel
theorem dX7_weigh_70 : decode cX7_weigh 70 = .ok (.ireturn, 1) := by decide +kernel
set_option maxRecDepth 100000 in
theorem ggX7_told_X7_isPupil : GoodIn wsX7_told wsX7_isPupil := goodIn_r _ [10, 11, 12, 13, 14, 9, 15, 16, 17, 18, 19, 20, 21, 22, 23, 24, 25, 26, 27, 28, 29, 30, 31, 32, 33, 34, 35, 36, 37, 38, 39, 40, 41, 42, 43, 44, 45, 46, 47, 48, 49, 50, 51, 52, 53, 54, 55, 56, 57, 58, 59, 60, 61, 62] rfl (by decide +kernel)
set_option maxRecDepth 100000 in
theorem gX7_told_X7_isPupil : GoodIn wsX7_told (wsV RX7 35 RX7 yX7_isPupil wsX7_isPupil) := goodIn_app (goodIn_of _ (by decide +kernel)) ggX7_told_X7_isPupil
set_option maxRecDepth 100000 in
theorem ggX7_told_X7_in : GoodIn wsX7_told wsX7_in := goodIn_r _ [15] rfl (by decide +kernel)
set_option maxRecDepth 100000 in
theorem gX7_told_X7_in : GoodIn wsX7_told (wsV RX7 7 RX7 yX7_in wsX7_in) := goodIn_app (goodIn_of _ (by decide +kernel)) ggX7_told_X7_in
theorem dX7_told_0 : decode cX7_told 0 = .ok (.aload_n 0, 1) := by decide +kernel
theorem dX7_told_1 : decode cX7_told 1 = .ok (.iload_n 1, 1) := by decide +kernel
theorem dX7_told_2 : decode cX7_told 2 = .ok (.invokevirtual 35, 3) := by decide +kernel
theorem dX7_told_5 : decode cX7_told 5 = .ok (.ifCond .eq 14, 3) := by decide +kernel
theorem dX7_told_8 : decode cX7_told 8 = .ok (.aload_n 0, 1) := by decide +kernel
theorem dX7_told_9 : decode cX7_told 9 = .ok (.iload_n 2, 1) := by decide +kernel
theorem dX7_told_10 : decode cX7_told 10 = .ok (.iconst 0, 1) := by decide +kernel
theorem dX7_told_11 : decode cX7_told 11 = .ok (.bipush 8, 2) := by decide +kernel
theorem dX7_told_13 : decode cX7_told 13 = .ok (.invokevirtual 7, 3) := by decide +kernel
theorem dX7_told_16 : decode cX7_told 16 = .ok (.ifCond .ne 6, 3) := by decide +kernel
theorem dX7_told_19 : decode cX7_told 19 = .ok (.bipush (-5), 2) := by decide +kernel
theorem dX7_told_21 : decode cX7_told 21 = .ok (.ireturn, 1) := by decide +kernel
theorem dX7_told_22 : decode cX7_told 22 = .ok (.iload_n 2, 1) := by decide +kernel
theorem dX7_told_23 : decode cX7_told 23 = .ok (.tableswitch 57 0 3 #[29, 36, 43, 50], 29) := by decide +kernel
theorem dX7_told_52 : decode cX7_told 52 = .ok (.aload_n 0, 1) := by decide +kernel
theorem dX7_told_53 : decode cX7_told 53 = .ok (.getfield 11, 3) := by decide +kernel
theorem dX7_told_56 : decode cX7_told 56 = .ok (.iload_n 1, 1) := by decide +kernel
theorem dX7_told_57 : decode cX7_told 57 = .ok (.iaload, 1) := by decide +kernel
theorem dX7_told_58 : decode cX7_told 58 = .ok (.ireturn, 1) := by decide +kernel
theorem dX7_told_59 : decode cX7_told 59 = .ok (.aload_n 0, 1) := by decide +kernel
theorem dX7_told_60 : decode cX7_told 60 = .ok (.getfield 15, 3) := by decide +kernel
theorem dX7_told_63 : decode cX7_told 63 = .ok (.iload_n 1, 1) := by decide +kernel
theorem dX7_told_64 : decode cX7_told 64 = .ok (.iaload, 1) := by decide +kernel
theorem dX7_told_65 : decode cX7_told 65 = .ok (.ireturn, 1) := by decide +kernel
theorem dX7_told_66 : decode cX7_told 66 = .ok (.aload_n 0, 1) := by decide +kernel
theorem dX7_told_67 : decode cX7_told 67 = .ok (.getfield 18, 3) := by decide +kernel
theorem dX7_told_70 : decode cX7_told 70 = .ok (.iload_n 1, 1) := by decide +kernel
theorem dX7_told_71 : decode cX7_told 71 = .ok (.iaload, 1) := by decide +kernel
theorem dX7_told_72 : decode cX7_told 72 = .ok (.ireturn, 1) := by decide +kernel
theorem dX7_told_73 : decode cX7_told 73 = .ok (.aload_n 0, 1) := by decide +kernel
theorem dX7_told_74 : decode cX7_told 74 = .ok (.getfield 21, 3) := by decide +kernel
theorem dX7_told_77 : decode cX7_told 77 = .ok (.iload_n 1, 1) := by decide +kernel
theorem dX7_told_78 : decode cX7_told 78 = .ok (.iaload, 1) := by decide +kernel
theorem dX7_told_79 : decode cX7_told 79 = .ok (.ireturn, 1) := by decide +kernel
theorem dX7_told_80 : decode cX7_told 80 = .ok (.aload_n 0, 1) := by decide +kernel
theorem dX7_told_81 : decode cX7_told 81 = .ok (.getfield 24, 3) := by decide +kernel
theorem dX7_told_84 : decode cX7_told 84 = .ok (.iconst 5, 1) := by decide +kernel
theorem dX7_told_85 : decode cX7_told 85 = .ok (.iload_n 1, 1) := by decide +kernel
theorem dX7_told_86 : decode cX7_told 86 = .ok (.imul, 1) := by decide +kernel
theorem dX7_told_87 : decode cX7_told 87 = .ok (.iload_n 2, 1) := by decide +kernel
theorem dX7_told_88 : decode cX7_told 88 = .ok (.iadd, 1) := by decide +kernel
theorem dX7_told_89 : decode cX7_told 89 = .ok (.iconst 4, 1) := by decide +kernel
theorem dX7_told_90 : decode cX7_told 90 = .ok (.isub, 1) := by decide +kernel
theorem dX7_told_91 : decode cX7_told 91 = .ok (.iaload, 1) := by decide +kernel
theorem dX7_told_92 : decode cX7_told 92 = .ok (.ireturn, 1) := by decide +kernel
set_option maxRecDepth 100000 in
theorem ggX7_init_X7_put : GoodIn wsX7_init wsX7_put := goodIn_r _ [58, 22, 20, 23, 59, 60, 61, 62, 63, 64, 65, 66, 67, 68, 69, 70, 71, 72, 73, 74, 75, 76, 77, 78, 79, 80, 81, 82, 83, 84, 85, 86, 87, 88, 89, 90, 91, 92, 93, 94, 95, 96, 97, 98, 99, 100, 101, 102, 103, 104, 105] rfl (by decide +kernel)
set_option maxRecDepth 100000 in
theorem gX7_init_X7_put : GoodIn wsX7_init (wsV RX7 177 RX7 yX7_put wsX7_put) := goodIn_app (goodIn_of _ (by decide +kernel)) ggX7_init_X7_put
theorem dX7_init_0 : decode cX7_init 0 = .ok (.aload_n 0, 1) := by decide +kernel
theorem dX7_init_1 : decode cX7_init 1 = .ok (.invokespecial 44, 3) := by decide +kernel
theorem dX7_init_4 : decode cX7_init 4 = .ok (.aload_n 0, 1) := by decide +kernel
theorem dX7_init_5 : decode cX7_init 5 = .ok (.iconst 0, 1) := by decide +kernel
theorem dX7_init_6 : decode cX7_init 6 = .ok (.putfield 1, 3) := by decide +kernel
theorem dX7_init_9 : decode cX7_init 9 = .ok (.aload_n 0, 1) := by decide +kernel
theorem dX7_init_10 : decode cX7_init 10 = .ok (.bipush 8, 2) := by decide +kernel
theorem dX7_init_12 : decode cX7_init 12 = .ok (.newarray .int, 2) := by decide +kernel
theorem dX7_init_14 : decode cX7_init 14 = .ok (.putfield 11, 3) := by decide +kernel
theorem dX7_init_17 : decode cX7_init 17 = .ok (.aload_n 0, 1) := by decide +kernel
theorem dX7_init_18 : decode cX7_init 18 = .ok (.bipush 8, 2) := by decide +kernel
theorem dX7_init_20 : decode cX7_init 20 = .ok (.newarray .int, 2) := by decide +kernel
theorem dX7_init_22 : decode cX7_init 22 = .ok (.putfield 15, 3) := by decide +kernel
theorem dX7_init_25 : decode cX7_init 25 = .ok (.aload_n 0, 1) := by decide +kernel
theorem dX7_init_26 : decode cX7_init 26 = .ok (.bipush 8, 2) := by decide +kernel
theorem dX7_init_28 : decode cX7_init 28 = .ok (.newarray .int, 2) := by decide +kernel
theorem dX7_init_30 : decode cX7_init 30 = .ok (.putfield 18, 3) := by decide +kernel
theorem dX7_init_33 : decode cX7_init 33 = .ok (.aload_n 0, 1) := by decide +kernel
theorem dX7_init_34 : decode cX7_init 34 = .ok (.bipush 8, 2) := by decide +kernel
theorem dX7_init_36 : decode cX7_init 36 = .ok (.newarray .int, 2) := by decide +kernel
theorem dX7_init_38 : decode cX7_init 38 = .ok (.putfield 21, 3) := by decide +kernel
theorem dX7_init_41 : decode cX7_init 41 = .ok (.aload_n 0, 1) := by decide +kernel
theorem dX7_init_42 : decode cX7_init 42 = .ok (.bipush 40, 2) := by decide +kernel
theorem dX7_init_44 : decode cX7_init 44 = .ok (.newarray .int, 2) := by decide +kernel
theorem dX7_init_46 : decode cX7_init 46 = .ok (.putfield 24, 3) := by decide +kernel
theorem dX7_init_49 : decode cX7_init 49 = .ok (.aload_n 0, 1) := by decide +kernel
theorem dX7_init_50 : decode cX7_init 50 = .ok (.iconst 0, 1) := by decide +kernel
theorem dX7_init_51 : decode cX7_init 51 = .ok (.putfield 50, 3) := by decide +kernel
theorem dX7_init_54 : decode cX7_init 54 = .ok (.aload_n 0, 1) := by decide +kernel
theorem dX7_init_55 : decode cX7_init 55 = .ok (.iconst 0, 1) := by decide +kernel
theorem dX7_init_56 : decode cX7_init 56 = .ok (.putfield 53, 3) := by decide +kernel
theorem dX7_init_59 : decode cX7_init 59 = .ok (.aload_n 0, 1) := by decide +kernel
theorem dX7_init_60 : decode cX7_init 60 = .ok (.iconst 0, 1) := by decide +kernel
theorem dX7_init_61 : decode cX7_init 61 = .ok (.putfield 56, 3) := by decide +kernel
theorem dX7_init_64 : decode cX7_init 64 = .ok (.aload_n 0, 1) := by decide +kernel
theorem dX7_init_65 : decode cX7_init 65 = .ok (.iconst 0, 1) := by decide +kernel
theorem dX7_init_66 : decode cX7_init 66 = .ok (.putfield 59, 3) := by decide +kernel
theorem dX7_init_69 : decode cX7_init 69 = .ok (.aload_n 0, 1) := by decide +kernel
theorem dX7_init_70 : decode cX7_init 70 = .ok (.iconst 0, 1) := by decide +kernel
theorem dX7_init_71 : decode cX7_init 71 = .ok (.putfield 62, 3) := by decide +kernel
theorem dX7_init_74 : decode cX7_init 74 = .ok (.aload_n 0, 1) := by decide +kernel
theorem dX7_init_75 : decode cX7_init 75 = .ok (.iconst 0, 1) := by decide +kernel
theorem dX7_init_76 : decode cX7_init 76 = .ok (.putfield 65, 3) := by decide +kernel
theorem dX7_init_79 : decode cX7_init 79 = .ok (.aload_n 0, 1) := by decide +kernel
theorem dX7_init_80 : decode cX7_init 80 = .ok (.iconst 0, 1) := by decide +kernel
theorem dX7_init_81 : decode cX7_init 81 = .ok (.putfield 68, 3) := by decide +kernel
theorem dX7_init_84 : decode cX7_init 84 = .ok (.aload_n 0, 1) := by decide +kernel
theorem dX7_init_85 : decode cX7_init 85 = .ok (.iconst 0, 1) := by decide +kernel
theorem dX7_init_86 : decode cX7_init 86 = .ok (.putfield 71, 3) := by decide +kernel
theorem dX7_init_89 : decode cX7_init 89 = .ok (.aload_n 0, 1) := by decide +kernel
theorem dX7_init_90 : decode cX7_init 90 = .ok (.iconst 0, 1) := by decide +kernel
theorem dX7_init_91 : decode cX7_init 91 = .ok (.putfield 74, 3) := by decide +kernel
theorem dX7_init_94 : decode cX7_init 94 = .ok (.aload_n 0, 1) := by decide +kernel
theorem dX7_init_95 : decode cX7_init 95 = .ok (.iconst 0, 1) := by decide +kernel
theorem dX7_init_96 : decode cX7_init 96 = .ok (.putfield 77, 3) := by decide +kernel
theorem dX7_init_99 : decode cX7_init 99 = .ok (.aload_n 0, 1) := by decide +kernel
theorem dX7_init_100 : decode cX7_init 100 = .ok (.sipush 160, 3) := by decide +kernel
theorem dX7_init_103 : decode cX7_init 103 = .ok (.newarray .int, 2) := by decide +kernel
theorem dX7_init_105 : decode cX7_init 105 = .ok (.putfield 80, 3) := by decide +kernel
theorem dX7_init_108 : decode cX7_init 108 = .ok (.aload_n 0, 1) := by decide +kernel
theorem dX7_init_109 : decode cX7_init 109 = .ok (.sipush 2880, 3) := by decide +kernel
theorem dX7_init_112 : decode cX7_init 112 = .ok (.newarray .int, 2) := by decide +kernel
theorem dX7_init_114 : decode cX7_init 114 = .ok (.putfield 83, 3) := by decide +kernel
theorem dX7_init_117 : decode cX7_init 117 = .ok (.aload_n 0, 1) := by decide +kernel
theorem dX7_init_118 : decode cX7_init 118 = .ok (.sipush 2880, 3) := by decide +kernel
theorem dX7_init_121 : decode cX7_init 121 = .ok (.newarray .int, 2) := by decide +kernel
theorem dX7_init_123 : decode cX7_init 123 = .ok (.putfield 86, 3) := by decide +kernel
theorem dX7_init_126 : decode cX7_init 126 = .ok (.aload_n 0, 1) := by decide +kernel
theorem dX7_init_127 : decode cX7_init 127 = .ok (.bipush 18, 2) := by decide +kernel
theorem dX7_init_129 : decode cX7_init 129 = .ok (.newarray .int, 2) := by decide +kernel
theorem dX7_init_131 : decode cX7_init 131 = .ok (.putfield 89, 3) := by decide +kernel
theorem dX7_init_134 : decode cX7_init 134 = .ok (.aload_n 0, 1) := by decide +kernel
theorem dX7_init_135 : decode cX7_init 135 = .ok (.sipush 161, 3) := by decide +kernel
theorem dX7_init_138 : decode cX7_init 138 = .ok (.newarray .int, 2) := by decide +kernel
theorem dX7_init_140 : decode cX7_init 140 = .ok (.putfield 92, 3) := by decide +kernel
theorem dX7_init_143 : decode cX7_init 143 = .ok (.aload_n 0, 1) := by decide +kernel
theorem dX7_init_144 : decode cX7_init 144 = .ok (.sipush 161, 3) := by decide +kernel
theorem dX7_init_147 : decode cX7_init 147 = .ok (.newarray .int, 2) := by decide +kernel
theorem dX7_init_149 : decode cX7_init 149 = .ok (.putfield 95, 3) := by decide +kernel
theorem dX7_init_152 : decode cX7_init 152 = .ok (.aload_n 0, 1) := by decide +kernel
theorem dX7_init_153 : decode cX7_init 153 = .ok (.bipush 6, 2) := by decide +kernel
theorem dX7_init_155 : decode cX7_init 155 = .ok (.newarray .int, 2) := by decide +kernel
theorem dX7_init_157 : decode cX7_init 157 = .ok (.putfield 98, 3) := by decide +kernel
theorem dX7_init_160 : decode cX7_init 160 = .ok (.aload_n 0, 1) := by decide +kernel
theorem dX7_init_161 : decode cX7_init 161 = .ok (.sipush 750, 3) := by decide +kernel
theorem dX7_init_164 : decode cX7_init 164 = .ok (.newarray .int, 2) := by decide +kernel
theorem dX7_init_166 : decode cX7_init 166 = .ok (.putfield 101, 3) := by decide +kernel
theorem dX7_init_169 : decode cX7_init 169 = .ok (.aload_n 0, 1) := by decide +kernel
theorem dX7_init_170 : decode cX7_init 170 = .ok (.sipush 750, 3) := by decide +kernel
theorem dX7_init_173 : decode cX7_init 173 = .ok (.newarray .int, 2) := by decide +kernel
theorem dX7_init_175 : decode cX7_init 175 = .ok (.putfield 104, 3) := by decide +kernel
theorem dX7_init_178 : decode cX7_init 178 = .ok (.aload_n 0, 1) := by decide +kernel
theorem dX7_init_179 : decode cX7_init 179 = .ok (.sipush 150, 3) := by decide +kernel
theorem dX7_init_182 : decode cX7_init 182 = .ok (.newarray .int, 2) := by decide +kernel
theorem dX7_init_184 : decode cX7_init 184 = .ok (.putfield 107, 3) := by decide +kernel
theorem dX7_init_187 : decode cX7_init 187 = .ok (.aload_n 0, 1) := by decide +kernel
theorem dX7_init_188 : decode cX7_init 188 = .ok (.bipush 30, 2) := by decide +kernel
theorem dX7_init_190 : decode cX7_init 190 = .ok (.newarray .long, 2) := by decide +kernel
theorem dX7_init_192 : decode cX7_init 192 = .ok (.putfield 110, 3) := by decide +kernel
theorem dX7_init_195 : decode cX7_init 195 = .ok (.aload_n 0, 1) := by decide +kernel
theorem dX7_init_196 : decode cX7_init 196 = .ok (.bipush 6, 2) := by decide +kernel
theorem dX7_init_198 : decode cX7_init 198 = .ok (.newarray .int, 2) := by decide +kernel
theorem dX7_init_200 : decode cX7_init 200 = .ok (.putfield 114, 3) := by decide +kernel
theorem dX7_init_203 : decode cX7_init 203 = .ok (.aload_n 0, 1) := by decide +kernel
theorem dX7_init_204 : decode cX7_init 204 = .ok (.bipush 6, 2) := by decide +kernel
theorem dX7_init_206 : decode cX7_init 206 = .ok (.newarray .int, 2) := by decide +kernel
theorem dX7_init_208 : decode cX7_init 208 = .ok (.putfield 117, 3) := by decide +kernel
theorem dX7_init_211 : decode cX7_init 211 = .ok (.aload_n 0, 1) := by decide +kernel
theorem dX7_init_212 : decode cX7_init 212 = .ok (.bipush 6, 2) := by decide +kernel
theorem dX7_init_214 : decode cX7_init 214 = .ok (.newarray .boolean, 2) := by decide +kernel
theorem dX7_init_216 : decode cX7_init 216 = .ok (.putfield 120, 3) := by decide +kernel
theorem dX7_init_219 : decode cX7_init 219 = .ok (.aload_n 0, 1) := by decide +kernel
theorem dX7_init_220 : decode cX7_init 220 = .ok (.iconst 0, 1) := by decide +kernel
theorem dX7_init_221 : decode cX7_init 221 = .ok (.putfield 124, 3) := by decide +kernel
theorem dX7_init_224 : decode cX7_init 224 = .ok (.aload_n 0, 1) := by decide +kernel
theorem dX7_init_225 : decode cX7_init 225 = .ok (.lconst 0, 1) := by decide +kernel
theorem dX7_init_226 : decode cX7_init 226 = .ok (.putfield 127, 3) := by decide +kernel
theorem dX7_init_229 : decode cX7_init 229 = .ok (.aload_n 0, 1) := by decide +kernel
theorem dX7_init_230 : decode cX7_init 230 = .ok (.bipush 6, 2) := by decide +kernel
theorem dX7_init_232 : decode cX7_init 232 = .ok (.newarray .int, 2) := by decide +kernel
theorem dX7_init_234 : decode cX7_init 234 = .ok (.putfield 131, 3) := by decide +kernel
theorem dX7_init_237 : decode cX7_init 237 = .ok (.aload_n 0, 1) := by decide +kernel
theorem dX7_init_238 : decode cX7_init 238 = .ok (.bipush 6, 2) := by decide +kernel
theorem dX7_init_240 : decode cX7_init 240 = .ok (.newarray .int, 2) := by decide +kernel
theorem dX7_init_242 : decode cX7_init 242 = .ok (.putfield 134, 3) := by decide +kernel
theorem dX7_init_245 : decode cX7_init 245 = .ok (.aload_n 0, 1) := by decide +kernel
theorem dX7_init_246 : decode cX7_init 246 = .ok (.bipush 6, 2) := by decide +kernel
theorem dX7_init_248 : decode cX7_init 248 = .ok (.newarray .long, 2) := by decide +kernel
theorem dX7_init_250 : decode cX7_init 250 = .ok (.putfield 137, 3) := by decide +kernel
theorem dX7_init_253 : decode cX7_init 253 = .ok (.aload_n 0, 1) := by decide +kernel
theorem dX7_init_254 : decode cX7_init 254 = .ok (.bipush 6, 2) := by decide +kernel
theorem dX7_init_256 : decode cX7_init 256 = .ok (.newarray .long, 2) := by decide +kernel
theorem dX7_init_258 : decode cX7_init 258 = .ok (.putfield 140, 3) := by decide +kernel
theorem dX7_init_261 : decode cX7_init 261 = .ok (.aload_n 0, 1) := by decide +kernel
theorem dX7_init_262 : decode cX7_init 262 = .ok (.bipush 8, 2) := by decide +kernel
theorem dX7_init_264 : decode cX7_init 264 = .ok (.newarray .long, 2) := by decide +kernel
theorem dX7_init_266 : decode cX7_init 266 = .ok (.putfield 143, 3) := by decide +kernel
theorem dX7_init_269 : decode cX7_init 269 = .ok (.aload_n 0, 1) := by decide +kernel
theorem dX7_init_270 : decode cX7_init 270 = .ok (.iconst 5, 1) := by decide +kernel
theorem dX7_init_271 : decode cX7_init 271 = .ok (.newarray .long, 2) := by decide +kernel
theorem dX7_init_273 : decode cX7_init 273 = .ok (.putfield 146, 3) := by decide +kernel
theorem dX7_init_276 : decode cX7_init 276 = .ok (.aload_n 0, 1) := by decide +kernel
theorem dX7_init_277 : decode cX7_init 277 = .ok (.iconst 0, 1) := by decide +kernel
theorem dX7_init_278 : decode cX7_init 278 = .ok (.putfield 149, 3) := by decide +kernel
theorem dX7_init_281 : decode cX7_init 281 = .ok (.aload_n 0, 1) := by decide +kernel
theorem dX7_init_282 : decode cX7_init 282 = .ok (.iconst 0, 1) := by decide +kernel
theorem dX7_init_283 : decode cX7_init 283 = .ok (.putfield 153, 3) := by decide +kernel
theorem dX7_init_286 : decode cX7_init 286 = .ok (.aload_n 0, 1) := by decide +kernel
theorem dX7_init_287 : decode cX7_init 287 = .ok (.iconst 0, 1) := by decide +kernel
theorem dX7_init_288 : decode cX7_init 288 = .ok (.putfield 156, 3) := by decide +kernel
theorem dX7_init_291 : decode cX7_init 291 = .ok (.aload_n 0, 1) := by decide +kernel
theorem dX7_init_292 : decode cX7_init 292 = .ok (.bipush 40, 2) := by decide +kernel
theorem dX7_init_294 : decode cX7_init 294 = .ok (.newarray .int, 2) := by decide +kernel
theorem dX7_init_296 : decode cX7_init 296 = .ok (.putfield 159, 3) := by decide +kernel
theorem dX7_init_299 : decode cX7_init 299 = .ok (.aload_n 0, 1) := by decide +kernel
theorem dX7_init_300 : decode cX7_init 300 = .ok (.bipush 8, 2) := by decide +kernel
theorem dX7_init_302 : decode cX7_init 302 = .ok (.newarray .int, 2) := by decide +kernel
theorem dX7_init_304 : decode cX7_init 304 = .ok (.putfield 162, 3) := by decide +kernel
theorem dX7_init_307 : decode cX7_init 307 = .ok (.aload_n 0, 1) := by decide +kernel
theorem dX7_init_308 : decode cX7_init 308 = .ok (.iconst 4, 1) := by decide +kernel
theorem dX7_init_309 : decode cX7_init 309 = .ok (.newarray .int, 2) := by decide +kernel
theorem dX7_init_311 : decode cX7_init 311 = .ok (.dup, 1) := by decide +kernel
theorem dX7_init_312 : decode cX7_init 312 = .ok (.iconst 0, 1) := by decide +kernel
theorem dX7_init_313 : decode cX7_init 313 = .ok (.iconst (-1), 1) := by decide +kernel
theorem dX7_init_314 : decode cX7_init 314 = .ok (.iastore, 1) := by decide +kernel
theorem dX7_init_315 : decode cX7_init 315 = .ok (.dup, 1) := by decide +kernel
theorem dX7_init_316 : decode cX7_init 316 = .ok (.iconst 1, 1) := by decide +kernel
theorem dX7_init_317 : decode cX7_init 317 = .ok (.iconst (-1), 1) := by decide +kernel
theorem dX7_init_318 : decode cX7_init 318 = .ok (.iastore, 1) := by decide +kernel
theorem dX7_init_319 : decode cX7_init 319 = .ok (.dup, 1) := by decide +kernel
theorem dX7_init_320 : decode cX7_init 320 = .ok (.iconst 2, 1) := by decide +kernel
theorem dX7_init_321 : decode cX7_init 321 = .ok (.iconst (-1), 1) := by decide +kernel
theorem dX7_init_322 : decode cX7_init 322 = .ok (.iastore, 1) := by decide +kernel
theorem dX7_init_323 : decode cX7_init 323 = .ok (.dup, 1) := by decide +kernel
theorem dX7_init_324 : decode cX7_init 324 = .ok (.iconst 3, 1) := by decide +kernel
theorem dX7_init_325 : decode cX7_init 325 = .ok (.iconst (-1), 1) := by decide +kernel
theorem dX7_init_326 : decode cX7_init 326 = .ok (.iastore, 1) := by decide +kernel
theorem dX7_init_327 : decode cX7_init 327 = .ok (.putfield 165, 3) := by decide +kernel
theorem dX7_init_330 : decode cX7_init 330 = .ok (.aload_n 0, 1) := by decide +kernel
theorem dX7_init_331 : decode cX7_init 331 = .ok (.iconst 4, 1) := by decide +kernel
theorem dX7_init_332 : decode cX7_init 332 = .ok (.newarray .int, 2) := by decide +kernel
theorem dX7_init_334 : decode cX7_init 334 = .ok (.putfield 168, 3) := by decide +kernel
theorem dX7_init_337 : decode cX7_init 337 = .ok (.aload_n 0, 1) := by decide +kernel
theorem dX7_init_338 : decode cX7_init 338 = .ok (.sipush 160, 3) := by decide +kernel
theorem dX7_init_341 : decode cX7_init 341 = .ok (.newarray .int, 2) := by decide +kernel
theorem dX7_init_343 : decode cX7_init 343 = .ok (.putfield 171, 3) := by decide +kernel
theorem dX7_init_346 : decode cX7_init 346 = .ok (.aload_n 0, 1) := by decide +kernel
theorem dX7_init_347 : decode cX7_init 347 = .ok (.bipush 40, 2) := by decide +kernel
theorem dX7_init_349 : decode cX7_init 349 = .ok (.newarray .int, 2) := by decide +kernel
theorem dX7_init_351 : decode cX7_init 351 = .ok (.putfield 174, 3) := by decide +kernel
theorem dX7_init_354 : decode cX7_init 354 = .ok (.aload_n 0, 1) := by decide +kernel
theorem dX7_init_355 : decode cX7_init 355 = .ok (.iconst 0, 1) := by decide +kernel
theorem dX7_init_356 : decode cX7_init 356 = .ok (.iconst 5, 1) := by decide +kernel
theorem dX7_init_357 : decode cX7_init 357 = .ok (.invokevirtual 177, 3) := by decide +kernel
theorem dX7_init_360 : decode cX7_init 360 = .ok (.aload_n 0, 1) := by decide +kernel
theorem dX7_init_361 : decode cX7_init 361 = .ok (.iconst 1, 1) := by decide +kernel
theorem dX7_init_362 : decode cX7_init 362 = .ok (.iconst 1, 1) := by decide +kernel
theorem dX7_init_363 : decode cX7_init 363 = .ok (.invokevirtual 177, 3) := by decide +kernel
theorem dX7_init_366 : decode cX7_init 366 = .ok (.aload_n 0, 1) := by decide +kernel
theorem dX7_init_367 : decode cX7_init 367 = .ok (.iconst 1, 1) := by decide +kernel
theorem dX7_init_368 : decode cX7_init 368 = .ok (.iconst 0, 1) := by decide +kernel
theorem dX7_init_369 : decode cX7_init 369 = .ok (.invokevirtual 177, 3) := by decide +kernel
theorem dX7_init_372 : decode cX7_init 372 = .ok (.aload_n 0, 1) := by decide +kernel
theorem dX7_init_373 : decode cX7_init 373 = .ok (.bipush 8, 2) := by decide +kernel
theorem dX7_init_375 : decode cX7_init 375 = .ok (.iconst 0, 1) := by decide +kernel
theorem dX7_init_376 : decode cX7_init 376 = .ok (.invokevirtual 177, 3) := by decide +kernel
theorem dX7_init_379 : decode cX7_init 379 = .ok (.aload_n 0, 1) := by decide +kernel
theorem dX7_init_380 : decode cX7_init 380 = .ok (.iconst 1, 1) := by decide +kernel
theorem dX7_init_381 : decode cX7_init 381 = .ok (.iconst 1, 1) := by decide +kernel
theorem dX7_init_382 : decode cX7_init 382 = .ok (.invokevirtual 177, 3) := by decide +kernel
theorem dX7_init_385 : decode cX7_init 385 = .ok (.aload_n 0, 1) := by decide +kernel
theorem dX7_init_386 : decode cX7_init 386 = .ok (.iconst 1, 1) := by decide +kernel
theorem dX7_init_387 : decode cX7_init 387 = .ok (.iconst 0, 1) := by decide +kernel
theorem dX7_init_388 : decode cX7_init 388 = .ok (.invokevirtual 177, 3) := by decide +kernel
theorem dX7_init_391 : decode cX7_init 391 = .ok (.aload_n 0, 1) := by decide +kernel
theorem dX7_init_392 : decode cX7_init 392 = .ok (.bipush 8, 2) := by decide +kernel
theorem dX7_init_394 : decode cX7_init 394 = .ok (.iconst 0, 1) := by decide +kernel
theorem dX7_init_395 : decode cX7_init 395 = .ok (.invokevirtual 177, 3) := by decide +kernel
theorem dX7_init_398 : decode cX7_init 398 = .ok (.aload_n 0, 1) := by decide +kernel
theorem dX7_init_399 : decode cX7_init 399 = .ok (.bipush 9, 2) := by decide +kernel
theorem dX7_init_401 : decode cX7_init 401 = .ok (.iconst 0, 1) := by decide +kernel
theorem dX7_init_402 : decode cX7_init 402 = .ok (.invokevirtual 177, 3) := by decide +kernel
theorem dX7_init_405 : decode cX7_init 405 = .ok (.aload_n 0, 1) := by decide +kernel
theorem dX7_init_406 : decode cX7_init 406 = .ok (.iconst 0, 1) := by decide +kernel
theorem dX7_init_407 : decode cX7_init 407 = .ok (.iconst 2, 1) := by decide +kernel
theorem dX7_init_408 : decode cX7_init 408 = .ok (.invokevirtual 177, 3) := by decide +kernel
theorem dX7_init_411 : decode cX7_init 411 = .ok (.aload_n 0, 1) := by decide +kernel
theorem dX7_init_412 : decode cX7_init 412 = .ok (.bipush 9, 2) := by decide +kernel
theorem dX7_init_414 : decode cX7_init 414 = .ok (.iconst 0, 1) := by decide +kernel
theorem dX7_init_415 : decode cX7_init 415 = .ok (.invokevirtual 177, 3) := by decide +kernel
theorem dX7_init_418 : decode cX7_init 418 = .ok (.aload_n 0, 1) := by decide +kernel
theorem dX7_init_419 : decode cX7_init 419 = .ok (.bipush 8, 2) := by decide +kernel
theorem dX7_init_421 : decode cX7_init 421 = .ok (.iconst 0, 1) := by decide +kernel
theorem dX7_init_422 : decode cX7_init 422 = .ok (.invokevirtual 177, 3) := by decide +kernel
theorem dX7_init_425 : decode cX7_init 425 = .ok (.aload_n 0, 1) := by decide +kernel
theorem dX7_init_426 : decode cX7_init 426 = .ok (.getfield 89, 3) := by decide +kernel
theorem dX7_init_429 : decode cX7_init 429 = .ok (.iconst 0, 1) := by decide +kernel
theorem dX7_init_430 : decode cX7_init 430 = .ok (.bipush 11, 2) := by decide +kernel
theorem dX7_init_432 : decode cX7_init 432 = .ok (.iastore, 1) := by decide +kernel
theorem dX7_init_433 : decode cX7_init 433 = .ok (.aload_n 0, 1) := by decide +kernel
theorem dX7_init_434 : decode cX7_init 434 = .ok (.sipush 160, 3) := by decide +kernel
theorem dX7_init_437 : decode cX7_init 437 = .ok (.putfield 77, 3) := by decide +kernel
theorem dX7_init_440 : decode cX7_init 440 = .ok (.aload_n 0, 1) := by decide +kernel
theorem dX7_init_441 : decode cX7_init 441 = .ok (.iconst 0, 1) := by decide +kernel
theorem dX7_init_442 : decode cX7_init 442 = .ok (.bipush 8, 2) := by decide +kernel
theorem dX7_init_444 : decode cX7_init 444 = .ok (.invokevirtual 177, 3) := by decide +kernel
theorem dX7_init_447 : decode cX7_init 447 = .ok (.aload_n 0, 1) := by decide +kernel
theorem dX7_init_448 : decode cX7_init 448 = .ok (.iconst 1, 1) := by decide +kernel
theorem dX7_init_449 : decode cX7_init 449 = .ok (.iconst 1, 1) := by decide +kernel
theorem dX7_init_450 : decode cX7_init 450 = .ok (.invokevirtual 177, 3) := by decide +kernel
theorem dX7_init_453 : decode cX7_init 453 = .ok (.aload_n 0, 1) := by decide +kernel
theorem dX7_init_454 : decode cX7_init 454 = .ok (.iconst 0, 1) := by decide +kernel
theorem dX7_init_455 : decode cX7_init 455 = .ok (.iconst 2, 1) := by decide +kernel
theorem dX7_init_456 : decode cX7_init 456 = .ok (.invokevirtual 177, 3) := by decide +kernel
theorem dX7_init_459 : decode cX7_init 459 = .ok (.aload_n 0, 1) := by decide +kernel
theorem dX7_init_460 : decode cX7_init 460 = .ok (.bipush 9, 2) := by decide +kernel
theorem dX7_init_462 : decode cX7_init 462 = .ok (.iconst 0, 1) := by decide +kernel
theorem dX7_init_463 : decode cX7_init 463 = .ok (.invokevirtual 177, 3) := by decide +kernel
theorem dX7_init_466 : decode cX7_init 466 = .ok (.aload_n 0, 1) := by decide +kernel
theorem dX7_init_467 : decode cX7_init 467 = .ok (.bipush 8, 2) := by decide +kernel
theorem dX7_init_469 : decode cX7_init 469 = .ok (.iconst 0, 1) := by decide +kernel
theorem dX7_init_470 : decode cX7_init 470 = .ok (.invokevirtual 177, 3) := by decide +kernel
theorem dX7_init_473 : decode cX7_init 473 = .ok (.aload_n 0, 1) := by decide +kernel
theorem dX7_init_474 : decode cX7_init 474 = .ok (.iconst 1, 1) := by decide +kernel
theorem dX7_init_475 : decode cX7_init 475 = .ok (.iconst 0, 1) := by decide +kernel
theorem dX7_init_476 : decode cX7_init 476 = .ok (.invokevirtual 177, 3) := by decide +kernel
theorem dX7_init_479 : decode cX7_init 479 = .ok (.aload_n 0, 1) := by decide +kernel
theorem dX7_init_480 : decode cX7_init 480 = .ok (.iconst 0, 1) := by decide +kernel
theorem dX7_init_481 : decode cX7_init 481 = .ok (.iconst 2, 1) := by decide +kernel
theorem dX7_init_482 : decode cX7_init 482 = .ok (.invokevirtual 177, 3) := by decide +kernel
theorem dX7_init_485 : decode cX7_init 485 = .ok (.aload_n 0, 1) := by decide +kernel
theorem dX7_init_486 : decode cX7_init 486 = .ok (.bipush 9, 2) := by decide +kernel
theorem dX7_init_488 : decode cX7_init 488 = .ok (.iconst 0, 1) := by decide +kernel
theorem dX7_init_489 : decode cX7_init 489 = .ok (.invokevirtual 177, 3) := by decide +kernel
theorem dX7_init_492 : decode cX7_init 492 = .ok (.aload_n 0, 1) := by decide +kernel
theorem dX7_init_493 : decode cX7_init 493 = .ok (.bipush 7, 2) := by decide +kernel
theorem dX7_init_495 : decode cX7_init 495 = .ok (.iconst 0, 1) := by decide +kernel
theorem dX7_init_496 : decode cX7_init 496 = .ok (.invokevirtual 177, 3) := by decide +kernel
theorem dX7_init_499 : decode cX7_init 499 = .ok (.aload_n 0, 1) := by decide +kernel
theorem dX7_init_500 : decode cX7_init 500 = .ok (.getfield 89, 3) := by decide +kernel
theorem dX7_init_503 : decode cX7_init 503 = .ok (.iconst 1, 1) := by decide +kernel
theorem dX7_init_504 : decode cX7_init 504 = .ok (.bipush 9, 2) := by decide +kernel
theorem dX7_init_506 : decode cX7_init 506 = .ok (.iastore, 1) := by decide +kernel
theorem dX7_init_507 : decode cX7_init 507 = .ok (.aload_n 0, 1) := by decide +kernel
theorem dX7_init_508 : decode cX7_init 508 = .ok (.sipush 320, 3) := by decide +kernel
theorem dX7_init_511 : decode cX7_init 511 = .ok (.putfield 77, 3) := by decide +kernel
theorem dX7_init_514 : decode cX7_init 514 = .ok (.aload_n 0, 1) := by decide +kernel
theorem dX7_init_515 : decode cX7_init 515 = .ok (.iconst 1, 1) := by decide +kernel
theorem dX7_init_516 : decode cX7_init 516 = .ok (.iconst 0, 1) := by decide +kernel
theorem dX7_init_517 : decode cX7_init 517 = .ok (.invokevirtual 177, 3) := by decide +kernel
theorem dX7_init_520 : decode cX7_init 520 = .ok (.aload_n 0, 1) := by decide +kernel
theorem dX7_init_521 : decode cX7_init 521 = .ok (.iconst 0, 1) := by decide +kernel
theorem dX7_init_522 : decode cX7_init 522 = .ok (.bipush 10, 2) := by decide +kernel
theorem dX7_init_524 : decode cX7_init 524 = .ok (.invokevirtual 177, 3) := by decide +kernel
theorem dX7_init_527 : decode cX7_init 527 = .ok (.aload_n 0, 1) := by decide +kernel
theorem dX7_init_528 : decode cX7_init 528 = .ok (.bipush 9, 2) := by decide +kernel
theorem dX7_init_530 : decode cX7_init 530 = .ok (.iconst 0, 1) := by decide +kernel
theorem dX7_init_531 : decode cX7_init 531 = .ok (.invokevirtual 177, 3) := by decide +kernel
theorem dX7_init_534 : decode cX7_init 534 = .ok (.aload_n 0, 1) := by decide +kernel
theorem dX7_init_535 : decode cX7_init 535 = .ok (.getfield 89, 3) := by decide +kernel
theorem dX7_init_538 : decode cX7_init 538 = .ok (.iconst 2, 1) := by decide +kernel
theorem dX7_init_539 : decode cX7_init 539 = .ok (.iconst 3, 1) := by decide +kernel
theorem dX7_init_540 : decode cX7_init 540 = .ok (.iastore, 1) := by decide +kernel
theorem dX7_init_541 : decode cX7_init 541 = .ok (.aload_n 0, 1) := by decide +kernel
theorem dX7_init_542 : decode cX7_init 542 = .ok (.iconst 1, 1) := by decide +kernel
theorem dX7_init_543 : decode cX7_init 543 = .ok (.putfield 50, 3) := by decide +kernel
theorem dX7_init_546 : decode cX7_init 546 = .ok (.return_, 1) := by decide +kernel
set_option maxRecDepth 100000 in
theorem ggX7_feed_X7_in : GoodIn wsX7_feed wsX7_in := goodIn_r _ [8] rfl (by decide +kernel)
set_option maxRecDepth 100000 in
theorem gX7_feed_X7_in : GoodIn wsX7_feed (wsV RX7 7 RX7 yX7_in wsX7_in) := goodIn_app (goodIn_of _ (by decide +kernel)) ggX7_feed_X7_in
theorem dX7_feed_0 : decode cX7_feed 0 = .ok (.aload_n 0, 1) := by decide +kernel
theorem dX7_feed_1 : decode cX7_feed 1 = .ok (.iload_n 1, 1) := by decide +kernel
theorem dX7_feed_2 : decode cX7_feed 2 = .ok (.iconst 1, 1) := by decide +kernel
theorem dX7_feed_3 : decode cX7_feed 3 = .ok (.bipush 8, 2) := by decide +kernel
theorem dX7_feed_5 : decode cX7_feed 5 = .ok (.invokevirtual 7, 3) := by decide +kernel
theorem dX7_feed_8 : decode cX7_feed 8 = .ok (.ifCond .ne 6, 3) := by decide +kernel
theorem dX7_feed_11 : decode cX7_feed 11 = .ok (.bipush (-2), 2) := by decide +kernel
theorem dX7_feed_13 : decode cX7_feed 13 = .ok (.ireturn, 1) := by decide +kernel
theorem dX7_feed_14 : decode cX7_feed 14 = .ok (.aload_n 0, 1) := by decide +kernel
theorem dX7_feed_15 : decode cX7_feed 15 = .ok (.getfield 56, 3) := by decide +kernel
theorem dX7_feed_18 : decode cX7_feed 18 = .ok (.iload_n 1, 1) := by decide +kernel
theorem dX7_feed_19 : decode cX7_feed 19 = .ok (.iadd, 1) := by decide +kernel
theorem dX7_feed_20 : decode cX7_feed 20 = .ok (.sipush 160, 3) := by decide +kernel
theorem dX7_feed_23 : decode cX7_feed 23 = .ok (.if_icmp .le 6, 3) := by decide +kernel
theorem dX7_feed_26 : decode cX7_feed 26 = .ok (.bipush (-4), 2) := by decide +kernel
theorem dX7_feed_28 : decode cX7_feed 28 = .ok (.ireturn, 1) := by decide +kernel
theorem dX7_feed_29 : decode cX7_feed 29 = .ok (.iconst 0, 1) := by decide +kernel
theorem dX7_feed_30 : decode cX7_feed 30 = .ok (.istore 4, 2) := by decide +kernel
theorem dX7_feed_32 : decode cX7_feed 32 = .ok (.iload 4, 2) := by decide +kernel
theorem dX7_feed_34 : decode cX7_feed 34 = .ok (.iload_n 1, 1) := by decide +kernel
theorem dX7_feed_35 : decode cX7_feed 35 = .ok (.if_icmp .ge 40, 3) := by decide +kernel
theorem dX7_feed_38 : decode cX7_feed 38 = .ok (.aload_n 0, 1) := by decide +kernel
theorem dX7_feed_39 : decode cX7_feed 39 = .ok (.getfield 80, 3) := by decide +kernel
theorem dX7_feed_42 : decode cX7_feed 42 = .ok (.aload_n 0, 1) := by decide +kernel
theorem dX7_feed_43 : decode cX7_feed 43 = .ok (.getfield 56, 3) := by decide +kernel
theorem dX7_feed_46 : decode cX7_feed 46 = .ok (.lload_n 2, 1) := by decide +kernel
theorem dX7_feed_47 : decode cX7_feed 47 = .ok (.bipush 8, 2) := by decide +kernel
theorem dX7_feed_49 : decode cX7_feed 49 = .ok (.iload 4, 2) := by decide +kernel
theorem dX7_feed_51 : decode cX7_feed 51 = .ok (.imul, 1) := by decide +kernel
theorem dX7_feed_52 : decode cX7_feed 52 = .ok (.lshr, 1) := by decide +kernel
theorem dX7_feed_53 : decode cX7_feed 53 = .ok (.ldc2_w 180, 3) := by decide +kernel
theorem dX7_feed_56 : decode cX7_feed 56 = .ok (.land, 1) := by decide +kernel
theorem dX7_feed_57 : decode cX7_feed 57 = .ok (.l2i, 1) := by decide +kernel
theorem dX7_feed_58 : decode cX7_feed 58 = .ok (.iastore, 1) := by decide +kernel
theorem dX7_feed_59 : decode cX7_feed 59 = .ok (.aload_n 0, 1) := by decide +kernel
theorem dX7_feed_60 : decode cX7_feed 60 = .ok (.dup, 1) := by decide +kernel
theorem dX7_feed_61 : decode cX7_feed 61 = .ok (.getfield 56, 3) := by decide +kernel
theorem dX7_feed_64 : decode cX7_feed 64 = .ok (.iconst 1, 1) := by decide +kernel
theorem dX7_feed_65 : decode cX7_feed 65 = .ok (.iadd, 1) := by decide +kernel
theorem dX7_feed_66 : decode cX7_feed 66 = .ok (.putfield 56, 3) := by decide +kernel
theorem dX7_feed_69 : decode cX7_feed 69 = .ok (.iinc 4 1, 3) := by decide +kernel
theorem dX7_feed_72 : decode cX7_feed 72 = .ok (.goto (-40), 3) := by decide +kernel
theorem dX7_feed_75 : decode cX7_feed 75 = .ok (.aload_n 0, 1) := by decide +kernel
theorem dX7_feed_76 : decode cX7_feed 76 = .ok (.getfield 56, 3) := by decide +kernel
theorem dX7_feed_79 : decode cX7_feed 79 = .ok (.ireturn, 1) := by decide +kernel
theorem dX7_byteAt_0 : decode cX7_byteAt 0 = .ok (.iload_n 1, 1) := by decide +kernel
theorem dX7_byteAt_1 : decode cX7_byteAt 1 = .ok (.aload_n 0, 1) := by decide +kernel
theorem dX7_byteAt_2 : decode cX7_byteAt 2 = .ok (.getfield 56, 3) := by decide +kernel
theorem dX7_byteAt_5 : decode cX7_byteAt 5 = .ok (.if_icmp .ge 12, 3) := by decide +kernel
theorem dX7_byteAt_8 : decode cX7_byteAt 8 = .ok (.aload_n 0, 1) := by decide +kernel
theorem dX7_byteAt_9 : decode cX7_byteAt 9 = .ok (.getfield 80, 3) := by decide +kernel
theorem dX7_byteAt_12 : decode cX7_byteAt 12 = .ok (.iload_n 1, 1) := by decide +kernel
theorem dX7_byteAt_13 : decode cX7_byteAt 13 = .ok (.iaload, 1) := by decide +kernel
theorem dX7_byteAt_14 : decode cX7_byteAt 14 = .ok (.goto 4, 3) := by decide +kernel
theorem dX7_byteAt_17 : decode cX7_byteAt 17 = .ok (.iconst (-1), 1) := by decide +kernel
theorem dX7_byteAt_18 : decode cX7_byteAt 18 = .ok (.ireturn, 1) := by decide +kernel
set_option maxRecDepth 100000 in
theorem ggX7_isLetter_X7_in : GoodIn wsX7_isLetter wsX7_in := goodIn_r _ [5] rfl (by decide +kernel)
set_option maxRecDepth 100000 in
theorem gX7_isLetter_X7_in : GoodIn wsX7_isLetter (wsV RX7 7 RX7 yX7_in wsX7_in) := goodIn_app (goodIn_of _ (by decide +kernel)) ggX7_isLetter_X7_in
theorem dX7_isLetter_0 : decode cX7_isLetter 0 = .ok (.aload_n 0, 1) := by decide +kernel
theorem dX7_isLetter_1 : decode cX7_isLetter 1 = .ok (.iload_n 1, 1) := by decide +kernel
theorem dX7_isLetter_2 : decode cX7_isLetter 2 = .ok (.bipush 97, 2) := by decide +kernel
theorem dX7_isLetter_4 : decode cX7_isLetter 4 = .ok (.bipush 122, 2) := by decide +kernel
theorem dX7_isLetter_6 : decode cX7_isLetter 6 = .ok (.invokevirtual 7, 3) := by decide +kernel
theorem dX7_isLetter_9 : decode cX7_isLetter 9 = .ok (.ireturn, 1) := by decide +kernel
set_option maxRecDepth 100000 in
theorem ggX7_isDigit_X7_in : GoodIn wsX7_isDigit wsX7_in := goodIn_r _ [5] rfl (by decide +kernel)
set_option maxRecDepth 100000 in
theorem gX7_isDigit_X7_in : GoodIn wsX7_isDigit (wsV RX7 7 RX7 yX7_in wsX7_in) := goodIn_app (goodIn_of _ (by decide +kernel)) ggX7_isDigit_X7_in
theorem dX7_isDigit_0 : decode cX7_isDigit 0 = .ok (.aload_n 0, 1) := by decide +kernel
theorem dX7_isDigit_1 : decode cX7_isDigit 1 = .ok (.iload_n 1, 1) := by decide +kernel
theorem dX7_isDigit_2 : decode cX7_isDigit 2 = .ok (.bipush 48, 2) := by decide +kernel
theorem dX7_isDigit_4 : decode cX7_isDigit 4 = .ok (.bipush 57, 2) := by decide +kernel
theorem dX7_isDigit_6 : decode cX7_isDigit 6 = .ok (.invokevirtual 7, 3) := by decide +kernel
theorem dX7_isDigit_9 : decode cX7_isDigit 9 = .ok (.ireturn, 1) := by decide +kernel
set_option maxRecDepth 100000 in
theorem ggX7_look_X7_byteAt : GoodIn wsX7_look wsX7_byteAt := goodIn_r _ [9, 10, 11, 40, 41, 42, 43, 44, 45, 46, 47, 48, 49, 50, 51, 52, 53, 54, 55, 56, 57, 58, 59, 60, 61, 62, 63, 64, 65, 66, 67, 68, 69, 70, 71, 72, 73, 74, 75, 76, 77, 78, 79, 80, 81, 82, 83, 84, 85, 86] rfl (by decide +kernel)
set_option maxRecDepth 100000 in
theorem gX7_look_X7_byteAt : GoodIn wsX7_look (wsV RX7 182 RX7 yX7_byteAt wsX7_byteAt) := goodIn_app (goodIn_of _ (by decide +kernel)) ggX7_look_X7_byteAt
set_option maxRecDepth 100000 in
theorem ggX7_look_X7_isDigit : GoodIn wsX7_look wsX7_isDigit := goodIn_r _ [15, 16, 17, 18, 8, 19] rfl (by decide +kernel)
set_option maxRecDepth 100000 in
theorem gX7_look_X7_isDigit : GoodIn wsX7_look (wsV RX7 185 RX7 yX7_isDigit wsX7_isDigit) := goodIn_app (goodIn_of _ (by decide +kernel)) ggX7_look_X7_isDigit
set_option maxRecDepth 100000 in
theorem ggX7_look_X7_isLetter : GoodIn wsX7_look wsX7_isLetter := goodIn_r _ [23, 16, 17, 18, 8, 19] rfl (by decide +kernel)
set_option maxRecDepth 100000 in
theorem gX7_look_X7_isLetter : GoodIn wsX7_look (wsV RX7 188 RX7 yX7_isLetter wsX7_isLetter) := goodIn_app (goodIn_of _ (by decide +kernel)) ggX7_look_X7_isLetter
set_option maxRecDepth 100000 in
theorem ggX7_look_X7_nameOf : GoodIn wsX7_look wsX7_nameOf := goodIn_r _ [27, 28, 29, 30, 31, 32, 33] rfl (by decide +kernel)
set_option maxRecDepth 100000 in
theorem gX7_look_X7_nameOf : GoodIn wsX7_look (wsV RX7 191 RX7 yX7_nameOf wsX7_nameOf) := goodIn_app (goodIn_of _ (by decide +kernel)) ggX7_look_X7_nameOf
set_option maxRecDepth 100000 in
theorem ggX7_look_X7_isKey : GoodIn wsX7_look wsX7_isKey := goodIn_r _ [37, 38, 39] rfl (by decide +kernel)
set_option maxRecDepth 100000 in
theorem gX7_look_X7_isKey : GoodIn wsX7_look (wsV RX7 194 RX7 yX7_isKey wsX7_isKey) := goodIn_app (goodIn_of _ (by decide +kernel)) ggX7_look_X7_isKey
theorem dX7_look_0 : decode cX7_look 0 = .ok (.aload_n 0, 1) := by decide +kernel
theorem dX7_look_1 : decode cX7_look 1 = .ok (.aload_n 0, 1) := by decide +kernel
theorem dX7_look_2 : decode cX7_look 2 = .ok (.getfield 59, 3) := by decide +kernel
theorem dX7_look_5 : decode cX7_look 5 = .ok (.invokevirtual 182, 3) := by decide +kernel
theorem dX7_look_8 : decode cX7_look 8 = .ok (.bipush 32, 2) := by decide +kernel
theorem dX7_look_10 : decode cX7_look 10 = .ok (.if_icmp .eq 16, 3) := by decide +kernel
theorem dX7_look_13 : decode cX7_look 13 = .ok (.aload_n 0, 1) := by decide +kernel
theorem dX7_look_14 : decode cX7_look 14 = .ok (.aload_n 0, 1) := by decide +kernel
theorem dX7_look_15 : decode cX7_look 15 = .ok (.getfield 59, 3) := by decide +kernel
theorem dX7_look_18 : decode cX7_look 18 = .ok (.invokevirtual 182, 3) := by decide +kernel
theorem dX7_look_21 : decode cX7_look 21 = .ok (.bipush 10, 2) := by decide +kernel
theorem dX7_look_23 : decode cX7_look 23 = .ok (.if_icmp .ne 16, 3) := by decide +kernel
theorem dX7_look_26 : decode cX7_look 26 = .ok (.aload_n 0, 1) := by decide +kernel
theorem dX7_look_27 : decode cX7_look 27 = .ok (.dup, 1) := by decide +kernel
theorem dX7_look_28 : decode cX7_look 28 = .ok (.getfield 59, 3) := by decide +kernel
theorem dX7_look_31 : decode cX7_look 31 = .ok (.iconst 1, 1) := by decide +kernel
theorem dX7_look_32 : decode cX7_look 32 = .ok (.iadd, 1) := by decide +kernel
theorem dX7_look_33 : decode cX7_look 33 = .ok (.putfield 59, 3) := by decide +kernel
theorem dX7_look_36 : decode cX7_look 36 = .ok (.goto (-36), 3) := by decide +kernel
theorem dX7_look_39 : decode cX7_look 39 = .ok (.aload_n 0, 1) := by decide +kernel
theorem dX7_look_40 : decode cX7_look 40 = .ok (.aload_n 0, 1) := by decide +kernel
theorem dX7_look_41 : decode cX7_look 41 = .ok (.getfield 59, 3) := by decide +kernel
theorem dX7_look_44 : decode cX7_look 44 = .ok (.invokevirtual 182, 3) := by decide +kernel
theorem dX7_look_47 : decode cX7_look 47 = .ok (.istore_n 1, 1) := by decide +kernel
theorem dX7_look_48 : decode cX7_look 48 = .ok (.aload_n 0, 1) := by decide +kernel
theorem dX7_look_49 : decode cX7_look 49 = .ok (.iconst 1, 1) := by decide +kernel
theorem dX7_look_50 : decode cX7_look 50 = .ok (.putfield 68, 3) := by decide +kernel
theorem dX7_look_53 : decode cX7_look 53 = .ok (.aload_n 0, 1) := by decide +kernel
theorem dX7_look_54 : decode cX7_look 54 = .ok (.iconst 0, 1) := by decide +kernel
theorem dX7_look_55 : decode cX7_look 55 = .ok (.putfield 65, 3) := by decide +kernel
theorem dX7_look_58 : decode cX7_look 58 = .ok (.aload_n 0, 1) := by decide +kernel
theorem dX7_look_59 : decode cX7_look 59 = .ok (.iload_n 1, 1) := by decide +kernel
theorem dX7_look_60 : decode cX7_look 60 = .ok (.invokevirtual 185, 3) := by decide +kernel
theorem dX7_look_63 : decode cX7_look 63 = .ok (.ifCond .eq 110, 3) := by decide +kernel
theorem dX7_look_66 : decode cX7_look 66 = .ok (.aload_n 0, 1) := by decide +kernel
theorem dX7_look_67 : decode cX7_look 67 = .ok (.iconst 1, 1) := by decide +kernel
theorem dX7_look_68 : decode cX7_look 68 = .ok (.putfield 62, 3) := by decide +kernel
theorem dX7_look_71 : decode cX7_look 71 = .ok (.aload_n 0, 1) := by decide +kernel
theorem dX7_look_72 : decode cX7_look 72 = .ok (.iconst 0, 1) := by decide +kernel
theorem dX7_look_73 : decode cX7_look 73 = .ok (.putfield 68, 3) := by decide +kernel
theorem dX7_look_76 : decode cX7_look 76 = .ok (.aload_n 0, 1) := by decide +kernel
theorem dX7_look_77 : decode cX7_look 77 = .ok (.aload_n 0, 1) := by decide +kernel
theorem dX7_look_78 : decode cX7_look 78 = .ok (.aload_n 0, 1) := by decide +kernel
theorem dX7_look_79 : decode cX7_look 79 = .ok (.getfield 59, 3) := by decide +kernel
theorem dX7_look_82 : decode cX7_look 82 = .ok (.aload_n 0, 1) := by decide +kernel
theorem dX7_look_83 : decode cX7_look 83 = .ok (.getfield 68, 3) := by decide +kernel
theorem dX7_look_86 : decode cX7_look 86 = .ok (.iadd, 1) := by decide +kernel
theorem dX7_look_87 : decode cX7_look 87 = .ok (.invokevirtual 182, 3) := by decide +kernel
theorem dX7_look_90 : decode cX7_look 90 = .ok (.invokevirtual 185, 3) := by decide +kernel
theorem dX7_look_93 : decode cX7_look 93 = .ok (.ifCond .eq 59, 3) := by decide +kernel
theorem dX7_look_96 : decode cX7_look 96 = .ok (.aload_n 0, 1) := by decide +kernel
theorem dX7_look_97 : decode cX7_look 97 = .ok (.aload_n 0, 1) := by decide +kernel
theorem dX7_look_98 : decode cX7_look 98 = .ok (.getfield 68, 3) := by decide +kernel
theorem dX7_look_101 : decode cX7_look 101 = .ok (.iconst 4, 1) := by decide +kernel
theorem dX7_look_102 : decode cX7_look 102 = .ok (.if_icmp .ge 30, 3) := by decide +kernel
theorem dX7_look_105 : decode cX7_look 105 = .ok (.bipush 10, 2) := by decide +kernel
theorem dX7_look_107 : decode cX7_look 107 = .ok (.aload_n 0, 1) := by decide +kernel
theorem dX7_look_108 : decode cX7_look 108 = .ok (.getfield 65, 3) := by decide +kernel
theorem dX7_look_111 : decode cX7_look 111 = .ok (.imul, 1) := by decide +kernel
theorem dX7_look_112 : decode cX7_look 112 = .ok (.aload_n 0, 1) := by decide +kernel
theorem dX7_look_113 : decode cX7_look 113 = .ok (.aload_n 0, 1) := by decide +kernel
theorem dX7_look_114 : decode cX7_look 114 = .ok (.getfield 59, 3) := by decide +kernel
theorem dX7_look_117 : decode cX7_look 117 = .ok (.aload_n 0, 1) := by decide +kernel
theorem dX7_look_118 : decode cX7_look 118 = .ok (.getfield 68, 3) := by decide +kernel
theorem dX7_look_121 : decode cX7_look 121 = .ok (.iadd, 1) := by decide +kernel
theorem dX7_look_122 : decode cX7_look 122 = .ok (.invokevirtual 182, 3) := by decide +kernel
theorem dX7_look_125 : decode cX7_look 125 = .ok (.iadd, 1) := by decide +kernel
theorem dX7_look_126 : decode cX7_look 126 = .ok (.bipush 48, 2) := by decide +kernel
theorem dX7_look_128 : decode cX7_look 128 = .ok (.isub, 1) := by decide +kernel
theorem dX7_look_129 : decode cX7_look 129 = .ok (.goto 7, 3) := by decide +kernel
theorem dX7_look_132 : decode cX7_look 132 = .ok (.aload_n 0, 1) := by decide +kernel
theorem dX7_look_133 : decode cX7_look 133 = .ok (.getfield 65, 3) := by decide +kernel
theorem dX7_look_136 : decode cX7_look 136 = .ok (.putfield 65, 3) := by decide +kernel
theorem dX7_look_139 : decode cX7_look 139 = .ok (.aload_n 0, 1) := by decide +kernel
theorem dX7_look_140 : decode cX7_look 140 = .ok (.dup, 1) := by decide +kernel
theorem dX7_look_141 : decode cX7_look 141 = .ok (.getfield 68, 3) := by decide +kernel
theorem dX7_look_144 : decode cX7_look 144 = .ok (.iconst 1, 1) := by decide +kernel
theorem dX7_look_145 : decode cX7_look 145 = .ok (.iadd, 1) := by decide +kernel
theorem dX7_look_146 : decode cX7_look 146 = .ok (.putfield 68, 3) := by decide +kernel
theorem dX7_look_149 : decode cX7_look 149 = .ok (.goto (-73), 3) := by decide +kernel
theorem dX7_look_152 : decode cX7_look 152 = .ok (.aload_n 0, 1) := by decide +kernel
theorem dX7_look_153 : decode cX7_look 153 = .ok (.aload_n 0, 1) := by decide +kernel
theorem dX7_look_154 : decode cX7_look 154 = .ok (.getfield 68, 3) := by decide +kernel
theorem dX7_look_157 : decode cX7_look 157 = .ok (.iconst 4, 1) := by decide +kernel
theorem dX7_look_158 : decode cX7_look 158 = .ok (.if_icmp .le 8, 3) := by decide +kernel
theorem dX7_look_161 : decode cX7_look 161 = .ok (.bipush (-2), 2) := by decide +kernel
theorem dX7_look_163 : decode cX7_look 163 = .ok (.goto 4, 3) := by decide +kernel
theorem dX7_look_166 : decode cX7_look 166 = .ok (.iconst 1, 1) := by decide +kernel
theorem dX7_look_167 : decode cX7_look 167 = .ok (.putfield 62, 3) := by decide +kernel
theorem dX7_look_170 : decode cX7_look 170 = .ok (.goto 212, 3) := by decide +kernel
theorem dX7_look_173 : decode cX7_look 173 = .ok (.aload_n 0, 1) := by decide +kernel
theorem dX7_look_174 : decode cX7_look 174 = .ok (.iload_n 1, 1) := by decide +kernel
theorem dX7_look_175 : decode cX7_look 175 = .ok (.invokevirtual 188, 3) := by decide +kernel
theorem dX7_look_178 : decode cX7_look 178 = .ok (.ifCond .eq 138, 3) := by decide +kernel
theorem dX7_look_181 : decode cX7_look 181 = .ok (.aload_n 0, 1) := by decide +kernel
theorem dX7_look_182 : decode cX7_look 182 = .ok (.iconst 0, 1) := by decide +kernel
theorem dX7_look_183 : decode cX7_look 183 = .ok (.putfield 68, 3) := by decide +kernel
theorem dX7_look_186 : decode cX7_look 186 = .ok (.aload_n 0, 1) := by decide +kernel
theorem dX7_look_187 : decode cX7_look 187 = .ok (.aload_n 0, 1) := by decide +kernel
theorem dX7_look_188 : decode cX7_look 188 = .ok (.aload_n 0, 1) := by decide +kernel
theorem dX7_look_189 : decode cX7_look 189 = .ok (.getfield 59, 3) := by decide +kernel
theorem dX7_look_192 : decode cX7_look 192 = .ok (.aload_n 0, 1) := by decide +kernel
theorem dX7_look_193 : decode cX7_look 193 = .ok (.getfield 68, 3) := by decide +kernel
theorem dX7_look_196 : decode cX7_look 196 = .ok (.iadd, 1) := by decide +kernel
theorem dX7_look_197 : decode cX7_look 197 = .ok (.invokevirtual 182, 3) := by decide +kernel
theorem dX7_look_200 : decode cX7_look 200 = .ok (.invokevirtual 188, 3) := by decide +kernel
theorem dX7_look_203 : decode cX7_look 203 = .ok (.ifCond .eq 57, 3) := by decide +kernel
theorem dX7_look_206 : decode cX7_look 206 = .ok (.aload_n 0, 1) := by decide +kernel
theorem dX7_look_207 : decode cX7_look 207 = .ok (.aload_n 0, 1) := by decide +kernel
theorem dX7_look_208 : decode cX7_look 208 = .ok (.getfield 68, 3) := by decide +kernel
theorem dX7_look_211 : decode cX7_look 211 = .ok (.bipush 6, 2) := by decide +kernel
theorem dX7_look_213 : decode cX7_look 213 = .ok (.if_icmp .ge 30, 3) := by decide +kernel
theorem dX7_look_216 : decode cX7_look 216 = .ok (.bipush 32, 2) := by decide +kernel
theorem dX7_look_218 : decode cX7_look 218 = .ok (.aload_n 0, 1) := by decide +kernel
theorem dX7_look_219 : decode cX7_look 219 = .ok (.getfield 65, 3) := by decide +kernel
theorem dX7_look_222 : decode cX7_look 222 = .ok (.imul, 1) := by decide +kernel
theorem dX7_look_223 : decode cX7_look 223 = .ok (.aload_n 0, 1) := by decide +kernel
theorem dX7_look_224 : decode cX7_look 224 = .ok (.aload_n 0, 1) := by decide +kernel
theorem dX7_look_225 : decode cX7_look 225 = .ok (.getfield 59, 3) := by decide +kernel
theorem dX7_look_228 : decode cX7_look 228 = .ok (.aload_n 0, 1) := by decide +kernel
theorem dX7_look_229 : decode cX7_look 229 = .ok (.getfield 68, 3) := by decide +kernel
theorem dX7_look_232 : decode cX7_look 232 = .ok (.iadd, 1) := by decide +kernel
theorem dX7_look_233 : decode cX7_look 233 = .ok (.invokevirtual 182, 3) := by decide +kernel
theorem dX7_look_236 : decode cX7_look 236 = .ok (.iadd, 1) := by decide +kernel
theorem dX7_look_237 : decode cX7_look 237 = .ok (.bipush 96, 2) := by decide +kernel
theorem dX7_look_239 : decode cX7_look 239 = .ok (.isub, 1) := by decide +kernel
theorem dX7_look_240 : decode cX7_look 240 = .ok (.goto 4, 3) := by decide +kernel
theorem dX7_look_243 : decode cX7_look 243 = .ok (.iconst 0, 1) := by decide +kernel
theorem dX7_look_244 : decode cX7_look 244 = .ok (.putfield 65, 3) := by decide +kernel
theorem dX7_look_247 : decode cX7_look 247 = .ok (.aload_n 0, 1) := by decide +kernel
theorem dX7_look_248 : decode cX7_look 248 = .ok (.dup, 1) := by decide +kernel
theorem dX7_look_249 : decode cX7_look 249 = .ok (.getfield 68, 3) := by decide +kernel
theorem dX7_look_252 : decode cX7_look 252 = .ok (.iconst 1, 1) := by decide +kernel
theorem dX7_look_253 : decode cX7_look 253 = .ok (.iadd, 1) := by decide +kernel
theorem dX7_look_254 : decode cX7_look 254 = .ok (.putfield 68, 3) := by decide +kernel
theorem dX7_look_257 : decode cX7_look 257 = .ok (.goto (-71), 3) := by decide +kernel
theorem dX7_look_260 : decode cX7_look 260 = .ok (.aload_n 0, 1) := by decide +kernel
theorem dX7_look_261 : decode cX7_look 261 = .ok (.aload_n 0, 1) := by decide +kernel
theorem dX7_look_262 : decode cX7_look 262 = .ok (.getfield 68, 3) := by decide +kernel
theorem dX7_look_265 : decode cX7_look 265 = .ok (.bipush 6, 2) := by decide +kernel
theorem dX7_look_267 : decode cX7_look 267 = .ok (.if_icmp .le 7, 3) := by decide +kernel
theorem dX7_look_270 : decode cX7_look 270 = .ok (.iconst 0, 1) := by decide +kernel
theorem dX7_look_271 : decode cX7_look 271 = .ok (.goto 7, 3) := by decide +kernel
theorem dX7_look_274 : decode cX7_look 274 = .ok (.aload_n 0, 1) := by decide +kernel
theorem dX7_look_275 : decode cX7_look 275 = .ok (.getfield 65, 3) := by decide +kernel
theorem dX7_look_278 : decode cX7_look 278 = .ok (.putfield 65, 3) := by decide +kernel
theorem dX7_look_281 : decode cX7_look 281 = .ok (.aload_n 0, 1) := by decide +kernel
theorem dX7_look_282 : decode cX7_look 282 = .ok (.aload_n 0, 1) := by decide +kernel
theorem dX7_look_283 : decode cX7_look 283 = .ok (.aload_n 0, 1) := by decide +kernel
theorem dX7_look_284 : decode cX7_look 284 = .ok (.getfield 65, 3) := by decide +kernel
theorem dX7_look_287 : decode cX7_look 287 = .ok (.invokevirtual 191, 3) := by decide +kernel
theorem dX7_look_290 : decode cX7_look 290 = .ok (.ifCond .ge 14, 3) := by decide +kernel
theorem dX7_look_293 : decode cX7_look 293 = .ok (.aload_n 0, 1) := by decide +kernel
theorem dX7_look_294 : decode cX7_look 294 = .ok (.aload_n 0, 1) := by decide +kernel
theorem dX7_look_295 : decode cX7_look 295 = .ok (.getfield 65, 3) := by decide +kernel
theorem dX7_look_298 : decode cX7_look 298 = .ok (.invokevirtual 194, 3) := by decide +kernel
theorem dX7_look_301 : decode cX7_look 301 = .ok (.ifCond .eq 7, 3) := by decide +kernel
theorem dX7_look_304 : decode cX7_look 304 = .ok (.iconst 2, 1) := by decide +kernel
theorem dX7_look_305 : decode cX7_look 305 = .ok (.goto 5, 3) := by decide +kernel
theorem dX7_look_308 : decode cX7_look 308 = .ok (.bipush (-2), 2) := by decide +kernel
theorem dX7_look_310 : decode cX7_look 310 = .ok (.putfield 62, 3) := by decide +kernel
theorem dX7_look_313 : decode cX7_look 313 = .ok (.goto 69, 3) := by decide +kernel
theorem dX7_look_316 : decode cX7_look 316 = .ok (.aload_n 0, 1) := by decide +kernel
theorem dX7_look_317 : decode cX7_look 317 = .ok (.iload_n 1, 1) := by decide +kernel
theorem dX7_look_318 : decode cX7_look 318 = .ok (.bipush 40, 2) := by decide +kernel
theorem dX7_look_320 : decode cX7_look 320 = .ok (.if_icmp .eq 45, 3) := by decide +kernel
theorem dX7_look_323 : decode cX7_look 323 = .ok (.iload_n 1, 1) := by decide +kernel
theorem dX7_look_324 : decode cX7_look 324 = .ok (.bipush 41, 2) := by decide +kernel
theorem dX7_look_326 : decode cX7_look 326 = .ok (.if_icmp .eq 39, 3) := by decide +kernel
theorem dX7_look_329 : decode cX7_look 329 = .ok (.iload_n 1, 1) := by decide +kernel
theorem dX7_look_330 : decode cX7_look 330 = .ok (.bipush 59, 2) := by decide +kernel
theorem dX7_look_332 : decode cX7_look 332 = .ok (.if_icmp .eq 33, 3) := by decide +kernel
theorem dX7_look_335 : decode cX7_look 335 = .ok (.iload_n 1, 1) := by decide +kernel
theorem dX7_look_336 : decode cX7_look 336 = .ok (.bipush 43, 2) := by decide +kernel
theorem dX7_look_338 : decode cX7_look 338 = .ok (.if_icmp .eq 27, 3) := by decide +kernel
theorem dX7_look_341 : decode cX7_look 341 = .ok (.iload_n 1, 1) := by decide +kernel
theorem dX7_look_342 : decode cX7_look 342 = .ok (.bipush 45, 2) := by decide +kernel
theorem dX7_look_344 : decode cX7_look 344 = .ok (.if_icmp .eq 21, 3) := by decide +kernel
theorem dX7_look_347 : decode cX7_look 347 = .ok (.iload_n 1, 1) := by decide +kernel
theorem dX7_look_348 : decode cX7_look 348 = .ok (.bipush 42, 2) := by decide +kernel
theorem dX7_look_350 : decode cX7_look 350 = .ok (.if_icmp .eq 15, 3) := by decide +kernel
theorem dX7_look_353 : decode cX7_look 353 = .ok (.iload_n 1, 1) := by decide +kernel
theorem dX7_look_354 : decode cX7_look 354 = .ok (.bipush 60, 2) := by decide +kernel
theorem dX7_look_356 : decode cX7_look 356 = .ok (.if_icmp .eq 9, 3) := by decide +kernel
theorem dX7_look_359 : decode cX7_look 359 = .ok (.iload_n 1, 1) := by decide +kernel
theorem dX7_look_360 : decode cX7_look 360 = .ok (.bipush 61, 2) := by decide +kernel
theorem dX7_look_362 : decode cX7_look 362 = .ok (.if_icmp .ne 7, 3) := by decide +kernel
theorem dX7_look_365 : decode cX7_look 365 = .ok (.iload_n 1, 1) := by decide +kernel
theorem dX7_look_366 : decode cX7_look 366 = .ok (.goto 13, 3) := by decide +kernel
theorem dX7_look_369 : decode cX7_look 369 = .ok (.iload_n 1, 1) := by decide +kernel
theorem dX7_look_370 : decode cX7_look 370 = .ok (.ifCond .ge 7, 3) := by decide +kernel
theorem dX7_look_373 : decode cX7_look 373 = .ok (.iconst (-1), 1) := by decide +kernel
theorem dX7_look_374 : decode cX7_look 374 = .ok (.goto 5, 3) := by decide +kernel
theorem dX7_look_377 : decode cX7_look 377 = .ok (.bipush (-2), 2) := by decide +kernel
theorem dX7_look_379 : decode cX7_look 379 = .ok (.putfield 62, 3) := by decide +kernel
theorem dX7_look_382 : decode cX7_look 382 = .ok (.return_, 1) := by decide +kernel
set_option maxRecDepth 100000 in
theorem ggX7_goOn_X7_look : GoodIn wsX7_goOn wsX7_look := goodIn_r _ [7, 1, 2, 8, 9, 10, 11, 12, 6, 13, 14, 15, 16, 17, 18, 19, 20, 21, 22, 23, 24, 25, 26, 27, 28, 29, 30, 31, 32, 33, 34, 35, 36, 37, 38, 39, 40, 41, 42, 43, 44, 45, 46, 47, 48, 49, 50, 51, 52, 53, 54, 55, 56, 57, 58, 59, 60, 61, 62, 63, 64, 65, 66, 67, 68, 69, 70, 71, 72, 73, 74, 75, 76, 77, 78, 79, 80, 81, 82, 83, 84, 85, 86, 87, 88, 89, 90] rfl (by decide +kernel)
set_option maxRecDepth 100000 in
theorem gX7_goOn_X7_look : GoodIn wsX7_goOn (wsV RX7 197 RX7 yX7_look wsX7_look) := goodIn_app (goodIn_of _ (by decide +kernel)) ggX7_goOn_X7_look
theorem dX7_goOn_0 : decode cX7_goOn 0 = .ok (.aload_n 0, 1) := by decide +kernel
theorem dX7_goOn_1 : decode cX7_goOn 1 = .ok (.dup, 1) := by decide +kernel
theorem dX7_goOn_2 : decode cX7_goOn 2 = .ok (.getfield 59, 3) := by decide +kernel
theorem dX7_goOn_5 : decode cX7_goOn 5 = .ok (.aload_n 0, 1) := by decide +kernel
theorem dX7_goOn_6 : decode cX7_goOn 6 = .ok (.getfield 68, 3) := by decide +kernel
theorem dX7_goOn_9 : decode cX7_goOn 9 = .ok (.iadd, 1) := by decide +kernel
theorem dX7_goOn_10 : decode cX7_goOn 10 = .ok (.putfield 59, 3) := by decide +kernel
theorem dX7_goOn_13 : decode cX7_goOn 13 = .ok (.aload_n 0, 1) := by decide +kernel
theorem dX7_goOn_14 : decode cX7_goOn 14 = .ok (.invokevirtual 197, 3) := by decide +kernel
theorem dX7_goOn_17 : decode cX7_goOn 17 = .ok (.return_, 1) := by decide +kernel
theorem dX7_isWord_0 : decode cX7_isWord 0 = .ok (.aload_n 0, 1) := by decide +kernel
theorem dX7_isWord_1 : decode cX7_isWord 1 = .ok (.getfield 62, 3) := by decide +kernel
theorem dX7_isWord_4 : decode cX7_isWord 4 = .ok (.iconst 2, 1) := by decide +kernel
theorem dX7_isWord_5 : decode cX7_isWord 5 = .ok (.if_icmp .ne 15, 3) := by decide +kernel
theorem dX7_isWord_8 : decode cX7_isWord 8 = .ok (.aload_n 0, 1) := by decide +kernel
theorem dX7_isWord_9 : decode cX7_isWord 9 = .ok (.getfield 65, 3) := by decide +kernel
theorem dX7_isWord_12 : decode cX7_isWord 12 = .ok (.iload_n 1, 1) := by decide +kernel
theorem dX7_isWord_13 : decode cX7_isWord 13 = .ok (.if_icmp .ne 7, 3) := by decide +kernel
theorem dX7_isWord_16 : decode cX7_isWord 16 = .ok (.iconst 1, 1) := by decide +kernel
theorem dX7_isWord_17 : decode cX7_isWord 17 = .ok (.goto 4, 3) := by decide +kernel
theorem dX7_isWord_20 : decode cX7_isWord 20 = .ok (.iconst 0, 1) := by decide +kernel
theorem dX7_isWord_21 : decode cX7_isWord 21 = .ok (.ireturn, 1) := by decide +kernel
theorem dX7_isKey_0 : decode cX7_isKey 0 = .ok (.iload_n 1, 1) := by decide +kernel
theorem dX7_isKey_1 : decode cX7_isKey 1 = .ok (.ldc 200, 2) := by decide +kernel
theorem dX7_isKey_3 : decode cX7_isKey 3 = .ok (.if_icmp .eq 37, 3) := by decide +kernel
theorem dX7_isKey_6 : decode cX7_isKey 6 = .ok (.iload_n 1, 1) := by decide +kernel
theorem dX7_isKey_7 : decode cX7_isKey 7 = .ok (.ldc 201, 2) := by decide +kernel
theorem dX7_isKey_9 : decode cX7_isKey 9 = .ok (.if_icmp .eq 31, 3) := by decide +kernel
theorem dX7_isKey_12 : decode cX7_isKey 12 = .ok (.iload_n 1, 1) := by decide +kernel
theorem dX7_isKey_13 : decode cX7_isKey 13 = .ok (.sipush 5572, 3) := by decide +kernel
theorem dX7_isKey_16 : decode cX7_isKey 16 = .ok (.if_icmp .eq 24, 3) := by decide +kernel
theorem dX7_isKey_19 : decode cX7_isKey 19 = .ok (.iload_n 1, 1) := by decide +kernel
theorem dX7_isKey_20 : decode cX7_isKey 20 = .ok (.sipush 498, 3) := by decide +kernel
theorem dX7_isKey_23 : decode cX7_isKey 23 = .ok (.if_icmp .eq 17, 3) := by decide +kernel
theorem dX7_isKey_26 : decode cX7_isKey 26 = .ok (.iload_n 1, 1) := by decide +kernel
theorem dX7_isKey_27 : decode cX7_isKey 27 = .ok (.sipush 1476, 3) := by decide +kernel
theorem dX7_isKey_30 : decode cX7_isKey 30 = .ok (.if_icmp .eq 10, 3) := by decide +kernel
theorem dX7_isKey_33 : decode cX7_isKey 33 = .ok (.iload_n 1, 1) := by decide +kernel
theorem dX7_isKey_34 : decode cX7_isKey 34 = .ok (.sipush 14836, 3) := by decide +kernel
theorem dX7_isKey_37 : decode cX7_isKey 37 = .ok (.if_icmp .ne 7, 3) := by decide +kernel
theorem dX7_isKey_40 : decode cX7_isKey 40 = .ok (.iconst 1, 1) := by decide +kernel
theorem dX7_isKey_41 : decode cX7_isKey 41 = .ok (.goto 4, 3) := by decide +kernel
theorem dX7_isKey_44 : decode cX7_isKey 44 = .ok (.iconst 0, 1) := by decide +kernel
theorem dX7_isKey_45 : decode cX7_isKey 45 = .ok (.ireturn, 1) := by decide +kernel
theorem dX7_nameOf_0 : decode cX7_nameOf 0 = .ok (.iload_n 1, 1) := by decide +kernel
theorem dX7_nameOf_1 : decode cX7_nameOf 1 = .ok (.ldc 202, 2) := by decide +kernel
theorem dX7_nameOf_3 : decode cX7_nameOf 3 = .ok (.if_icmp .ne 7, 3) := by decide +kernel
theorem dX7_nameOf_6 : decode cX7_nameOf 6 = .ok (.iconst 0, 1) := by decide +kernel
theorem dX7_nameOf_7 : decode cX7_nameOf 7 = .ok (.goto 54, 3) := by decide +kernel
theorem dX7_nameOf_10 : decode cX7_nameOf 10 = .ok (.iload_n 1, 1) := by decide +kernel
theorem dX7_nameOf_11 : decode cX7_nameOf 11 = .ok (.ldc 203, 2) := by decide +kernel
theorem dX7_nameOf_13 : decode cX7_nameOf 13 = .ok (.if_icmp .ne 7, 3) := by decide +kernel
theorem dX7_nameOf_16 : decode cX7_nameOf 16 = .ok (.iconst 1, 1) := by decide +kernel
theorem dX7_nameOf_17 : decode cX7_nameOf 17 = .ok (.goto 44, 3) := by decide +kernel
theorem dX7_nameOf_20 : decode cX7_nameOf 20 = .ok (.iload_n 1, 1) := by decide +kernel
theorem dX7_nameOf_21 : decode cX7_nameOf 21 = .ok (.ldc 204, 2) := by decide +kernel
theorem dX7_nameOf_23 : decode cX7_nameOf 23 = .ok (.if_icmp .ne 7, 3) := by decide +kernel
theorem dX7_nameOf_26 : decode cX7_nameOf 26 = .ok (.iconst 2, 1) := by decide +kernel
theorem dX7_nameOf_27 : decode cX7_nameOf 27 = .ok (.goto 34, 3) := by decide +kernel
theorem dX7_nameOf_30 : decode cX7_nameOf 30 = .ok (.iload_n 1, 1) := by decide +kernel
theorem dX7_nameOf_31 : decode cX7_nameOf 31 = .ok (.ldc 205, 2) := by decide +kernel
theorem dX7_nameOf_33 : decode cX7_nameOf 33 = .ok (.if_icmp .ne 7, 3) := by decide +kernel
theorem dX7_nameOf_36 : decode cX7_nameOf 36 = .ok (.iconst 3, 1) := by decide +kernel
theorem dX7_nameOf_37 : decode cX7_nameOf 37 = .ok (.goto 24, 3) := by decide +kernel
theorem dX7_nameOf_40 : decode cX7_nameOf 40 = .ok (.iload_n 1, 1) := by decide +kernel
theorem dX7_nameOf_41 : decode cX7_nameOf 41 = .ok (.ldc 206, 2) := by decide +kernel
theorem dX7_nameOf_43 : decode cX7_nameOf 43 = .ok (.if_icmp .ne 7, 3) := by decide +kernel
theorem dX7_nameOf_46 : decode cX7_nameOf 46 = .ok (.iconst 4, 1) := by decide +kernel
theorem dX7_nameOf_47 : decode cX7_nameOf 47 = .ok (.goto 14, 3) := by decide +kernel
theorem dX7_nameOf_50 : decode cX7_nameOf 50 = .ok (.iload_n 1, 1) := by decide +kernel
theorem dX7_nameOf_51 : decode cX7_nameOf 51 = .ok (.ldc 207, 2) := by decide +kernel
theorem dX7_nameOf_53 : decode cX7_nameOf 53 = .ok (.if_icmp .ne 7, 3) := by decide +kernel
theorem dX7_nameOf_56 : decode cX7_nameOf 56 = .ok (.iconst 5, 1) := by decide +kernel
theorem dX7_nameOf_57 : decode cX7_nameOf 57 = .ok (.goto 4, 3) := by decide +kernel
theorem dX7_nameOf_60 : decode cX7_nameOf 60 = .ok (.iconst (-1), 1) := by decide +kernel
theorem dX7_nameOf_61 : decode cX7_nameOf 61 = .ok (.ireturn, 1) := by decide +kernel
theorem dX7_put_0 : decode cX7_put 0 = .ok (.aload_n 0, 1) := by decide +kernel
theorem dX7_put_1 : decode cX7_put 1 = .ok (.getfield 83, 3) := by decide +kernel
theorem dX7_put_4 : decode cX7_put 4 = .ok (.aload_n 0, 1) := by decide +kernel
theorem dX7_put_5 : decode cX7_put 5 = .ok (.getfield 77, 3) := by decide +kernel
theorem dX7_put_8 : decode cX7_put 8 = .ok (.iload_n 1, 1) := by decide +kernel
theorem dX7_put_9 : decode cX7_put 9 = .ok (.iastore, 1) := by decide +kernel
theorem dX7_put_10 : decode cX7_put 10 = .ok (.aload_n 0, 1) := by decide +kernel
theorem dX7_put_11 : decode cX7_put 11 = .ok (.getfield 86, 3) := by decide +kernel
theorem dX7_put_14 : decode cX7_put 14 = .ok (.aload_n 0, 1) := by decide +kernel
theorem dX7_put_15 : decode cX7_put 15 = .ok (.getfield 77, 3) := by decide +kernel
theorem dX7_put_18 : decode cX7_put 18 = .ok (.iload_n 2, 1) := by decide +kernel
theorem dX7_put_19 : decode cX7_put 19 = .ok (.iastore, 1) := by decide +kernel
theorem dX7_put_20 : decode cX7_put 20 = .ok (.aload_n 0, 1) := by decide +kernel
theorem dX7_put_21 : decode cX7_put 21 = .ok (.dup, 1) := by decide +kernel
theorem dX7_put_22 : decode cX7_put 22 = .ok (.getfield 77, 3) := by decide +kernel
theorem dX7_put_25 : decode cX7_put 25 = .ok (.iconst 1, 1) := by decide +kernel
theorem dX7_put_26 : decode cX7_put 26 = .ok (.iadd, 1) := by decide +kernel
theorem dX7_put_27 : decode cX7_put 27 = .ok (.putfield 77, 3) := by decide +kernel
theorem dX7_put_30 : decode cX7_put 30 = .ok (.return_, 1) := by decide +kernel
theorem dX7_top_0 : decode cX7_top 0 = .ok (.aload_n 0, 1) := by decide +kernel
theorem dX7_top_1 : decode cX7_top 1 = .ok (.getfield 74, 3) := by decide +kernel
theorem dX7_top_4 : decode cX7_top 4 = .ok (.ifCond .le 17, 3) := by decide +kernel
theorem dX7_top_7 : decode cX7_top 7 = .ok (.aload_n 0, 1) := by decide +kernel
theorem dX7_top_8 : decode cX7_top 8 = .ok (.getfield 92, 3) := by decide +kernel
theorem dX7_top_11 : decode cX7_top 11 = .ok (.aload_n 0, 1) := by decide +kernel
theorem dX7_top_12 : decode cX7_top 12 = .ok (.getfield 74, 3) := by decide +kernel
theorem dX7_top_15 : decode cX7_top 15 = .ok (.iconst 1, 1) := by decide +kernel
theorem dX7_top_16 : decode cX7_top 16 = .ok (.isub, 1) := by decide +kernel
theorem dX7_top_17 : decode cX7_top 17 = .ok (.iaload, 1) := by decide +kernel
theorem dX7_top_18 : decode cX7_top 18 = .ok (.goto 4, 3) := by decide +kernel
theorem dX7_top_21 : decode cX7_top 21 = .ok (.iconst (-1), 1) := by decide +kernel
theorem dX7_top_22 : decode cX7_top 22 = .ok (.ireturn, 1) := by decide +kernel
theorem dX7_pushSign_0 : decode cX7_pushSign 0 = .ok (.aload_n 0, 1) := by decide +kernel
theorem dX7_pushSign_1 : decode cX7_pushSign 1 = .ok (.getfield 92, 3) := by decide +kernel
theorem dX7_pushSign_4 : decode cX7_pushSign 4 = .ok (.aload_n 0, 1) := by decide +kernel
theorem dX7_pushSign_5 : decode cX7_pushSign 5 = .ok (.getfield 74, 3) := by decide +kernel
theorem dX7_pushSign_8 : decode cX7_pushSign 8 = .ok (.iload_n 1, 1) := by decide +kernel
theorem dX7_pushSign_9 : decode cX7_pushSign 9 = .ok (.iastore, 1) := by decide +kernel
theorem dX7_pushSign_10 : decode cX7_pushSign 10 = .ok (.aload_n 0, 1) := by decide +kernel
theorem dX7_pushSign_11 : decode cX7_pushSign 11 = .ok (.dup, 1) := by decide +kernel
theorem dX7_pushSign_12 : decode cX7_pushSign 12 = .ok (.getfield 74, 3) := by decide +kernel
theorem dX7_pushSign_15 : decode cX7_pushSign 15 = .ok (.iconst 1, 1) := by decide +kernel
theorem dX7_pushSign_16 : decode cX7_pushSign 16 = .ok (.iadd, 1) := by decide +kernel
theorem dX7_pushSign_17 : decode cX7_pushSign 17 = .ok (.putfield 74, 3) := by decide +kernel
theorem dX7_pushSign_20 : decode cX7_pushSign 20 = .ok (.return_, 1) := by decide +kernel
theorem dX7_strength_0 : decode cX7_strength 0 = .ok (.iload_n 1, 1) := by decide +kernel
theorem dX7_strength_1 : decode cX7_strength 1 = .ok (.iconst 2, 1) := by decide +kernel
theorem dX7_strength_2 : decode cX7_strength 2 = .ok (.if_icmp .ne 7, 3) := by decide +kernel
theorem dX7_strength_5 : decode cX7_strength 5 = .ok (.iconst 1, 1) := by decide +kernel
theorem dX7_strength_6 : decode cX7_strength 6 = .ok (.goto 75, 3) := by decide +kernel
theorem dX7_strength_9 : decode cX7_strength 9 = .ok (.iload_n 1, 1) := by decide +kernel
theorem dX7_strength_10 : decode cX7_strength 10 = .ok (.iconst 3, 1) := by decide +kernel
theorem dX7_strength_11 : decode cX7_strength 11 = .ok (.if_icmp .ne 7, 3) := by decide +kernel
theorem dX7_strength_14 : decode cX7_strength 14 = .ok (.iconst 2, 1) := by decide +kernel
theorem dX7_strength_15 : decode cX7_strength 15 = .ok (.goto 66, 3) := by decide +kernel
theorem dX7_strength_18 : decode cX7_strength 18 = .ok (.iload_n 1, 1) := by decide +kernel
theorem dX7_strength_19 : decode cX7_strength 19 = .ok (.iconst 4, 1) := by decide +kernel
theorem dX7_strength_20 : decode cX7_strength 20 = .ok (.if_icmp .ne 7, 3) := by decide +kernel
theorem dX7_strength_23 : decode cX7_strength 23 = .ok (.iconst 3, 1) := by decide +kernel
theorem dX7_strength_24 : decode cX7_strength 24 = .ok (.goto 57, 3) := by decide +kernel
theorem dX7_strength_27 : decode cX7_strength 27 = .ok (.iload_n 1, 1) := by decide +kernel
theorem dX7_strength_28 : decode cX7_strength 28 = .ok (.iconst 5, 1) := by decide +kernel
theorem dX7_strength_29 : decode cX7_strength 29 = .ok (.if_icmp .eq 9, 3) := by decide +kernel
theorem dX7_strength_32 : decode cX7_strength 32 = .ok (.iload_n 1, 1) := by decide +kernel
theorem dX7_strength_33 : decode cX7_strength 33 = .ok (.bipush 6, 2) := by decide +kernel
theorem dX7_strength_35 : decode cX7_strength 35 = .ok (.if_icmp .ne 7, 3) := by decide +kernel
theorem dX7_strength_38 : decode cX7_strength 38 = .ok (.iconst 4, 1) := by decide +kernel
theorem dX7_strength_39 : decode cX7_strength 39 = .ok (.goto 42, 3) := by decide +kernel
theorem dX7_strength_42 : decode cX7_strength 42 = .ok (.iload_n 1, 1) := by decide +kernel
theorem dX7_strength_43 : decode cX7_strength 43 = .ok (.bipush 7, 2) := by decide +kernel
theorem dX7_strength_45 : decode cX7_strength 45 = .ok (.if_icmp .eq 9, 3) := by decide +kernel
theorem dX7_strength_48 : decode cX7_strength 48 = .ok (.iload_n 1, 1) := by decide +kernel
theorem dX7_strength_49 : decode cX7_strength 49 = .ok (.bipush 8, 2) := by decide +kernel
theorem dX7_strength_51 : decode cX7_strength 51 = .ok (.if_icmp .ne 7, 3) := by decide +kernel
theorem dX7_strength_54 : decode cX7_strength 54 = .ok (.iconst 5, 1) := by decide +kernel
theorem dX7_strength_55 : decode cX7_strength 55 = .ok (.goto 26, 3) := by decide +kernel
theorem dX7_strength_58 : decode cX7_strength 58 = .ok (.iload_n 1, 1) := by decide +kernel
theorem dX7_strength_59 : decode cX7_strength 59 = .ok (.bipush 9, 2) := by decide +kernel
theorem dX7_strength_61 : decode cX7_strength 61 = .ok (.if_icmp .ne 8, 3) := by decide +kernel
theorem dX7_strength_64 : decode cX7_strength 64 = .ok (.bipush 6, 2) := by decide +kernel
theorem dX7_strength_66 : decode cX7_strength 66 = .ok (.goto 15, 3) := by decide +kernel
theorem dX7_strength_69 : decode cX7_strength 69 = .ok (.iload_n 1, 1) := by decide +kernel
theorem dX7_strength_70 : decode cX7_strength 70 = .ok (.bipush 10, 2) := by decide +kernel
theorem dX7_strength_72 : decode cX7_strength 72 = .ok (.if_icmp .ne 8, 3) := by decide +kernel
theorem dX7_strength_75 : decode cX7_strength 75 = .ok (.bipush 7, 2) := by decide +kernel
theorem dX7_strength_77 : decode cX7_strength 77 = .ok (.goto 4, 3) := by decide +kernel
theorem dX7_strength_80 : decode cX7_strength 80 = .ok (.iconst 0, 1) := by decide +kernel
theorem dX7_strength_81 : decode cX7_strength 81 = .ok (.ireturn, 1) := by decide +kernel
set_option maxRecDepth 100000 in
theorem ggX7_settle_X7_top : GoodIn wsX7_settle wsX7_top := goodIn_r _ [8, 1, 2, 20, 21, 22, 23, 24, 25, 26, 27, 28, 29, 30, 31, 32, 33, 34, 35, 36, 37, 38, 39, 40, 41, 42, 43, 44, 45, 46, 47, 48, 49, 50, 51, 52, 53, 54, 55, 56, 57, 58, 59, 60, 61, 62, 63, 64, 65, 66] rfl (by decide +kernel)
set_option maxRecDepth 100000 in
theorem gX7_settle_X7_top : GoodIn wsX7_settle (wsV RX7 208 RX7 yX7_top wsX7_top) := goodIn_app (goodIn_of _ (by decide +kernel)) ggX7_settle_X7_top
set_option maxRecDepth 100000 in
theorem ggX7_settle_X7_strength : GoodIn wsX7_settle wsX7_strength := goodIn_r _ [12] rfl (by decide +kernel)
set_option maxRecDepth 100000 in
theorem gX7_settle_X7_strength : GoodIn wsX7_settle (wsV RX7 212 RX7 yX7_strength wsX7_strength) := goodIn_app (goodIn_of _ (by decide +kernel)) ggX7_settle_X7_strength
set_option maxRecDepth 100000 in
theorem ggX7_settle_X7_put : GoodIn wsX7_settle wsX7_put := goodIn_r _ [16, 17, 18, 19, 20, 21, 22, 23, 24, 25, 26, 27, 28, 29, 30, 31, 32, 33, 34, 35, 36, 37, 38, 39, 40, 41, 42, 43, 44, 45, 46, 47, 48, 49, 50, 51, 52, 53, 54, 55, 56, 57, 58, 59, 60, 61, 62, 63, 64, 65, 66] rfl (by decide +kernel)
set_option maxRecDepth 100000 in
theorem gX7_settle_X7_put : GoodIn wsX7_settle (wsV RX7 177 RX7 yX7_put wsX7_put) := goodIn_app (goodIn_of _ (by decide +kernel)) ggX7_settle_X7_put
theorem dX7_settle_0 : decode cX7_settle 0 = .ok (.aload_n 0, 1) := by decide +kernel
theorem dX7_settle_1 : decode cX7_settle 1 = .ok (.getfield 74, 3) := by decide +kernel
theorem dX7_settle_4 : decode cX7_settle 4 = .ok (.ifCond .le 69, 3) := by decide +kernel
theorem dX7_settle_7 : decode cX7_settle 7 = .ok (.aload_n 0, 1) := by decide +kernel
theorem dX7_settle_8 : decode cX7_settle 8 = .ok (.aload_n 0, 1) := by decide +kernel
theorem dX7_settle_9 : decode cX7_settle 9 = .ok (.invokevirtual 208, 3) := by decide +kernel
theorem dX7_settle_12 : decode cX7_settle 12 = .ok (.invokevirtual 212, 3) := by decide +kernel
theorem dX7_settle_15 : decode cX7_settle 15 = .ok (.iload_n 1, 1) := by decide +kernel
theorem dX7_settle_16 : decode cX7_settle 16 = .ok (.if_icmp .lt 57, 3) := by decide +kernel
theorem dX7_settle_19 : decode cX7_settle 19 = .ok (.aload_n 0, 1) := by decide +kernel
theorem dX7_settle_20 : decode cX7_settle 20 = .ok (.dup, 1) := by decide +kernel
theorem dX7_settle_21 : decode cX7_settle 21 = .ok (.getfield 74, 3) := by decide +kernel
theorem dX7_settle_24 : decode cX7_settle 24 = .ok (.iconst 1, 1) := by decide +kernel
theorem dX7_settle_25 : decode cX7_settle 25 = .ok (.isub, 1) := by decide +kernel
theorem dX7_settle_26 : decode cX7_settle 26 = .ok (.putfield 74, 3) := by decide +kernel
theorem dX7_settle_29 : decode cX7_settle 29 = .ok (.aload_n 0, 1) := by decide +kernel
theorem dX7_settle_30 : decode cX7_settle 30 = .ok (.getfield 92, 3) := by decide +kernel
theorem dX7_settle_33 : decode cX7_settle 33 = .ok (.aload_n 0, 1) := by decide +kernel
theorem dX7_settle_34 : decode cX7_settle 34 = .ok (.getfield 74, 3) := by decide +kernel
theorem dX7_settle_37 : decode cX7_settle 37 = .ok (.iaload, 1) := by decide +kernel
theorem dX7_settle_38 : decode cX7_settle 38 = .ok (.istore_n 2, 1) := by decide +kernel
theorem dX7_settle_39 : decode cX7_settle 39 = .ok (.aload_n 0, 1) := by decide +kernel
theorem dX7_settle_40 : decode cX7_settle 40 = .ok (.dup, 1) := by decide +kernel
theorem dX7_settle_41 : decode cX7_settle 41 = .ok (.getfield 71, 3) := by decide +kernel
theorem dX7_settle_44 : decode cX7_settle 44 = .ok (.iload_n 2, 1) := by decide +kernel
theorem dX7_settle_45 : decode cX7_settle 45 = .ok (.iconst 4, 1) := by decide +kernel
theorem dX7_settle_46 : decode cX7_settle 46 = .ok (.if_icmp .eq 9, 3) := by decide +kernel
theorem dX7_settle_49 : decode cX7_settle 49 = .ok (.iload_n 2, 1) := by decide +kernel
theorem dX7_settle_50 : decode cX7_settle 50 = .ok (.bipush 10, 2) := by decide +kernel
theorem dX7_settle_52 : decode cX7_settle 52 = .ok (.if_icmp .ne 7, 3) := by decide +kernel
theorem dX7_settle_55 : decode cX7_settle 55 = .ok (.iconst 1, 1) := by decide +kernel
theorem dX7_settle_56 : decode cX7_settle 56 = .ok (.goto 4, 3) := by decide +kernel
theorem dX7_settle_59 : decode cX7_settle 59 = .ok (.iconst 0, 1) := by decide +kernel
theorem dX7_settle_60 : decode cX7_settle 60 = .ok (.isub, 1) := by decide +kernel
theorem dX7_settle_61 : decode cX7_settle 61 = .ok (.putfield 71, 3) := by decide +kernel
theorem dX7_settle_64 : decode cX7_settle 64 = .ok (.aload_n 0, 1) := by decide +kernel
theorem dX7_settle_65 : decode cX7_settle 65 = .ok (.iload_n 2, 1) := by decide +kernel
theorem dX7_settle_66 : decode cX7_settle 66 = .ok (.iconst 0, 1) := by decide +kernel
theorem dX7_settle_67 : decode cX7_settle 67 = .ok (.invokevirtual 177, 3) := by decide +kernel
theorem dX7_settle_70 : decode cX7_settle 70 = .ok (.goto (-70), 3) := by decide +kernel
theorem dX7_settle_73 : decode cX7_settle 73 = .ok (.return_, 1) := by decide +kernel
set_option maxRecDepth 100000 in
theorem ggX7_opens_X7_pushSign : GoodIn wsX7_opens wsX7_pushSign := goodIn_r _ [6, 7, 8, 9, 10, 11, 12, 13, 14, 15, 16, 17, 18, 19, 20, 21, 22, 23, 24, 25, 26, 27, 28, 29, 30, 31, 32, 33, 34, 35, 36, 37, 38, 39, 40, 41, 42, 43, 44, 45, 46, 47, 48, 49, 50, 51, 52, 53, 54, 55] rfl (by decide +kernel)
set_option maxRecDepth 100000 in
theorem gX7_opens_X7_pushSign : GoodIn wsX7_opens (wsV RX7 215 RX7 yX7_pushSign wsX7_pushSign) := goodIn_app (goodIn_of _ (by decide +kernel)) ggX7_opens_X7_pushSign
theorem dX7_opens_0 : decode cX7_opens 0 = .ok (.aload_n 0, 1) := by decide +kernel
theorem dX7_opens_1 : decode cX7_opens 1 = .ok (.getfield 71, 3) := by decide +kernel
theorem dX7_opens_4 : decode cX7_opens 4 = .ok (.iconst 5, 1) := by decide +kernel
theorem dX7_opens_5 : decode cX7_opens 5 = .ok (.if_icmp .ne 5, 3) := by decide +kernel
theorem dX7_opens_8 : decode cX7_opens 8 = .ok (.iconst 0, 1) := by decide +kernel
theorem dX7_opens_9 : decode cX7_opens 9 = .ok (.ireturn, 1) := by decide +kernel
theorem dX7_opens_10 : decode cX7_opens 10 = .ok (.aload_n 0, 1) := by decide +kernel
theorem dX7_opens_11 : decode cX7_opens 11 = .ok (.dup, 1) := by decide +kernel
theorem dX7_opens_12 : decode cX7_opens 12 = .ok (.getfield 71, 3) := by decide +kernel
theorem dX7_opens_15 : decode cX7_opens 15 = .ok (.iconst 1, 1) := by decide +kernel
theorem dX7_opens_16 : decode cX7_opens 16 = .ok (.iadd, 1) := by decide +kernel
theorem dX7_opens_17 : decode cX7_opens 17 = .ok (.putfield 71, 3) := by decide +kernel
theorem dX7_opens_20 : decode cX7_opens 20 = .ok (.aload_n 0, 1) := by decide +kernel
theorem dX7_opens_21 : decode cX7_opens 21 = .ok (.iload_n 1, 1) := by decide +kernel
theorem dX7_opens_22 : decode cX7_opens 22 = .ok (.invokevirtual 215, 3) := by decide +kernel
theorem dX7_opens_25 : decode cX7_opens 25 = .ok (.iconst 1, 1) := by decide +kernel
theorem dX7_opens_26 : decode cX7_opens 26 = .ok (.ireturn, 1) := by decide +kernel
set_option maxRecDepth 100000 in
theorem ggX7_takesOne_X7_nameOf : GoodIn wsX7_takesOne wsX7_nameOf := goodIn_r _ [7, 8, 9, 10, 11, 12, 13] rfl (by decide +kernel)
set_option maxRecDepth 100000 in
theorem gX7_takesOne_X7_nameOf : GoodIn wsX7_takesOne (wsV RX7 191 RX7 yX7_nameOf wsX7_nameOf) := goodIn_app (goodIn_of _ (by decide +kernel)) ggX7_takesOne_X7_nameOf
set_option maxRecDepth 100000 in
theorem ggX7_takesOne_X7_put : GoodIn wsX7_takesOne wsX7_put := goodIn_r _ [17, 18, 19, 20, 48, 49, 50, 51, 52, 53, 54, 55, 56, 57, 58, 59, 60, 61, 62, 63, 64, 65, 66, 67, 68, 69, 70, 71, 72, 73, 74, 75, 76, 77, 78, 79, 80, 81, 82, 83, 84, 85, 86, 87, 88, 89, 90, 91, 92, 93, 94] rfl (by decide +kernel)
set_option maxRecDepth 100000 in
theorem gX7_takesOne_X7_put : GoodIn wsX7_takesOne (wsV RX7 177 RX7 yX7_put wsX7_put) := goodIn_app (goodIn_of _ (by decide +kernel)) ggX7_takesOne_X7_put
set_option maxRecDepth 100000 in
theorem ggX7_takesOne_X7_settle : GoodIn wsX7_takesOne wsX7_settle := goodIn_r _ [24, 25, 26, 27, 28, 29, 30, 6, 31, 32, 33, 34, 35, 14, 15, 16, 17, 18, 19, 20, 48, 49, 50, 51, 52, 53, 54, 55, 56, 57, 58, 59, 60, 61, 62, 63, 64, 65, 66, 67, 68, 69, 70, 71, 72, 73, 74, 75, 76, 77, 78, 79, 80, 81, 82, 83, 84, 85, 86, 87, 88, 89, 90, 91, 92, 93, 94] rfl (by decide +kernel)
set_option maxRecDepth 100000 in
theorem gX7_takesOne_X7_settle : GoodIn wsX7_takesOne (wsV RX7 219 RX7 yX7_settle wsX7_settle) := goodIn_app (goodIn_of _ (by decide +kernel)) ggX7_takesOne_X7_settle
set_option maxRecDepth 100000 in
theorem ggX7_takesOne_X7_opens : GoodIn wsX7_takesOne wsX7_opens := goodIn_r _ [39, 27, 40, 41, 42, 6, 43, 26, 25, 48, 49, 50, 51, 52, 53, 54, 55, 56, 57, 58, 59, 60, 61, 62, 63, 64, 65, 66, 67, 68, 69, 70, 71, 72, 73, 74, 75, 76, 77, 78, 79, 80, 81, 82, 83, 84, 85, 86, 87, 88, 89, 90, 91, 92, 93, 94] rfl (by decide +kernel)
set_option maxRecDepth 100000 in
theorem gX7_takesOne_X7_opens : GoodIn wsX7_takesOne (wsV RX7 222 RX7 yX7_opens wsX7_opens) := goodIn_app (goodIn_of _ (by decide +kernel)) ggX7_takesOne_X7_opens
set_option maxRecDepth 100000 in
theorem ggX7_takesOne_X7_isWord : GoodIn wsX7_takesOne wsX7_isWord := goodIn_r _ [47, 1, 2, 48, 49, 50, 51, 52, 53, 54, 55, 56, 57, 58, 59, 60, 61, 62, 63, 64, 65, 66, 67, 68, 69, 70, 71, 72, 73, 74, 75, 76, 77, 78, 79, 80, 81, 82, 83, 84, 85, 86, 87, 88, 89, 90, 91, 92, 93, 94] rfl (by decide +kernel)
set_option maxRecDepth 100000 in
theorem gX7_takesOne_X7_isWord : GoodIn wsX7_takesOne (wsV RX7 225 RX7 yX7_isWord wsX7_isWord) := goodIn_app (goodIn_of _ (by decide +kernel)) ggX7_takesOne_X7_isWord
theorem dX7_takesOne_0 : decode cX7_takesOne 0 = .ok (.aload_n 0, 1) := by decide +kernel
theorem dX7_takesOne_1 : decode cX7_takesOne 1 = .ok (.getfield 62, 3) := by decide +kernel
theorem dX7_takesOne_4 : decode cX7_takesOne 4 = .ok (.iconst 1, 1) := by decide +kernel
theorem dX7_takesOne_5 : decode cX7_takesOne 5 = .ok (.if_icmp .eq 22, 3) := by decide +kernel
theorem dX7_takesOne_8 : decode cX7_takesOne 8 = .ok (.aload_n 0, 1) := by decide +kernel
theorem dX7_takesOne_9 : decode cX7_takesOne 9 = .ok (.getfield 62, 3) := by decide +kernel
theorem dX7_takesOne_12 : decode cX7_takesOne 12 = .ok (.iconst 2, 1) := by decide +kernel
theorem dX7_takesOne_13 : decode cX7_takesOne 13 = .ok (.if_icmp .ne 62, 3) := by decide +kernel
theorem dX7_takesOne_16 : decode cX7_takesOne 16 = .ok (.aload_n 0, 1) := by decide +kernel
theorem dX7_takesOne_17 : decode cX7_takesOne 17 = .ok (.aload_n 0, 1) := by decide +kernel
theorem dX7_takesOne_18 : decode cX7_takesOne 18 = .ok (.getfield 65, 3) := by decide +kernel
theorem dX7_takesOne_21 : decode cX7_takesOne 21 = .ok (.invokevirtual 191, 3) := by decide +kernel
theorem dX7_takesOne_24 : decode cX7_takesOne 24 = .ok (.ifCond .lt 51, 3) := by decide +kernel
theorem dX7_takesOne_27 : decode cX7_takesOne 27 = .ok (.aload_n 0, 1) := by decide +kernel
theorem dX7_takesOne_28 : decode cX7_takesOne 28 = .ok (.aload_n 0, 1) := by decide +kernel
theorem dX7_takesOne_29 : decode cX7_takesOne 29 = .ok (.getfield 62, 3) := by decide +kernel
theorem dX7_takesOne_32 : decode cX7_takesOne 32 = .ok (.iconst 1, 1) := by decide +kernel
theorem dX7_takesOne_33 : decode cX7_takesOne 33 = .ok (.if_icmp .ne 7, 3) := by decide +kernel
theorem dX7_takesOne_36 : decode cX7_takesOne 36 = .ok (.iconst 0, 1) := by decide +kernel
theorem dX7_takesOne_37 : decode cX7_takesOne 37 = .ok (.goto 4, 3) := by decide +kernel
theorem dX7_takesOne_40 : decode cX7_takesOne 40 = .ok (.iconst 1, 1) := by decide +kernel
theorem dX7_takesOne_41 : decode cX7_takesOne 41 = .ok (.aload_n 0, 1) := by decide +kernel
theorem dX7_takesOne_42 : decode cX7_takesOne 42 = .ok (.getfield 62, 3) := by decide +kernel
theorem dX7_takesOne_45 : decode cX7_takesOne 45 = .ok (.iconst 1, 1) := by decide +kernel
theorem dX7_takesOne_46 : decode cX7_takesOne 46 = .ok (.if_icmp .ne 10, 3) := by decide +kernel
theorem dX7_takesOne_49 : decode cX7_takesOne 49 = .ok (.aload_n 0, 1) := by decide +kernel
theorem dX7_takesOne_50 : decode cX7_takesOne 50 = .ok (.getfield 65, 3) := by decide +kernel
theorem dX7_takesOne_53 : decode cX7_takesOne 53 = .ok (.goto 11, 3) := by decide +kernel
theorem dX7_takesOne_56 : decode cX7_takesOne 56 = .ok (.aload_n 0, 1) := by decide +kernel
theorem dX7_takesOne_57 : decode cX7_takesOne 57 = .ok (.aload_n 0, 1) := by decide +kernel
theorem dX7_takesOne_58 : decode cX7_takesOne 58 = .ok (.getfield 65, 3) := by decide +kernel
theorem dX7_takesOne_61 : decode cX7_takesOne 61 = .ok (.invokevirtual 191, 3) := by decide +kernel
theorem dX7_takesOne_64 : decode cX7_takesOne 64 = .ok (.invokevirtual 177, 3) := by decide +kernel
theorem dX7_takesOne_67 : decode cX7_takesOne 67 = .ok (.aload_n 0, 1) := by decide +kernel
theorem dX7_takesOne_68 : decode cX7_takesOne 68 = .ok (.bipush 7, 2) := by decide +kernel
theorem dX7_takesOne_70 : decode cX7_takesOne 70 = .ok (.invokevirtual 219, 3) := by decide +kernel
theorem dX7_takesOne_73 : decode cX7_takesOne 73 = .ok (.iconst 2, 1) := by decide +kernel
theorem dX7_takesOne_74 : decode cX7_takesOne 74 = .ok (.ireturn, 1) := by decide +kernel
theorem dX7_takesOne_75 : decode cX7_takesOne 75 = .ok (.aload_n 0, 1) := by decide +kernel
theorem dX7_takesOne_76 : decode cX7_takesOne 76 = .ok (.getfield 62, 3) := by decide +kernel
theorem dX7_takesOne_79 : decode cX7_takesOne 79 = .ok (.bipush 45, 2) := by decide +kernel
theorem dX7_takesOne_81 : decode cX7_takesOne 81 = .ok (.if_icmp .ne 18, 3) := by decide +kernel
theorem dX7_takesOne_84 : decode cX7_takesOne 84 = .ok (.aload_n 0, 1) := by decide +kernel
theorem dX7_takesOne_85 : decode cX7_takesOne 85 = .ok (.bipush 10, 2) := by decide +kernel
theorem dX7_takesOne_87 : decode cX7_takesOne 87 = .ok (.invokevirtual 222, 3) := by decide +kernel
theorem dX7_takesOne_90 : decode cX7_takesOne 90 = .ok (.ifCond .eq 7, 3) := by decide +kernel
theorem dX7_takesOne_93 : decode cX7_takesOne 93 = .ok (.iconst 1, 1) := by decide +kernel
theorem dX7_takesOne_94 : decode cX7_takesOne 94 = .ok (.goto 4, 3) := by decide +kernel
theorem dX7_takesOne_97 : decode cX7_takesOne 97 = .ok (.iconst 0, 1) := by decide +kernel
theorem dX7_takesOne_98 : decode cX7_takesOne 98 = .ok (.ireturn, 1) := by decide +kernel
theorem dX7_takesOne_99 : decode cX7_takesOne 99 = .ok (.aload_n 0, 1) := by decide +kernel
theorem dX7_takesOne_100 : decode cX7_takesOne 100 = .ok (.getfield 62, 3) := by decide +kernel
theorem dX7_takesOne_103 : decode cX7_takesOne 103 = .ok (.bipush 40, 2) := by decide +kernel
theorem dX7_takesOne_105 : decode cX7_takesOne 105 = .ok (.if_icmp .ne 18, 3) := by decide +kernel
theorem dX7_takesOne_108 : decode cX7_takesOne 108 = .ok (.aload_n 0, 1) := by decide +kernel
theorem dX7_takesOne_109 : decode cX7_takesOne 109 = .ok (.bipush 20, 2) := by decide +kernel
theorem dX7_takesOne_111 : decode cX7_takesOne 111 = .ok (.invokevirtual 222, 3) := by decide +kernel
theorem dX7_takesOne_114 : decode cX7_takesOne 114 = .ok (.ifCond .eq 7, 3) := by decide +kernel
theorem dX7_takesOne_117 : decode cX7_takesOne 117 = .ok (.iconst 1, 1) := by decide +kernel
theorem dX7_takesOne_118 : decode cX7_takesOne 118 = .ok (.goto 4, 3) := by decide +kernel
theorem dX7_takesOne_121 : decode cX7_takesOne 121 = .ok (.iconst 0, 1) := by decide +kernel
theorem dX7_takesOne_122 : decode cX7_takesOne 122 = .ok (.ireturn, 1) := by decide +kernel
theorem dX7_takesOne_123 : decode cX7_takesOne 123 = .ok (.aload_n 0, 1) := by decide +kernel
theorem dX7_takesOne_124 : decode cX7_takesOne 124 = .ok (.sipush 14836, 3) := by decide +kernel
theorem dX7_takesOne_127 : decode cX7_takesOne 127 = .ok (.invokevirtual 225, 3) := by decide +kernel
theorem dX7_takesOne_130 : decode cX7_takesOne 130 = .ok (.ifCond .eq 19, 3) := by decide +kernel
theorem dX7_takesOne_133 : decode cX7_takesOne 133 = .ok (.iload_n 1, 1) := by decide +kernel
theorem dX7_takesOne_134 : decode cX7_takesOne 134 = .ok (.ifCond .eq 15, 3) := by decide +kernel
theorem dX7_takesOne_137 : decode cX7_takesOne 137 = .ok (.aload_n 0, 1) := by decide +kernel
theorem dX7_takesOne_138 : decode cX7_takesOne 138 = .ok (.iconst 4, 1) := by decide +kernel
theorem dX7_takesOne_139 : decode cX7_takesOne 139 = .ok (.invokevirtual 222, 3) := by decide +kernel
theorem dX7_takesOne_142 : decode cX7_takesOne 142 = .ok (.ifCond .eq 7, 3) := by decide +kernel
theorem dX7_takesOne_145 : decode cX7_takesOne 145 = .ok (.iconst 1, 1) := by decide +kernel
theorem dX7_takesOne_146 : decode cX7_takesOne 146 = .ok (.goto 4, 3) := by decide +kernel
theorem dX7_takesOne_149 : decode cX7_takesOne 149 = .ok (.iconst 0, 1) := by decide +kernel
theorem dX7_takesOne_150 : decode cX7_takesOne 150 = .ok (.ireturn, 1) := by decide +kernel
set_option maxRecDepth 100000 in
theorem ggX7_takesSign_X7_isWord : GoodIn wsX7_takesSign wsX7_isWord := goodIn_r _ [8, 1, 9, 34, 35, 36, 37, 38, 39, 40, 41, 42, 43, 44, 45, 46, 47, 48, 49, 50, 51, 52, 53, 54, 55, 56, 57, 58, 59, 60, 61, 62, 63, 64, 65, 66, 67, 68, 69, 70, 71, 72, 73, 74, 75, 76, 77, 78, 79, 80] rfl (by decide +kernel)
set_option maxRecDepth 100000 in
theorem gX7_takesSign_X7_isWord : GoodIn wsX7_takesSign (wsV RX7 225 RX7 yX7_isWord wsX7_isWord) := goodIn_app (goodIn_of _ (by decide +kernel)) ggX7_takesSign_X7_isWord
set_option maxRecDepth 100000 in
theorem ggX7_takesSign_X7_strength : GoodIn wsX7_takesSign wsX7_strength := goodIn_r _ [13] rfl (by decide +kernel)
set_option maxRecDepth 100000 in
theorem gX7_takesSign_X7_strength : GoodIn wsX7_takesSign (wsV RX7 212 RX7 yX7_strength wsX7_strength) := goodIn_app (goodIn_of _ (by decide +kernel)) ggX7_takesSign_X7_strength
set_option maxRecDepth 100000 in
theorem ggX7_takesSign_X7_settle : GoodIn wsX7_takesSign wsX7_settle := goodIn_r _ [17, 2, 18, 3, 19, 20, 21, 7, 22, 10, 11, 12, 13, 23, 24, 25, 26, 27, 28, 29, 34, 35, 36, 37, 38, 39, 40, 41, 42, 43, 44, 45, 46, 47, 48, 49, 50, 51, 52, 53, 54, 55, 56, 57, 58, 59, 60, 61, 62, 63, 64, 65, 66, 67, 68, 69, 70, 71, 72, 73, 74, 75, 76, 77, 78, 79, 80] rfl (by decide +kernel)
set_option maxRecDepth 100000 in
theorem gX7_takesSign_X7_settle : GoodIn wsX7_takesSign (wsV RX7 219 RX7 yX7_settle wsX7_settle) := goodIn_app (goodIn_of _ (by decide +kernel)) ggX7_takesSign_X7_settle
set_option maxRecDepth 100000 in
theorem ggX7_takesSign_X7_top : GoodIn wsX7_takesSign wsX7_top := goodIn_r _ [22, 2, 18, 34, 35, 36, 37, 38, 39, 40, 41, 42, 43, 44, 45, 46, 47, 48, 49, 50, 51, 52, 53, 54, 55, 56, 57, 58, 59, 60, 61, 62, 63, 64, 65, 66, 67, 68, 69, 70, 71, 72, 73, 74, 75, 76, 77, 78, 79, 80] rfl (by decide +kernel)
set_option maxRecDepth 100000 in
theorem gX7_takesSign_X7_top : GoodIn wsX7_takesSign (wsV RX7 208 RX7 yX7_top wsX7_top) := goodIn_app (goodIn_of _ (by decide +kernel)) ggX7_takesSign_X7_top
set_option maxRecDepth 100000 in
theorem ggX7_takesSign_X7_pushSign : GoodIn wsX7_takesSign wsX7_pushSign := goodIn_r _ [33, 18, 2, 34, 35, 36, 37, 38, 39, 40, 41, 42, 43, 44, 45, 46, 47, 48, 49, 50, 51, 52, 53, 54, 55, 56, 57, 58, 59, 60, 61, 62, 63, 64, 65, 66, 67, 68, 69, 70, 71, 72, 73, 74, 75, 76, 77, 78, 79, 80] rfl (by decide +kernel)
set_option maxRecDepth 100000 in
theorem gX7_takesSign_X7_pushSign : GoodIn wsX7_takesSign (wsV RX7 215 RX7 yX7_pushSign wsX7_pushSign) := goodIn_app (goodIn_of _ (by decide +kernel)) ggX7_takesSign_X7_pushSign
theorem dX7_takesSign_0 : decode cX7_takesSign 0 = .ok (.aload_n 0, 1) := by decide +kernel
theorem dX7_takesSign_1 : decode cX7_takesSign 1 = .ok (.getfield 62, 3) := by decide +kernel
theorem dX7_takesSign_4 : decode cX7_takesSign 4 = .ok (.bipush 42, 2) := by decide +kernel
theorem dX7_takesSign_6 : decode cX7_takesSign 6 = .ok (.if_icmp .ne 8, 3) := by decide +kernel
theorem dX7_takesSign_9 : decode cX7_takesSign 9 = .ok (.bipush 9, 2) := by decide +kernel
theorem dX7_takesSign_11 : decode cX7_takesSign 11 = .ok (.goto 87, 3) := by decide +kernel
theorem dX7_takesSign_14 : decode cX7_takesSign 14 = .ok (.aload_n 0, 1) := by decide +kernel
theorem dX7_takesSign_15 : decode cX7_takesSign 15 = .ok (.getfield 62, 3) := by decide +kernel
theorem dX7_takesSign_18 : decode cX7_takesSign 18 = .ok (.bipush 43, 2) := by decide +kernel
theorem dX7_takesSign_20 : decode cX7_takesSign 20 = .ok (.if_icmp .ne 8, 3) := by decide +kernel
theorem dX7_takesSign_23 : decode cX7_takesSign 23 = .ok (.bipush 7, 2) := by decide +kernel
theorem dX7_takesSign_25 : decode cX7_takesSign 25 = .ok (.goto 73, 3) := by decide +kernel
theorem dX7_takesSign_28 : decode cX7_takesSign 28 = .ok (.aload_n 0, 1) := by decide +kernel
theorem dX7_takesSign_29 : decode cX7_takesSign 29 = .ok (.getfield 62, 3) := by decide +kernel
theorem dX7_takesSign_32 : decode cX7_takesSign 32 = .ok (.bipush 45, 2) := by decide +kernel
theorem dX7_takesSign_34 : decode cX7_takesSign 34 = .ok (.if_icmp .ne 8, 3) := by decide +kernel
theorem dX7_takesSign_37 : decode cX7_takesSign 37 = .ok (.bipush 8, 2) := by decide +kernel
theorem dX7_takesSign_39 : decode cX7_takesSign 39 = .ok (.goto 59, 3) := by decide +kernel
theorem dX7_takesSign_42 : decode cX7_takesSign 42 = .ok (.aload_n 0, 1) := by decide +kernel
theorem dX7_takesSign_43 : decode cX7_takesSign 43 = .ok (.getfield 62, 3) := by decide +kernel
theorem dX7_takesSign_46 : decode cX7_takesSign 46 = .ok (.bipush 60, 2) := by decide +kernel
theorem dX7_takesSign_48 : decode cX7_takesSign 48 = .ok (.if_icmp .ne 7, 3) := by decide +kernel
theorem dX7_takesSign_51 : decode cX7_takesSign 51 = .ok (.iconst 5, 1) := by decide +kernel
theorem dX7_takesSign_52 : decode cX7_takesSign 52 = .ok (.goto 46, 3) := by decide +kernel
theorem dX7_takesSign_55 : decode cX7_takesSign 55 = .ok (.aload_n 0, 1) := by decide +kernel
theorem dX7_takesSign_56 : decode cX7_takesSign 56 = .ok (.getfield 62, 3) := by decide +kernel
theorem dX7_takesSign_59 : decode cX7_takesSign 59 = .ok (.bipush 61, 2) := by decide +kernel
theorem dX7_takesSign_61 : decode cX7_takesSign 61 = .ok (.if_icmp .ne 8, 3) := by decide +kernel
theorem dX7_takesSign_64 : decode cX7_takesSign 64 = .ok (.bipush 6, 2) := by decide +kernel
theorem dX7_takesSign_66 : decode cX7_takesSign 66 = .ok (.goto 32, 3) := by decide +kernel
theorem dX7_takesSign_69 : decode cX7_takesSign 69 = .ok (.aload_n 0, 1) := by decide +kernel
theorem dX7_takesSign_70 : decode cX7_takesSign 70 = .ok (.sipush 1476, 3) := by decide +kernel
theorem dX7_takesSign_73 : decode cX7_takesSign 73 = .ok (.invokevirtual 225, 3) := by decide +kernel
theorem dX7_takesSign_76 : decode cX7_takesSign 76 = .ok (.ifCond .eq 7, 3) := by decide +kernel
theorem dX7_takesSign_79 : decode cX7_takesSign 79 = .ok (.iconst 3, 1) := by decide +kernel
theorem dX7_takesSign_80 : decode cX7_takesSign 80 = .ok (.goto 18, 3) := by decide +kernel
theorem dX7_takesSign_83 : decode cX7_takesSign 83 = .ok (.aload_n 0, 1) := by decide +kernel
theorem dX7_takesSign_84 : decode cX7_takesSign 84 = .ok (.sipush 498, 3) := by decide +kernel
theorem dX7_takesSign_87 : decode cX7_takesSign 87 = .ok (.invokevirtual 225, 3) := by decide +kernel
theorem dX7_takesSign_90 : decode cX7_takesSign 90 = .ok (.ifCond .eq 7, 3) := by decide +kernel
theorem dX7_takesSign_93 : decode cX7_takesSign 93 = .ok (.iconst 2, 1) := by decide +kernel
theorem dX7_takesSign_94 : decode cX7_takesSign 94 = .ok (.goto 4, 3) := by decide +kernel
theorem dX7_takesSign_97 : decode cX7_takesSign 97 = .ok (.iconst (-1), 1) := by decide +kernel
theorem dX7_takesSign_98 : decode cX7_takesSign 98 = .ok (.istore_n 1, 1) := by decide +kernel
theorem dX7_takesSign_99 : decode cX7_takesSign 99 = .ok (.iload_n 1, 1) := by decide +kernel
theorem dX7_takesSign_100 : decode cX7_takesSign 100 = .ok (.ifCond .lt 59, 3) := by decide +kernel
theorem dX7_takesSign_103 : decode cX7_takesSign 103 = .ok (.aload_n 0, 1) := by decide +kernel
theorem dX7_takesSign_104 : decode cX7_takesSign 104 = .ok (.iload_n 1, 1) := by decide +kernel
theorem dX7_takesSign_105 : decode cX7_takesSign 105 = .ok (.iconst 5, 1) := by decide +kernel
theorem dX7_takesSign_106 : decode cX7_takesSign 106 = .ok (.if_icmp .eq 9, 3) := by decide +kernel
theorem dX7_takesSign_109 : decode cX7_takesSign 109 = .ok (.iload_n 1, 1) := by decide +kernel
theorem dX7_takesSign_110 : decode cX7_takesSign 110 = .ok (.bipush 6, 2) := by decide +kernel
theorem dX7_takesSign_112 : decode cX7_takesSign 112 = .ok (.if_icmp .ne 7, 3) := by decide +kernel
theorem dX7_takesSign_115 : decode cX7_takesSign 115 = .ok (.iconst 5, 1) := by decide +kernel
theorem dX7_takesSign_116 : decode cX7_takesSign 116 = .ok (.goto 8, 3) := by decide +kernel
theorem dX7_takesSign_119 : decode cX7_takesSign 119 = .ok (.aload_n 0, 1) := by decide +kernel
theorem dX7_takesSign_120 : decode cX7_takesSign 120 = .ok (.iload_n 1, 1) := by decide +kernel
theorem dX7_takesSign_121 : decode cX7_takesSign 121 = .ok (.invokevirtual 212, 3) := by decide +kernel
theorem dX7_takesSign_124 : decode cX7_takesSign 124 = .ok (.invokevirtual 219, 3) := by decide +kernel
theorem dX7_takesSign_127 : decode cX7_takesSign 127 = .ok (.iload_n 1, 1) := by decide +kernel
theorem dX7_takesSign_128 : decode cX7_takesSign 128 = .ok (.iconst 5, 1) := by decide +kernel
theorem dX7_takesSign_129 : decode cX7_takesSign 129 = .ok (.if_icmp .eq 9, 3) := by decide +kernel
theorem dX7_takesSign_132 : decode cX7_takesSign 132 = .ok (.iload_n 1, 1) := by decide +kernel
theorem dX7_takesSign_133 : decode cX7_takesSign 133 = .ok (.bipush 6, 2) := by decide +kernel
theorem dX7_takesSign_135 : decode cX7_takesSign 135 = .ok (.if_icmp .ne 17, 3) := by decide +kernel
theorem dX7_takesSign_138 : decode cX7_takesSign 138 = .ok (.aload_n 0, 1) := by decide +kernel
theorem dX7_takesSign_139 : decode cX7_takesSign 139 = .ok (.aload_n 0, 1) := by decide +kernel
theorem dX7_takesSign_140 : decode cX7_takesSign 140 = .ok (.invokevirtual 208, 3) := by decide +kernel
theorem dX7_takesSign_143 : decode cX7_takesSign 143 = .ok (.invokevirtual 212, 3) := by decide +kernel
theorem dX7_takesSign_146 : decode cX7_takesSign 146 = .ok (.iconst 4, 1) := by decide +kernel
theorem dX7_takesSign_147 : decode cX7_takesSign 147 = .ok (.if_icmp .ne 5, 3) := by decide +kernel
theorem dX7_takesSign_150 : decode cX7_takesSign 150 = .ok (.iconst 0, 1) := by decide +kernel
theorem dX7_takesSign_151 : decode cX7_takesSign 151 = .ok (.ireturn, 1) := by decide +kernel
theorem dX7_takesSign_152 : decode cX7_takesSign 152 = .ok (.aload_n 0, 1) := by decide +kernel
theorem dX7_takesSign_153 : decode cX7_takesSign 153 = .ok (.iload_n 1, 1) := by decide +kernel
theorem dX7_takesSign_154 : decode cX7_takesSign 154 = .ok (.invokevirtual 215, 3) := by decide +kernel
theorem dX7_takesSign_157 : decode cX7_takesSign 157 = .ok (.iconst 1, 1) := by decide +kernel
theorem dX7_takesSign_158 : decode cX7_takesSign 158 = .ok (.ireturn, 1) := by decide +kernel
theorem dX7_takesSign_159 : decode cX7_takesSign 159 = .ok (.aload_n 0, 1) := by decide +kernel
theorem dX7_takesSign_160 : decode cX7_takesSign 160 = .ok (.getfield 62, 3) := by decide +kernel
theorem dX7_takesSign_163 : decode cX7_takesSign 163 = .ok (.bipush 41, 2) := by decide +kernel
theorem dX7_takesSign_165 : decode cX7_takesSign 165 = .ok (.if_icmp .eq 5, 3) := by decide +kernel
theorem dX7_takesSign_168 : decode cX7_takesSign 168 = .ok (.iconst 0, 1) := by decide +kernel
theorem dX7_takesSign_169 : decode cX7_takesSign 169 = .ok (.ireturn, 1) := by decide +kernel
theorem dX7_takesSign_170 : decode cX7_takesSign 170 = .ok (.aload_n 0, 1) := by decide +kernel
theorem dX7_takesSign_171 : decode cX7_takesSign 171 = .ok (.iconst 1, 1) := by decide +kernel
theorem dX7_takesSign_172 : decode cX7_takesSign 172 = .ok (.invokevirtual 219, 3) := by decide +kernel
theorem dX7_takesSign_175 : decode cX7_takesSign 175 = .ok (.aload_n 0, 1) := by decide +kernel
theorem dX7_takesSign_176 : decode cX7_takesSign 176 = .ok (.invokevirtual 208, 3) := by decide +kernel
theorem dX7_takesSign_179 : decode cX7_takesSign 179 = .ok (.bipush 20, 2) := by decide +kernel
theorem dX7_takesSign_181 : decode cX7_takesSign 181 = .ok (.if_icmp .eq 5, 3) := by decide +kernel
theorem dX7_takesSign_184 : decode cX7_takesSign 184 = .ok (.iconst 0, 1) := by decide +kernel
theorem dX7_takesSign_185 : decode cX7_takesSign 185 = .ok (.ireturn, 1) := by decide +kernel
theorem dX7_takesSign_186 : decode cX7_takesSign 186 = .ok (.aload_n 0, 1) := by decide +kernel
theorem dX7_takesSign_187 : decode cX7_takesSign 187 = .ok (.dup, 1) := by decide +kernel
theorem dX7_takesSign_188 : decode cX7_takesSign 188 = .ok (.getfield 74, 3) := by decide +kernel
theorem dX7_takesSign_191 : decode cX7_takesSign 191 = .ok (.iconst 1, 1) := by decide +kernel
theorem dX7_takesSign_192 : decode cX7_takesSign 192 = .ok (.isub, 1) := by decide +kernel
theorem dX7_takesSign_193 : decode cX7_takesSign 193 = .ok (.putfield 74, 3) := by decide +kernel
theorem dX7_takesSign_196 : decode cX7_takesSign 196 = .ok (.aload_n 0, 1) := by decide +kernel
theorem dX7_takesSign_197 : decode cX7_takesSign 197 = .ok (.dup, 1) := by decide +kernel
theorem dX7_takesSign_198 : decode cX7_takesSign 198 = .ok (.getfield 71, 3) := by decide +kernel
theorem dX7_takesSign_201 : decode cX7_takesSign 201 = .ok (.iconst 1, 1) := by decide +kernel
theorem dX7_takesSign_202 : decode cX7_takesSign 202 = .ok (.isub, 1) := by decide +kernel
theorem dX7_takesSign_203 : decode cX7_takesSign 203 = .ok (.putfield 71, 3) := by decide +kernel
theorem dX7_takesSign_206 : decode cX7_takesSign 206 = .ok (.aload_n 0, 1) := by decide +kernel
theorem dX7_takesSign_207 : decode cX7_takesSign 207 = .ok (.bipush 7, 2) := by decide +kernel
theorem dX7_takesSign_209 : decode cX7_takesSign 209 = .ok (.invokevirtual 219, 3) := by decide +kernel
theorem dX7_takesSign_212 : decode cX7_takesSign 212 = .ok (.iconst 2, 1) := by decide +kernel
theorem dX7_takesSign_213 : decode cX7_takesSign 213 = .ok (.ireturn, 1) := by decide +kernel
set_option maxRecDepth 100000 in
theorem ggX7_takesE_X7_settle : GoodIn wsX7_takesE wsX7_settle := goodIn_r _ [9, 2, 10, 3, 11, 12, 13, 8, 14, 15, 16, 17, 18, 19, 20, 21, 22, 23, 1, 24, 90, 91, 92, 93, 94, 95, 96, 97, 98, 99, 100, 101, 102, 103, 104, 105, 106, 107, 108, 109, 110, 111, 112, 113, 114, 115, 116, 117, 118, 119, 120, 121, 122, 123, 124, 125, 126, 127, 128, 129, 130, 131, 132, 133, 134, 135, 136] rfl (by decide +kernel)
set_option maxRecDepth 100000 in
theorem gX7_takesE_X7_settle : GoodIn wsX7_takesE (wsV RX7 219 RX7 yX7_settle wsX7_settle) := goodIn_app (goodIn_of _ (by decide +kernel)) ggX7_takesE_X7_settle
set_option maxRecDepth 100000 in
theorem ggX7_takesE_X7_isWord : GoodIn wsX7_takesE wsX7_isWord := goodIn_r _ [28, 4, 29, 90, 91, 92, 93, 94, 95, 96, 97, 98, 99, 100, 101, 102, 103, 104, 105, 106, 107, 108, 109, 110, 111, 112, 113, 114, 115, 116, 117, 118, 119, 120, 121, 122, 123, 124, 125, 126, 127, 128, 129, 130, 131, 132, 133, 134, 135, 136] rfl (by decide +kernel)
set_option maxRecDepth 100000 in
theorem gX7_takesE_X7_isWord : GoodIn wsX7_takesE (wsV RX7 225 RX7 yX7_isWord wsX7_isWord) := goodIn_app (goodIn_of _ (by decide +kernel)) ggX7_takesE_X7_isWord
set_option maxRecDepth 100000 in
theorem ggX7_takesE_X7_takesOne : GoodIn wsX7_takesE wsX7_takesOne := goodIn_r _ [33, 4, 29, 34, 35, 36, 8, 37, 38, 39, 40, 41, 42, 43, 19, 20, 21, 22, 23, 1, 24, 5, 6, 7, 9, 2, 10, 3, 11, 12, 13, 14, 15, 16, 17, 18, 44, 45, 46, 47, 48, 49, 50, 51, 25, 26, 27, 28, 90, 91, 92, 93, 94, 95, 96, 97, 98, 99, 100, 101, 102, 103, 104, 105, 106, 107, 108, 109, 110, 111, 112, 113, 114, 115, 116, 117, 118, 119, 120, 121, 122, 123, 124, 125, 126, 127, 128, 129, 130, 131, 132, 133, 134, 135, 136] rfl (by decide +kernel)
set_option maxRecDepth 100000 in
theorem gX7_takesE_X7_takesOne : GoodIn wsX7_takesE (wsV RX7 228 RX7 yX7_takesOne wsX7_takesOne) := goodIn_app (goodIn_of _ (by decide +kernel)) ggX7_takesE_X7_takesOne
set_option maxRecDepth 100000 in
theorem ggX7_takesE_X7_takesSign : GoodIn wsX7_takesE wsX7_takesSign := goodIn_r _ [55, 4, 2, 3, 25, 26, 27, 8, 28, 29, 15, 16, 17, 18, 5, 6, 7, 9, 10, 11, 12, 13, 14, 19, 20, 21, 22, 23, 1, 24, 48, 49, 50, 51, 90, 91, 92, 93, 94, 95, 96, 97, 98, 99, 100, 101, 102, 103, 104, 105, 106, 107, 108, 109, 110, 111, 112, 113, 114, 115, 116, 117, 118, 119, 120, 121, 122, 123, 124, 125, 126, 127, 128, 129, 130, 131, 132, 133, 134, 135, 136] rfl (by decide +kernel)
set_option maxRecDepth 100000 in
theorem gX7_takesE_X7_takesSign : GoodIn wsX7_takesE (wsV RX7 232 RX7 yX7_takesSign wsX7_takesSign) := goodIn_app (goodIn_of _ (by decide +kernel)) ggX7_takesE_X7_takesSign
set_option maxRecDepth 100000 in
theorem ggX7_takesE_X7_goOn : GoodIn wsX7_takesE wsX7_goOn := goodIn_r _ [59, 60, 61, 62, 63, 64, 8, 65, 29, 4, 66, 67, 68, 69, 70, 71, 72, 73, 74, 75, 76, 77, 78, 79, 80, 81, 82, 83, 34, 35, 36, 37, 38, 39, 40, 41, 42, 43, 84, 85, 86, 87, 88, 89, 90, 91, 92, 93, 94, 95, 96, 97, 98, 99, 100, 101, 102, 103, 104, 105, 106, 107, 108, 109, 110, 111, 112, 113, 114, 115, 116, 117, 118, 119, 120, 121, 122, 123, 124, 125, 126, 127, 128, 129, 130, 131, 132, 133, 134, 135, 136] rfl (by decide +kernel)
set_option maxRecDepth 100000 in
theorem gX7_takesE_X7_goOn : GoodIn wsX7_takesE (wsV RX7 235 RX7 yX7_goOn wsX7_goOn) := goodIn_app (goodIn_of _ (by decide +kernel)) ggX7_takesE_X7_goOn
theorem dX7_takesE_0 : decode cX7_takesE 0 = .ok (.aload_n 0, 1) := by decide +kernel
theorem dX7_takesE_1 : decode cX7_takesE 1 = .ok (.iload_n 1, 1) := by decide +kernel
theorem dX7_takesE_2 : decode cX7_takesE 2 = .ok (.putfield 77, 3) := by decide +kernel
theorem dX7_takesE_5 : decode cX7_takesE 5 = .ok (.aload_n 0, 1) := by decide +kernel
theorem dX7_takesE_6 : decode cX7_takesE 6 = .ok (.iconst 0, 1) := by decide +kernel
theorem dX7_takesE_7 : decode cX7_takesE 7 = .ok (.putfield 74, 3) := by decide +kernel
theorem dX7_takesE_10 : decode cX7_takesE 10 = .ok (.aload_n 0, 1) := by decide +kernel
theorem dX7_takesE_11 : decode cX7_takesE 11 = .ok (.iconst 0, 1) := by decide +kernel
theorem dX7_takesE_12 : decode cX7_takesE 12 = .ok (.putfield 71, 3) := by decide +kernel
theorem dX7_takesE_15 : decode cX7_takesE 15 = .ok (.iconst 1, 1) := by decide +kernel
theorem dX7_takesE_16 : decode cX7_takesE 16 = .ok (.istore_n 2, 1) := by decide +kernel
theorem dX7_takesE_17 : decode cX7_takesE 17 = .ok (.iconst 1, 1) := by decide +kernel
theorem dX7_takesE_18 : decode cX7_takesE 18 = .ok (.istore_n 3, 1) := by decide +kernel
theorem dX7_takesE_19 : decode cX7_takesE 19 = .ok (.iload_n 2, 1) := by decide +kernel
theorem dX7_takesE_20 : decode cX7_takesE 20 = .ok (.ifCond .ne 55, 3) := by decide +kernel
theorem dX7_takesE_23 : decode cX7_takesE 23 = .ok (.aload_n 0, 1) := by decide +kernel
theorem dX7_takesE_24 : decode cX7_takesE 24 = .ok (.getfield 62, 3) := by decide +kernel
theorem dX7_takesE_27 : decode cX7_takesE 27 = .ok (.bipush 41, 2) := by decide +kernel
theorem dX7_takesE_29 : decode cX7_takesE 29 = .ok (.if_icmp .eq 46, 3) := by decide +kernel
theorem dX7_takesE_32 : decode cX7_takesE 32 = .ok (.aload_n 0, 1) := by decide +kernel
theorem dX7_takesE_33 : decode cX7_takesE 33 = .ok (.getfield 62, 3) := by decide +kernel
theorem dX7_takesE_36 : decode cX7_takesE 36 = .ok (.bipush 59, 2) := by decide +kernel
theorem dX7_takesE_38 : decode cX7_takesE 38 = .ok (.if_icmp .eq 10, 3) := by decide +kernel
theorem dX7_takesE_41 : decode cX7_takesE 41 = .ok (.aload_n 0, 1) := by decide +kernel
theorem dX7_takesE_42 : decode cX7_takesE 42 = .ok (.getfield 62, 3) := by decide +kernel
theorem dX7_takesE_45 : decode cX7_takesE 45 = .ok (.ifCond .ge 30, 3) := by decide +kernel
theorem dX7_takesE_48 : decode cX7_takesE 48 = .ok (.aload_n 0, 1) := by decide +kernel
theorem dX7_takesE_49 : decode cX7_takesE 49 = .ok (.iconst 1, 1) := by decide +kernel
theorem dX7_takesE_50 : decode cX7_takesE 50 = .ok (.invokevirtual 219, 3) := by decide +kernel
theorem dX7_takesE_53 : decode cX7_takesE 53 = .ok (.aload_n 0, 1) := by decide +kernel
theorem dX7_takesE_54 : decode cX7_takesE 54 = .ok (.getfield 74, 3) := by decide +kernel
theorem dX7_takesE_57 : decode cX7_takesE 57 = .ok (.ifCond .ne 16, 3) := by decide +kernel
theorem dX7_takesE_60 : decode cX7_takesE 60 = .ok (.aload_n 0, 1) := by decide +kernel
theorem dX7_takesE_61 : decode cX7_takesE 61 = .ok (.getfield 62, 3) := by decide +kernel
theorem dX7_takesE_64 : decode cX7_takesE 64 = .ok (.bipush 59, 2) := by decide +kernel
theorem dX7_takesE_66 : decode cX7_takesE 66 = .ok (.if_icmp .ne 7, 3) := by decide +kernel
theorem dX7_takesE_69 : decode cX7_takesE 69 = .ok (.iconst 1, 1) := by decide +kernel
theorem dX7_takesE_70 : decode cX7_takesE 70 = .ok (.goto 4, 3) := by decide +kernel
theorem dX7_takesE_73 : decode cX7_takesE 73 = .ok (.iconst 0, 1) := by decide +kernel
theorem dX7_takesE_74 : decode cX7_takesE 74 = .ok (.ireturn, 1) := by decide +kernel
theorem dX7_takesE_75 : decode cX7_takesE 75 = .ok (.aload_n 0, 1) := by decide +kernel
theorem dX7_takesE_76 : decode cX7_takesE 76 = .ok (.sipush 14836, 3) := by decide +kernel
theorem dX7_takesE_79 : decode cX7_takesE 79 = .ok (.invokevirtual 225, 3) := by decide +kernel
theorem dX7_takesE_82 : decode cX7_takesE 82 = .ok (.istore 4, 2) := by decide +kernel
theorem dX7_takesE_84 : decode cX7_takesE 84 = .ok (.aload_n 0, 1) := by decide +kernel
theorem dX7_takesE_85 : decode cX7_takesE 85 = .ok (.getfield 62, 3) := by decide +kernel
theorem dX7_takesE_88 : decode cX7_takesE 88 = .ok (.bipush 40, 2) := by decide +kernel
theorem dX7_takesE_90 : decode cX7_takesE 90 = .ok (.if_icmp .ne 7, 3) := by decide +kernel
theorem dX7_takesE_93 : decode cX7_takesE 93 = .ok (.iconst 1, 1) := by decide +kernel
theorem dX7_takesE_94 : decode cX7_takesE 94 = .ok (.goto 4, 3) := by decide +kernel
theorem dX7_takesE_97 : decode cX7_takesE 97 = .ok (.iconst 0, 1) := by decide +kernel
theorem dX7_takesE_98 : decode cX7_takesE 98 = .ok (.istore 5, 2) := by decide +kernel
theorem dX7_takesE_100 : decode cX7_takesE 100 = .ok (.aload_n 0, 1) := by decide +kernel
theorem dX7_takesE_101 : decode cX7_takesE 101 = .ok (.getfield 62, 3) := by decide +kernel
theorem dX7_takesE_104 : decode cX7_takesE 104 = .ok (.iconst 2, 1) := by decide +kernel
theorem dX7_takesE_105 : decode cX7_takesE 105 = .ok (.if_icmp .ne 7, 3) := by decide +kernel
theorem dX7_takesE_108 : decode cX7_takesE 108 = .ok (.iconst 1, 1) := by decide +kernel
theorem dX7_takesE_109 : decode cX7_takesE 109 = .ok (.goto 4, 3) := by decide +kernel
theorem dX7_takesE_112 : decode cX7_takesE 112 = .ok (.iconst 0, 1) := by decide +kernel
theorem dX7_takesE_113 : decode cX7_takesE 113 = .ok (.istore 6, 2) := by decide +kernel
theorem dX7_takesE_115 : decode cX7_takesE 115 = .ok (.iload_n 2, 1) := by decide +kernel
theorem dX7_takesE_116 : decode cX7_takesE 116 = .ok (.ifCond .eq 11, 3) := by decide +kernel
