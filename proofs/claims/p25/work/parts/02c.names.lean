theorem dJ13_bitCount_95d88_0 : decode cJ13_bitCount_95d88 0 = .ok (.lload_n 0, 1) := by decide +kernel
theorem dJ13_bitCount_95d88_1 : decode cJ13_bitCount_95d88 1 = .ok (.lload_n 0, 1) := by decide +kernel
theorem dJ13_bitCount_95d88_2 : decode cJ13_bitCount_95d88 2 = .ok (.iconst 1, 1) := by decide +kernel
theorem dJ13_bitCount_95d88_3 : decode cJ13_bitCount_95d88 3 = .ok (.lushr, 1) := by decide +kernel
theorem dJ13_bitCount_95d88_4 : decode cJ13_bitCount_95d88 4 = .ok (.ldc2_w 314, 3) := by decide +kernel
theorem dJ13_bitCount_95d88_7 : decode cJ13_bitCount_95d88 7 = .ok (.land, 1) := by decide +kernel
theorem dJ13_bitCount_95d88_8 : decode cJ13_bitCount_95d88 8 = .ok (.lsub, 1) := by decide +kernel
theorem dJ13_bitCount_95d88_9 : decode cJ13_bitCount_95d88 9 = .ok (.lstore_n 0, 1) := by decide +kernel
theorem dJ13_bitCount_95d88_10 : decode cJ13_bitCount_95d88 10 = .ok (.lload_n 0, 1) := by decide +kernel
theorem dJ13_bitCount_95d88_11 : decode cJ13_bitCount_95d88 11 = .ok (.ldc2_w 316, 3) := by decide +kernel
theorem dJ13_bitCount_95d88_14 : decode cJ13_bitCount_95d88 14 = .ok (.land, 1) := by decide +kernel
theorem dJ13_bitCount_95d88_15 : decode cJ13_bitCount_95d88 15 = .ok (.lload_n 0, 1) := by decide +kernel
theorem dJ13_bitCount_95d88_16 : decode cJ13_bitCount_95d88 16 = .ok (.iconst 2, 1) := by decide +kernel
theorem dJ13_bitCount_95d88_17 : decode cJ13_bitCount_95d88 17 = .ok (.lushr, 1) := by decide +kernel
theorem dJ13_bitCount_95d88_18 : decode cJ13_bitCount_95d88 18 = .ok (.ldc2_w 316, 3) := by decide +kernel
theorem dJ13_bitCount_95d88_21 : decode cJ13_bitCount_95d88 21 = .ok (.land, 1) := by decide +kernel
theorem dJ13_bitCount_95d88_22 : decode cJ13_bitCount_95d88 22 = .ok (.ladd, 1) := by decide +kernel
theorem dJ13_bitCount_95d88_23 : decode cJ13_bitCount_95d88 23 = .ok (.lstore_n 0, 1) := by decide +kernel
theorem dJ13_bitCount_95d88_24 : decode cJ13_bitCount_95d88 24 = .ok (.lload_n 0, 1) := by decide +kernel
theorem dJ13_bitCount_95d88_25 : decode cJ13_bitCount_95d88 25 = .ok (.lload_n 0, 1) := by decide +kernel
theorem dJ13_bitCount_95d88_26 : decode cJ13_bitCount_95d88 26 = .ok (.iconst 4, 1) := by decide +kernel
theorem dJ13_bitCount_95d88_27 : decode cJ13_bitCount_95d88 27 = .ok (.lushr, 1) := by decide +kernel
theorem dJ13_bitCount_95d88_28 : decode cJ13_bitCount_95d88 28 = .ok (.ladd, 1) := by decide +kernel
theorem dJ13_bitCount_95d88_29 : decode cJ13_bitCount_95d88 29 = .ok (.ldc2_w 318, 3) := by decide +kernel
theorem dJ13_bitCount_95d88_32 : decode cJ13_bitCount_95d88 32 = .ok (.land, 1) := by decide +kernel
theorem dJ13_bitCount_95d88_33 : decode cJ13_bitCount_95d88 33 = .ok (.lstore_n 0, 1) := by decide +kernel
theorem dJ13_bitCount_95d88_34 : decode cJ13_bitCount_95d88 34 = .ok (.lload_n 0, 1) := by decide +kernel
theorem dJ13_bitCount_95d88_35 : decode cJ13_bitCount_95d88 35 = .ok (.lload_n 0, 1) := by decide +kernel
theorem dJ13_bitCount_95d88_36 : decode cJ13_bitCount_95d88 36 = .ok (.bipush 8, 2) := by decide +kernel
theorem dJ13_bitCount_95d88_38 : decode cJ13_bitCount_95d88 38 = .ok (.lushr, 1) := by decide +kernel
theorem dJ13_bitCount_95d88_39 : decode cJ13_bitCount_95d88 39 = .ok (.ladd, 1) := by decide +kernel
theorem dJ13_bitCount_95d88_40 : decode cJ13_bitCount_95d88 40 = .ok (.lstore_n 0, 1) := by decide +kernel
theorem dJ13_bitCount_95d88_41 : decode cJ13_bitCount_95d88 41 = .ok (.lload_n 0, 1) := by decide +kernel
theorem dJ13_bitCount_95d88_42 : decode cJ13_bitCount_95d88 42 = .ok (.lload_n 0, 1) := by decide +kernel
theorem dJ13_bitCount_95d88_43 : decode cJ13_bitCount_95d88 43 = .ok (.bipush 16, 2) := by decide +kernel
theorem dJ13_bitCount_95d88_45 : decode cJ13_bitCount_95d88 45 = .ok (.lushr, 1) := by decide +kernel
theorem dJ13_bitCount_95d88_46 : decode cJ13_bitCount_95d88 46 = .ok (.ladd, 1) := by decide +kernel
theorem dJ13_bitCount_95d88_47 : decode cJ13_bitCount_95d88 47 = .ok (.lstore_n 0, 1) := by decide +kernel
theorem dJ13_bitCount_95d88_48 : decode cJ13_bitCount_95d88 48 = .ok (.lload_n 0, 1) := by decide +kernel
theorem dJ13_bitCount_95d88_49 : decode cJ13_bitCount_95d88 49 = .ok (.lload_n 0, 1) := by decide +kernel
theorem dJ13_bitCount_95d88_50 : decode cJ13_bitCount_95d88 50 = .ok (.bipush 32, 2) := by decide +kernel
theorem dJ13_bitCount_95d88_52 : decode cJ13_bitCount_95d88 52 = .ok (.lushr, 1) := by decide +kernel
theorem dJ13_bitCount_95d88_53 : decode cJ13_bitCount_95d88 53 = .ok (.ladd, 1) := by decide +kernel
theorem dJ13_bitCount_95d88_54 : decode cJ13_bitCount_95d88 54 = .ok (.lstore_n 0, 1) := by decide +kernel
theorem dJ13_bitCount_95d88_55 : decode cJ13_bitCount_95d88 55 = .ok (.lload_n 0, 1) := by decide +kernel
theorem dJ13_bitCount_95d88_56 : decode cJ13_bitCount_95d88 56 = .ok (.l2i, 1) := by decide +kernel
theorem dJ13_bitCount_95d88_57 : decode cJ13_bitCount_95d88 57 = .ok (.bipush 127, 2) := by decide +kernel
theorem dJ13_bitCount_95d88_59 : decode cJ13_bitCount_95d88 59 = .ok (.iand, 1) := by decide +kernel
theorem dJ13_bitCount_95d88_60 : decode cJ13_bitCount_95d88 60 = .ok (.ireturn, 1) := by decide +kernel
theorem dL_drawn_0 : decode cL_drawn 0 = .ok (.iload_n 1, 1) := by decide +kernel
theorem dL_drawn_1 : decode cL_drawn 1 = .ok (.aload_n 0, 1) := by decide +kernel
theorem dL_drawn_2 : decode cL_drawn 2 = .ok (.arraylength, 1) := by decide +kernel
theorem dL_drawn_3 : decode cL_drawn 3 = .ok (.if_icmp .ge 9, 3) := by decide +kernel
theorem dL_drawn_6 : decode cL_drawn 6 = .ok (.aload_n 0, 1) := by decide +kernel
theorem dL_drawn_7 : decode cL_drawn 7 = .ok (.iload_n 1, 1) := by decide +kernel
theorem dL_drawn_8 : decode cL_drawn 8 = .ok (.iaload, 1) := by decide +kernel
theorem dL_drawn_9 : decode cL_drawn 9 = .ok (.goto 12, 3) := by decide +kernel
theorem dL_drawn_12 : decode cL_drawn 12 = .ok (.sipush 12281, 3) := by decide +kernel
theorem dL_drawn_15 : decode cL_drawn 15 = .ok (.iload_n 1, 1) := by decide +kernel
theorem dL_drawn_16 : decode cL_drawn 16 = .ok (.imul, 1) := by decide +kernel
theorem dL_drawn_17 : decode cL_drawn 17 = .ok (.sipush 5011, 3) := by decide +kernel
theorem dL_drawn_20 : decode cL_drawn 20 = .ok (.iadd, 1) := by decide +kernel
theorem dL_drawn_21 : decode cL_drawn 21 = .ok (.istore_n 2, 1) := by decide +kernel
theorem dL_drawn_22 : decode cL_drawn 22 = .ok (.iload_n 2, 1) := by decide +kernel
theorem dL_drawn_23 : decode cL_drawn 23 = .ok (.ldc 7, 2) := by decide +kernel
theorem dL_drawn_25 : decode cL_drawn 25 = .ok (.iand, 1) := by decide +kernel
theorem dL_drawn_26 : decode cL_drawn 26 = .ok (.ireturn, 1) := by decide +kernel
set_option maxRecDepth 20000 in
theorem ggL_insert_X0_insert : GoodIn wsL_insert wsX0_insert := goodIn_ca (goodIn_ca (goodIn_ca (goodIn_r _ [8, 9, 10, 11, 12, 13, 14, 15, 7, 16, 17, 18, 19, 20, 21, 22, 23, 24, 25, 26, 27, 28, 29, 30, 31, 32, 33, 34, 35, 36, 37, 38, 39, 40, 41, 42, 43, 44, 45, 46, 47, 48, 49, 50, 51, 52, 53, 54, 55, 56, 57, 58, 59, 60, 61, 62, 63, 64, 65, 66, 67, 68, 69, 70, 71, 72, 73, 74, 75, 76, 77, 78, 79, 80, 81, 82, 83, 84, 85, 86, 87, 88, 89, 90, 91, 92, 93, 94, 95, 96, 97, 98, 99, 100] (by decide +kernel) (by decide +kernel)) (goodIn_sub (fun _ h => List.mem_cons_of_mem _ (List.mem_append_left _ (List.mem_append_left _ (List.mem_append_right _ h)))) (by decide +kernel))) (goodIn_sub (fun _ h => List.mem_cons_of_mem _ (List.mem_append_left _ (List.mem_append_right _ h))) (by decide +kernel))) (goodIn_sub (fun _ h => List.mem_cons_of_mem _ (List.mem_append_right _ h)) (by decide +kernel))
set_option maxRecDepth 20000 in
theorem gL_insert_X0_insert : GoodIn wsL_insert (wsV RL 8 RX0 yX0_insert wsX0_insert) := goodIn_app (goodIn_of _ (by decide +kernel)) ggL_insert_X0_insert
theorem dL_insert_0 : decode cL_insert 0 = .ok (.aload_n 0, 1) := by decide +kernel
theorem dL_insert_1 : decode cL_insert 1 = .ok (.iload_n 1, 1) := by decide +kernel
theorem dL_insert_2 : decode cL_insert 2 = .ok (.iload_n 2, 1) := by decide +kernel
theorem dL_insert_3 : decode cL_insert 3 = .ok (.iload_n 3, 1) := by decide +kernel
theorem dL_insert_4 : decode cL_insert 4 = .ok (.invokevirtual 8, 3) := by decide +kernel
theorem dL_insert_7 : decode cL_insert 7 = .ok (.ireturn, 1) := by decide +kernel
theorem dL_insert_8 : decode cL_insert 8 = .ok (.astore 4, 2) := by decide +kernel
theorem dL_insert_10 : decode cL_insert 10 = .ok (.bipush (-8), 2) := by decide +kernel
theorem dL_insert_12 : decode cL_insert 12 = .ok (.ireturn, 1) := by decide +kernel
theorem dL_insert_13 : decode cL_insert 13 = .ok (.astore 4, 2) := by decide +kernel
theorem dL_insert_15 : decode cL_insert 15 = .ok (.bipush (-8), 2) := by decide +kernel
theorem dL_insert_17 : decode cL_insert 17 = .ok (.ireturn, 1) := by decide +kernel
theorem dL_insert_18 : decode cL_insert 18 = .ok (.astore 4, 2) := by decide +kernel
theorem dL_insert_20 : decode cL_insert 20 = .ok (.bipush (-8), 2) := by decide +kernel
theorem dL_insert_22 : decode cL_insert 22 = .ok (.ireturn, 1) := by decide +kernel
set_option maxRecDepth 20000 in
theorem ggL_does_X0_delete : GoodIn wsL_does wsX0_delete := goodIn_ca (goodIn_ca (goodIn_r _ [7, 8, 9, 10, 11, 12, 6, 13, 14, 15, 16, 17, 18, 19, 20, 21, 22, 23, 24, 25, 26, 27, 28, 29, 30, 31, 32, 33, 34, 35, 36, 37, 38, 39, 40, 41, 42, 43, 44, 45, 46, 47, 48, 49, 50, 51, 52, 53, 54, 55, 56, 57, 58, 59, 60, 61, 62, 63, 64, 65, 66, 67, 68, 69, 70, 71, 72, 73, 74, 75, 76, 77, 78, 79, 107, 108, 109, 110, 111, 112, 113, 114, 115, 116, 117, 118, 119, 120] (by decide +kernel) (by decide +kernel)) (goodIn_sub (fun _ h => List.mem_cons_of_mem _ (List.mem_append_left _ (List.mem_append_right _ h))) (by decide +kernel))) (goodIn_sub (fun _ h => List.mem_cons_of_mem _ (List.mem_append_right _ h)) (by decide +kernel))
set_option maxRecDepth 20000 in
theorem gL_does_X0_delete : GoodIn wsL_does (wsV RL 20 RX0 yX0_delete wsX0_delete) := goodIn_app (goodIn_of _ (by decide +kernel)) ggL_does_X0_delete
set_option maxRecDepth 20000 in
theorem ggL_does_X0_learn : GoodIn wsL_does wsX0_learn := goodIn_ca (goodIn_r _ [83, 8, 10, 11, 12, 6, 13, 14, 15, 84, 85, 86, 87, 30, 88, 89, 90, 91, 92, 93, 94, 107, 108, 109, 110, 111, 112, 113, 114, 115, 116, 117, 118, 119, 120] (by decide +kernel) (by decide +kernel)) (goodIn_sub (fun _ h => List.mem_cons_of_mem _ (List.mem_append_left _ (List.mem_append_right _ h))) (by decide +kernel))
set_option maxRecDepth 20000 in
theorem gL_does_X0_learn : GoodIn wsL_does (wsV RL 24 RX0 yX0_learn wsX0_learn) := goodIn_app (goodIn_of _ (by decide +kernel)) ggL_does_X0_learn
set_option maxRecDepth 20000 in
theorem ggL_does_X0_learnEvent : GoodIn wsL_does wsX0_learnEvent := goodIn_ca (goodIn_r _ [98, 10, 11, 12, 6, 13, 14, 15, 99, 100, 101, 102, 46, 47, 48, 49, 28, 103, 104, 105, 106, 70, 34, 35, 36, 84, 85, 86, 87, 8, 30, 88, 89, 90, 91, 92, 93, 94, 107, 108, 109, 110, 111, 112, 113, 114, 115, 116, 117, 118, 119, 120] (by decide +kernel) (by decide +kernel)) (goodIn_sub (fun _ h => List.mem_cons_of_mem _ (List.mem_append_left _ (List.mem_append_right _ h))) (by decide +kernel))
set_option maxRecDepth 20000 in
theorem gL_does_X0_learnEvent : GoodIn wsL_does (wsV RL 27 RX0 yX0_learnEvent wsX0_learnEvent) := goodIn_app (goodIn_of _ (by decide +kernel)) ggL_does_X0_learnEvent
theorem dL_does_0 : decode cL_does 0 = .ok (.iload_n 1, 1) := by decide +kernel
theorem dL_does_1 : decode cL_does 1 = .ok (.ifCond .ne 12, 3) := by decide +kernel
theorem dL_does_4 : decode cL_does 4 = .ok (.aload_n 0, 1) := by decide +kernel
theorem dL_does_5 : decode cL_does 5 = .ok (.iload_n 2, 1) := by decide +kernel
theorem dL_does_6 : decode cL_does 6 = .ok (.iload_n 3, 1) := by decide +kernel
theorem dL_does_7 : decode cL_does 7 = .ok (.invokevirtual 20, 3) := by decide +kernel
theorem dL_does_10 : decode cL_does 10 = .ok (.goto 23, 3) := by decide +kernel
theorem dL_does_13 : decode cL_does 13 = .ok (.iload_n 1, 1) := by decide +kernel
theorem dL_does_14 : decode cL_does 14 = .ok (.iconst 1, 1) := by decide +kernel
theorem dL_does_15 : decode cL_does 15 = .ok (.if_icmp .ne 12, 3) := by decide +kernel
theorem dL_does_18 : decode cL_does 18 = .ok (.aload_n 0, 1) := by decide +kernel
theorem dL_does_19 : decode cL_does 19 = .ok (.iload_n 2, 1) := by decide +kernel
theorem dL_does_20 : decode cL_does 20 = .ok (.iload_n 3, 1) := by decide +kernel
theorem dL_does_21 : decode cL_does 21 = .ok (.invokevirtual 24, 3) := by decide +kernel
theorem dL_does_24 : decode cL_does 24 = .ok (.goto 9, 3) := by decide +kernel
theorem dL_does_27 : decode cL_does 27 = .ok (.aload_n 0, 1) := by decide +kernel
theorem dL_does_28 : decode cL_does 28 = .ok (.iload_n 2, 1) := by decide +kernel
theorem dL_does_29 : decode cL_does 29 = .ok (.iload_n 3, 1) := by decide +kernel
theorem dL_does_30 : decode cL_does 30 = .ok (.invokevirtual 27, 3) := by decide +kernel
theorem dL_does_33 : decode cL_does 33 = .ok (.ireturn, 1) := by decide +kernel
theorem dL_does_34 : decode cL_does 34 = .ok (.astore 4, 2) := by decide +kernel
theorem dL_does_36 : decode cL_does 36 = .ok (.bipush (-8), 2) := by decide +kernel
theorem dL_does_38 : decode cL_does 38 = .ok (.ireturn, 1) := by decide +kernel
theorem dL_does_39 : decode cL_does 39 = .ok (.astore 4, 2) := by decide +kernel
theorem dL_does_41 : decode cL_does 41 = .ok (.bipush (-8), 2) := by decide +kernel
theorem dL_does_43 : decode cL_does 43 = .ok (.ireturn, 1) := by decide +kernel
set_option maxRecDepth 20000 in
theorem ggL_of_X0_length : GoodIn wsL_of wsX0_length := goodIn_ca (goodIn_r _ [6, 7, 8, 9, 10, 5, 11, 12, 13, 14, 15, 16, 17, 18, 19, 20, 21, 22, 23, 24, 25, 26, 27, 28, 29, 30, 31, 32, 33, 34, 35, 36, 37, 38, 39, 40, 41, 42, 43, 44, 45, 46, 47, 48, 49, 50, 51, 52, 121, 122, 123, 124, 125, 126, 127, 128, 129, 130, 131, 132, 133, 134] (by decide +kernel) (by decide +kernel)) (goodIn_sub (fun _ h => List.mem_cons_of_mem _ (List.mem_append_right _ h)) (by decide +kernel))
set_option maxRecDepth 20000 in
theorem gL_of_X0_length : GoodIn wsL_of (wsV RL 30 RX0 yX0_length wsX0_length) := goodIn_app (goodIn_of _ (by decide +kernel)) ggL_of_X0_length
set_option maxRecDepth 20000 in
theorem ggL_of_X0_concurrent : GoodIn wsL_of wsX0_concurrent := goodIn_ca (goodIn_r _ [56, 7, 26, 28, 8, 9, 10, 5, 11, 12, 13, 29, 30, 31, 32, 33, 34, 57, 58, 59, 60, 61, 62, 63, 64, 65, 66, 67, 68, 69, 70, 71, 72, 73, 121, 122, 123, 124, 125, 126, 127, 128, 129, 130, 131, 132, 133, 134] (by decide +kernel) (by decide +kernel)) (goodIn_sub (fun _ h => List.mem_cons_of_mem _ (List.mem_append_right _ h)) (by decide +kernel))
set_option maxRecDepth 20000 in
theorem gL_of_X0_concurrent : GoodIn wsL_of (wsV RL 34 RX0 yX0_concurrent wsX0_concurrent) := goodIn_app (goodIn_of _ (by decide +kernel)) ggL_of_X0_concurrent
set_option maxRecDepth 20000 in
theorem ggL_of_X0_toReplay : GoodIn wsL_of wsX0_toReplay := goodIn_ca (goodIn_r _ [77, 7, 26, 28, 8, 9, 10, 5, 11, 12, 13, 78, 79, 80, 81, 29, 30, 31, 32, 33, 34, 57, 58, 59, 60, 61, 62, 63, 64, 65, 66, 67, 68, 69, 70, 71, 72, 73, 121, 122, 123, 124, 125, 126, 127, 128, 129, 130, 131, 132, 133, 134] (by decide +kernel) (by decide +kernel)) (goodIn_sub (fun _ h => List.mem_cons_of_mem _ (List.mem_append_right _ h)) (by decide +kernel))
set_option maxRecDepth 20000 in
theorem gL_of_X0_toReplay : GoodIn wsL_of (wsV RL 37 RX0 yX0_toReplay wsX0_toReplay) := goodIn_app (goodIn_of _ (by decide +kernel)) ggL_of_X0_toReplay
set_option maxRecDepth 20000 in
theorem ggL_of_X0_runs : GoodIn wsL_of wsX0_runs := goodIn_ca (goodIn_r _ [85, 7, 26, 8, 9, 10, 5, 11, 12, 13, 29, 30, 31, 32, 33, 34, 86, 87, 88, 89, 27, 90, 91, 35, 36, 37, 38, 39, 44, 45, 46, 47, 121, 122, 123, 124, 125, 126, 127, 128, 129, 130, 131, 132, 133, 134] (by decide +kernel) (by decide +kernel)) (goodIn_sub (fun _ h => List.mem_cons_of_mem _ (List.mem_append_right _ h)) (by decide +kernel))
set_option maxRecDepth 20000 in
theorem gL_of_X0_runs : GoodIn wsL_of (wsV RL 40 RX0 yX0_runs wsX0_runs) := goodIn_app (goodIn_of _ (by decide +kernel)) ggL_of_X0_runs
set_option maxRecDepth 20000 in
theorem ggL_of_X0_letterAt : GoodIn wsL_of wsX0_letterAt := goodIn_ca (goodIn_r _ [95, 39, 7, 8, 9, 10, 5, 11, 12, 13, 96, 97, 98, 99, 52, 14, 15, 16, 17, 18, 19, 20, 21, 22, 23, 24, 25, 26, 27, 28, 29, 30, 31, 32, 33, 34, 35, 36, 37, 38, 40, 41, 42, 43, 44, 45, 46, 47, 48, 49, 50, 51, 100, 101, 102, 103, 121, 122, 123, 124, 125, 126, 127, 128, 129, 130, 131, 132, 133, 134] (by decide +kernel) (by decide +kernel)) (goodIn_sub (fun _ h => List.mem_cons_of_mem _ (List.mem_append_right _ h)) (by decide +kernel))
set_option maxRecDepth 20000 in
theorem gL_of_X0_letterAt : GoodIn wsL_of (wsV RL 43 RX0 yX0_letterAt wsX0_letterAt) := goodIn_app (goodIn_of _ (by decide +kernel)) ggL_of_X0_letterAt
set_option maxRecDepth 20000 in
theorem ggL_of_X0_letterByList : GoodIn wsL_of wsX0_letterByList := goodIn_ca (goodIn_r _ [107, 7, 39, 52, 8, 9, 10, 5, 11, 12, 13, 108, 109, 110, 111, 112, 22, 23, 24, 25, 26, 27, 28, 29, 30, 31, 32, 33, 34, 35, 36, 37, 38, 113, 114, 115, 116, 44, 45, 46, 47, 48, 49, 50, 51, 100, 101, 102, 103, 121, 122, 123, 124, 125, 126, 127, 128, 129, 130, 131, 132, 133, 134] (by decide +kernel) (by decide +kernel)) (goodIn_sub (fun _ h => List.mem_cons_of_mem _ (List.mem_append_right _ h)) (by decide +kernel))
set_option maxRecDepth 20000 in
theorem gL_of_X0_letterByList : GoodIn wsL_of (wsV RL 46 RX0 yX0_letterByList wsX0_letterByList) := goodIn_app (goodIn_of _ (by decide +kernel)) ggL_of_X0_letterByList
set_option maxRecDepth 20000 in
theorem ggL_of_X0_eventAt : GoodIn wsL_of wsX0_eventAt := goodIn_ca (goodIn_r _ [120, 7, 8, 9, 10, 5, 11, 12, 13, 96, 97, 98, 99, 52, 14, 15, 16, 17, 18, 19, 20, 21, 22, 23, 24, 25, 26, 27, 28, 29, 30, 31, 32, 33, 34, 35, 36, 37, 38, 39, 40, 41, 42, 43, 44, 45, 46, 47, 48, 49, 50, 51, 100, 101, 102, 103, 121, 122, 123, 124, 125, 126, 127, 128, 129, 130, 131, 132, 133, 134] (by decide +kernel) (by decide +kernel)) (goodIn_sub (fun _ h => List.mem_cons_of_mem _ (List.mem_append_right _ h)) (by decide +kernel))
set_option maxRecDepth 20000 in
theorem gL_of_X0_eventAt : GoodIn wsL_of (wsV RL 49 RX0 yX0_eventAt wsX0_eventAt) := goodIn_app (goodIn_of _ (by decide +kernel)) ggL_of_X0_eventAt
theorem dL_of_0 : decode cL_of 0 = .ok (.iload_n 1, 1) := by decide +kernel
theorem dL_of_1 : decode cL_of 1 = .ok (.ifCond .ne 11, 3) := by decide +kernel
theorem dL_of_4 : decode cL_of 4 = .ok (.aload_n 0, 1) := by decide +kernel
theorem dL_of_5 : decode cL_of 5 = .ok (.iload_n 2, 1) := by decide +kernel
theorem dL_of_6 : decode cL_of 6 = .ok (.invokevirtual 30, 3) := by decide +kernel
theorem dL_of_9 : decode cL_of 9 = .ok (.goto 76, 3) := by decide +kernel
theorem dL_of_12 : decode cL_of 12 = .ok (.iload_n 1, 1) := by decide +kernel
theorem dL_of_13 : decode cL_of 13 = .ok (.iconst 1, 1) := by decide +kernel
theorem dL_of_14 : decode cL_of 14 = .ok (.if_icmp .ne 11, 3) := by decide +kernel
theorem dL_of_17 : decode cL_of 17 = .ok (.aload_n 0, 1) := by decide +kernel
theorem dL_of_18 : decode cL_of 18 = .ok (.iload_n 2, 1) := by decide +kernel
theorem dL_of_19 : decode cL_of 19 = .ok (.invokevirtual 34, 3) := by decide +kernel
theorem dL_of_22 : decode cL_of 22 = .ok (.goto 63, 3) := by decide +kernel
theorem dL_of_25 : decode cL_of 25 = .ok (.iload_n 1, 1) := by decide +kernel
theorem dL_of_26 : decode cL_of 26 = .ok (.iconst 2, 1) := by decide +kernel
theorem dL_of_27 : decode cL_of 27 = .ok (.if_icmp .ne 11, 3) := by decide +kernel
theorem dL_of_30 : decode cL_of 30 = .ok (.aload_n 0, 1) := by decide +kernel
theorem dL_of_31 : decode cL_of 31 = .ok (.iload_n 2, 1) := by decide +kernel
theorem dL_of_32 : decode cL_of 32 = .ok (.invokevirtual 37, 3) := by decide +kernel
theorem dL_of_35 : decode cL_of 35 = .ok (.goto 50, 3) := by decide +kernel
theorem dL_of_38 : decode cL_of 38 = .ok (.iload_n 1, 1) := by decide +kernel
theorem dL_of_39 : decode cL_of 39 = .ok (.iconst 3, 1) := by decide +kernel
theorem dL_of_40 : decode cL_of 40 = .ok (.if_icmp .ne 11, 3) := by decide +kernel
theorem dL_of_43 : decode cL_of 43 = .ok (.aload_n 0, 1) := by decide +kernel
theorem dL_of_44 : decode cL_of 44 = .ok (.iload_n 2, 1) := by decide +kernel
theorem dL_of_45 : decode cL_of 45 = .ok (.invokevirtual 40, 3) := by decide +kernel
theorem dL_of_48 : decode cL_of 48 = .ok (.goto 37, 3) := by decide +kernel
theorem dL_of_51 : decode cL_of 51 = .ok (.iload_n 1, 1) := by decide +kernel
theorem dL_of_52 : decode cL_of 52 = .ok (.iconst 4, 1) := by decide +kernel
theorem dL_of_53 : decode cL_of 53 = .ok (.if_icmp .ne 12, 3) := by decide +kernel
theorem dL_of_56 : decode cL_of 56 = .ok (.aload_n 0, 1) := by decide +kernel
theorem dL_of_57 : decode cL_of 57 = .ok (.iload_n 2, 1) := by decide +kernel
theorem dL_of_58 : decode cL_of 58 = .ok (.iload_n 3, 1) := by decide +kernel
theorem dL_of_59 : decode cL_of 59 = .ok (.invokevirtual 43, 3) := by decide +kernel
theorem dL_of_62 : decode cL_of 62 = .ok (.goto 23, 3) := by decide +kernel
theorem dL_of_65 : decode cL_of 65 = .ok (.iload_n 1, 1) := by decide +kernel
theorem dL_of_66 : decode cL_of 66 = .ok (.iconst 5, 1) := by decide +kernel
theorem dL_of_67 : decode cL_of 67 = .ok (.if_icmp .ne 12, 3) := by decide +kernel
theorem dL_of_70 : decode cL_of 70 = .ok (.aload_n 0, 1) := by decide +kernel
theorem dL_of_71 : decode cL_of 71 = .ok (.iload_n 2, 1) := by decide +kernel
theorem dL_of_72 : decode cL_of 72 = .ok (.iload_n 3, 1) := by decide +kernel
theorem dL_of_73 : decode cL_of 73 = .ok (.invokevirtual 46, 3) := by decide +kernel
theorem dL_of_76 : decode cL_of 76 = .ok (.goto 9, 3) := by decide +kernel
theorem dL_of_79 : decode cL_of 79 = .ok (.aload_n 0, 1) := by decide +kernel
theorem dL_of_80 : decode cL_of 80 = .ok (.iload_n 2, 1) := by decide +kernel
theorem dL_of_81 : decode cL_of 81 = .ok (.iload_n 3, 1) := by decide +kernel
theorem dL_of_82 : decode cL_of 82 = .ok (.invokevirtual 49, 3) := by decide +kernel
theorem dL_of_85 : decode cL_of 85 = .ok (.ireturn, 1) := by decide +kernel
theorem dL_of_86 : decode cL_of 86 = .ok (.astore 4, 2) := by decide +kernel
theorem dL_of_88 : decode cL_of 88 = .ok (.bipush (-8), 2) := by decide +kernel
theorem dL_of_90 : decode cL_of 90 = .ok (.ireturn, 1) := by decide +kernel
set_option maxRecDepth 20000 in
theorem ggL_set_X0_version : GoodIn wsL_set wsX0_version := goodIn_ca (goodIn_r _ [7, 8, 9, 10, 11, 6, 12, 13, 14, 90, 91, 92, 93, 94, 95, 96, 97, 98, 99, 100, 101, 102, 103] (by decide +kernel) (by decide +kernel)) (goodIn_sub (fun _ h => List.mem_cons_of_mem _ (List.mem_append_right _ h)) (by decide +kernel))
set_option maxRecDepth 20000 in
theorem gL_set_X0_version : GoodIn wsL_set (wsV RL 52 RX0 yX0_version wsX0_version) := goodIn_app (goodIn_of _ (by decide +kernel)) ggL_set_X0_version
set_option maxRecDepth 20000 in
theorem ggL_set_X0_heads : GoodIn wsL_set wsX0_heads := goodIn_ca (goodIn_r _ [18, 8, 9, 10, 11, 6, 12, 13, 14, 19, 20, 21, 22, 23, 24, 25, 26, 27, 28, 29, 30, 31, 90, 91, 92, 93, 94, 95, 96, 97, 98, 99, 100, 101, 102, 103] (by decide +kernel) (by decide +kernel)) (goodIn_sub (fun _ h => List.mem_cons_of_mem _ (List.mem_append_right _ h)) (by decide +kernel))
set_option maxRecDepth 20000 in
theorem gL_set_X0_heads : GoodIn wsL_set (wsV RL 56 RX0 yX0_heads wsX0_heads) := goodIn_app (goodIn_of _ (by decide +kernel)) ggL_set_X0_heads
set_option maxRecDepth 20000 in
theorem ggL_set_X0_critical : GoodIn wsL_set wsX0_critical := goodIn_ca (goodIn_r _ [35, 8, 9, 10, 11, 6, 12, 13, 14, 36, 37, 38, 39, 23, 25, 26, 27, 28, 29, 30, 31, 40, 41, 42, 43, 44, 45, 46, 47, 48, 49, 90, 91, 92, 93, 94, 95, 96, 97, 98, 99, 100, 101, 102, 103] (by decide +kernel) (by decide +kernel)) (goodIn_sub (fun _ h => List.mem_cons_of_mem _ (List.mem_append_right _ h)) (by decide +kernel))
set_option maxRecDepth 20000 in
theorem gL_set_X0_critical : GoodIn wsL_set (wsV RL 59 RX0 yX0_critical wsX0_critical) := goodIn_app (goodIn_of _ (by decide +kernel)) ggL_set_X0_critical
set_option maxRecDepth 20000 in
theorem ggL_set_X0_commonHeads : GoodIn wsL_set wsX0_commonHeads := goodIn_ca (goodIn_r _ [53, 8, 9, 10, 11, 6, 12, 13, 14, 19, 20, 21, 22, 23, 24, 25, 26, 27, 28, 29, 30, 31, 90, 91, 92, 93, 94, 95, 96, 97, 98, 99, 100, 101, 102, 103] (by decide +kernel) (by decide +kernel)) (goodIn_sub (fun _ h => List.mem_cons_of_mem _ (List.mem_append_right _ h)) (by decide +kernel))
set_option maxRecDepth 20000 in
theorem gL_set_X0_commonHeads : GoodIn wsL_set (wsV RL 62 RX0 yX0_commonHeads wsX0_commonHeads) := goodIn_app (goodIn_of _ (by decide +kernel)) ggL_set_X0_commonHeads
set_option maxRecDepth 20000 in
theorem ggL_set_X0_lettersBy : GoodIn wsL_set wsX0_lettersBy := goodIn_ca (goodIn_r _ [57, 8, 58, 59, 9, 10, 11, 6, 12, 13, 14, 60, 61, 62, 63, 64, 65, 66, 67, 68, 69, 70, 71, 23, 72, 25, 26, 27, 28, 29, 30, 31, 73, 74, 75, 76, 77, 78, 79, 80, 81, 82, 83, 84, 85, 86, 87, 88, 89, 90, 91, 92, 93, 94, 95, 96, 97, 98, 99, 100, 101, 102, 103] (by decide +kernel) (by decide +kernel)) (goodIn_sub (fun _ h => List.mem_cons_of_mem _ (List.mem_append_right _ h)) (by decide +kernel))
set_option maxRecDepth 20000 in
theorem gL_set_X0_lettersBy : GoodIn wsL_set (wsV RL 66 RX0 yX0_lettersBy wsX0_lettersBy) := goodIn_app (goodIn_of _ (by decide +kernel)) ggL_set_X0_lettersBy
theorem dL_set_0 : decode cL_set 0 = .ok (.iload_n 1, 1) := by decide +kernel
theorem dL_set_1 : decode cL_set 1 = .ok (.ifCond .ne 11, 3) := by decide +kernel
theorem dL_set_4 : decode cL_set 4 = .ok (.aload_n 0, 1) := by decide +kernel
theorem dL_set_5 : decode cL_set 5 = .ok (.iload_n 2, 1) := by decide +kernel
theorem dL_set_6 : decode cL_set 6 = .ok (.invokevirtual 52, 3) := by decide +kernel
theorem dL_set_9 : decode cL_set 9 = .ok (.goto 50, 3) := by decide +kernel
theorem dL_set_12 : decode cL_set 12 = .ok (.iload_n 1, 1) := by decide +kernel
theorem dL_set_13 : decode cL_set 13 = .ok (.iconst 1, 1) := by decide +kernel
theorem dL_set_14 : decode cL_set 14 = .ok (.if_icmp .ne 11, 3) := by decide +kernel
theorem dL_set_17 : decode cL_set 17 = .ok (.aload_n 0, 1) := by decide +kernel
theorem dL_set_18 : decode cL_set 18 = .ok (.iload_n 2, 1) := by decide +kernel
theorem dL_set_19 : decode cL_set 19 = .ok (.invokevirtual 56, 3) := by decide +kernel
theorem dL_set_22 : decode cL_set 22 = .ok (.goto 37, 3) := by decide +kernel
theorem dL_set_25 : decode cL_set 25 = .ok (.iload_n 1, 1) := by decide +kernel
theorem dL_set_26 : decode cL_set 26 = .ok (.iconst 2, 1) := by decide +kernel
theorem dL_set_27 : decode cL_set 27 = .ok (.if_icmp .ne 11, 3) := by decide +kernel
theorem dL_set_30 : decode cL_set 30 = .ok (.aload_n 0, 1) := by decide +kernel
theorem dL_set_31 : decode cL_set 31 = .ok (.iload_n 2, 1) := by decide +kernel
theorem dL_set_32 : decode cL_set 32 = .ok (.invokevirtual 59, 3) := by decide +kernel
theorem dL_set_35 : decode cL_set 35 = .ok (.goto 24, 3) := by decide +kernel
theorem dL_set_38 : decode cL_set 38 = .ok (.iload_n 1, 1) := by decide +kernel
theorem dL_set_39 : decode cL_set 39 = .ok (.iconst 3, 1) := by decide +kernel
theorem dL_set_40 : decode cL_set 40 = .ok (.if_icmp .ne 12, 3) := by decide +kernel
theorem dL_set_43 : decode cL_set 43 = .ok (.aload_n 0, 1) := by decide +kernel
theorem dL_set_44 : decode cL_set 44 = .ok (.iload_n 2, 1) := by decide +kernel
theorem dL_set_45 : decode cL_set 45 = .ok (.iload_n 3, 1) := by decide +kernel
theorem dL_set_46 : decode cL_set 46 = .ok (.invokevirtual 62, 3) := by decide +kernel
theorem dL_set_49 : decode cL_set 49 = .ok (.goto 10, 3) := by decide +kernel
theorem dL_set_52 : decode cL_set 52 = .ok (.aload_n 0, 1) := by decide +kernel
theorem dL_set_53 : decode cL_set 53 = .ok (.iload_n 2, 1) := by decide +kernel
theorem dL_set_54 : decode cL_set 54 = .ok (.iload_n 3, 1) := by decide +kernel
theorem dL_set_55 : decode cL_set 55 = .ok (.invokevirtual 66, 3) := by decide +kernel
theorem dL_set_58 : decode cL_set 58 = .ok (.i2l, 1) := by decide +kernel
theorem dL_set_59 : decode cL_set 59 = .ok (.lreturn, 1) := by decide +kernel
theorem dL_set_60 : decode cL_set 60 = .ok (.astore 4, 2) := by decide +kernel
theorem dL_set_62 : decode cL_set 62 = .ok (.ldc2_w 69, 3) := by decide +kernel
theorem dL_set_65 : decode cL_set 65 = .ok (.lreturn, 1) := by decide +kernel
set_option maxRecDepth 20000 in
theorem ggL_by_X0_parents : GoodIn wsL_by wsX0_parents := goodIn_ca (goodIn_r _ [7, 8, 9, 10, 11, 6, 12, 13, 14, 15, 16, 17, 18, 19, 84, 85, 86, 87, 88, 89, 90, 91, 92, 93, 94, 95, 96, 97] (by decide +kernel) (by decide +kernel)) (goodIn_sub (fun _ h => List.mem_cons_of_mem _ (List.mem_append_right _ h)) (by decide +kernel))
set_option maxRecDepth 20000 in
theorem gL_by_X0_parents : GoodIn wsL_by (wsV RL 71 RX0 yX0_parents wsX0_parents) := goodIn_app (goodIn_of _ (by decide +kernel)) ggL_by_X0_parents
set_option maxRecDepth 20000 in
theorem ggL_by_X0_lengthOf : GoodIn wsL_by wsX0_lengthOf := goodIn_ca (goodIn_r _ [23, 9, 10, 11, 6, 12, 13, 14, 15, 16, 17, 18, 19, 24, 25, 26, 27, 28, 29, 30, 31, 32, 33, 34, 35, 36, 37, 38, 39, 40, 41, 42, 43, 44, 45, 46, 47, 48, 49, 50, 51, 52, 53, 54, 55, 56, 57, 58, 59, 60, 61, 62, 84, 85, 86, 87, 88, 89, 90, 91, 92, 93, 94, 95, 96, 97] (by decide +kernel) (by decide +kernel)) (goodIn_sub (fun _ h => List.mem_cons_of_mem _ (List.mem_append_right _ h)) (by decide +kernel))
set_option maxRecDepth 20000 in
theorem gL_by_X0_lengthOf : GoodIn wsL_by (wsV RL 74 RX0 yX0_lengthOf wsX0_lengthOf) := goodIn_app (goodIn_of _ (by decide +kernel)) ggL_by_X0_lengthOf
set_option maxRecDepth 20000 in
theorem ggL_by_X0_letterOf : GoodIn wsL_by wsX0_letterOf := goodIn_ca (goodIn_r _ [66, 53, 9, 10, 11, 6, 12, 13, 14, 15, 16, 17, 18, 19, 24, 25, 26, 27, 28, 29, 30, 31, 67, 68, 69, 70, 62, 32, 33, 34, 35, 36, 37, 38, 39, 40, 41, 42, 43, 44, 45, 46, 47, 48, 49, 50, 51, 52, 54, 55, 56, 57, 58, 59, 60, 61, 71, 72, 73, 74, 84, 85, 86, 87, 88, 89, 90, 91, 92, 93, 94, 95, 96, 97] (by decide +kernel) (by decide +kernel)) (goodIn_sub (fun _ h => List.mem_cons_of_mem _ (List.mem_append_right _ h)) (by decide +kernel))
set_option maxRecDepth 20000 in
theorem gL_by_X0_letterOf : GoodIn wsL_by (wsV RL 77 RX0 yX0_letterOf wsX0_letterOf) := goodIn_app (goodIn_of _ (by decide +kernel)) ggL_by_X0_letterOf
set_option maxRecDepth 20000 in
theorem ggL_by_X0_isLater : GoodIn wsL_by wsX0_isLater := goodIn_ca (goodIn_r _ [78, 28, 9, 10, 11, 6, 12, 13, 14, 15, 16, 17, 18, 19, 46, 47, 48, 29, 30, 31, 84, 85, 86, 87, 88, 89, 90, 91, 92, 93, 94, 95, 96, 97] (by decide +kernel) (by decide +kernel)) (goodIn_sub (fun _ h => List.mem_cons_of_mem _ (List.mem_append_right _ h)) (by decide +kernel))
set_option maxRecDepth 20000 in
theorem gL_by_X0_isLater : GoodIn wsL_by (wsV RL 80 RX0 yX0_isLater wsX0_isLater) := goodIn_app (goodIn_of _ (by decide +kernel)) ggL_by_X0_isLater
set_option maxRecDepth 20000 in
theorem ggL_by_X0_authorOf : GoodIn wsL_by wsX0_authorOf := goodIn_ca (goodIn_r _ [82, 83, 9, 10, 11, 6, 12, 13, 14, 15, 16, 17, 18, 19, 84, 85, 86, 87, 88, 89, 90, 91, 92, 93, 94, 95, 96, 97] (by decide +kernel) (by decide +kernel)) (goodIn_sub (fun _ h => List.mem_cons_of_mem _ (List.mem_append_right _ h)) (by decide +kernel))
set_option maxRecDepth 20000 in
theorem gL_by_X0_authorOf : GoodIn wsL_by (wsV RL 84 RX0 yX0_authorOf wsX0_authorOf) := goodIn_app (goodIn_of _ (by decide +kernel)) ggL_by_X0_authorOf
theorem dL_by_0 : decode cL_by 0 = .ok (.iload_n 1, 1) := by decide +kernel
theorem dL_by_1 : decode cL_by 1 = .ok (.ifCond .ne 11, 3) := by decide +kernel
theorem dL_by_4 : decode cL_by 4 = .ok (.aload_n 0, 1) := by decide +kernel
theorem dL_by_5 : decode cL_by 5 = .ok (.iload_n 2, 1) := by decide +kernel
theorem dL_by_6 : decode cL_by 6 = .ok (.invokevirtual 71, 3) := by decide +kernel
theorem dL_by_9 : decode cL_by 9 = .ok (.goto 60, 3) := by decide +kernel
theorem dL_by_12 : decode cL_by 12 = .ok (.iload_n 1, 1) := by decide +kernel
theorem dL_by_13 : decode cL_by 13 = .ok (.iconst 1, 1) := by decide +kernel
theorem dL_by_14 : decode cL_by 14 = .ok (.if_icmp .ne 12, 3) := by decide +kernel
theorem dL_by_17 : decode cL_by 17 = .ok (.aload_n 0, 1) := by decide +kernel
theorem dL_by_18 : decode cL_by 18 = .ok (.iload_n 2, 1) := by decide +kernel
theorem dL_by_19 : decode cL_by 19 = .ok (.invokevirtual 74, 3) := by decide +kernel
theorem dL_by_22 : decode cL_by 22 = .ok (.i2l, 1) := by decide +kernel
theorem dL_by_23 : decode cL_by 23 = .ok (.goto 46, 3) := by decide +kernel
theorem dL_by_26 : decode cL_by 26 = .ok (.iload_n 1, 1) := by decide +kernel
theorem dL_by_27 : decode cL_by 27 = .ok (.iconst 2, 1) := by decide +kernel
theorem dL_by_28 : decode cL_by 28 = .ok (.if_icmp .ne 13, 3) := by decide +kernel
theorem dL_by_31 : decode cL_by 31 = .ok (.aload_n 0, 1) := by decide +kernel
theorem dL_by_32 : decode cL_by 32 = .ok (.iload_n 2, 1) := by decide +kernel
theorem dL_by_33 : decode cL_by 33 = .ok (.iload_n 3, 1) := by decide +kernel
theorem dL_by_34 : decode cL_by 34 = .ok (.invokevirtual 77, 3) := by decide +kernel
theorem dL_by_37 : decode cL_by 37 = .ok (.i2l, 1) := by decide +kernel
theorem dL_by_38 : decode cL_by 38 = .ok (.goto 31, 3) := by decide +kernel
theorem dL_by_41 : decode cL_by 41 = .ok (.iload_n 1, 1) := by decide +kernel
theorem dL_by_42 : decode cL_by 42 = .ok (.iconst 3, 1) := by decide +kernel
theorem dL_by_43 : decode cL_by 43 = .ok (.if_icmp .ne 20, 3) := by decide +kernel
theorem dL_by_46 : decode cL_by 46 = .ok (.aload_n 0, 1) := by decide +kernel
theorem dL_by_47 : decode cL_by 47 = .ok (.iload_n 2, 1) := by decide +kernel
theorem dL_by_48 : decode cL_by 48 = .ok (.iload_n 3, 1) := by decide +kernel
theorem dL_by_49 : decode cL_by 49 = .ok (.invokevirtual 80, 3) := by decide +kernel
theorem dL_by_52 : decode cL_by 52 = .ok (.ifCond .eq 7, 3) := by decide +kernel
theorem dL_by_55 : decode cL_by 55 = .ok (.lconst 1, 1) := by decide +kernel
theorem dL_by_56 : decode cL_by 56 = .ok (.goto 13, 3) := by decide +kernel
theorem dL_by_59 : decode cL_by 59 = .ok (.lconst 0, 1) := by decide +kernel
theorem dL_by_60 : decode cL_by 60 = .ok (.goto 9, 3) := by decide +kernel
theorem dL_by_63 : decode cL_by 63 = .ok (.aload_n 0, 1) := by decide +kernel
theorem dL_by_64 : decode cL_by 64 = .ok (.iload_n 2, 1) := by decide +kernel
theorem dL_by_65 : decode cL_by 65 = .ok (.invokevirtual 84, 3) := by decide +kernel
theorem dL_by_68 : decode cL_by 68 = .ok (.i2l, 1) := by decide +kernel
theorem dL_by_69 : decode cL_by 69 = .ok (.lreturn, 1) := by decide +kernel
theorem dL_by_70 : decode cL_by 70 = .ok (.astore 4, 2) := by decide +kernel
theorem dL_by_72 : decode cL_by 72 = .ok (.ldc2_w 69, 3) := by decide +kernel
theorem dL_by_75 : decode cL_by 75 = .ok (.lreturn, 1) := by decide +kernel
set_option maxRecDepth 20000 in
theorem ggL_law_X0_init : GoodIn wsL_law wsX0_init := goodIn_r _ [6, 7, 8, 9, 10, 11, 12, 13, 14, 15, 16, 17, 18, 19, 20, 21, 22, 23, 24, 25, 246, 247, 248, 249, 250, 251, 252, 253, 254, 255, 256, 257, 258, 259] (by decide +kernel) (by decide +kernel)
set_option maxRecDepth 20000 in
theorem gL_law_X0_init : GoodIn wsL_law (wsX0_init) := ggL_law_X0_init
set_option maxRecDepth 20000 in
theorem ggL_law_L_drawn : GoodIn wsL_law wsL_drawn := goodIn_r _ [29, 30] (by decide +kernel) (by decide +kernel)
set_option maxRecDepth 20000 in
theorem gL_law_L_drawn : GoodIn wsL_law (va_wsS RL 88 yL_drawn wsL_drawn) := goodIn_app (goodIn_of _ (by decide +kernel)) ggL_law_L_drawn
set_option maxRecDepth 20000 in
theorem ggL_law_X0_events : GoodIn wsL_law wsX0_events := goodIn_r _ [34, 10, 246, 247, 248, 249, 250, 251, 252, 253, 254, 255, 256, 257, 258, 259] (by decide +kernel) (by decide +kernel)
set_option maxRecDepth 20000 in
theorem gL_law_X0_events : GoodIn wsL_law (wsV RL 94 RX0 yX0_events wsX0_events) := goodIn_app (goodIn_of _ (by decide +kernel)) ggL_law_X0_events
set_option maxRecDepth 20000 in
theorem ggL_law_L_of : GoodIn wsL_law wsL_of := goodIn_ca (goodIn_r _ [37, 38, 39, 40, 41, 2, 42, 19, 43, 44, 45, 46, 47, 48, 49, 50, 51, 52, 20, 24, 22, 21, 53, 54, 55, 56, 10, 14, 57, 58, 59, 60, 61, 62, 63, 64, 65, 66, 67, 13, 68, 69, 70, 71, 72, 73, 74, 75, 76, 77, 78, 79, 23, 80, 81, 82, 83, 84, 85, 86, 87, 18, 88, 89, 90, 91, 17, 92, 93, 94, 95, 96, 97, 98, 99, 100, 101, 102, 103, 104, 105, 106, 107, 108, 109, 110, 111, 112, 113, 114, 16, 12, 115, 116, 117, 118, 119, 120, 121, 122, 123, 124, 125, 126, 127, 128, 129, 130, 131, 132, 133, 134, 25, 135, 136, 137, 138, 139, 140, 141, 142, 246, 247, 248, 249, 250, 251, 252, 253, 254, 255, 256, 257, 258, 259] (by decide +kernel) (by decide +kernel)) (goodIn_sub (fun _ h => List.mem_append_left _ (List.mem_append_left _ (List.mem_append_right _ h))) (by decide +kernel))
set_option maxRecDepth 20000 in
theorem gL_law_L_of : GoodIn wsL_law (va_wsS RL 98 yL_of wsL_of) := goodIn_app (goodIn_of _ (by decide +kernel)) ggL_law_L_of
set_option maxRecDepth 20000 in
theorem ggL_law_L_insert : GoodIn wsL_law wsL_insert := goodIn_ca (goodIn_ca (goodIn_ca (goodIn_r _ [145, 38, 146, 147, 148, 149, 150, 2, 151, 152, 153, 19, 23, 43, 44, 45, 46, 47, 48, 49, 50, 51, 52, 20, 24, 22, 21, 53, 54, 55, 56, 10, 14, 57, 58, 59, 60, 61, 62, 63, 64, 65, 66, 67, 13, 68, 69, 70, 71, 72, 73, 74, 75, 76, 77, 78, 79, 123, 124, 125, 126, 154, 155, 156, 157, 158, 159, 160, 161, 162, 163, 12, 16, 17, 164, 165, 166, 167, 168, 169, 170, 171, 18, 172, 173, 174, 175, 246, 247, 248, 249, 250, 251, 252, 253, 254, 255, 256, 257, 258, 259] (by decide +kernel) (by decide +kernel)) (goodIn_sub (fun _ h => List.mem_append_left _ (List.mem_append_right _ h)) (by decide +kernel))) (goodIn_sub (fun _ h => List.mem_append_left _ (List.mem_append_left _ (List.mem_append_right _ h))) (by decide +kernel))) (goodIn_sub (fun _ h => List.mem_append_right _ h) (by decide +kernel))
set_option maxRecDepth 20000 in
theorem gL_law_L_insert : GoodIn wsL_law (va_wsS RL 102 yL_insert wsL_insert) := goodIn_app (goodIn_of _ (by decide +kernel)) ggL_law_L_insert
set_option maxRecDepth 20000 in
theorem ggL_law_L_does : GoodIn wsL_law wsL_does := goodIn_ca (goodIn_ca (goodIn_r _ [178, 38, 147, 179, 180, 181, 2, 182, 19, 23, 43, 44, 45, 46, 47, 48, 49, 50, 51, 52, 20, 24, 22, 21, 53, 54, 55, 56, 10, 14, 57, 58, 59, 60, 61, 62, 63, 64, 65, 66, 67, 13, 68, 69, 70, 71, 72, 73, 74, 75, 76, 77, 78, 79, 123, 124, 125, 126, 154, 155, 156, 157, 158, 159, 160, 161, 162, 163, 12, 16, 17, 164, 165, 166, 167, 168, 169, 170, 171, 18, 183, 184, 185, 186, 187, 188, 189, 190, 92, 93, 94, 95, 96, 97, 98, 191, 192, 193, 194, 195, 196, 197, 198, 88, 89, 90, 91, 246, 247, 248, 249, 250, 251, 252, 253, 254, 255, 256, 257, 258, 259] (by decide +kernel) (by decide +kernel)) (goodIn_sub (fun _ h => List.mem_append_left _ (List.mem_append_left _ (List.mem_append_right _ h))) (by decide +kernel))) (goodIn_sub (fun _ h => List.mem_append_right _ h) (by decide +kernel))
set_option maxRecDepth 20000 in
theorem gL_law_L_does : GoodIn wsL_law (va_wsS RL 104 yL_does wsL_does) := goodIn_app (goodIn_of _ (by decide +kernel)) ggL_law_L_does
set_option maxRecDepth 20000 in
theorem ggL_law_L_set : GoodIn wsL_law wsL_set := goodIn_ca (goodIn_r _ [201, 38, 202, 203, 204, 205, 2, 206, 19, 43, 44, 45, 46, 47, 48, 207, 208, 209, 210, 164, 165, 166, 167, 10, 16, 57, 58, 59, 60, 61, 62, 63, 211, 212, 213, 214, 103, 104, 105, 106, 84, 85, 86, 87, 18, 88, 89, 90, 91, 17, 215, 216, 217, 218, 219, 220, 221, 222, 12, 23, 49, 50, 51, 52, 20, 24, 22, 21, 53, 54, 55, 56, 14, 64, 65, 66, 67, 13, 68, 69, 70, 71, 72, 73, 74, 75, 76, 77, 78, 79, 246, 247, 248, 249, 250, 251, 252, 253, 254, 255, 256, 257, 258, 259] (by decide +kernel) (by decide +kernel)) (goodIn_sub (fun _ h => List.mem_append_left _ (List.mem_append_left _ (List.mem_append_right _ h))) (by decide +kernel))
set_option maxRecDepth 20000 in
theorem gL_law_L_set : GoodIn wsL_law (va_wsS RL 107 yL_set wsL_set) := goodIn_app (goodIn_of _ (by decide +kernel)) ggL_law_L_set
set_option maxRecDepth 20000 in
theorem ggL_law_L_by : GoodIn wsL_law wsL_by := goodIn_ca (goodIn_r _ [225, 38, 202, 226, 227, 228, 2, 229, 16, 195, 196, 197, 198, 47, 48, 72, 73, 74, 75, 10, 230, 231, 232, 233, 88, 89, 90, 91, 17, 61, 62, 63, 49, 50, 51, 52, 20, 24, 22, 21, 53, 54, 55, 56, 14, 57, 58, 59, 60, 64, 65, 66, 67, 13, 68, 69, 70, 71, 76, 77, 78, 79, 23, 234, 235, 236, 237, 119, 120, 121, 122, 123, 124, 125, 126, 238, 239, 240, 241, 242, 243, 244, 245, 12, 246, 247, 248, 249, 250, 251, 252, 253, 254, 255, 256, 257, 258, 259] (by decide +kernel) (by decide +kernel)) (goodIn_sub (fun _ h => List.mem_append_left _ (List.mem_append_left _ (List.mem_append_right _ h))) (by decide +kernel))
set_option maxRecDepth 20000 in
theorem gL_law_L_by : GoodIn wsL_law (va_wsS RL 111 yL_by wsL_by) := goodIn_app (goodIn_of _ (by decide +kernel)) ggL_law_L_by
