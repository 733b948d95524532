set_option maxRecDepth 20000 in
theorem ggL_trackByErrors_X9_trackByErrors : GoodIn wsL_trackByErrors wsX9_trackByErrors := goodIn_ca (goodIn_r _ [6, 7, 8, 9, 10, 11, 12, 13, 14, 15, 16, 17, 18, 19, 20, 21, 22, 23, 24, 25, 26, 27, 28, 29, 30, 31, 32, 33, 34, 35, 36, 37, 38, 39, 40, 41, 42, 43, 44, 45, 46, 47, 48, 49, 50, 51, 52, 53, 54, 55, 56, 57, 58, 59, 60, 61, 62, 63, 64, 65, 66, 67, 68, 69, 70, 71, 72, 73, 74, 75, 76, 77, 78, 79, 80, 81, 82, 83, 84, 85, 86, 87, 88, 89, 90, 91, 92, 93, 94, 95, 96, 97, 98, 99, 100, 101, 102, 103, 104, 105, 106, 107, 108, 109, 110, 111, 112, 113, 114, 115, 116, 117, 118] (by decide +kernel) (by decide +kernel)) (goodIn_sub (fun _ h => List.mem_cons_of_mem _ (List.mem_append_right _ h)) (by decide +kernel))
set_option maxRecDepth 20000 in
theorem gL_trackByErrors_X9_trackByErrors : GoodIn wsL_trackByErrors (wsV RL 134 RX9 yX9_trackByErrors wsX9_trackByErrors) := goodIn_app (goodIn_of _ (by decide +kernel)) ggL_trackByErrors_X9_trackByErrors
theorem dL_trackByErrors_0 : decode cL_trackByErrors 0 = .ok (.aload_n 2, 1) := by decide +kernel
theorem dL_trackByErrors_1 : decode cL_trackByErrors 1 = .ok (.iconst 0, 1) := by decide +kernel
theorem dL_trackByErrors_2 : decode cL_trackByErrors 2 = .ok (.aload_n 0, 1) := by decide +kernel
theorem dL_trackByErrors_3 : decode cL_trackByErrors 3 = .ok (.iload_n 1, 1) := by decide +kernel
theorem dL_trackByErrors_4 : decode cL_trackByErrors 4 = .ok (.invokevirtual 134, 3) := by decide +kernel
theorem dL_trackByErrors_7 : decode cL_trackByErrors 7 = .ok (.i2l, 1) := by decide +kernel
theorem dL_trackByErrors_8 : decode cL_trackByErrors 8 = .ok (.lastore, 1) := by decide +kernel
theorem dL_trackByErrors_9 : decode cL_trackByErrors 9 = .ok (.goto 6, 3) := by decide +kernel
theorem dL_trackByErrors_12 : decode cL_trackByErrors 12 = .ok (.astore_n 3, 1) := by decide +kernel
theorem dL_trackByErrors_13 : decode cL_trackByErrors 13 = .ok (.iconst 1, 1) := by decide +kernel
theorem dL_trackByErrors_14 : decode cL_trackByErrors 14 = .ok (.ireturn, 1) := by decide +kernel
theorem dL_trackByErrors_15 : decode cL_trackByErrors 15 = .ok (.iconst 0, 1) := by decide +kernel
theorem dL_trackByErrors_16 : decode cL_trackByErrors 16 = .ok (.ireturn, 1) := by decide +kernel
set_option maxRecDepth 20000 in
theorem ggL_printByDoubts_X9_printByDoubts : GoodIn wsL_printByDoubts wsX9_printByDoubts := goodIn_ca (goodIn_r _ [6, 7, 8, 9, 10, 11, 12, 13, 14, 15, 16, 17, 18, 19, 20, 21, 22, 23, 24, 25, 26, 27, 28, 29, 30, 31, 32, 33, 34, 35, 36, 37, 38, 39, 40, 41, 42, 43, 44, 45, 46, 47, 48, 49] (by decide +kernel) (by decide +kernel)) (goodIn_sub (fun _ h => List.mem_cons_of_mem _ (List.mem_append_right _ h)) (by decide +kernel))
set_option maxRecDepth 20000 in
theorem gL_printByDoubts_X9_printByDoubts : GoodIn wsL_printByDoubts (wsV RL 137 RX9 yX9_printByDoubts wsX9_printByDoubts) := goodIn_app (goodIn_of _ (by decide +kernel)) ggL_printByDoubts_X9_printByDoubts
theorem dL_printByDoubts_0 : decode cL_printByDoubts 0 = .ok (.aload_n 2, 1) := by decide +kernel
theorem dL_printByDoubts_1 : decode cL_printByDoubts 1 = .ok (.iconst 0, 1) := by decide +kernel
theorem dL_printByDoubts_2 : decode cL_printByDoubts 2 = .ok (.aload_n 0, 1) := by decide +kernel
theorem dL_printByDoubts_3 : decode cL_printByDoubts 3 = .ok (.iload_n 1, 1) := by decide +kernel
theorem dL_printByDoubts_4 : decode cL_printByDoubts 4 = .ok (.invokevirtual 137, 3) := by decide +kernel
theorem dL_printByDoubts_7 : decode cL_printByDoubts 7 = .ok (.i2l, 1) := by decide +kernel
theorem dL_printByDoubts_8 : decode cL_printByDoubts 8 = .ok (.lastore, 1) := by decide +kernel
theorem dL_printByDoubts_9 : decode cL_printByDoubts 9 = .ok (.goto 6, 3) := by decide +kernel
theorem dL_printByDoubts_12 : decode cL_printByDoubts 12 = .ok (.astore_n 3, 1) := by decide +kernel
theorem dL_printByDoubts_13 : decode cL_printByDoubts 13 = .ok (.iconst 1, 1) := by decide +kernel
theorem dL_printByDoubts_14 : decode cL_printByDoubts 14 = .ok (.ireturn, 1) := by decide +kernel
theorem dL_printByDoubts_15 : decode cL_printByDoubts 15 = .ok (.iconst 0, 1) := by decide +kernel
theorem dL_printByDoubts_16 : decode cL_printByDoubts 16 = .ok (.ireturn, 1) := by decide +kernel
set_option maxRecDepth 20000 in
theorem ggL_printIn_X9_printIn : GoodIn wsL_printIn wsX9_printIn := goodIn_ca (goodIn_ca (goodIn_r _ [7, 8, 9, 10, 11, 6, 12, 13, 14, 15, 16, 17, 18, 19, 20, 21, 22, 23, 24, 25, 26, 27, 28, 29, 30, 31, 32, 33, 34, 35, 36, 37, 38, 39, 40, 41, 42, 43, 44, 45, 46, 47, 48, 49, 50, 51, 52, 53, 54, 55, 56, 57, 58, 59, 60, 61] (by decide +kernel) (by decide +kernel)) (goodIn_sub (fun _ h => List.mem_cons_of_mem _ (List.mem_append_left _ (List.mem_append_right _ h))) (by decide +kernel))) (goodIn_sub (fun _ h => List.mem_cons_of_mem _ (List.mem_append_right _ h)) (by decide +kernel))
set_option maxRecDepth 20000 in
theorem gL_printIn_X9_printIn : GoodIn wsL_printIn (wsV RL 140 RX9 yX9_printIn wsX9_printIn) := goodIn_app (goodIn_of _ (by decide +kernel)) ggL_printIn_X9_printIn
theorem dL_printIn_0 : decode cL_printIn 0 = .ok (.aload_n 3, 1) := by decide +kernel
theorem dL_printIn_1 : decode cL_printIn 1 = .ok (.iconst 0, 1) := by decide +kernel
theorem dL_printIn_2 : decode cL_printIn 2 = .ok (.aload_n 0, 1) := by decide +kernel
theorem dL_printIn_3 : decode cL_printIn 3 = .ok (.iload_n 1, 1) := by decide +kernel
theorem dL_printIn_4 : decode cL_printIn 4 = .ok (.iload_n 2, 1) := by decide +kernel
theorem dL_printIn_5 : decode cL_printIn 5 = .ok (.invokevirtual 140, 3) := by decide +kernel
theorem dL_printIn_8 : decode cL_printIn 8 = .ok (.i2l, 1) := by decide +kernel
theorem dL_printIn_9 : decode cL_printIn 9 = .ok (.lastore, 1) := by decide +kernel
theorem dL_printIn_10 : decode cL_printIn 10 = .ok (.goto 11, 3) := by decide +kernel
theorem dL_printIn_13 : decode cL_printIn 13 = .ok (.astore 4, 2) := by decide +kernel
theorem dL_printIn_15 : decode cL_printIn 15 = .ok (.iconst 1, 1) := by decide +kernel
theorem dL_printIn_16 : decode cL_printIn 16 = .ok (.ireturn, 1) := by decide +kernel
theorem dL_printIn_17 : decode cL_printIn 17 = .ok (.astore 4, 2) := by decide +kernel
theorem dL_printIn_19 : decode cL_printIn 19 = .ok (.iconst 2, 1) := by decide +kernel
theorem dL_printIn_20 : decode cL_printIn 20 = .ok (.ireturn, 1) := by decide +kernel
theorem dL_printIn_21 : decode cL_printIn 21 = .ok (.iconst 0, 1) := by decide +kernel
theorem dL_printIn_22 : decode cL_printIn 22 = .ok (.ireturn, 1) := by decide +kernel
set_option maxRecDepth 20000 in
theorem ggL_printsInRow_X9_printsInRow : GoodIn wsL_printsInRow wsX9_printsInRow := goodIn_ca (goodIn_r _ [6, 7, 8, 9, 5, 10, 11, 12, 13, 14, 15, 16, 17, 18, 19, 20, 21, 22, 23, 24, 25, 26, 27, 28, 29, 30, 31, 32, 33, 34, 35, 36, 37, 38, 39, 40, 41, 42, 43, 44, 45, 46, 47, 48, 49, 50] (by decide +kernel) (by decide +kernel)) (goodIn_sub (fun _ h => List.mem_cons_of_mem _ (List.mem_append_right _ h)) (by decide +kernel))
set_option maxRecDepth 20000 in
theorem gL_printsInRow_X9_printsInRow : GoodIn wsL_printsInRow (wsV RL 143 RX9 yX9_printsInRow wsX9_printsInRow) := goodIn_app (goodIn_of _ (by decide +kernel)) ggL_printsInRow_X9_printsInRow
theorem dL_printsInRow_0 : decode cL_printsInRow 0 = .ok (.aload_n 2, 1) := by decide +kernel
theorem dL_printsInRow_1 : decode cL_printsInRow 1 = .ok (.iconst 0, 1) := by decide +kernel
theorem dL_printsInRow_2 : decode cL_printsInRow 2 = .ok (.aload_n 0, 1) := by decide +kernel
theorem dL_printsInRow_3 : decode cL_printsInRow 3 = .ok (.iload_n 1, 1) := by decide +kernel
theorem dL_printsInRow_4 : decode cL_printsInRow 4 = .ok (.invokevirtual 143, 3) := by decide +kernel
theorem dL_printsInRow_7 : decode cL_printsInRow 7 = .ok (.i2l, 1) := by decide +kernel
theorem dL_printsInRow_8 : decode cL_printsInRow 8 = .ok (.lastore, 1) := by decide +kernel
theorem dL_printsInRow_9 : decode cL_printsInRow 9 = .ok (.goto 6, 3) := by decide +kernel
theorem dL_printsInRow_12 : decode cL_printsInRow 12 = .ok (.astore_n 3, 1) := by decide +kernel
theorem dL_printsInRow_13 : decode cL_printsInRow 13 = .ok (.iconst 1, 1) := by decide +kernel
theorem dL_printsInRow_14 : decode cL_printsInRow 14 = .ok (.ireturn, 1) := by decide +kernel
theorem dL_printsInRow_15 : decode cL_printsInRow 15 = .ok (.iconst 0, 1) := by decide +kernel
theorem dL_printsInRow_16 : decode cL_printsInRow 16 = .ok (.ireturn, 1) := by decide +kernel
set_option maxRecDepth 20000 in
theorem ggL_erasedBy_X9_erasedBy : GoodIn wsL_erasedBy wsX9_erasedBy := goodIn_ca (goodIn_r _ [6, 7, 8, 9, 5, 10, 11, 12, 13, 14, 15, 16, 17, 18, 19, 20, 21, 22, 23, 24, 25, 26, 27, 28, 29, 30, 31, 32, 33, 34, 35, 36, 37, 38, 39, 40, 41, 42, 43, 44, 45, 46, 47, 48, 49, 50] (by decide +kernel) (by decide +kernel)) (goodIn_sub (fun _ h => List.mem_cons_of_mem _ (List.mem_append_right _ h)) (by decide +kernel))
set_option maxRecDepth 20000 in
theorem gL_erasedBy_X9_erasedBy : GoodIn wsL_erasedBy (wsV RL 146 RX9 yX9_erasedBy wsX9_erasedBy) := goodIn_app (goodIn_of _ (by decide +kernel)) ggL_erasedBy_X9_erasedBy
theorem dL_erasedBy_0 : decode cL_erasedBy 0 = .ok (.aload_n 2, 1) := by decide +kernel
theorem dL_erasedBy_1 : decode cL_erasedBy 1 = .ok (.iconst 0, 1) := by decide +kernel
theorem dL_erasedBy_2 : decode cL_erasedBy 2 = .ok (.aload_n 0, 1) := by decide +kernel
theorem dL_erasedBy_3 : decode cL_erasedBy 3 = .ok (.iload_n 1, 1) := by decide +kernel
theorem dL_erasedBy_4 : decode cL_erasedBy 4 = .ok (.invokevirtual 146, 3) := by decide +kernel
theorem dL_erasedBy_7 : decode cL_erasedBy 7 = .ok (.i2l, 1) := by decide +kernel
theorem dL_erasedBy_8 : decode cL_erasedBy 8 = .ok (.lastore, 1) := by decide +kernel
theorem dL_erasedBy_9 : decode cL_erasedBy 9 = .ok (.goto 6, 3) := by decide +kernel
theorem dL_erasedBy_12 : decode cL_erasedBy 12 = .ok (.astore_n 3, 1) := by decide +kernel
theorem dL_erasedBy_13 : decode cL_erasedBy 13 = .ok (.iconst 1, 1) := by decide +kernel
theorem dL_erasedBy_14 : decode cL_erasedBy 14 = .ok (.ireturn, 1) := by decide +kernel
theorem dL_erasedBy_15 : decode cL_erasedBy 15 = .ok (.iconst 0, 1) := by decide +kernel
theorem dL_erasedBy_16 : decode cL_erasedBy 16 = .ok (.ireturn, 1) := by decide +kernel
set_option maxRecDepth 20000 in
theorem ggL_lateShare_X9_lateShare : GoodIn wsL_lateShare wsX9_lateShare := goodIn_ca (goodIn_r _ [6, 7, 8, 9, 10, 11, 12, 13, 14, 15, 16, 17, 18, 19, 20, 21, 22, 23, 24, 25, 26, 27, 28, 29, 30, 31, 32, 33, 34, 35, 36, 37, 38, 39, 40, 41, 42, 43, 44, 45, 46, 47, 48, 49, 50, 51, 52, 53] (by decide +kernel) (by decide +kernel)) (goodIn_sub (fun _ h => List.mem_cons_of_mem _ (List.mem_append_right _ h)) (by decide +kernel))
set_option maxRecDepth 20000 in
theorem gL_lateShare_X9_lateShare : GoodIn wsL_lateShare (wsV RL 149 RX9 yX9_lateShare wsX9_lateShare) := goodIn_app (goodIn_of _ (by decide +kernel)) ggL_lateShare_X9_lateShare
theorem dL_lateShare_0 : decode cL_lateShare 0 = .ok (.aload_n 1, 1) := by decide +kernel
theorem dL_lateShare_1 : decode cL_lateShare 1 = .ok (.iconst 0, 1) := by decide +kernel
theorem dL_lateShare_2 : decode cL_lateShare 2 = .ok (.aload_n 0, 1) := by decide +kernel
theorem dL_lateShare_3 : decode cL_lateShare 3 = .ok (.invokevirtual 149, 3) := by decide +kernel
theorem dL_lateShare_6 : decode cL_lateShare 6 = .ok (.f2d, 1) := by decide +kernel
theorem dL_lateShare_7 : decode cL_lateShare 7 = .ok (.dastore, 1) := by decide +kernel
theorem dL_lateShare_8 : decode cL_lateShare 8 = .ok (.goto 6, 3) := by decide +kernel
theorem dL_lateShare_11 : decode cL_lateShare 11 = .ok (.astore_n 2, 1) := by decide +kernel
theorem dL_lateShare_12 : decode cL_lateShare 12 = .ok (.iconst 1, 1) := by decide +kernel
theorem dL_lateShare_13 : decode cL_lateShare 13 = .ok (.ireturn, 1) := by decide +kernel
theorem dL_lateShare_14 : decode cL_lateShare 14 = .ok (.iconst 0, 1) := by decide +kernel
theorem dL_lateShare_15 : decode cL_lateShare 15 = .ok (.ireturn, 1) := by decide +kernel
set_option maxRecDepth 20000 in
theorem ggL_writeTrack_X9_writeTrack : GoodIn wsL_writeTrack wsX9_writeTrack := goodIn_ca (goodIn_ca (goodIn_r _ [6, 7, 8, 9, 10, 11, 12, 5, 13, 14, 15, 16, 17, 18, 19, 20, 21, 22, 23, 24, 25, 26, 27, 28, 29, 30, 31, 32, 33, 34, 35, 36, 37, 38, 39, 40, 41, 42, 43, 44, 45, 46, 47, 48, 49, 50, 51, 52, 53, 54, 55, 56, 57, 58, 59, 60, 61, 62, 63, 64, 65, 66, 67, 68, 69, 70, 71, 72, 73, 74, 75, 76, 77, 78, 79, 80, 81, 82, 83, 84, 85, 86, 87, 88, 89, 90, 91, 92, 93, 94, 95, 96, 97, 98, 99, 100, 101, 102, 103, 104, 105, 106, 107, 108, 109, 110, 111, 112, 113, 114, 115, 116, 117, 118, 119, 120, 121, 122, 123, 124, 125, 126, 127, 128, 129, 130, 131, 132, 133, 134, 135, 136, 137, 138, 139, 140, 141, 142, 143, 144, 145, 146, 147, 148] (by decide +kernel) (by decide +kernel)) (goodIn_sub (fun _ h => List.mem_cons_of_mem _ (List.mem_append_right _ h)) (by decide +kernel))) (goodIn_sub (fun _ h => List.mem_cons_of_mem _ (List.mem_append_left _ (List.mem_append_right _ h))) (by decide +kernel))
set_option maxRecDepth 20000 in
theorem gL_writeTrack_X9_writeTrack : GoodIn wsL_writeTrack (wsV RL 153 RX9 yX9_writeTrack wsX9_writeTrack) := goodIn_app (goodIn_of _ (by decide +kernel)) ggL_writeTrack_X9_writeTrack
theorem dL_writeTrack_0 : decode cL_writeTrack 0 = .ok (.aload_n 2, 1) := by decide +kernel
theorem dL_writeTrack_1 : decode cL_writeTrack 1 = .ok (.iconst 0, 1) := by decide +kernel
theorem dL_writeTrack_2 : decode cL_writeTrack 2 = .ok (.aload_n 0, 1) := by decide +kernel
theorem dL_writeTrack_3 : decode cL_writeTrack 3 = .ok (.iload_n 1, 1) := by decide +kernel
theorem dL_writeTrack_4 : decode cL_writeTrack 4 = .ok (.invokevirtual 153, 3) := by decide +kernel
theorem dL_writeTrack_7 : decode cL_writeTrack 7 = .ok (.i2l, 1) := by decide +kernel
theorem dL_writeTrack_8 : decode cL_writeTrack 8 = .ok (.lastore, 1) := by decide +kernel
theorem dL_writeTrack_9 : decode cL_writeTrack 9 = .ok (.goto 6, 3) := by decide +kernel
theorem dL_writeTrack_12 : decode cL_writeTrack 12 = .ok (.astore_n 3, 1) := by decide +kernel
theorem dL_writeTrack_13 : decode cL_writeTrack 13 = .ok (.iconst 1, 1) := by decide +kernel
theorem dL_writeTrack_14 : decode cL_writeTrack 14 = .ok (.ireturn, 1) := by decide +kernel
theorem dL_writeTrack_15 : decode cL_writeTrack 15 = .ok (.iconst 0, 1) := by decide +kernel
theorem dL_writeTrack_16 : decode cL_writeTrack 16 = .ok (.ireturn, 1) := by decide +kernel
set_option maxRecDepth 20000 in
theorem ggL_writeRow_X9_writeRow : GoodIn wsL_writeRow wsX9_writeRow := goodIn_ca (goodIn_ca (goodIn_r _ [6, 7, 8, 9, 10, 5, 11, 12, 13, 14, 15, 16, 17, 18, 19, 20, 21, 22, 23, 24, 25, 26, 27, 28, 29, 30, 31, 32, 33, 34, 35, 36, 37, 38, 39, 40, 41, 42, 43, 44, 45, 46, 47, 48, 49, 50, 51, 52, 53, 54, 55, 56, 57, 58, 59, 60, 61, 62, 63, 64, 65, 66, 67, 68, 69, 70, 71, 72, 73, 74, 75, 76] (by decide +kernel) (by decide +kernel)) (goodIn_sub (fun _ h => List.mem_cons_of_mem _ (List.mem_append_right _ h)) (by decide +kernel))) (goodIn_sub (fun _ h => List.mem_cons_of_mem _ (List.mem_append_left _ (List.mem_append_right _ h))) (by decide +kernel))
set_option maxRecDepth 20000 in
theorem gL_writeRow_X9_writeRow : GoodIn wsL_writeRow (wsV RL 156 RX9 yX9_writeRow wsX9_writeRow) := goodIn_app (goodIn_of _ (by decide +kernel)) ggL_writeRow_X9_writeRow
theorem dL_writeRow_0 : decode cL_writeRow 0 = .ok (.aload_n 2, 1) := by decide +kernel
theorem dL_writeRow_1 : decode cL_writeRow 1 = .ok (.iconst 0, 1) := by decide +kernel
theorem dL_writeRow_2 : decode cL_writeRow 2 = .ok (.aload_n 0, 1) := by decide +kernel
theorem dL_writeRow_3 : decode cL_writeRow 3 = .ok (.iload_n 1, 1) := by decide +kernel
theorem dL_writeRow_4 : decode cL_writeRow 4 = .ok (.invokevirtual 156, 3) := by decide +kernel
theorem dL_writeRow_7 : decode cL_writeRow 7 = .ok (.i2l, 1) := by decide +kernel
theorem dL_writeRow_8 : decode cL_writeRow 8 = .ok (.lastore, 1) := by decide +kernel
theorem dL_writeRow_9 : decode cL_writeRow 9 = .ok (.goto 6, 3) := by decide +kernel
theorem dL_writeRow_12 : decode cL_writeRow 12 = .ok (.astore_n 3, 1) := by decide +kernel
theorem dL_writeRow_13 : decode cL_writeRow 13 = .ok (.iconst 1, 1) := by decide +kernel
theorem dL_writeRow_14 : decode cL_writeRow 14 = .ok (.ireturn, 1) := by decide +kernel
theorem dL_writeRow_15 : decode cL_writeRow 15 = .ok (.iconst 0, 1) := by decide +kernel
theorem dL_writeRow_16 : decode cL_writeRow 16 = .ok (.ireturn, 1) := by decide +kernel
set_option maxRecDepth 20000 in
theorem ggL_outputAt_X9_outputAt : GoodIn wsL_outputAt wsX9_outputAt := goodIn_ca (goodIn_ca (goodIn_r _ [6, 7, 8, 9, 10, 11, 12, 13, 14, 15, 16, 17, 18, 19, 20, 21, 22, 23, 24, 25, 26, 27, 28, 29, 30, 31, 32, 33] (by decide +kernel) (by decide +kernel)) (goodIn_sub (fun _ h => List.mem_cons_of_mem _ (List.mem_append_right _ h)) (by decide +kernel))) (goodIn_sub (fun _ h => List.mem_cons_of_mem _ (List.mem_append_left _ (List.mem_append_right _ h))) (by decide +kernel))
set_option maxRecDepth 20000 in
theorem gL_outputAt_X9_outputAt : GoodIn wsL_outputAt (wsV RL 159 RX9 yX9_outputAt wsX9_outputAt) := goodIn_app (goodIn_of _ (by decide +kernel)) ggL_outputAt_X9_outputAt
theorem dL_outputAt_0 : decode cL_outputAt 0 = .ok (.aload_n 2, 1) := by decide +kernel
theorem dL_outputAt_1 : decode cL_outputAt 1 = .ok (.iconst 0, 1) := by decide +kernel
theorem dL_outputAt_2 : decode cL_outputAt 2 = .ok (.aload_n 0, 1) := by decide +kernel
theorem dL_outputAt_3 : decode cL_outputAt 3 = .ok (.iload_n 1, 1) := by decide +kernel
theorem dL_outputAt_4 : decode cL_outputAt 4 = .ok (.invokevirtual 159, 3) := by decide +kernel
theorem dL_outputAt_7 : decode cL_outputAt 7 = .ok (.i2l, 1) := by decide +kernel
theorem dL_outputAt_8 : decode cL_outputAt 8 = .ok (.lastore, 1) := by decide +kernel
theorem dL_outputAt_9 : decode cL_outputAt 9 = .ok (.goto 6, 3) := by decide +kernel
theorem dL_outputAt_12 : decode cL_outputAt 12 = .ok (.astore_n 3, 1) := by decide +kernel
theorem dL_outputAt_13 : decode cL_outputAt 13 = .ok (.iconst 1, 1) := by decide +kernel
theorem dL_outputAt_14 : decode cL_outputAt 14 = .ok (.ireturn, 1) := by decide +kernel
theorem dL_outputAt_15 : decode cL_outputAt 15 = .ok (.iconst 0, 1) := by decide +kernel
theorem dL_outputAt_16 : decode cL_outputAt 16 = .ok (.ireturn, 1) := by decide +kernel
set_option maxRecDepth 20000 in
theorem ggL_appendInput_X9_appendInput : GoodIn wsL_appendInput wsX9_appendInput := goodIn_ca (goodIn_ca (goodIn_ca (goodIn_r _ [7, 8, 9, 10, 11, 12, 13, 14, 15, 16, 17, 18, 19, 20, 21, 22, 23, 24, 25, 26, 27, 28, 29, 30, 31, 32, 33, 34, 35, 36, 37, 38, 39, 40, 41, 42] (by decide +kernel) (by decide +kernel)) (goodIn_sub (fun _ h => List.mem_cons_of_mem _ (List.mem_append_left _ (List.mem_append_right _ h))) (by decide +kernel))) (goodIn_sub (fun _ h => List.mem_cons_of_mem _ (List.mem_append_right _ h)) (by decide +kernel))) (goodIn_sub (fun _ h => List.mem_cons_of_mem _ (List.mem_append_left _ (List.mem_append_left _ (List.mem_append_right _ h)))) (by decide +kernel))
set_option maxRecDepth 20000 in
theorem gL_appendInput_X9_appendInput : GoodIn wsL_appendInput (wsV RL 163 RX9 yX9_appendInput wsX9_appendInput) := goodIn_app (goodIn_of _ (by decide +kernel)) ggL_appendInput_X9_appendInput
theorem dL_appendInput_0 : decode cL_appendInput 0 = .ok (.aload_n 2, 1) := by decide +kernel
theorem dL_appendInput_1 : decode cL_appendInput 1 = .ok (.iconst 0, 1) := by decide +kernel
theorem dL_appendInput_2 : decode cL_appendInput 2 = .ok (.aload_n 0, 1) := by decide +kernel
theorem dL_appendInput_3 : decode cL_appendInput 3 = .ok (.iload_n 1, 1) := by decide +kernel
theorem dL_appendInput_4 : decode cL_appendInput 4 = .ok (.invokevirtual 163, 3) := by decide +kernel
theorem dL_appendInput_7 : decode cL_appendInput 7 = .ok (.i2l, 1) := by decide +kernel
theorem dL_appendInput_8 : decode cL_appendInput 8 = .ok (.lastore, 1) := by decide +kernel
theorem dL_appendInput_9 : decode cL_appendInput 9 = .ok (.goto 9, 3) := by decide +kernel
theorem dL_appendInput_12 : decode cL_appendInput 12 = .ok (.astore_n 3, 1) := by decide +kernel
theorem dL_appendInput_13 : decode cL_appendInput 13 = .ok (.iconst 1, 1) := by decide +kernel
theorem dL_appendInput_14 : decode cL_appendInput 14 = .ok (.ireturn, 1) := by decide +kernel
theorem dL_appendInput_15 : decode cL_appendInput 15 = .ok (.astore_n 3, 1) := by decide +kernel
theorem dL_appendInput_16 : decode cL_appendInput 16 = .ok (.iconst 2, 1) := by decide +kernel
theorem dL_appendInput_17 : decode cL_appendInput 17 = .ok (.ireturn, 1) := by decide +kernel
theorem dL_appendInput_18 : decode cL_appendInput 18 = .ok (.iconst 0, 1) := by decide +kernel
theorem dL_appendInput_19 : decode cL_appendInput 19 = .ok (.ireturn, 1) := by decide +kernel
