set_option maxRecDepth 20000 in
theorem ggL_maxStride_X9_maxStride : GoodIn wsL_maxStride wsX9_maxStride := goodIn_ca (goodIn_r _ [6, 7, 8, 9, 10, 5, 11, 12, 13, 14, 15, 16, 17, 18, 19, 20, 21, 22, 23, 24, 25, 26, 27, 28, 29, 30, 31, 32, 33, 34, 35, 36, 37, 38, 39, 40, 41, 42] (by decide +kernel) (by decide +kernel)) (goodIn_sub (fun _ h => List.mem_cons_of_mem _ (List.mem_append_right _ h)) (by decide +kernel))
set_option maxRecDepth 20000 in
theorem gL_maxStride_X9_maxStride : GoodIn wsL_maxStride (wsV RL 94 RX9 yX9_maxStride wsX9_maxStride) := goodIn_app (goodIn_of _ (by decide +kernel)) ggL_maxStride_X9_maxStride
theorem dL_maxStride_0 : decode cL_maxStride 0 = .ok (.aload_n 2, 1) := by decide +kernel
theorem dL_maxStride_1 : decode cL_maxStride 1 = .ok (.iconst 0, 1) := by decide +kernel
theorem dL_maxStride_2 : decode cL_maxStride 2 = .ok (.aload_n 0, 1) := by decide +kernel
theorem dL_maxStride_3 : decode cL_maxStride 3 = .ok (.iload_n 1, 1) := by decide +kernel
theorem dL_maxStride_4 : decode cL_maxStride 4 = .ok (.invokevirtual 94, 3) := by decide +kernel
theorem dL_maxStride_7 : decode cL_maxStride 7 = .ok (.i2l, 1) := by decide +kernel
theorem dL_maxStride_8 : decode cL_maxStride 8 = .ok (.lastore, 1) := by decide +kernel
theorem dL_maxStride_9 : decode cL_maxStride 9 = .ok (.goto 6, 3) := by decide +kernel
theorem dL_maxStride_12 : decode cL_maxStride 12 = .ok (.astore_n 3, 1) := by decide +kernel
theorem dL_maxStride_13 : decode cL_maxStride 13 = .ok (.iconst 1, 1) := by decide +kernel
theorem dL_maxStride_14 : decode cL_maxStride 14 = .ok (.ireturn, 1) := by decide +kernel
theorem dL_maxStride_15 : decode cL_maxStride 15 = .ok (.iconst 0, 1) := by decide +kernel
theorem dL_maxStride_16 : decode cL_maxStride 16 = .ok (.ireturn, 1) := by decide +kernel
set_option maxRecDepth 20000 in
theorem ggL_printCount_X9_printCount : GoodIn wsL_printCount wsX9_printCount := goodIn_ca (goodIn_r _ [6, 7, 8, 9, 10, 5, 11, 12, 13, 14, 15, 16, 17, 18, 19, 20, 21, 22, 23, 24, 25, 26, 27, 28, 29, 30, 31, 32, 33, 34, 35, 36, 37, 38, 39, 40, 41, 42, 43, 44, 45, 46, 47, 48, 49, 50, 51, 52, 53, 54, 55, 56, 57, 58, 59, 60, 61, 62, 63, 64, 65, 66, 67, 68] (by decide +kernel) (by decide +kernel)) (goodIn_sub (fun _ h => List.mem_cons_of_mem _ (List.mem_append_right _ h)) (by decide +kernel))
set_option maxRecDepth 20000 in
theorem gL_printCount_X9_printCount : GoodIn wsL_printCount (wsV RL 97 RX9 yX9_printCount wsX9_printCount) := goodIn_app (goodIn_of _ (by decide +kernel)) ggL_printCount_X9_printCount
theorem dL_printCount_0 : decode cL_printCount 0 = .ok (.aload_n 2, 1) := by decide +kernel
theorem dL_printCount_1 : decode cL_printCount 1 = .ok (.iconst 0, 1) := by decide +kernel
theorem dL_printCount_2 : decode cL_printCount 2 = .ok (.aload_n 0, 1) := by decide +kernel
theorem dL_printCount_3 : decode cL_printCount 3 = .ok (.iload_n 1, 1) := by decide +kernel
theorem dL_printCount_4 : decode cL_printCount 4 = .ok (.invokevirtual 97, 3) := by decide +kernel
theorem dL_printCount_7 : decode cL_printCount 7 = .ok (.i2l, 1) := by decide +kernel
theorem dL_printCount_8 : decode cL_printCount 8 = .ok (.lastore, 1) := by decide +kernel
theorem dL_printCount_9 : decode cL_printCount 9 = .ok (.goto 6, 3) := by decide +kernel
theorem dL_printCount_12 : decode cL_printCount 12 = .ok (.astore_n 3, 1) := by decide +kernel
theorem dL_printCount_13 : decode cL_printCount 13 = .ok (.iconst 1, 1) := by decide +kernel
theorem dL_printCount_14 : decode cL_printCount 14 = .ok (.ireturn, 1) := by decide +kernel
theorem dL_printCount_15 : decode cL_printCount 15 = .ok (.iconst 0, 1) := by decide +kernel
theorem dL_printCount_16 : decode cL_printCount 16 = .ok (.ireturn, 1) := by decide +kernel
set_option maxRecDepth 20000 in
theorem ggL_printAt_X9_printAt : GoodIn wsL_printAt wsX9_printAt := goodIn_ca (goodIn_ca (goodIn_r _ [7, 8, 9, 10, 11, 12, 6, 13, 14, 15, 16, 17, 18, 19, 20, 21, 22, 23, 24, 25, 26, 27, 28, 29, 30, 31, 32, 33, 34, 35, 36, 37, 38, 39, 40, 41, 42, 43, 44, 45, 46, 47, 48, 49, 50, 51, 52, 53, 54, 55, 56, 57, 58, 59, 60, 61, 62, 63, 64, 65, 66, 67, 68, 69, 70, 71, 72, 73, 74, 75] (by decide +kernel) (by decide +kernel)) (goodIn_sub (fun _ h => List.mem_cons_of_mem _ (List.mem_append_left _ (List.mem_append_right _ h))) (by decide +kernel))) (goodIn_sub (fun _ h => List.mem_cons_of_mem _ (List.mem_append_right _ h)) (by decide +kernel))
set_option maxRecDepth 20000 in
theorem gL_printAt_X9_printAt : GoodIn wsL_printAt (wsV RL 100 RX9 yX9_printAt wsX9_printAt) := goodIn_app (goodIn_of _ (by decide +kernel)) ggL_printAt_X9_printAt
theorem dL_printAt_0 : decode cL_printAt 0 = .ok (.aload_n 3, 1) := by decide +kernel
theorem dL_printAt_1 : decode cL_printAt 1 = .ok (.iconst 0, 1) := by decide +kernel
theorem dL_printAt_2 : decode cL_printAt 2 = .ok (.aload_n 0, 1) := by decide +kernel
theorem dL_printAt_3 : decode cL_printAt 3 = .ok (.iload_n 1, 1) := by decide +kernel
theorem dL_printAt_4 : decode cL_printAt 4 = .ok (.iload_n 2, 1) := by decide +kernel
theorem dL_printAt_5 : decode cL_printAt 5 = .ok (.invokevirtual 100, 3) := by decide +kernel
theorem dL_printAt_8 : decode cL_printAt 8 = .ok (.i2l, 1) := by decide +kernel
theorem dL_printAt_9 : decode cL_printAt 9 = .ok (.lastore, 1) := by decide +kernel
theorem dL_printAt_10 : decode cL_printAt 10 = .ok (.goto 11, 3) := by decide +kernel
theorem dL_printAt_13 : decode cL_printAt 13 = .ok (.astore 4, 2) := by decide +kernel
theorem dL_printAt_15 : decode cL_printAt 15 = .ok (.iconst 1, 1) := by decide +kernel
theorem dL_printAt_16 : decode cL_printAt 16 = .ok (.ireturn, 1) := by decide +kernel
theorem dL_printAt_17 : decode cL_printAt 17 = .ok (.astore 4, 2) := by decide +kernel
theorem dL_printAt_19 : decode cL_printAt 19 = .ok (.iconst 2, 1) := by decide +kernel
theorem dL_printAt_20 : decode cL_printAt 20 = .ok (.ireturn, 1) := by decide +kernel
theorem dL_printAt_21 : decode cL_printAt 21 = .ok (.iconst 0, 1) := by decide +kernel
theorem dL_printAt_22 : decode cL_printAt 22 = .ok (.ireturn, 1) := by decide +kernel
set_option maxRecDepth 20000 in
theorem ggL_trackLength_X9_trackLength : GoodIn wsL_trackLength wsX9_trackLength := goodIn_ca (goodIn_r _ [6, 7, 8, 9, 10, 5, 11, 12, 13, 14, 15, 16, 17, 18, 19, 20, 21, 22, 23, 24, 25, 26, 27, 28, 29, 30, 31, 32, 33, 34, 35, 36, 37, 38, 39, 40, 41, 42, 43, 44, 45, 46, 47, 48, 49, 50, 51, 52, 53, 54, 55, 56, 57, 58, 59, 60, 61, 62, 63, 64, 65, 66, 67, 68, 69, 70, 71, 72, 73, 74, 75, 76, 77, 78, 79, 80, 81, 82, 83, 84, 85, 86, 87, 88] (by decide +kernel) (by decide +kernel)) (goodIn_sub (fun _ h => List.mem_cons_of_mem _ (List.mem_append_right _ h)) (by decide +kernel))
set_option maxRecDepth 20000 in
theorem gL_trackLength_X9_trackLength : GoodIn wsL_trackLength (wsV RL 104 RX9 yX9_trackLength wsX9_trackLength) := goodIn_app (goodIn_of _ (by decide +kernel)) ggL_trackLength_X9_trackLength
theorem dL_trackLength_0 : decode cL_trackLength 0 = .ok (.aload_n 2, 1) := by decide +kernel
theorem dL_trackLength_1 : decode cL_trackLength 1 = .ok (.iconst 0, 1) := by decide +kernel
theorem dL_trackLength_2 : decode cL_trackLength 2 = .ok (.aload_n 0, 1) := by decide +kernel
theorem dL_trackLength_3 : decode cL_trackLength 3 = .ok (.iload_n 1, 1) := by decide +kernel
theorem dL_trackLength_4 : decode cL_trackLength 4 = .ok (.invokevirtual 104, 3) := by decide +kernel
theorem dL_trackLength_7 : decode cL_trackLength 7 = .ok (.i2l, 1) := by decide +kernel
theorem dL_trackLength_8 : decode cL_trackLength 8 = .ok (.lastore, 1) := by decide +kernel
theorem dL_trackLength_9 : decode cL_trackLength 9 = .ok (.goto 6, 3) := by decide +kernel
theorem dL_trackLength_12 : decode cL_trackLength 12 = .ok (.astore_n 3, 1) := by decide +kernel
theorem dL_trackLength_13 : decode cL_trackLength 13 = .ok (.iconst 1, 1) := by decide +kernel
theorem dL_trackLength_14 : decode cL_trackLength 14 = .ok (.ireturn, 1) := by decide +kernel
theorem dL_trackLength_15 : decode cL_trackLength 15 = .ok (.iconst 0, 1) := by decide +kernel
theorem dL_trackLength_16 : decode cL_trackLength 16 = .ok (.ireturn, 1) := by decide +kernel
set_option maxRecDepth 20000 in
theorem ggL_trackLengthAgain_X9_trackLengthAgain : GoodIn wsL_trackLengthAgain wsX9_trackLengthAgain := goodIn_ca (goodIn_r _ [6, 7, 8, 9, 10, 5, 11, 12, 13, 14, 15, 16, 17, 18, 19, 20, 21, 22, 23, 24, 25, 26, 27, 28, 29, 30, 31, 32, 33, 34, 35, 36, 37, 38, 39, 40, 41, 42, 43, 44, 45, 46, 47, 48, 49, 50, 51, 52, 53, 54, 55, 56, 57, 58, 59, 60, 61, 62, 63, 64, 65, 66, 67, 68, 69, 70, 71, 72, 73, 74, 75, 76, 77, 78, 79, 80, 81, 82] (by decide +kernel) (by decide +kernel)) (goodIn_sub (fun _ h => List.mem_cons_of_mem _ (List.mem_append_right _ h)) (by decide +kernel))
set_option maxRecDepth 20000 in
theorem gL_trackLengthAgain_X9_trackLengthAgain : GoodIn wsL_trackLengthAgain (wsV RL 107 RX9 yX9_trackLengthAgain wsX9_trackLengthAgain) := goodIn_app (goodIn_of _ (by decide +kernel)) ggL_trackLengthAgain_X9_trackLengthAgain
theorem dL_trackLengthAgain_0 : decode cL_trackLengthAgain 0 = .ok (.aload_n 2, 1) := by decide +kernel
theorem dL_trackLengthAgain_1 : decode cL_trackLengthAgain 1 = .ok (.iconst 0, 1) := by decide +kernel
theorem dL_trackLengthAgain_2 : decode cL_trackLengthAgain 2 = .ok (.aload_n 0, 1) := by decide +kernel
theorem dL_trackLengthAgain_3 : decode cL_trackLengthAgain 3 = .ok (.iload_n 1, 1) := by decide +kernel
theorem dL_trackLengthAgain_4 : decode cL_trackLengthAgain 4 = .ok (.invokevirtual 107, 3) := by decide +kernel
theorem dL_trackLengthAgain_7 : decode cL_trackLengthAgain 7 = .ok (.i2l, 1) := by decide +kernel
theorem dL_trackLengthAgain_8 : decode cL_trackLengthAgain 8 = .ok (.lastore, 1) := by decide +kernel
theorem dL_trackLengthAgain_9 : decode cL_trackLengthAgain 9 = .ok (.goto 6, 3) := by decide +kernel
theorem dL_trackLengthAgain_12 : decode cL_trackLengthAgain 12 = .ok (.astore_n 3, 1) := by decide +kernel
theorem dL_trackLengthAgain_13 : decode cL_trackLengthAgain 13 = .ok (.iconst 1, 1) := by decide +kernel
theorem dL_trackLengthAgain_14 : decode cL_trackLengthAgain 14 = .ok (.ireturn, 1) := by decide +kernel
theorem dL_trackLengthAgain_15 : decode cL_trackLengthAgain 15 = .ok (.iconst 0, 1) := by decide +kernel
theorem dL_trackLengthAgain_16 : decode cL_trackLengthAgain 16 = .ok (.ireturn, 1) := by decide +kernel
set_option maxRecDepth 20000 in
theorem ggL_errorCount_X9_errorCount : GoodIn wsL_errorCount wsX9_errorCount := goodIn_ca (goodIn_r _ [6, 7, 8, 9, 10, 11, 5, 12, 13, 14, 15, 16, 17, 18, 19, 20, 21, 22, 23, 24, 25, 26, 27, 28, 29, 30, 31, 32, 33, 34, 35, 36, 37, 38, 39, 40, 41, 42, 43, 44, 45, 46, 47, 48, 49, 50, 51, 52, 53, 54, 55, 56, 57, 58, 59, 60, 61, 62, 63, 64, 65, 66, 67, 68, 69, 70, 71, 72, 73, 74, 75, 76, 77, 78, 79, 80, 81, 82, 83, 84, 85, 86, 87, 88, 89, 90, 91, 92, 93, 94, 95, 96, 97, 98, 99, 100, 101, 102, 103, 104, 105, 106] (by decide +kernel) (by decide +kernel)) (goodIn_sub (fun _ h => List.mem_cons_of_mem _ (List.mem_append_right _ h)) (by decide +kernel))
set_option maxRecDepth 20000 in
theorem gL_errorCount_X9_errorCount : GoodIn wsL_errorCount (wsV RL 110 RX9 yX9_errorCount wsX9_errorCount) := goodIn_app (goodIn_of _ (by decide +kernel)) ggL_errorCount_X9_errorCount
theorem dL_errorCount_0 : decode cL_errorCount 0 = .ok (.aload_n 2, 1) := by decide +kernel
theorem dL_errorCount_1 : decode cL_errorCount 1 = .ok (.iconst 0, 1) := by decide +kernel
theorem dL_errorCount_2 : decode cL_errorCount 2 = .ok (.aload_n 0, 1) := by decide +kernel
theorem dL_errorCount_3 : decode cL_errorCount 3 = .ok (.iload_n 1, 1) := by decide +kernel
theorem dL_errorCount_4 : decode cL_errorCount 4 = .ok (.invokevirtual 110, 3) := by decide +kernel
theorem dL_errorCount_7 : decode cL_errorCount 7 = .ok (.i2l, 1) := by decide +kernel
theorem dL_errorCount_8 : decode cL_errorCount 8 = .ok (.lastore, 1) := by decide +kernel
theorem dL_errorCount_9 : decode cL_errorCount 9 = .ok (.goto 6, 3) := by decide +kernel
theorem dL_errorCount_12 : decode cL_errorCount 12 = .ok (.astore_n 3, 1) := by decide +kernel
theorem dL_errorCount_13 : decode cL_errorCount 13 = .ok (.iconst 1, 1) := by decide +kernel
theorem dL_errorCount_14 : decode cL_errorCount 14 = .ok (.ireturn, 1) := by decide +kernel
theorem dL_errorCount_15 : decode cL_errorCount 15 = .ok (.iconst 0, 1) := by decide +kernel
theorem dL_errorCount_16 : decode cL_errorCount 16 = .ok (.ireturn, 1) := by decide +kernel
set_option maxRecDepth 20000 in
theorem ggL_errorCountAgain_X9_errorCountAgain : GoodIn wsL_errorCountAgain wsX9_errorCountAgain := goodIn_ca (goodIn_r _ [6, 7, 8, 9, 10, 11, 5, 12, 13, 14, 15, 16, 17, 18, 19, 20, 21, 22, 23, 24, 25, 26, 27, 28, 29, 30, 31, 32, 33, 34, 35, 36, 37, 38, 39, 40, 41, 42, 43, 44, 45, 46, 47, 48, 49, 50, 51, 52, 53, 54, 55, 56, 57, 58, 59, 60, 61, 62, 63, 64, 65, 66, 67, 68, 69, 70, 71, 72, 73, 74, 75, 76, 77, 78, 79, 80, 81, 82, 83, 84, 85, 86, 87, 88, 89, 90, 91, 92, 93, 94, 95, 96, 97, 98, 99, 100, 101, 102, 103, 104, 105, 106] (by decide +kernel) (by decide +kernel)) (goodIn_sub (fun _ h => List.mem_cons_of_mem _ (List.mem_append_right _ h)) (by decide +kernel))
set_option maxRecDepth 20000 in
theorem gL_errorCountAgain_X9_errorCountAgain : GoodIn wsL_errorCountAgain (wsV RL 113 RX9 yX9_errorCountAgain wsX9_errorCountAgain) := goodIn_app (goodIn_of _ (by decide +kernel)) ggL_errorCountAgain_X9_errorCountAgain
theorem dL_errorCountAgain_0 : decode cL_errorCountAgain 0 = .ok (.aload_n 2, 1) := by decide +kernel
theorem dL_errorCountAgain_1 : decode cL_errorCountAgain 1 = .ok (.iconst 0, 1) := by decide +kernel
theorem dL_errorCountAgain_2 : decode cL_errorCountAgain 2 = .ok (.aload_n 0, 1) := by decide +kernel
theorem dL_errorCountAgain_3 : decode cL_errorCountAgain 3 = .ok (.iload_n 1, 1) := by decide +kernel
theorem dL_errorCountAgain_4 : decode cL_errorCountAgain 4 = .ok (.invokevirtual 113, 3) := by decide +kernel
theorem dL_errorCountAgain_7 : decode cL_errorCountAgain 7 = .ok (.i2l, 1) := by decide +kernel
theorem dL_errorCountAgain_8 : decode cL_errorCountAgain 8 = .ok (.lastore, 1) := by decide +kernel
theorem dL_errorCountAgain_9 : decode cL_errorCountAgain 9 = .ok (.goto 6, 3) := by decide +kernel
theorem dL_errorCountAgain_12 : decode cL_errorCountAgain 12 = .ok (.astore_n 3, 1) := by decide +kernel
theorem dL_errorCountAgain_13 : decode cL_errorCountAgain 13 = .ok (.iconst 1, 1) := by decide +kernel
theorem dL_errorCountAgain_14 : decode cL_errorCountAgain 14 = .ok (.ireturn, 1) := by decide +kernel
theorem dL_errorCountAgain_15 : decode cL_errorCountAgain 15 = .ok (.iconst 0, 1) := by decide +kernel
theorem dL_errorCountAgain_16 : decode cL_errorCountAgain 16 = .ok (.ireturn, 1) := by decide +kernel
set_option maxRecDepth 20000 in
theorem ggL_duration_X9_duration : GoodIn wsL_duration wsX9_duration := goodIn_ca (goodIn_ca (goodIn_r _ [7, 8, 9, 10, 11, 12, 6, 13, 14, 15, 16, 17, 18, 19, 20, 21, 22, 23, 24, 25, 26, 27, 28, 29, 30, 31, 32, 33, 34, 35, 36, 37, 38, 39, 40, 41, 42, 43, 44, 45, 46, 47, 48, 49, 50, 51, 52, 53, 54, 55, 56, 57, 58, 59, 60, 61, 62, 63, 64, 65, 66, 67, 68, 69, 70, 71, 72, 73, 74, 75, 76, 77, 78, 79] (by decide +kernel) (by decide +kernel)) (goodIn_sub (fun _ h => List.mem_cons_of_mem _ (List.mem_append_left _ (List.mem_append_right _ h))) (by decide +kernel))) (goodIn_sub (fun _ h => List.mem_cons_of_mem _ (List.mem_append_right _ h)) (by decide +kernel))
set_option maxRecDepth 20000 in
theorem gL_duration_X9_duration : GoodIn wsL_duration (wsV RL 116 RX9 yX9_duration wsX9_duration) := goodIn_app (goodIn_of _ (by decide +kernel)) ggL_duration_X9_duration
theorem dL_duration_0 : decode cL_duration 0 = .ok (.aload_n 2, 1) := by decide +kernel
theorem dL_duration_1 : decode cL_duration 1 = .ok (.iconst 0, 1) := by decide +kernel
theorem dL_duration_2 : decode cL_duration 2 = .ok (.aload_n 0, 1) := by decide +kernel
theorem dL_duration_3 : decode cL_duration 3 = .ok (.iload_n 1, 1) := by decide +kernel
theorem dL_duration_4 : decode cL_duration 4 = .ok (.invokevirtual 116, 3) := by decide +kernel
theorem dL_duration_7 : decode cL_duration 7 = .ok (.i2l, 1) := by decide +kernel
theorem dL_duration_8 : decode cL_duration 8 = .ok (.lastore, 1) := by decide +kernel
theorem dL_duration_9 : decode cL_duration 9 = .ok (.goto 9, 3) := by decide +kernel
theorem dL_duration_12 : decode cL_duration 12 = .ok (.astore_n 3, 1) := by decide +kernel
theorem dL_duration_13 : decode cL_duration 13 = .ok (.iconst 1, 1) := by decide +kernel
theorem dL_duration_14 : decode cL_duration 14 = .ok (.ireturn, 1) := by decide +kernel
theorem dL_duration_15 : decode cL_duration 15 = .ok (.astore_n 3, 1) := by decide +kernel
theorem dL_duration_16 : decode cL_duration 16 = .ok (.iconst 2, 1) := by decide +kernel
theorem dL_duration_17 : decode cL_duration 17 = .ok (.ireturn, 1) := by decide +kernel
theorem dL_duration_18 : decode cL_duration 18 = .ok (.iconst 0, 1) := by decide +kernel
theorem dL_duration_19 : decode cL_duration 19 = .ok (.ireturn, 1) := by decide +kernel
set_option maxRecDepth 20000 in
theorem ggL_averageStride_X9_averageStride : GoodIn wsL_averageStride wsX9_averageStride := goodIn_ca (goodIn_ca (goodIn_r _ [7, 8, 9, 10, 11, 12, 13, 14, 6, 15, 16, 17, 18, 19, 20, 21, 22, 23, 24, 25, 26, 27, 28, 29, 30, 31, 32, 33, 34, 35, 36, 37, 38, 39, 40, 41, 42, 43, 44, 45, 46, 47, 48, 49, 50, 51, 52, 53, 54, 55, 56, 57, 58, 59, 60, 61, 62, 63, 64, 65, 66, 67, 68, 69, 70, 71, 72, 73, 74, 75, 76, 77, 78, 79, 80, 81, 82, 83, 84, 85, 86, 87, 88, 89, 90, 91, 92, 93, 94, 95, 96, 97, 98, 99] (by decide +kernel) (by decide +kernel)) (goodIn_sub (fun _ h => List.mem_cons_of_mem _ (List.mem_append_left _ (List.mem_append_right _ h))) (by decide +kernel))) (goodIn_sub (fun _ h => List.mem_cons_of_mem _ (List.mem_append_right _ h)) (by decide +kernel))
set_option maxRecDepth 20000 in
theorem gL_averageStride_X9_averageStride : GoodIn wsL_averageStride (wsV RL 119 RX9 yX9_averageStride wsX9_averageStride) := goodIn_app (goodIn_of _ (by decide +kernel)) ggL_averageStride_X9_averageStride
theorem dL_averageStride_0 : decode cL_averageStride 0 = .ok (.aload_n 2, 1) := by decide +kernel
theorem dL_averageStride_1 : decode cL_averageStride 1 = .ok (.iconst 0, 1) := by decide +kernel
theorem dL_averageStride_2 : decode cL_averageStride 2 = .ok (.aload_n 0, 1) := by decide +kernel
theorem dL_averageStride_3 : decode cL_averageStride 3 = .ok (.iload_n 1, 1) := by decide +kernel
theorem dL_averageStride_4 : decode cL_averageStride 4 = .ok (.invokevirtual 119, 3) := by decide +kernel
theorem dL_averageStride_7 : decode cL_averageStride 7 = .ok (.dastore, 1) := by decide +kernel
theorem dL_averageStride_8 : decode cL_averageStride 8 = .ok (.goto 9, 3) := by decide +kernel
theorem dL_averageStride_11 : decode cL_averageStride 11 = .ok (.astore_n 3, 1) := by decide +kernel
theorem dL_averageStride_12 : decode cL_averageStride 12 = .ok (.iconst 1, 1) := by decide +kernel
theorem dL_averageStride_13 : decode cL_averageStride 13 = .ok (.ireturn, 1) := by decide +kernel
theorem dL_averageStride_14 : decode cL_averageStride 14 = .ok (.astore_n 3, 1) := by decide +kernel
theorem dL_averageStride_15 : decode cL_averageStride 15 = .ok (.iconst 2, 1) := by decide +kernel
theorem dL_averageStride_16 : decode cL_averageStride 16 = .ok (.ireturn, 1) := by decide +kernel
theorem dL_averageStride_17 : decode cL_averageStride 17 = .ok (.iconst 0, 1) := by decide +kernel
theorem dL_averageStride_18 : decode cL_averageStride 18 = .ok (.ireturn, 1) := by decide +kernel
set_option maxRecDepth 20000 in
theorem ggL_errorsIfMoved_X9_errorsIfMoved : GoodIn wsL_errorsIfMoved wsX9_errorsIfMoved := goodIn_ca (goodIn_r _ [6, 7, 8, 9, 10, 5, 11, 12, 13, 14, 15, 16, 17, 18, 19, 20, 21, 22, 23, 24, 25, 26, 27, 28, 29, 30, 31, 32, 33, 34, 35, 36, 37, 38, 39, 40, 41, 42, 43, 44, 45, 46, 47, 48, 49, 50, 51, 52, 53, 54, 55, 56, 57, 58, 59, 60, 61, 62, 63, 64, 65, 66, 67, 68, 69, 70, 71, 72, 73, 74, 75, 76, 77, 78, 79, 80, 81, 82, 83, 84, 85, 86, 87, 88, 89, 90, 91, 92, 93, 94, 95, 96, 97, 98, 99, 100, 101, 102, 103, 104, 105, 106, 107, 108, 109, 110, 111, 112, 113, 114, 115, 116, 117, 118, 119, 120, 121, 122, 123] (by decide +kernel) (by decide +kernel)) (goodIn_sub (fun _ h => List.mem_cons_of_mem _ (List.mem_append_right _ h)) (by decide +kernel))
set_option maxRecDepth 20000 in
theorem gL_errorsIfMoved_X9_errorsIfMoved : GoodIn wsL_errorsIfMoved (wsV RL 124 RX9 yX9_errorsIfMoved wsX9_errorsIfMoved) := goodIn_app (goodIn_of _ (by decide +kernel)) ggL_errorsIfMoved_X9_errorsIfMoved
theorem dL_errorsIfMoved_0 : decode cL_errorsIfMoved 0 = .ok (.aload 4, 2) := by decide +kernel
theorem dL_errorsIfMoved_2 : decode cL_errorsIfMoved 2 = .ok (.iconst 0, 1) := by decide +kernel
theorem dL_errorsIfMoved_3 : decode cL_errorsIfMoved 3 = .ok (.aload_n 0, 1) := by decide +kernel
theorem dL_errorsIfMoved_4 : decode cL_errorsIfMoved 4 = .ok (.iload_n 1, 1) := by decide +kernel
theorem dL_errorsIfMoved_5 : decode cL_errorsIfMoved 5 = .ok (.iload_n 2, 1) := by decide +kernel
theorem dL_errorsIfMoved_6 : decode cL_errorsIfMoved 6 = .ok (.iload_n 3, 1) := by decide +kernel
theorem dL_errorsIfMoved_7 : decode cL_errorsIfMoved 7 = .ok (.invokevirtual 124, 3) := by decide +kernel
theorem dL_errorsIfMoved_10 : decode cL_errorsIfMoved 10 = .ok (.i2l, 1) := by decide +kernel
theorem dL_errorsIfMoved_11 : decode cL_errorsIfMoved 11 = .ok (.lastore, 1) := by decide +kernel
theorem dL_errorsIfMoved_12 : decode cL_errorsIfMoved 12 = .ok (.goto 7, 3) := by decide +kernel
theorem dL_errorsIfMoved_15 : decode cL_errorsIfMoved 15 = .ok (.astore 5, 2) := by decide +kernel
theorem dL_errorsIfMoved_17 : decode cL_errorsIfMoved 17 = .ok (.iconst 1, 1) := by decide +kernel
theorem dL_errorsIfMoved_18 : decode cL_errorsIfMoved 18 = .ok (.ireturn, 1) := by decide +kernel
theorem dL_errorsIfMoved_19 : decode cL_errorsIfMoved 19 = .ok (.iconst 0, 1) := by decide +kernel
theorem dL_errorsIfMoved_20 : decode cL_errorsIfMoved 20 = .ok (.ireturn, 1) := by decide +kernel
set_option maxRecDepth 20000 in
theorem ggL_canMove_X9_canMove : GoodIn wsL_canMove wsX9_canMove := goodIn_ca (goodIn_r _ [6, 7, 8, 9, 10, 5, 11, 12, 13, 14, 15, 16, 17, 18, 19, 20, 21, 22, 23, 24, 25, 26, 27, 28, 29, 30, 31, 32, 33, 34, 35, 36, 37, 38, 39, 40, 41, 42, 43, 44, 45, 46, 47, 48, 49, 50, 51, 52, 53, 54, 55, 56, 57, 58, 59, 60, 61, 62, 63, 64, 65, 66, 67, 68, 69, 70, 71, 72, 73, 74, 75, 76, 77, 78, 79, 80, 81, 82, 83, 84, 85, 86, 87, 88, 89, 90, 91, 92, 93, 94, 95, 96, 97, 98, 99, 100, 101, 102] (by decide +kernel) (by decide +kernel)) (goodIn_sub (fun _ h => List.mem_cons_of_mem _ (List.mem_append_right _ h)) (by decide +kernel))
set_option maxRecDepth 20000 in
theorem gL_canMove_X9_canMove : GoodIn wsL_canMove (wsV RL 127 RX9 yX9_canMove wsX9_canMove) := goodIn_app (goodIn_of _ (by decide +kernel)) ggL_canMove_X9_canMove
theorem dL_canMove_0 : decode cL_canMove 0 = .ok (.aload 4, 2) := by decide +kernel
theorem dL_canMove_2 : decode cL_canMove 2 = .ok (.iconst 0, 1) := by decide +kernel
theorem dL_canMove_3 : decode cL_canMove 3 = .ok (.aload_n 0, 1) := by decide +kernel
theorem dL_canMove_4 : decode cL_canMove 4 = .ok (.iload_n 1, 1) := by decide +kernel
theorem dL_canMove_5 : decode cL_canMove 5 = .ok (.iload_n 2, 1) := by decide +kernel
theorem dL_canMove_6 : decode cL_canMove 6 = .ok (.iload_n 3, 1) := by decide +kernel
theorem dL_canMove_7 : decode cL_canMove 7 = .ok (.invokevirtual 127, 3) := by decide +kernel
theorem dL_canMove_10 : decode cL_canMove 10 = .ok (.ifCond .eq 7, 3) := by decide +kernel
theorem dL_canMove_13 : decode cL_canMove 13 = .ok (.lconst 1, 1) := by decide +kernel
theorem dL_canMove_14 : decode cL_canMove 14 = .ok (.goto 4, 3) := by decide +kernel
theorem dL_canMove_17 : decode cL_canMove 17 = .ok (.lconst 0, 1) := by decide +kernel
theorem dL_canMove_18 : decode cL_canMove 18 = .ok (.lastore, 1) := by decide +kernel
theorem dL_canMove_19 : decode cL_canMove 19 = .ok (.goto 7, 3) := by decide +kernel
theorem dL_canMove_22 : decode cL_canMove 22 = .ok (.astore 5, 2) := by decide +kernel
theorem dL_canMove_24 : decode cL_canMove 24 = .ok (.iconst 1, 1) := by decide +kernel
theorem dL_canMove_25 : decode cL_canMove 25 = .ok (.ireturn, 1) := by decide +kernel
theorem dL_canMove_26 : decode cL_canMove 26 = .ok (.iconst 0, 1) := by decide +kernel
theorem dL_canMove_27 : decode cL_canMove 27 = .ok (.ireturn, 1) := by decide +kernel
set_option maxRecDepth 20000 in
theorem ggL_suggestCell_X9_suggestCell : GoodIn wsL_suggestCell wsX9_suggestCell := goodIn_ca (goodIn_r _ [6, 7, 8, 9, 10, 5, 11, 12, 13, 14, 15, 16, 17, 18, 19, 20, 21, 22, 23, 24, 25, 26, 27, 28, 29, 30, 31, 32, 33, 34, 35, 36, 37, 38, 39, 40, 41, 42, 43, 44, 45, 46, 47, 48, 49, 50, 51, 52, 53, 54, 55, 56, 57, 58, 59, 60, 61, 62, 63, 64, 65, 66, 67, 68, 69, 70, 71, 72, 73, 74, 75, 76, 77, 78, 79, 80, 81, 82, 83, 84, 85, 86, 87, 88, 89, 90, 91, 92, 93, 94, 95, 96, 97, 98, 99, 100, 101, 102, 103, 104, 105, 106, 107, 108, 109, 110, 111, 112, 113, 114, 115, 116, 117, 118, 119, 120, 121, 122, 123, 124, 125, 126, 127, 128, 129, 130, 131, 132, 133, 134, 135, 136, 137, 138, 139, 140, 141, 142, 143, 144, 145, 146, 147, 148, 149, 150, 151, 152, 153, 154, 155, 156, 157, 158] (by decide +kernel) (by decide +kernel)) (goodIn_sub (fun _ h => List.mem_cons_of_mem _ (List.mem_append_right _ h)) (by decide +kernel))
set_option maxRecDepth 20000 in
theorem gL_suggestCell_X9_suggestCell : GoodIn wsL_suggestCell (wsV RL 131 RX9 yX9_suggestCell wsX9_suggestCell) := goodIn_app (goodIn_of _ (by decide +kernel)) ggL_suggestCell_X9_suggestCell
theorem dL_suggestCell_0 : decode cL_suggestCell 0 = .ok (.aload_n 2, 1) := by decide +kernel
theorem dL_suggestCell_1 : decode cL_suggestCell 1 = .ok (.iconst 0, 1) := by decide +kernel
theorem dL_suggestCell_2 : decode cL_suggestCell 2 = .ok (.aload_n 0, 1) := by decide +kernel
theorem dL_suggestCell_3 : decode cL_suggestCell 3 = .ok (.iload_n 1, 1) := by decide +kernel
theorem dL_suggestCell_4 : decode cL_suggestCell 4 = .ok (.invokevirtual 131, 3) := by decide +kernel
theorem dL_suggestCell_7 : decode cL_suggestCell 7 = .ok (.i2l, 1) := by decide +kernel
theorem dL_suggestCell_8 : decode cL_suggestCell 8 = .ok (.lastore, 1) := by decide +kernel
theorem dL_suggestCell_9 : decode cL_suggestCell 9 = .ok (.goto 6, 3) := by decide +kernel
theorem dL_suggestCell_12 : decode cL_suggestCell 12 = .ok (.astore_n 3, 1) := by decide +kernel
theorem dL_suggestCell_13 : decode cL_suggestCell 13 = .ok (.iconst 1, 1) := by decide +kernel
theorem dL_suggestCell_14 : decode cL_suggestCell 14 = .ok (.ireturn, 1) := by decide +kernel
theorem dL_suggestCell_15 : decode cL_suggestCell 15 = .ok (.iconst 0, 1) := by decide +kernel
theorem dL_suggestCell_16 : decode cL_suggestCell 16 = .ok (.ireturn, 1) := by decide +kernel
