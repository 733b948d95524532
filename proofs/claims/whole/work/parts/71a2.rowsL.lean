set_option maxRecDepth 20000 in
theorem ggL_columnOf_X9_columnOf : GoodIn wsL_columnOf wsX9_columnOf := goodIn_ca (goodIn_r _ [6, 7, 8, 9, 10, 5, 11, 12, 13, 14, 15, 16, 17, 18, 19, 20, 21, 22, 23, 24, 25, 26, 27, 28, 29, 30, 31, 32, 33, 34, 35, 36, 37, 38, 39, 40, 41, 42, 43, 44, 45, 46, 47, 48, 49] (by decide +kernel) (by decide +kernel)) (goodIn_sub (fun _ h => List.mem_cons_of_mem _ (List.mem_append_right _ h)) (by decide +kernel))
set_option maxRecDepth 20000 in
theorem gL_columnOf_X9_columnOf : GoodIn wsL_columnOf (wsV RL 55 RX9 yX9_columnOf wsX9_columnOf) := goodIn_app (goodIn_of _ (by decide +kernel)) ggL_columnOf_X9_columnOf
theorem dL_columnOf_0 : decode cL_columnOf 0 = .ok (.aload_n 2, 1) := by decide +kernel
theorem dL_columnOf_1 : decode cL_columnOf 1 = .ok (.iconst 0, 1) := by decide +kernel
theorem dL_columnOf_2 : decode cL_columnOf 2 = .ok (.aload_n 0, 1) := by decide +kernel
theorem dL_columnOf_3 : decode cL_columnOf 3 = .ok (.iload_n 1, 1) := by decide +kernel
theorem dL_columnOf_4 : decode cL_columnOf 4 = .ok (.invokevirtual 55, 3) := by decide +kernel
theorem dL_columnOf_7 : decode cL_columnOf 7 = .ok (.i2l, 1) := by decide +kernel
theorem dL_columnOf_8 : decode cL_columnOf 8 = .ok (.lastore, 1) := by decide +kernel
theorem dL_columnOf_9 : decode cL_columnOf 9 = .ok (.goto 6, 3) := by decide +kernel
theorem dL_columnOf_12 : decode cL_columnOf 12 = .ok (.astore_n 3, 1) := by decide +kernel
theorem dL_columnOf_13 : decode cL_columnOf 13 = .ok (.iconst 1, 1) := by decide +kernel
theorem dL_columnOf_14 : decode cL_columnOf 14 = .ok (.ireturn, 1) := by decide +kernel
theorem dL_columnOf_15 : decode cL_columnOf 15 = .ok (.iconst 0, 1) := by decide +kernel
theorem dL_columnOf_16 : decode cL_columnOf 16 = .ok (.ireturn, 1) := by decide +kernel
set_option maxRecDepth 20000 in
theorem ggL_isLeft_X9_isLeft : GoodIn wsL_isLeft wsX9_isLeft := goodIn_ca (goodIn_r _ [6, 7, 8, 9, 10, 5, 11, 12, 13, 14, 15, 16, 17, 18, 19, 20, 21, 22, 23, 24, 25, 26, 27, 28, 29, 30, 31, 32, 33, 34, 35, 36, 37, 38, 39, 40, 41, 42, 43, 44, 45, 46, 47, 48, 49] (by decide +kernel) (by decide +kernel)) (goodIn_sub (fun _ h => List.mem_cons_of_mem _ (List.mem_append_right _ h)) (by decide +kernel))
set_option maxRecDepth 20000 in
theorem gL_isLeft_X9_isLeft : GoodIn wsL_isLeft (wsV RL 58 RX9 yX9_isLeft wsX9_isLeft) := goodIn_app (goodIn_of _ (by decide +kernel)) ggL_isLeft_X9_isLeft
theorem dL_isLeft_0 : decode cL_isLeft 0 = .ok (.aload_n 2, 1) := by decide +kernel
theorem dL_isLeft_1 : decode cL_isLeft 1 = .ok (.iconst 0, 1) := by decide +kernel
theorem dL_isLeft_2 : decode cL_isLeft 2 = .ok (.aload_n 0, 1) := by decide +kernel
theorem dL_isLeft_3 : decode cL_isLeft 3 = .ok (.iload_n 1, 1) := by decide +kernel
theorem dL_isLeft_4 : decode cL_isLeft 4 = .ok (.invokevirtual 58, 3) := by decide +kernel
theorem dL_isLeft_7 : decode cL_isLeft 7 = .ok (.ifCond .eq 7, 3) := by decide +kernel
theorem dL_isLeft_10 : decode cL_isLeft 10 = .ok (.lconst 1, 1) := by decide +kernel
theorem dL_isLeft_11 : decode cL_isLeft 11 = .ok (.goto 4, 3) := by decide +kernel
theorem dL_isLeft_14 : decode cL_isLeft 14 = .ok (.lconst 0, 1) := by decide +kernel
theorem dL_isLeft_15 : decode cL_isLeft 15 = .ok (.lastore, 1) := by decide +kernel
theorem dL_isLeft_16 : decode cL_isLeft 16 = .ok (.goto 6, 3) := by decide +kernel
theorem dL_isLeft_19 : decode cL_isLeft 19 = .ok (.astore_n 3, 1) := by decide +kernel
theorem dL_isLeft_20 : decode cL_isLeft 20 = .ok (.iconst 1, 1) := by decide +kernel
theorem dL_isLeft_21 : decode cL_isLeft 21 = .ok (.ireturn, 1) := by decide +kernel
theorem dL_isLeft_22 : decode cL_isLeft 22 = .ok (.iconst 0, 1) := by decide +kernel
theorem dL_isLeft_23 : decode cL_isLeft 23 = .ok (.ireturn, 1) := by decide +kernel
set_option maxRecDepth 20000 in
theorem ggL_depthOf_X9_depthOf : GoodIn wsL_depthOf wsX9_depthOf := goodIn_ca (goodIn_r _ [6, 7, 8, 9, 10, 5, 11, 12, 13, 14, 15, 16, 17, 18, 19, 20, 21, 22, 23, 24, 25, 26, 27, 28, 29, 30, 31, 32, 33, 34, 35, 36, 37, 38, 39, 40, 41, 42, 43, 44, 45, 46, 47, 48, 49] (by decide +kernel) (by decide +kernel)) (goodIn_sub (fun _ h => List.mem_cons_of_mem _ (List.mem_append_right _ h)) (by decide +kernel))
set_option maxRecDepth 20000 in
theorem gL_depthOf_X9_depthOf : GoodIn wsL_depthOf (wsV RL 61 RX9 yX9_depthOf wsX9_depthOf) := goodIn_app (goodIn_of _ (by decide +kernel)) ggL_depthOf_X9_depthOf
theorem dL_depthOf_0 : decode cL_depthOf 0 = .ok (.aload_n 2, 1) := by decide +kernel
theorem dL_depthOf_1 : decode cL_depthOf 1 = .ok (.iconst 0, 1) := by decide +kernel
theorem dL_depthOf_2 : decode cL_depthOf 2 = .ok (.aload_n 0, 1) := by decide +kernel
theorem dL_depthOf_3 : decode cL_depthOf 3 = .ok (.iload_n 1, 1) := by decide +kernel
theorem dL_depthOf_4 : decode cL_depthOf 4 = .ok (.invokevirtual 61, 3) := by decide +kernel
theorem dL_depthOf_7 : decode cL_depthOf 7 = .ok (.i2l, 1) := by decide +kernel
theorem dL_depthOf_8 : decode cL_depthOf 8 = .ok (.lastore, 1) := by decide +kernel
theorem dL_depthOf_9 : decode cL_depthOf 9 = .ok (.goto 6, 3) := by decide +kernel
theorem dL_depthOf_12 : decode cL_depthOf 12 = .ok (.astore_n 3, 1) := by decide +kernel
theorem dL_depthOf_13 : decode cL_depthOf 13 = .ok (.iconst 1, 1) := by decide +kernel
theorem dL_depthOf_14 : decode cL_depthOf 14 = .ok (.ireturn, 1) := by decide +kernel
theorem dL_depthOf_15 : decode cL_depthOf 15 = .ok (.iconst 0, 1) := by decide +kernel
theorem dL_depthOf_16 : decode cL_depthOf 16 = .ok (.ireturn, 1) := by decide +kernel
set_option maxRecDepth 20000 in
theorem ggL_doubtsOf_X9_doubtsOf : GoodIn wsL_doubtsOf wsX9_doubtsOf := goodIn_ca (goodIn_r _ [6, 7, 8, 9, 10, 5, 11, 12, 13, 14, 15, 16, 17, 18, 19, 20, 21, 22, 23, 24, 25, 26, 27, 28, 29, 30, 31, 32, 33, 34, 35, 36, 37, 38, 39, 40, 41, 42, 43, 44, 45, 46, 47, 48, 49] (by decide +kernel) (by decide +kernel)) (goodIn_sub (fun _ h => List.mem_cons_of_mem _ (List.mem_append_right _ h)) (by decide +kernel))
set_option maxRecDepth 20000 in
theorem gL_doubtsOf_X9_doubtsOf : GoodIn wsL_doubtsOf (wsV RL 64 RX9 yX9_doubtsOf wsX9_doubtsOf) := goodIn_app (goodIn_of _ (by decide +kernel)) ggL_doubtsOf_X9_doubtsOf
theorem dL_doubtsOf_0 : decode cL_doubtsOf 0 = .ok (.aload_n 2, 1) := by decide +kernel
theorem dL_doubtsOf_1 : decode cL_doubtsOf 1 = .ok (.iconst 0, 1) := by decide +kernel
theorem dL_doubtsOf_2 : decode cL_doubtsOf 2 = .ok (.aload_n 0, 1) := by decide +kernel
theorem dL_doubtsOf_3 : decode cL_doubtsOf 3 = .ok (.iload_n 1, 1) := by decide +kernel
theorem dL_doubtsOf_4 : decode cL_doubtsOf 4 = .ok (.invokevirtual 64, 3) := by decide +kernel
theorem dL_doubtsOf_7 : decode cL_doubtsOf 7 = .ok (.i2l, 1) := by decide +kernel
theorem dL_doubtsOf_8 : decode cL_doubtsOf 8 = .ok (.lastore, 1) := by decide +kernel
theorem dL_doubtsOf_9 : decode cL_doubtsOf 9 = .ok (.goto 6, 3) := by decide +kernel
theorem dL_doubtsOf_12 : decode cL_doubtsOf 12 = .ok (.astore_n 3, 1) := by decide +kernel
theorem dL_doubtsOf_13 : decode cL_doubtsOf 13 = .ok (.iconst 1, 1) := by decide +kernel
theorem dL_doubtsOf_14 : decode cL_doubtsOf 14 = .ok (.ireturn, 1) := by decide +kernel
theorem dL_doubtsOf_15 : decode cL_doubtsOf 15 = .ok (.iconst 0, 1) := by decide +kernel
theorem dL_doubtsOf_16 : decode cL_doubtsOf 16 = .ok (.ireturn, 1) := by decide +kernel
set_option maxRecDepth 20000 in
theorem ggL_confidence_X9_confidence : GoodIn wsL_confidence wsX9_confidence := goodIn_ca (goodIn_r _ [6, 7, 8, 9, 10, 5, 11, 12, 13, 14, 15, 16, 17, 18, 19, 20, 21, 22, 23, 24, 25, 26, 27, 28, 29, 30, 31, 32, 33, 34, 35, 36, 37, 38, 39, 40, 41, 42, 43, 44, 45, 46, 47, 48, 49] (by decide +kernel) (by decide +kernel)) (goodIn_sub (fun _ h => List.mem_cons_of_mem _ (List.mem_append_right _ h)) (by decide +kernel))
set_option maxRecDepth 20000 in
theorem gL_confidence_X9_confidence : GoodIn wsL_confidence (wsV RL 67 RX9 yX9_confidence wsX9_confidence) := goodIn_app (goodIn_of _ (by decide +kernel)) ggL_confidence_X9_confidence
theorem dL_confidence_0 : decode cL_confidence 0 = .ok (.aload_n 2, 1) := by decide +kernel
theorem dL_confidence_1 : decode cL_confidence 1 = .ok (.iconst 0, 1) := by decide +kernel
theorem dL_confidence_2 : decode cL_confidence 2 = .ok (.aload_n 0, 1) := by decide +kernel
theorem dL_confidence_3 : decode cL_confidence 3 = .ok (.iload_n 1, 1) := by decide +kernel
theorem dL_confidence_4 : decode cL_confidence 4 = .ok (.invokevirtual 67, 3) := by decide +kernel
theorem dL_confidence_7 : decode cL_confidence 7 = .ok (.dastore, 1) := by decide +kernel
theorem dL_confidence_8 : decode cL_confidence 8 = .ok (.goto 6, 3) := by decide +kernel
theorem dL_confidence_11 : decode cL_confidence 11 = .ok (.astore_n 3, 1) := by decide +kernel
theorem dL_confidence_12 : decode cL_confidence 12 = .ok (.iconst 1, 1) := by decide +kernel
theorem dL_confidence_13 : decode cL_confidence 13 = .ok (.ireturn, 1) := by decide +kernel
theorem dL_confidence_14 : decode cL_confidence 14 = .ok (.iconst 0, 1) := by decide +kernel
theorem dL_confidence_15 : decode cL_confidence 15 = .ok (.ireturn, 1) := by decide +kernel
set_option maxRecDepth 20000 in
theorem ggL_isLate_X9_isLate : GoodIn wsL_isLate wsX9_isLate := goodIn_ca (goodIn_r _ [6, 7, 8, 9, 10, 5, 11, 12, 13, 14, 15, 16, 17, 18, 19, 20, 21, 22, 23, 24, 25, 26, 27, 28, 29, 30, 31, 32, 33, 34, 35, 36, 37, 38, 39, 40, 41, 42, 43, 44, 45, 46, 47, 48, 49] (by decide +kernel) (by decide +kernel)) (goodIn_sub (fun _ h => List.mem_cons_of_mem _ (List.mem_append_right _ h)) (by decide +kernel))
set_option maxRecDepth 20000 in
theorem gL_isLate_X9_isLate : GoodIn wsL_isLate (wsV RL 71 RX9 yX9_isLate wsX9_isLate) := goodIn_app (goodIn_of _ (by decide +kernel)) ggL_isLate_X9_isLate
theorem dL_isLate_0 : decode cL_isLate 0 = .ok (.aload_n 2, 1) := by decide +kernel
theorem dL_isLate_1 : decode cL_isLate 1 = .ok (.iconst 0, 1) := by decide +kernel
theorem dL_isLate_2 : decode cL_isLate 2 = .ok (.aload_n 0, 1) := by decide +kernel
theorem dL_isLate_3 : decode cL_isLate 3 = .ok (.iload_n 1, 1) := by decide +kernel
theorem dL_isLate_4 : decode cL_isLate 4 = .ok (.invokevirtual 71, 3) := by decide +kernel
theorem dL_isLate_7 : decode cL_isLate 7 = .ok (.ifCond .eq 7, 3) := by decide +kernel
theorem dL_isLate_10 : decode cL_isLate 10 = .ok (.lconst 1, 1) := by decide +kernel
theorem dL_isLate_11 : decode cL_isLate 11 = .ok (.goto 4, 3) := by decide +kernel
theorem dL_isLate_14 : decode cL_isLate 14 = .ok (.lconst 0, 1) := by decide +kernel
theorem dL_isLate_15 : decode cL_isLate 15 = .ok (.lastore, 1) := by decide +kernel
theorem dL_isLate_16 : decode cL_isLate 16 = .ok (.goto 6, 3) := by decide +kernel
theorem dL_isLate_19 : decode cL_isLate 19 = .ok (.astore_n 3, 1) := by decide +kernel
theorem dL_isLate_20 : decode cL_isLate 20 = .ok (.iconst 1, 1) := by decide +kernel
theorem dL_isLate_21 : decode cL_isLate 21 = .ok (.ireturn, 1) := by decide +kernel
theorem dL_isLate_22 : decode cL_isLate 22 = .ok (.iconst 0, 1) := by decide +kernel
theorem dL_isLate_23 : decode cL_isLate 23 = .ok (.ireturn, 1) := by decide +kernel
set_option maxRecDepth 20000 in
theorem ggL_previousPrint_X9_previousPrint : GoodIn wsL_previousPrint wsX9_previousPrint := goodIn_ca (goodIn_ca (goodIn_r _ [7, 8, 9, 10, 11, 12, 6, 13, 14, 15, 16, 17, 18, 19, 20, 21, 22, 23, 24, 25, 26, 27, 28, 29, 30, 31, 32, 33, 34, 35, 36, 37, 38, 39, 40, 41, 42, 43, 44, 45, 46, 47, 48, 49, 50, 51, 52, 53, 54, 55, 56, 57, 58, 59, 60, 61, 62, 63, 64, 65, 66, 67, 68] (by decide +kernel) (by decide +kernel)) (goodIn_sub (fun _ h => List.mem_cons_of_mem _ (List.mem_append_left _ (List.mem_append_right _ h))) (by decide +kernel))) (goodIn_sub (fun _ h => List.mem_cons_of_mem _ (List.mem_append_right _ h)) (by decide +kernel))
set_option maxRecDepth 20000 in
theorem gL_previousPrint_X9_previousPrint : GoodIn wsL_previousPrint (wsV RL 74 RX9 yX9_previousPrint wsX9_previousPrint) := goodIn_app (goodIn_of _ (by decide +kernel)) ggL_previousPrint_X9_previousPrint
theorem dL_previousPrint_0 : decode cL_previousPrint 0 = .ok (.aload_n 2, 1) := by decide +kernel
theorem dL_previousPrint_1 : decode cL_previousPrint 1 = .ok (.iconst 0, 1) := by decide +kernel
theorem dL_previousPrint_2 : decode cL_previousPrint 2 = .ok (.aload_n 0, 1) := by decide +kernel
theorem dL_previousPrint_3 : decode cL_previousPrint 3 = .ok (.iload_n 1, 1) := by decide +kernel
theorem dL_previousPrint_4 : decode cL_previousPrint 4 = .ok (.invokevirtual 74, 3) := by decide +kernel
theorem dL_previousPrint_7 : decode cL_previousPrint 7 = .ok (.i2l, 1) := by decide +kernel
theorem dL_previousPrint_8 : decode cL_previousPrint 8 = .ok (.lastore, 1) := by decide +kernel
theorem dL_previousPrint_9 : decode cL_previousPrint 9 = .ok (.goto 9, 3) := by decide +kernel
theorem dL_previousPrint_12 : decode cL_previousPrint 12 = .ok (.astore_n 3, 1) := by decide +kernel
theorem dL_previousPrint_13 : decode cL_previousPrint 13 = .ok (.iconst 1, 1) := by decide +kernel
theorem dL_previousPrint_14 : decode cL_previousPrint 14 = .ok (.ireturn, 1) := by decide +kernel
theorem dL_previousPrint_15 : decode cL_previousPrint 15 = .ok (.astore_n 3, 1) := by decide +kernel
theorem dL_previousPrint_16 : decode cL_previousPrint 16 = .ok (.iconst 2, 1) := by decide +kernel
theorem dL_previousPrint_17 : decode cL_previousPrint 17 = .ok (.ireturn, 1) := by decide +kernel
theorem dL_previousPrint_18 : decode cL_previousPrint 18 = .ok (.iconst 0, 1) := by decide +kernel
theorem dL_previousPrint_19 : decode cL_previousPrint 19 = .ok (.ireturn, 1) := by decide +kernel
set_option maxRecDepth 20000 in
theorem ggL_nextPrint_X9_nextPrint : GoodIn wsL_nextPrint wsX9_nextPrint := goodIn_ca (goodIn_ca (goodIn_r _ [7, 8, 9, 10, 11, 12, 6, 13, 14, 15, 16, 17, 18, 19, 20, 21, 22, 23, 24, 25, 26, 27, 28, 29, 30, 31, 32, 33, 34, 35, 36, 37, 38, 39, 40, 41, 42, 43, 44, 45, 46, 47, 48, 49, 50, 51, 52, 53, 54, 55, 56, 57, 58, 59, 60, 61, 62, 63, 64, 65, 66, 67, 68] (by decide +kernel) (by decide +kernel)) (goodIn_sub (fun _ h => List.mem_cons_of_mem _ (List.mem_append_left _ (List.mem_append_right _ h))) (by decide +kernel))) (goodIn_sub (fun _ h => List.mem_cons_of_mem _ (List.mem_append_right _ h)) (by decide +kernel))
set_option maxRecDepth 20000 in
theorem gL_nextPrint_X9_nextPrint : GoodIn wsL_nextPrint (wsV RL 79 RX9 yX9_nextPrint wsX9_nextPrint) := goodIn_app (goodIn_of _ (by decide +kernel)) ggL_nextPrint_X9_nextPrint
theorem dL_nextPrint_0 : decode cL_nextPrint 0 = .ok (.aload_n 2, 1) := by decide +kernel
theorem dL_nextPrint_1 : decode cL_nextPrint 1 = .ok (.iconst 0, 1) := by decide +kernel
theorem dL_nextPrint_2 : decode cL_nextPrint 2 = .ok (.aload_n 0, 1) := by decide +kernel
theorem dL_nextPrint_3 : decode cL_nextPrint 3 = .ok (.iload_n 1, 1) := by decide +kernel
theorem dL_nextPrint_4 : decode cL_nextPrint 4 = .ok (.invokevirtual 79, 3) := by decide +kernel
theorem dL_nextPrint_7 : decode cL_nextPrint 7 = .ok (.i2l, 1) := by decide +kernel
theorem dL_nextPrint_8 : decode cL_nextPrint 8 = .ok (.lastore, 1) := by decide +kernel
theorem dL_nextPrint_9 : decode cL_nextPrint 9 = .ok (.goto 9, 3) := by decide +kernel
theorem dL_nextPrint_12 : decode cL_nextPrint 12 = .ok (.astore_n 3, 1) := by decide +kernel
theorem dL_nextPrint_13 : decode cL_nextPrint 13 = .ok (.iconst 1, 1) := by decide +kernel
theorem dL_nextPrint_14 : decode cL_nextPrint 14 = .ok (.ireturn, 1) := by decide +kernel
theorem dL_nextPrint_15 : decode cL_nextPrint 15 = .ok (.astore_n 3, 1) := by decide +kernel
theorem dL_nextPrint_16 : decode cL_nextPrint 16 = .ok (.iconst 2, 1) := by decide +kernel
theorem dL_nextPrint_17 : decode cL_nextPrint 17 = .ok (.ireturn, 1) := by decide +kernel
theorem dL_nextPrint_18 : decode cL_nextPrint 18 = .ok (.iconst 0, 1) := by decide +kernel
theorem dL_nextPrint_19 : decode cL_nextPrint 19 = .ok (.ireturn, 1) := by decide +kernel
set_option maxRecDepth 20000 in
theorem ggL_strideOf_X9_strideOf : GoodIn wsL_strideOf wsX9_strideOf := goodIn_ca (goodIn_ca (goodIn_r _ [7, 8, 9, 10, 11, 12, 13, 6, 14, 15, 16, 17, 18, 19, 20, 21, 22, 23, 24, 25, 26, 27, 28, 29, 30, 31, 32, 33, 34, 35, 36, 37, 38, 39, 40, 41, 42, 43, 44, 45, 46, 47, 48, 49, 50, 51, 52, 53, 54, 55, 56, 57, 58, 59, 60, 61, 62, 63, 64, 65, 66, 67, 68, 69, 70, 71, 72, 73, 74, 75, 76, 77, 78, 79] (by decide +kernel) (by decide +kernel)) (goodIn_sub (fun _ h => List.mem_cons_of_mem _ (List.mem_append_left _ (List.mem_append_right _ h))) (by decide +kernel))) (goodIn_sub (fun _ h => List.mem_cons_of_mem _ (List.mem_append_right _ h)) (by decide +kernel))
set_option maxRecDepth 20000 in
theorem gL_strideOf_X9_strideOf : GoodIn wsL_strideOf (wsV RL 82 RX9 yX9_strideOf wsX9_strideOf) := goodIn_app (goodIn_of _ (by decide +kernel)) ggL_strideOf_X9_strideOf
theorem dL_strideOf_0 : decode cL_strideOf 0 = .ok (.aload_n 2, 1) := by decide +kernel
theorem dL_strideOf_1 : decode cL_strideOf 1 = .ok (.iconst 0, 1) := by decide +kernel
theorem dL_strideOf_2 : decode cL_strideOf 2 = .ok (.aload_n 0, 1) := by decide +kernel
theorem dL_strideOf_3 : decode cL_strideOf 3 = .ok (.iload_n 1, 1) := by decide +kernel
theorem dL_strideOf_4 : decode cL_strideOf 4 = .ok (.invokevirtual 82, 3) := by decide +kernel
theorem dL_strideOf_7 : decode cL_strideOf 7 = .ok (.i2l, 1) := by decide +kernel
theorem dL_strideOf_8 : decode cL_strideOf 8 = .ok (.lastore, 1) := by decide +kernel
theorem dL_strideOf_9 : decode cL_strideOf 9 = .ok (.goto 9, 3) := by decide +kernel
theorem dL_strideOf_12 : decode cL_strideOf 12 = .ok (.astore_n 3, 1) := by decide +kernel
theorem dL_strideOf_13 : decode cL_strideOf 13 = .ok (.iconst 1, 1) := by decide +kernel
theorem dL_strideOf_14 : decode cL_strideOf 14 = .ok (.ireturn, 1) := by decide +kernel
theorem dL_strideOf_15 : decode cL_strideOf 15 = .ok (.astore_n 3, 1) := by decide +kernel
theorem dL_strideOf_16 : decode cL_strideOf 16 = .ok (.iconst 2, 1) := by decide +kernel
theorem dL_strideOf_17 : decode cL_strideOf 17 = .ok (.ireturn, 1) := by decide +kernel
theorem dL_strideOf_18 : decode cL_strideOf 18 = .ok (.iconst 0, 1) := by decide +kernel
theorem dL_strideOf_19 : decode cL_strideOf 19 = .ok (.ireturn, 1) := by decide +kernel
set_option maxRecDepth 20000 in
theorem ggL_hasStrideError_X9_hasStrideError : GoodIn wsL_hasStrideError wsX9_hasStrideError := goodIn_ca (goodIn_r _ [6, 7, 8, 9, 10, 5, 11, 12, 13, 14, 15, 16, 17, 18, 19, 20, 21, 22, 23, 24, 25, 26, 27, 28, 29, 30, 31, 32, 33, 34, 35, 36, 37, 38, 39, 40, 41, 42, 43, 44, 45, 46, 47, 48, 49, 50, 51, 52, 53, 54, 55, 56, 57, 58, 59, 60, 61, 62, 63, 64, 65, 66, 67, 68, 69, 70, 71, 72, 73, 74, 75, 76, 77, 78, 79, 80, 81, 82, 83, 84, 85, 86, 87, 88, 89, 90, 91, 92, 93, 94, 95, 96, 97] (by decide +kernel) (by decide +kernel)) (goodIn_sub (fun _ h => List.mem_cons_of_mem _ (List.mem_append_right _ h)) (by decide +kernel))
set_option maxRecDepth 20000 in
theorem gL_hasStrideError_X9_hasStrideError : GoodIn wsL_hasStrideError (wsV RL 85 RX9 yX9_hasStrideError wsX9_hasStrideError) := goodIn_app (goodIn_of _ (by decide +kernel)) ggL_hasStrideError_X9_hasStrideError
theorem dL_hasStrideError_0 : decode cL_hasStrideError 0 = .ok (.aload_n 2, 1) := by decide +kernel
theorem dL_hasStrideError_1 : decode cL_hasStrideError 1 = .ok (.iconst 0, 1) := by decide +kernel
theorem dL_hasStrideError_2 : decode cL_hasStrideError 2 = .ok (.aload_n 0, 1) := by decide +kernel
theorem dL_hasStrideError_3 : decode cL_hasStrideError 3 = .ok (.iload_n 1, 1) := by decide +kernel
theorem dL_hasStrideError_4 : decode cL_hasStrideError 4 = .ok (.invokevirtual 85, 3) := by decide +kernel
theorem dL_hasStrideError_7 : decode cL_hasStrideError 7 = .ok (.ifCond .eq 7, 3) := by decide +kernel
theorem dL_hasStrideError_10 : decode cL_hasStrideError 10 = .ok (.lconst 1, 1) := by decide +kernel
theorem dL_hasStrideError_11 : decode cL_hasStrideError 11 = .ok (.goto 4, 3) := by decide +kernel
theorem dL_hasStrideError_14 : decode cL_hasStrideError 14 = .ok (.lconst 0, 1) := by decide +kernel
theorem dL_hasStrideError_15 : decode cL_hasStrideError 15 = .ok (.lastore, 1) := by decide +kernel
theorem dL_hasStrideError_16 : decode cL_hasStrideError 16 = .ok (.goto 6, 3) := by decide +kernel
theorem dL_hasStrideError_19 : decode cL_hasStrideError 19 = .ok (.astore_n 3, 1) := by decide +kernel
theorem dL_hasStrideError_20 : decode cL_hasStrideError 20 = .ok (.iconst 1, 1) := by decide +kernel
theorem dL_hasStrideError_21 : decode cL_hasStrideError 21 = .ok (.ireturn, 1) := by decide +kernel
theorem dL_hasStrideError_22 : decode cL_hasStrideError 22 = .ok (.iconst 0, 1) := by decide +kernel
theorem dL_hasStrideError_23 : decode cL_hasStrideError 23 = .ok (.ireturn, 1) := by decide +kernel
set_option maxRecDepth 20000 in
theorem ggL_hasFootError_X9_hasFootError : GoodIn wsL_hasFootError wsX9_hasFootError := goodIn_ca (goodIn_r _ [6, 7, 8, 9, 10, 5, 11, 12, 13, 14, 15, 16, 17, 18, 19, 20, 21, 22, 23, 24, 25, 26, 27, 28, 29, 30, 31, 32, 33, 34, 35, 36, 37, 38, 39, 40, 41, 42, 43, 44, 45, 46, 47, 48, 49, 50, 51, 52, 53, 54, 55, 56, 57, 58, 59, 60, 61, 62, 63, 64, 65, 66, 67, 68, 69, 70, 71, 72, 73, 74] (by decide +kernel) (by decide +kernel)) (goodIn_sub (fun _ h => List.mem_cons_of_mem _ (List.mem_append_right _ h)) (by decide +kernel))
set_option maxRecDepth 20000 in
theorem gL_hasFootError_X9_hasFootError : GoodIn wsL_hasFootError (wsV RL 88 RX9 yX9_hasFootError wsX9_hasFootError) := goodIn_app (goodIn_of _ (by decide +kernel)) ggL_hasFootError_X9_hasFootError
theorem dL_hasFootError_0 : decode cL_hasFootError 0 = .ok (.aload_n 2, 1) := by decide +kernel
theorem dL_hasFootError_1 : decode cL_hasFootError 1 = .ok (.iconst 0, 1) := by decide +kernel
theorem dL_hasFootError_2 : decode cL_hasFootError 2 = .ok (.aload_n 0, 1) := by decide +kernel
theorem dL_hasFootError_3 : decode cL_hasFootError 3 = .ok (.iload_n 1, 1) := by decide +kernel
theorem dL_hasFootError_4 : decode cL_hasFootError 4 = .ok (.invokevirtual 88, 3) := by decide +kernel
theorem dL_hasFootError_7 : decode cL_hasFootError 7 = .ok (.ifCond .eq 7, 3) := by decide +kernel
theorem dL_hasFootError_10 : decode cL_hasFootError 10 = .ok (.lconst 1, 1) := by decide +kernel
theorem dL_hasFootError_11 : decode cL_hasFootError 11 = .ok (.goto 4, 3) := by decide +kernel
theorem dL_hasFootError_14 : decode cL_hasFootError 14 = .ok (.lconst 0, 1) := by decide +kernel
theorem dL_hasFootError_15 : decode cL_hasFootError 15 = .ok (.lastore, 1) := by decide +kernel
theorem dL_hasFootError_16 : decode cL_hasFootError 16 = .ok (.goto 6, 3) := by decide +kernel
theorem dL_hasFootError_19 : decode cL_hasFootError 19 = .ok (.astore_n 3, 1) := by decide +kernel
theorem dL_hasFootError_20 : decode cL_hasFootError 20 = .ok (.iconst 1, 1) := by decide +kernel
theorem dL_hasFootError_21 : decode cL_hasFootError 21 = .ok (.ireturn, 1) := by decide +kernel
theorem dL_hasFootError_22 : decode cL_hasFootError 22 = .ok (.iconst 0, 1) := by decide +kernel
theorem dL_hasFootError_23 : decode cL_hasFootError 23 = .ok (.ireturn, 1) := by decide +kernel
set_option maxRecDepth 20000 in
theorem ggL_hasDepthError_X9_hasDepthError : GoodIn wsL_hasDepthError wsX9_hasDepthError := goodIn_ca (goodIn_r _ [6, 7, 8, 9, 10, 5, 11, 12, 13, 14, 15, 16, 17, 18, 19, 20, 21, 22, 23, 24, 25, 26, 27, 28, 29, 30, 31, 32, 33, 34, 35, 36, 37, 38, 39, 40, 41, 42, 43, 44, 45, 46, 47, 48, 49, 50, 51, 52, 53, 54, 55, 56, 57, 58, 59, 60, 61, 62, 63, 64, 65, 66, 67, 68, 69, 70, 71, 72, 73, 74, 75, 76, 77, 78] (by decide +kernel) (by decide +kernel)) (goodIn_sub (fun _ h => List.mem_cons_of_mem _ (List.mem_append_right _ h)) (by decide +kernel))
set_option maxRecDepth 20000 in
theorem gL_hasDepthError_X9_hasDepthError : GoodIn wsL_hasDepthError (wsV RL 91 RX9 yX9_hasDepthError wsX9_hasDepthError) := goodIn_app (goodIn_of _ (by decide +kernel)) ggL_hasDepthError_X9_hasDepthError
theorem dL_hasDepthError_0 : decode cL_hasDepthError 0 = .ok (.aload_n 2, 1) := by decide +kernel
theorem dL_hasDepthError_1 : decode cL_hasDepthError 1 = .ok (.iconst 0, 1) := by decide +kernel
theorem dL_hasDepthError_2 : decode cL_hasDepthError 2 = .ok (.aload_n 0, 1) := by decide +kernel
theorem dL_hasDepthError_3 : decode cL_hasDepthError 3 = .ok (.iload_n 1, 1) := by decide +kernel
theorem dL_hasDepthError_4 : decode cL_hasDepthError 4 = .ok (.invokevirtual 91, 3) := by decide +kernel
theorem dL_hasDepthError_7 : decode cL_hasDepthError 7 = .ok (.ifCond .eq 7, 3) := by decide +kernel
theorem dL_hasDepthError_10 : decode cL_hasDepthError 10 = .ok (.lconst 1, 1) := by decide +kernel
theorem dL_hasDepthError_11 : decode cL_hasDepthError 11 = .ok (.goto 4, 3) := by decide +kernel
theorem dL_hasDepthError_14 : decode cL_hasDepthError 14 = .ok (.lconst 0, 1) := by decide +kernel
theorem dL_hasDepthError_15 : decode cL_hasDepthError 15 = .ok (.lastore, 1) := by decide +kernel
theorem dL_hasDepthError_16 : decode cL_hasDepthError 16 = .ok (.goto 6, 3) := by decide +kernel
theorem dL_hasDepthError_19 : decode cL_hasDepthError 19 = .ok (.astore_n 3, 1) := by decide +kernel
theorem dL_hasDepthError_20 : decode cL_hasDepthError 20 = .ok (.iconst 1, 1) := by decide +kernel
theorem dL_hasDepthError_21 : decode cL_hasDepthError 21 = .ok (.ireturn, 1) := by decide +kernel
theorem dL_hasDepthError_22 : decode cL_hasDepthError 22 = .ok (.iconst 0, 1) := by decide +kernel
theorem dL_hasDepthError_23 : decode cL_hasDepthError 23 = .ok (.ireturn, 1) := by decide +kernel
