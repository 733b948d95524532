set_option maxRecDepth 20000 in
theorem ggL_syntaxErrorOffset_X9_syntaxErrorOffset : GoodIn wsL_syntaxErrorOffset wsX9_syntaxErrorOffset := goodIn_ca (goodIn_r _ [6, 7, 8, 9, 10, 11, 12, 13, 14, 15, 16, 17, 18, 19] (by decide +kernel) (by decide +kernel)) (goodIn_sub (fun _ h => List.mem_cons_of_mem _ (List.mem_append_right _ h)) (by decide +kernel))
set_option maxRecDepth 20000 in
theorem gL_syntaxErrorOffset_X9_syntaxErrorOffset : GoodIn wsL_syntaxErrorOffset (wsV RL 173 RX9 yX9_syntaxErrorOffset wsX9_syntaxErrorOffset) := goodIn_app (goodIn_of _ (by decide +kernel)) ggL_syntaxErrorOffset_X9_syntaxErrorOffset
theorem dL_syntaxErrorOffset_0 : decode cL_syntaxErrorOffset 0 = .ok (.aload_n 1, 1) := by decide +kernel
theorem dL_syntaxErrorOffset_1 : decode cL_syntaxErrorOffset 1 = .ok (.iconst 0, 1) := by decide +kernel
theorem dL_syntaxErrorOffset_2 : decode cL_syntaxErrorOffset 2 = .ok (.aload_n 0, 1) := by decide +kernel
theorem dL_syntaxErrorOffset_3 : decode cL_syntaxErrorOffset 3 = .ok (.invokevirtual 173, 3) := by decide +kernel
theorem dL_syntaxErrorOffset_6 : decode cL_syntaxErrorOffset 6 = .ok (.i2l, 1) := by decide +kernel
theorem dL_syntaxErrorOffset_7 : decode cL_syntaxErrorOffset 7 = .ok (.lastore, 1) := by decide +kernel
theorem dL_syntaxErrorOffset_8 : decode cL_syntaxErrorOffset 8 = .ok (.goto 6, 3) := by decide +kernel
theorem dL_syntaxErrorOffset_11 : decode cL_syntaxErrorOffset 11 = .ok (.astore_n 2, 1) := by decide +kernel
theorem dL_syntaxErrorOffset_12 : decode cL_syntaxErrorOffset 12 = .ok (.iconst 1, 1) := by decide +kernel
theorem dL_syntaxErrorOffset_13 : decode cL_syntaxErrorOffset 13 = .ok (.ireturn, 1) := by decide +kernel
theorem dL_syntaxErrorOffset_14 : decode cL_syntaxErrorOffset 14 = .ok (.iconst 0, 1) := by decide +kernel
theorem dL_syntaxErrorOffset_15 : decode cL_syntaxErrorOffset 15 = .ok (.ireturn, 1) := by decide +kernel
set_option maxRecDepth 20000 in
theorem ggL_rejectionReason_X9_rejectionReason : GoodIn wsL_rejectionReason wsX9_rejectionReason := goodIn_ca (goodIn_r _ [6, 7, 8, 9, 10, 5, 11, 12, 13, 14, 15, 16, 17, 18, 19, 20, 21, 22, 23, 24, 25, 26] (by decide +kernel) (by decide +kernel)) (goodIn_sub (fun _ h => List.mem_cons_of_mem _ (List.mem_append_right _ h)) (by decide +kernel))
set_option maxRecDepth 20000 in
theorem gL_rejectionReason_X9_rejectionReason : GoodIn wsL_rejectionReason (wsV RL 176 RX9 yX9_rejectionReason wsX9_rejectionReason) := goodIn_app (goodIn_of _ (by decide +kernel)) ggL_rejectionReason_X9_rejectionReason
theorem dL_rejectionReason_0 : decode cL_rejectionReason 0 = .ok (.aload_n 1, 1) := by decide +kernel
theorem dL_rejectionReason_1 : decode cL_rejectionReason 1 = .ok (.iconst 0, 1) := by decide +kernel
theorem dL_rejectionReason_2 : decode cL_rejectionReason 2 = .ok (.aload_n 0, 1) := by decide +kernel
theorem dL_rejectionReason_3 : decode cL_rejectionReason 3 = .ok (.invokevirtual 176, 3) := by decide +kernel
theorem dL_rejectionReason_6 : decode cL_rejectionReason 6 = .ok (.i2l, 1) := by decide +kernel
theorem dL_rejectionReason_7 : decode cL_rejectionReason 7 = .ok (.lastore, 1) := by decide +kernel
theorem dL_rejectionReason_8 : decode cL_rejectionReason 8 = .ok (.goto 6, 3) := by decide +kernel
theorem dL_rejectionReason_11 : decode cL_rejectionReason 11 = .ok (.astore_n 2, 1) := by decide +kernel
theorem dL_rejectionReason_12 : decode cL_rejectionReason 12 = .ok (.iconst 1, 1) := by decide +kernel
theorem dL_rejectionReason_13 : decode cL_rejectionReason 13 = .ok (.ireturn, 1) := by decide +kernel
theorem dL_rejectionReason_14 : decode cL_rejectionReason 14 = .ok (.iconst 0, 1) := by decide +kernel
theorem dL_rejectionReason_15 : decode cL_rejectionReason 15 = .ok (.ireturn, 1) := by decide +kernel
set_option maxRecDepth 20000 in
theorem ggL_rejectionDetail_X9_rejectionDetail : GoodIn wsL_rejectionDetail wsX9_rejectionDetail := goodIn_ca (goodIn_r _ [6, 7, 8, 9, 10, 5, 11, 12, 13, 14, 15, 16, 17, 18, 19, 20, 21, 22, 23, 24, 25, 26] (by decide +kernel) (by decide +kernel)) (goodIn_sub (fun _ h => List.mem_cons_of_mem _ (List.mem_append_right _ h)) (by decide +kernel))
set_option maxRecDepth 20000 in
theorem gL_rejectionDetail_X9_rejectionDetail : GoodIn wsL_rejectionDetail (wsV RL 179 RX9 yX9_rejectionDetail wsX9_rejectionDetail) := goodIn_app (goodIn_of _ (by decide +kernel)) ggL_rejectionDetail_X9_rejectionDetail
theorem dL_rejectionDetail_0 : decode cL_rejectionDetail 0 = .ok (.aload_n 1, 1) := by decide +kernel
theorem dL_rejectionDetail_1 : decode cL_rejectionDetail 1 = .ok (.iconst 0, 1) := by decide +kernel
theorem dL_rejectionDetail_2 : decode cL_rejectionDetail 2 = .ok (.aload_n 0, 1) := by decide +kernel
theorem dL_rejectionDetail_3 : decode cL_rejectionDetail 3 = .ok (.invokevirtual 179, 3) := by decide +kernel
theorem dL_rejectionDetail_6 : decode cL_rejectionDetail 6 = .ok (.i2l, 1) := by decide +kernel
theorem dL_rejectionDetail_7 : decode cL_rejectionDetail 7 = .ok (.lastore, 1) := by decide +kernel
theorem dL_rejectionDetail_8 : decode cL_rejectionDetail 8 = .ok (.goto 6, 3) := by decide +kernel
theorem dL_rejectionDetail_11 : decode cL_rejectionDetail 11 = .ok (.astore_n 2, 1) := by decide +kernel
theorem dL_rejectionDetail_12 : decode cL_rejectionDetail 12 = .ok (.iconst 1, 1) := by decide +kernel
theorem dL_rejectionDetail_13 : decode cL_rejectionDetail 13 = .ok (.ireturn, 1) := by decide +kernel
theorem dL_rejectionDetail_14 : decode cL_rejectionDetail 14 = .ok (.iconst 0, 1) := by decide +kernel
theorem dL_rejectionDetail_15 : decode cL_rejectionDetail 15 = .ok (.ireturn, 1) := by decide +kernel
set_option maxRecDepth 20000 in
theorem ggL_causeReason_X9_causeReason : GoodIn wsL_causeReason wsX9_causeReason := goodIn_ca (goodIn_r _ [6, 7, 8, 9, 10, 11, 5, 12, 13, 14, 15, 16, 17, 18, 19, 20, 21, 22, 23, 24, 25, 26, 27] (by decide +kernel) (by decide +kernel)) (goodIn_sub (fun _ h => List.mem_cons_of_mem _ (List.mem_append_right _ h)) (by decide +kernel))
set_option maxRecDepth 20000 in
theorem gL_causeReason_X9_causeReason : GoodIn wsL_causeReason (wsV RL 182 RX9 yX9_causeReason wsX9_causeReason) := goodIn_app (goodIn_of _ (by decide +kernel)) ggL_causeReason_X9_causeReason
theorem dL_causeReason_0 : decode cL_causeReason 0 = .ok (.aload_n 1, 1) := by decide +kernel
theorem dL_causeReason_1 : decode cL_causeReason 1 = .ok (.iconst 0, 1) := by decide +kernel
theorem dL_causeReason_2 : decode cL_causeReason 2 = .ok (.aload_n 0, 1) := by decide +kernel
theorem dL_causeReason_3 : decode cL_causeReason 3 = .ok (.invokevirtual 182, 3) := by decide +kernel
theorem dL_causeReason_6 : decode cL_causeReason 6 = .ok (.i2l, 1) := by decide +kernel
theorem dL_causeReason_7 : decode cL_causeReason 7 = .ok (.lastore, 1) := by decide +kernel
theorem dL_causeReason_8 : decode cL_causeReason 8 = .ok (.goto 6, 3) := by decide +kernel
theorem dL_causeReason_11 : decode cL_causeReason 11 = .ok (.astore_n 2, 1) := by decide +kernel
theorem dL_causeReason_12 : decode cL_causeReason 12 = .ok (.iconst 1, 1) := by decide +kernel
theorem dL_causeReason_13 : decode cL_causeReason 13 = .ok (.ireturn, 1) := by decide +kernel
theorem dL_causeReason_14 : decode cL_causeReason 14 = .ok (.iconst 0, 1) := by decide +kernel
theorem dL_causeReason_15 : decode cL_causeReason 15 = .ok (.ireturn, 1) := by decide +kernel
set_option maxRecDepth 20000 in
theorem ggL_causeDetail_X9_causeDetail : GoodIn wsL_causeDetail wsX9_causeDetail := goodIn_ca (goodIn_r _ [6, 7, 8, 9, 10, 11, 5, 12, 13, 14, 15, 16, 17, 18, 19, 20, 21, 22, 23, 24, 25, 26, 27] (by decide +kernel) (by decide +kernel)) (goodIn_sub (fun _ h => List.mem_cons_of_mem _ (List.mem_append_right _ h)) (by decide +kernel))
set_option maxRecDepth 20000 in
theorem gL_causeDetail_X9_causeDetail : GoodIn wsL_causeDetail (wsV RL 185 RX9 yX9_causeDetail wsX9_causeDetail) := goodIn_app (goodIn_of _ (by decide +kernel)) ggL_causeDetail_X9_causeDetail
theorem dL_causeDetail_0 : decode cL_causeDetail 0 = .ok (.aload_n 1, 1) := by decide +kernel
theorem dL_causeDetail_1 : decode cL_causeDetail 1 = .ok (.iconst 0, 1) := by decide +kernel
theorem dL_causeDetail_2 : decode cL_causeDetail 2 = .ok (.aload_n 0, 1) := by decide +kernel
theorem dL_causeDetail_3 : decode cL_causeDetail 3 = .ok (.invokevirtual 185, 3) := by decide +kernel
theorem dL_causeDetail_6 : decode cL_causeDetail 6 = .ok (.i2l, 1) := by decide +kernel
theorem dL_causeDetail_7 : decode cL_causeDetail 7 = .ok (.lastore, 1) := by decide +kernel
theorem dL_causeDetail_8 : decode cL_causeDetail 8 = .ok (.goto 6, 3) := by decide +kernel
theorem dL_causeDetail_11 : decode cL_causeDetail 11 = .ok (.astore_n 2, 1) := by decide +kernel
theorem dL_causeDetail_12 : decode cL_causeDetail 12 = .ok (.iconst 1, 1) := by decide +kernel
theorem dL_causeDetail_13 : decode cL_causeDetail 13 = .ok (.ireturn, 1) := by decide +kernel
theorem dL_causeDetail_14 : decode cL_causeDetail 14 = .ok (.iconst 0, 1) := by decide +kernel
theorem dL_causeDetail_15 : decode cL_causeDetail 15 = .ok (.ireturn, 1) := by decide +kernel
set_option maxRecDepth 20000 in
theorem ggL_undo_X9_undo : GoodIn wsL_undo wsX9_undo := goodIn_ca (goodIn_r _ [6, 7, 8, 9, 10, 11, 12, 13, 14, 15, 16, 17, 18, 19, 20, 21, 22, 23, 24, 25, 26, 27, 28, 29, 30, 31, 32, 33, 34, 35, 36, 37, 38, 39, 40, 41, 42, 43, 44, 45, 46, 47, 48, 49, 50, 51, 52, 53, 54, 55, 56, 57, 58, 59, 60, 61, 62, 63, 64, 65, 66, 67, 68, 69, 70, 71, 72, 73, 74, 75, 76, 77, 78, 79, 80, 81, 82, 83, 84, 85, 86, 87, 88, 89] (by decide +kernel) (by decide +kernel)) (goodIn_sub (fun _ h => List.mem_cons_of_mem _ (List.mem_append_right _ h)) (by decide +kernel))
set_option maxRecDepth 20000 in
theorem gL_undo_X9_undo : GoodIn wsL_undo (wsV RL 188 RX9 yX9_undo wsX9_undo) := goodIn_app (goodIn_of _ (by decide +kernel)) ggL_undo_X9_undo
theorem dL_undo_0 : decode cL_undo 0 = .ok (.aload_n 1, 1) := by decide +kernel
theorem dL_undo_1 : decode cL_undo 1 = .ok (.iconst 0, 1) := by decide +kernel
theorem dL_undo_2 : decode cL_undo 2 = .ok (.aload_n 0, 1) := by decide +kernel
theorem dL_undo_3 : decode cL_undo 3 = .ok (.invokevirtual 188, 3) := by decide +kernel
theorem dL_undo_6 : decode cL_undo 6 = .ok (.i2l, 1) := by decide +kernel
theorem dL_undo_7 : decode cL_undo 7 = .ok (.lastore, 1) := by decide +kernel
theorem dL_undo_8 : decode cL_undo 8 = .ok (.goto 6, 3) := by decide +kernel
theorem dL_undo_11 : decode cL_undo 11 = .ok (.astore_n 2, 1) := by decide +kernel
theorem dL_undo_12 : decode cL_undo 12 = .ok (.iconst 1, 1) := by decide +kernel
theorem dL_undo_13 : decode cL_undo 13 = .ok (.ireturn, 1) := by decide +kernel
theorem dL_undo_14 : decode cL_undo 14 = .ok (.iconst 0, 1) := by decide +kernel
theorem dL_undo_15 : decode cL_undo 15 = .ok (.ireturn, 1) := by decide +kernel
set_option maxRecDepth 20000 in
theorem ggL_restoreSnapshot_X9_restoreSnapshot : GoodIn wsL_restoreSnapshot wsX9_restoreSnapshot := goodIn_ca (goodIn_r _ [6, 7, 8, 9, 10, 11, 12, 13, 14, 15, 16, 17, 18, 19, 20, 21, 22, 23, 24, 25, 26, 27, 28, 29, 30, 31, 32, 33, 34, 35, 36, 37, 38, 39, 40, 41, 42, 43, 44, 45, 46, 47, 48, 49, 50, 51, 52, 53, 54, 55, 56, 57, 58, 59, 60, 61, 62, 63, 64, 65, 66, 67, 68, 69, 70, 71, 72, 73, 74, 75, 76, 77, 78, 79, 80, 81, 82, 83, 84, 85, 86, 87, 88, 89, 90, 91, 92, 93, 94, 95] (by decide +kernel) (by decide +kernel)) (goodIn_sub (fun _ h => List.mem_cons_of_mem _ (List.mem_append_right _ h)) (by decide +kernel))
set_option maxRecDepth 20000 in
theorem gL_restoreSnapshot_X9_restoreSnapshot : GoodIn wsL_restoreSnapshot (wsV RL 191 RX9 yX9_restoreSnapshot wsX9_restoreSnapshot) := goodIn_app (goodIn_of _ (by decide +kernel)) ggL_restoreSnapshot_X9_restoreSnapshot
theorem dL_restoreSnapshot_0 : decode cL_restoreSnapshot 0 = .ok (.aload_n 1, 1) := by decide +kernel
theorem dL_restoreSnapshot_1 : decode cL_restoreSnapshot 1 = .ok (.iconst 0, 1) := by decide +kernel
theorem dL_restoreSnapshot_2 : decode cL_restoreSnapshot 2 = .ok (.aload_n 0, 1) := by decide +kernel
theorem dL_restoreSnapshot_3 : decode cL_restoreSnapshot 3 = .ok (.invokevirtual 191, 3) := by decide +kernel
theorem dL_restoreSnapshot_6 : decode cL_restoreSnapshot 6 = .ok (.i2l, 1) := by decide +kernel
theorem dL_restoreSnapshot_7 : decode cL_restoreSnapshot 7 = .ok (.lastore, 1) := by decide +kernel
theorem dL_restoreSnapshot_8 : decode cL_restoreSnapshot 8 = .ok (.goto 6, 3) := by decide +kernel
theorem dL_restoreSnapshot_11 : decode cL_restoreSnapshot 11 = .ok (.astore_n 2, 1) := by decide +kernel
theorem dL_restoreSnapshot_12 : decode cL_restoreSnapshot 12 = .ok (.iconst 1, 1) := by decide +kernel
theorem dL_restoreSnapshot_13 : decode cL_restoreSnapshot 13 = .ok (.ireturn, 1) := by decide +kernel
theorem dL_restoreSnapshot_14 : decode cL_restoreSnapshot 14 = .ok (.iconst 0, 1) := by decide +kernel
theorem dL_restoreSnapshot_15 : decode cL_restoreSnapshot 15 = .ok (.ireturn, 1) := by decide +kernel
